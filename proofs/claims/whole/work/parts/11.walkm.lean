-- X6.within
theorem d6_within_0 : decode cX6_within 0 = .ok (.lload_n 0, 1) := by decide +kernel
theorem d6_within_1 : decode cX6_within 1 = .ok (.lload_n 2, 1) := by decide +kernel
theorem d6_within_2 : decode cX6_within 2 = .ok (.lcmp, 1) := by decide +kernel
theorem d6_within_3 : decode cX6_within 3 = .ok (.ifCond .lt 14, 3) := by decide +kernel
theorem d6_within_6 : decode cX6_within 6 = .ok (.lload_n 0, 1) := by decide +kernel
theorem d6_within_7 : decode cX6_within 7 = .ok (.lload 4, 2) := by decide +kernel
theorem d6_within_9 : decode cX6_within 9 = .ok (.lcmp, 1) := by decide +kernel
theorem d6_within_10 : decode cX6_within 10 = .ok (.ifCond .gt 7, 3) := by decide +kernel
theorem d6_within_13 : decode cX6_within 13 = .ok (.iconst 1, 1) := by decide +kernel
theorem d6_within_14 : decode cX6_within 14 = .ok (.goto 4, 3) := by decide +kernel
theorem d6_within_17 : decode cX6_within 17 = .ok (.iconst 0, 1) := by decide +kernel
theorem d6_within_18 : decode cX6_within 18 = .ok (.ireturn, 1) := by decide +kernel
noncomputable def f6_within {α : Type} (p0 : Int64) (p2 : Int64) (p4 : Int64) (S : MS) (K : Int32 → MS → Option α) : Option α := if (lg_cmp p0 p2) < 0 then (K 0 S) else (if 0 < (lg_cmp p0 p4) then (K 0 S) else (K 1 S))
set_option maxHeartbeats 4000000 in
set_option maxRecDepth 100000 in
theorem c6_within (l : Launch) (p0 : Int64) (p2 : Int64) (p4 : Int64) (S : MS) {α : Type} : CtI 22 eM l yX6_within cX6_within 6 (some .boolean) (rmG 0 0) S (fun ad => [.long p0, .long p2, .long p4]) (α := α) (f6_within p0 p2 p4 S) := by
  refine CtI.of (by decide) (fun _ => Nat.le_of_ble_eq_true rfl) (fun X K _ O hQ => ?_)
  have O : OK 22 X RX6 cX6_within 6 (some .boolean) (rmG 0 0) := O
  show GM 22 eM X (f6_within p0 p2 p4 S K) S 0 [(0, .long p0), (2, .long p2), (4, .long p4)] []
  unfold f6_within
  refine r_lload_n O d6_within_0 0 rfl ?_
  refine r_lload_n O d6_within_1 1 rfl ?_
  refine r_lcmp O d6_within_2 ?_
  refine r_if_lt O 17 d6_within_3 (by decide) ?_ ?_
  · refine r_iconst O d6_within_17 (v := 0) (by decide) ?_
    exact r_zret O hQ (by decide) d6_within_18
  · refine r_lload_n O d6_within_6 0 rfl ?_
    refine r_lload O d6_within_7 2 rfl ?_
    refine r_lcmp O d6_within_9 ?_
    refine r_if_gt O 17 d6_within_10 (by decide) ?_ ?_
    · refine r_iconst O d6_within_17 (v := 0) (by decide) ?_
      exact r_zret O hQ (by decide) d6_within_18
    · refine r_iconst O d6_within_13 (v := 1) (by decide) ?_
      refine r_goto O 18 d6_within_14 (by decide) ?_
      exact r_zret O hQ (by decide) d6_within_18
-- X6.isSheet
theorem d6_isSheet_0 : decode cX6_isSheet 0 = .ok (.iload_n 0, 1) := by decide +kernel
theorem d6_isSheet_1 : decode cX6_isSheet 1 = .ok (.i2l, 1) := by decide +kernel
theorem d6_isSheet_2 : decode cX6_isSheet 2 = .ok (.lconst 0, 1) := by decide +kernel
theorem d6_isSheet_3 : decode cX6_isSheet 3 = .ok (.ldc2_w 81, 3) := by decide +kernel
theorem d6_isSheet_6 : decode cX6_isSheet 6 = .ok (.invokestatic 83, 3) := by decide +kernel
theorem d6_isSheet_9 : decode cX6_isSheet 9 = .ok (.ireturn, 1) := by decide +kernel
noncomputable def f6_isSheet {α : Type} (p0 : Int32) (S : MS) (K : Int32 → MS → Option α) : Option α := f6_within (Int32.toInt64 p0) 0 3 S fun r2 S1 => zb r2 (K r2 S1)
set_option maxHeartbeats 4000000 in
set_option maxRecDepth 100000 in
theorem c6_isSheet (l : Launch) (p0 : Int32) (S : MS) {α : Type} : CtI 22 eM l yX6_isSheet cX6_isSheet 1 (some .boolean) (rmG 1 25) S (fun ad => [.int p0]) (α := α) (f6_isSheet p0 S) := by
  refine CtI.of (by decide) (fun _ => Nat.le_of_ble_eq_true rfl) (fun X K _ O hQ => ?_)
  have O : OK 22 X RX6 cX6_isSheet 1 (some .boolean) (rmG 1 25) := O
  show GM 22 eM X (f6_isSheet p0 S K) S 0 [(0, .int p0)] []
  unfold f6_isSheet
  refine r_iload_n O d6_isSheet_0 0 rfl ?_
  refine r_i2l O d6_isSheet_1 ?_
  refine r_lconst O d6_isSheet_2 (v := 0) (by decide) ?_
  refine r_ldc2 O (v := 3) w_752 d6_isSheet_3 ?_
  refine r_callSi O (rest := []) (c6_within (lX X) (Int32.toInt64 p0) 0 3 S) w_753 w_754 w_51 w_755 hy_X6_within ⟨rfl, rfl, Nat.le_of_ble_eq_true rfl, Nat.le_of_ble_eq_true rfl⟩ rfl rfl (Nat.le_of_ble_eq_true rfl) d6_isSheet_6 (fun r2 S1 => ?_)
  refine r_zb (fun hz3 => ?_)
  exact r_zret O hQ hz3 d6_isSheet_9
-- X6.isSort
theorem d6_isSort_0 : decode cX6_isSort 0 = .ok (.iload_n 0, 1) := by decide +kernel
theorem d6_isSort_1 : decode cX6_isSort 1 = .ok (.i2l, 1) := by decide +kernel
theorem d6_isSort_2 : decode cX6_isSort 2 = .ok (.lconst 0, 1) := by decide +kernel
theorem d6_isSort_3 : decode cX6_isSort 3 = .ok (.ldc2_w 87, 3) := by decide +kernel
theorem d6_isSort_6 : decode cX6_isSort 6 = .ok (.invokestatic 83, 3) := by decide +kernel
theorem d6_isSort_9 : decode cX6_isSort 9 = .ok (.ireturn, 1) := by decide +kernel
noncomputable def f6_isSort {α : Type} (p0 : Int32) (S : MS) (K : Int32 → MS → Option α) : Option α := f6_within (Int32.toInt64 p0) 0 2 S fun r2 S1 => zb r2 (K r2 S1)
set_option maxHeartbeats 4000000 in
set_option maxRecDepth 100000 in
theorem c6_isSort (l : Launch) (p0 : Int32) (S : MS) {α : Type} : CtI 22 eM l yX6_isSort cX6_isSort 1 (some .boolean) (rmG 1 25) S (fun ad => [.int p0]) (α := α) (f6_isSort p0 S) := by
  refine CtI.of (by decide) (fun _ => Nat.le_of_ble_eq_true rfl) (fun X K _ O hQ => ?_)
  have O : OK 22 X RX6 cX6_isSort 1 (some .boolean) (rmG 1 25) := O
  show GM 22 eM X (f6_isSort p0 S K) S 0 [(0, .int p0)] []
  unfold f6_isSort
  refine r_iload_n O d6_isSort_0 0 rfl ?_
  refine r_i2l O d6_isSort_1 ?_
  refine r_lconst O d6_isSort_2 (v := 0) (by decide) ?_
  refine r_ldc2 O (v := 2) w_759 d6_isSort_3 ?_
  refine r_callSi O (rest := []) (c6_within (lX X) (Int32.toInt64 p0) 0 2 S) w_753 w_754 w_51 w_755 hy_X6_within ⟨rfl, rfl, Nat.le_of_ble_eq_true rfl, Nat.le_of_ble_eq_true rfl⟩ rfl rfl (Nat.le_of_ble_eq_true rfl) d6_isSort_6 (fun r2 S1 => ?_)
  refine r_zb (fun hz3 => ?_)
  exact r_zret O hQ hz3 d6_isSort_9
-- X6.against
theorem d6_against_0 : decode cX6_against 0 = .ok (.aload_n 0, 1) := by decide +kernel
theorem d6_against_1 : decode cX6_against 1 = .ok (.getfield 9, 3) := by decide +kernel
theorem d6_against_4 : decode cX6_against 4 = .ok (.iload_n 1, 1) := by decide +kernel
theorem d6_against_5 : decode cX6_against 5 = .ok (.iaload, 1) := by decide +kernel
theorem d6_against_6 : decode cX6_against 6 = .ok (.bipush (-9), 2) := by decide +kernel
theorem d6_against_8 : decode cX6_against 8 = .ok (.if_icmp .eq 15, 3) := by decide +kernel
theorem d6_against_11 : decode cX6_against 11 = .ok (.aload_n 0, 1) := by decide +kernel
theorem d6_against_12 : decode cX6_against 12 = .ok (.getfield 9, 3) := by decide +kernel
theorem d6_against_15 : decode cX6_against 15 = .ok (.iload_n 1, 1) := by decide +kernel
theorem d6_against_16 : decode cX6_against 16 = .ok (.iaload, 1) := by decide +kernel
theorem d6_against_17 : decode cX6_against 17 = .ok (.iload_n 2, 1) := by decide +kernel
theorem d6_against_18 : decode cX6_against 18 = .ok (.if_icmp .eq 5, 3) := by decide +kernel
theorem d6_against_21 : decode cX6_against 21 = .ok (.iconst 2, 1) := by decide +kernel
theorem d6_against_22 : decode cX6_against 22 = .ok (.ireturn, 1) := by decide +kernel
theorem d6_against_23 : decode cX6_against 23 = .ok (.aload_n 0, 1) := by decide +kernel
theorem d6_against_24 : decode cX6_against 24 = .ok (.getfield 9, 3) := by decide +kernel
theorem d6_against_27 : decode cX6_against 27 = .ok (.iload_n 1, 1) := by decide +kernel
theorem d6_against_28 : decode cX6_against 28 = .ok (.iaload, 1) := by decide +kernel
theorem d6_against_29 : decode cX6_against 29 = .ok (.bipush (-9), 2) := by decide +kernel
theorem d6_against_31 : decode cX6_against 31 = .ok (.if_icmp .ne 5, 3) := by decide +kernel
theorem d6_against_34 : decode cX6_against 34 = .ok (.iconst 1, 1) := by decide +kernel
theorem d6_against_35 : decode cX6_against 35 = .ok (.ireturn, 1) := by decide +kernel
theorem d6_against_36 : decode cX6_against 36 = .ok (.iload 4, 2) := by decide +kernel
theorem d6_against_38 : decode cX6_against 38 = .ok (.ifCond .ge 5, 3) := by decide +kernel
theorem d6_against_41 : decode cX6_against 41 = .ok (.iconst 4, 1) := by decide +kernel
theorem d6_against_42 : decode cX6_against 42 = .ok (.ireturn, 1) := by decide +kernel
theorem d6_against_43 : decode cX6_against 43 = .ok (.iload_n 3, 1) := by decide +kernel
theorem d6_against_44 : decode cX6_against 44 = .ok (.ifCond .lt 26, 3) := by decide +kernel
theorem d6_against_47 : decode cX6_against 47 = .ok (.iload_n 3, 1) := by decide +kernel
theorem d6_against_48 : decode cX6_against 48 = .ok (.aload_n 0, 1) := by decide +kernel
theorem d6_against_49 : decode cX6_against 49 = .ok (.getfield 13, 3) := by decide +kernel
theorem d6_against_52 : decode cX6_against 52 = .ok (.iload_n 1, 1) := by decide +kernel
theorem d6_against_53 : decode cX6_against 53 = .ok (.iaload, 1) := by decide +kernel
theorem d6_against_54 : decode cX6_against 54 = .ok (.if_icmp .gt 16, 3) := by decide +kernel
theorem d6_against_57 : decode cX6_against 57 = .ok (.iload 4, 2) := by decide +kernel
theorem d6_against_59 : decode cX6_against 59 = .ok (.aload_n 0, 1) := by decide +kernel
theorem d6_against_60 : decode cX6_against 60 = .ok (.getfield 13, 3) := by decide +kernel
theorem d6_against_63 : decode cX6_against 63 = .ok (.iload_n 1, 1) := by decide +kernel
theorem d6_against_64 : decode cX6_against 64 = .ok (.iaload, 1) := by decide +kernel
theorem d6_against_65 : decode cX6_against 65 = .ok (.iload_n 3, 1) := by decide +kernel
theorem d6_against_66 : decode cX6_against 66 = .ok (.isub, 1) := by decide +kernel
theorem d6_against_67 : decode cX6_against 67 = .ok (.if_icmp .le 7, 3) := by decide +kernel
theorem d6_against_70 : decode cX6_against 70 = .ok (.iconst 3, 1) := by decide +kernel
theorem d6_against_71 : decode cX6_against 71 = .ok (.goto 4, 3) := by decide +kernel
theorem d6_against_74 : decode cX6_against 74 = .ok (.iconst 0, 1) := by decide +kernel
theorem d6_against_75 : decode cX6_against 75 = .ok (.ireturn, 1) := by decide +kernel
noncomputable def f6_against_J23 {α : Type} (c1 : Int32) (c3 : Int32) (c4 : Int32) (S : MS) (K : Int32 → MS → Option α) : Option α := ck c1 4 fun k2 => if (S.1 1 k2) = (-9) then (K 1 S) else (if 0 ≤ c4 then (if c3 < 0 then (K 3 S) else (ck c1 4 fun k3 => if (S.1 2 k3) < c3 then (K 3 S) else (ck c1 4 fun k4 => if c4 ≤ ((S.1 2 k4) - c3) then (K 0 S) else (K 3 S)))) else (K 4 S))
noncomputable def f6_against {α : Type} (p1 : Int32) (p2 : Int32) (p3 : Int32) (p4 : Int32) (S : MS) (K : Int32 → MS → Option α) : Option α := ck p1 4 fun k1 => if (S.1 1 k1) = (-9) then (f6_against_J23 p1 p3 p4 S K) else (ck p1 4 fun k5 => if (S.1 1 k5) = p2 then (f6_against_J23 p1 p3 p4 S K) else (K 2 S))
set_option maxHeartbeats 4000000 in
set_option maxRecDepth 100000 in
theorem j6_against_23 {α : Type} {X : GX α} (O : OK 22 X RX6 cX6_against 5 (some .int) (rmG 0 0)) {K : Int32 → MS → Option α} (hQ : RtI 22 eM X K) {c1 : Int32} {c3 : Int32} {c4 : Int32} {S : MS} : GM 22 eM X (f6_against_J23 c1 c3 c4 S K) S 23 [(0, .ref (aX X 0)), (1, .int c1), (3, .int c3), (4, .int c4)] [] := by
  unfold f6_against_J23
  refine r_aload_n O d6_against_23 0 rfl ?_
  refine g_X6_9 O d6_against_24 ?_
  refine r_iload_n O d6_against_27 1 rfl ?_
  refine r_iald O (j := 1) (by decide) eM_1 d6_against_28 (fun k2 hk2 => ?_)
  refine r_bipush O d6_against_29 (v := (-9)) (by decide) ?_
  refine r_icmp_ne O 36 d6_against_31 (by decide) ?_ ?_
  · refine r_iload O d6_against_36 3 rfl ?_
    refine r_if_ge O 43 d6_against_38 (by decide) ?_ ?_
    · refine r_iload_n O d6_against_43 2 rfl ?_
      refine r_if_lt O 70 d6_against_44 (by decide) ?_ ?_
      · refine r_iconst O d6_against_70 (v := 3) (by decide) ?_
        refine r_goto O 75 d6_against_71 (by decide) ?_
        exact r_iret O hQ d6_against_75
      · refine r_iload_n O d6_against_47 2 rfl ?_
        refine r_aload_n O d6_against_48 0 rfl ?_
        refine g_X6_13 O d6_against_49 ?_
        refine r_iload_n O d6_against_52 1 rfl ?_
        refine r_iald O (j := 2) (by decide) eM_2 d6_against_53 (fun k3 hk3 => ?_)
        refine r_icmp_gt O 70 d6_against_54 (by decide) ?_ ?_
        · refine r_iconst O d6_against_70 (v := 3) (by decide) ?_
          refine r_goto O 75 d6_against_71 (by decide) ?_
          exact r_iret O hQ d6_against_75
        · refine r_iload O d6_against_57 3 rfl ?_
          refine r_aload_n O d6_against_59 0 rfl ?_
          refine g_X6_13 O d6_against_60 ?_
          refine r_iload_n O d6_against_63 1 rfl ?_
          refine r_iald O (j := 2) (by decide) eM_2 d6_against_64 (fun k4 hk4 => ?_)
          refine r_iload_n O d6_against_65 2 rfl ?_
          refine r_isub O d6_against_66 ?_
          refine r_icmp_le O 74 d6_against_67 (by decide) ?_ ?_
          · refine r_iconst O d6_against_74 (v := 0) (by decide) ?_
            exact r_iret O hQ d6_against_75
          · refine r_iconst O d6_against_70 (v := 3) (by decide) ?_
            refine r_goto O 75 d6_against_71 (by decide) ?_
            exact r_iret O hQ d6_against_75
    · refine r_iconst O d6_against_41 (v := 4) (by decide) ?_
      exact r_iret O hQ d6_against_42
  · refine r_iconst O d6_against_34 (v := 1) (by decide) ?_
    exact r_iret O hQ d6_against_35
set_option maxHeartbeats 4000000 in
set_option maxRecDepth 100000 in
theorem c6_against (l : Launch) (p1 : Int32) (p2 : Int32) (p3 : Int32) (p4 : Int32) (S : MS) {α : Type} : CtI 22 eM l yX6_against cX6_against 5 (some .int) (rmG 0 0) S (fun ad => [.ref (ad 0), .int p1, .int p2, .int p3, .int p4]) (α := α) (f6_against p1 p2 p3 p4 S) := by
  refine CtI.of (by decide) (fun _ => Nat.le_of_ble_eq_true rfl) (fun X K _ O hQ => ?_)
  have O : OK 22 X RX6 cX6_against 5 (some .int) (rmG 0 0) := O
  show GM 22 eM X (f6_against p1 p2 p3 p4 S K) S 0 [(0, .ref (aX X 0)), (1, .int p1), (2, .int p2), (3, .int p3), (4, .int p4)] []
  unfold f6_against
  refine r_aload_n O d6_against_0 0 rfl ?_
  refine g_X6_9 O d6_against_1 ?_
  refine r_iload_n O d6_against_4 1 rfl ?_
  refine r_iald O (j := 1) (by decide) eM_1 d6_against_5 (fun k1 hk1 => ?_)
  refine r_bipush O d6_against_6 (v := (-9)) (by decide) ?_
  refine r_icmp_eq O 23 d6_against_8 (by decide) ?_ ?_
  · refine r_sub [0, 1, 3, 4] rfl ?_
    exact j6_against_23 O hQ
  · refine r_aload_n O d6_against_11 0 rfl ?_
    refine g_X6_9 O d6_against_12 ?_
    refine r_iload_n O d6_against_15 1 rfl ?_
    refine r_iald O (j := 1) (by decide) eM_1 d6_against_16 (fun k5 hk5 => ?_)
    refine r_iload_n O d6_against_17 2 rfl ?_
    refine r_icmp_eq O 23 d6_against_18 (by decide) ?_ ?_
    · refine r_sub [0, 1, 3, 4] rfl ?_
      exact j6_against_23 O hQ
    · refine r_iconst O d6_against_21 (v := 2) (by decide) ?_
      exact r_iret O hQ d6_against_22
-- X6.code
theorem d6_code_0 : decode cX6_code 0 = .ok (.aload_n 0, 1) := by decide +kernel
theorem d6_code_1 : decode cX6_code 1 = .ok (.getfield 92, 3) := by decide +kernel
theorem d6_code_4 : decode cX6_code 4 = .ok (.iload_n 1, 1) := by decide +kernel
theorem d6_code_5 : decode cX6_code 5 = .ok (.if_icmp .ge 15, 3) := by decide +kernel
theorem d6_code_8 : decode cX6_code 8 = .ok (.aload_n 0, 1) := by decide +kernel
theorem d6_code_9 : decode cX6_code 9 = .ok (.getfield 16, 3) := by decide +kernel
theorem d6_code_12 : decode cX6_code 12 = .ok (.aload_n 0, 1) := by decide +kernel
theorem d6_code_13 : decode cX6_code 13 = .ok (.getfield 92, 3) := by decide +kernel
theorem d6_code_16 : decode cX6_code 16 = .ok (.iaload, 1) := by decide +kernel
theorem d6_code_17 : decode cX6_code 17 = .ok (.goto 5, 3) := by decide +kernel
theorem d6_code_20 : decode cX6_code 20 = .ok (.bipush (-9), 2) := by decide +kernel
theorem d6_code_22 : decode cX6_code 22 = .ok (.ireturn, 1) := by decide +kernel
noncomputable def f6_code {α : Type} (p1 : Int32) (S : MS) (K : Int32 → MS → Option α) : Option α := if p1 ≤ (S.1 0 15) then (K (-9) S) else (ck (S.1 0 15) 240 fun k1 => K (S.1 3 k1) S)
set_option maxHeartbeats 4000000 in
set_option maxRecDepth 100000 in
theorem c6_code (l : Launch) (p1 : Int32) (S : MS) {α : Type} : CtI 22 eM l yX6_code cX6_code 2 (some .int) (rmG 0 0) S (fun ad => [.ref (ad 0), .int p1]) (α := α) (f6_code p1 S) := by
  refine CtI.of (by decide) (fun _ => Nat.le_of_ble_eq_true rfl) (fun X K _ O hQ => ?_)
  have O : OK 22 X RX6 cX6_code 2 (some .int) (rmG 0 0) := O
  show GM 22 eM X (f6_code p1 S K) S 0 [(0, .ref (aX X 0)), (1, .int p1)] []
  unfold f6_code
  refine r_aload_n O d6_code_0 0 rfl ?_
  refine g_X6_92 O d6_code_1 ?_
  refine r_iload_n O d6_code_4 1 rfl ?_
  refine r_icmp_ge O 20 d6_code_5 (by decide) ?_ ?_
  · refine r_bipush O d6_code_20 (v := (-9)) (by decide) ?_
    exact r_iret O hQ d6_code_22
  · refine r_aload_n O d6_code_8 0 rfl ?_
    refine g_X6_16 O d6_code_9 ?_
    refine r_aload_n O d6_code_12 0 rfl ?_
    refine g_X6_92 O d6_code_13 ?_
    refine r_iald O (j := 3) (by decide) eM_3 d6_code_16 (fun k1 hk1 => ?_)
    refine r_goto O 22 d6_code_17 (by decide) ?_
    exact r_iret O hQ d6_code_22
-- X6.kindBy
theorem d6_kindBy_0 : decode cX6_kindBy 0 = .ok (.iload_n 0, 1) := by decide +kernel
theorem d6_kindBy_1 : decode cX6_kindBy 1 = .ok (.bipush 80, 2) := by decide +kernel
theorem d6_kindBy_3 : decode cX6_kindBy 3 = .ok (.if_icmp .ne 7, 3) := by decide +kernel
theorem d6_kindBy_6 : decode cX6_kindBy 6 = .ok (.iconst 0, 1) := by decide +kernel
theorem d6_kindBy_7 : decode cX6_kindBy 7 = .ok (.goto 25, 3) := by decide +kernel
theorem d6_kindBy_10 : decode cX6_kindBy 10 = .ok (.iload_n 0, 1) := by decide +kernel
theorem d6_kindBy_11 : decode cX6_kindBy 11 = .ok (.bipush 87, 2) := by decide +kernel
theorem d6_kindBy_13 : decode cX6_kindBy 13 = .ok (.if_icmp .ne 7, 3) := by decide +kernel
theorem d6_kindBy_16 : decode cX6_kindBy 16 = .ok (.iconst 1, 1) := by decide +kernel
theorem d6_kindBy_17 : decode cX6_kindBy 17 = .ok (.goto 15, 3) := by decide +kernel
theorem d6_kindBy_20 : decode cX6_kindBy 20 = .ok (.iload_n 0, 1) := by decide +kernel
theorem d6_kindBy_21 : decode cX6_kindBy 21 = .ok (.bipush 68, 2) := by decide +kernel
theorem d6_kindBy_23 : decode cX6_kindBy 23 = .ok (.if_icmp .ne 7, 3) := by decide +kernel
theorem d6_kindBy_26 : decode cX6_kindBy 26 = .ok (.iconst 2, 1) := by decide +kernel
theorem d6_kindBy_27 : decode cX6_kindBy 27 = .ok (.goto 5, 3) := by decide +kernel
theorem d6_kindBy_30 : decode cX6_kindBy 30 = .ok (.bipush (-9), 2) := by decide +kernel
theorem d6_kindBy_32 : decode cX6_kindBy 32 = .ok (.ireturn, 1) := by decide +kernel
noncomputable def f6_kindBy {α : Type} (p0 : Int32) (S : MS) (K : Int32 → MS → Option α) : Option α := if p0 = 80 then (K 0 S) else (if p0 = 87 then (K 1 S) else (if p0 = 68 then (K 2 S) else (K (-9) S)))
set_option maxHeartbeats 4000000 in
set_option maxRecDepth 100000 in
theorem c6_kindBy (l : Launch) (p0 : Int32) (S : MS) {α : Type} : CtI 22 eM l yX6_kindBy cX6_kindBy 1 (some .int) (rmG 0 0) S (fun ad => [.int p0]) (α := α) (f6_kindBy p0 S) := by
  refine CtI.of (by decide) (fun _ => Nat.le_of_ble_eq_true rfl) (fun X K _ O hQ => ?_)
  have O : OK 22 X RX6 cX6_kindBy 1 (some .int) (rmG 0 0) := O
  show GM 22 eM X (f6_kindBy p0 S K) S 0 [(0, .int p0)] []
  unfold f6_kindBy
  refine r_iload_n O d6_kindBy_0 0 rfl ?_
  refine r_bipush O d6_kindBy_1 (v := 80) (by decide) ?_
  refine r_icmp_ne O 10 d6_kindBy_3 (by decide) ?_ ?_
  · refine r_iload_n O d6_kindBy_10 0 rfl ?_
    refine r_bipush O d6_kindBy_11 (v := 87) (by decide) ?_
    refine r_icmp_ne O 20 d6_kindBy_13 (by decide) ?_ ?_
    · refine r_iload_n O d6_kindBy_20 0 rfl ?_
      refine r_bipush O d6_kindBy_21 (v := 68) (by decide) ?_
      refine r_icmp_ne O 30 d6_kindBy_23 (by decide) ?_ ?_
      · refine r_bipush O d6_kindBy_30 (v := (-9)) (by decide) ?_
        exact r_iret O hQ d6_kindBy_32
      · refine r_iconst O d6_kindBy_26 (v := 2) (by decide) ?_
        refine r_goto O 32 d6_kindBy_27 (by decide) ?_
        exact r_iret O hQ d6_kindBy_32
    · refine r_iconst O d6_kindBy_16 (v := 1) (by decide) ?_
      refine r_goto O 32 d6_kindBy_17 (by decide) ?_
      exact r_iret O hQ d6_kindBy_32
  · refine r_iconst O d6_kindBy_6 (v := 0) (by decide) ?_
    refine r_goto O 32 d6_kindBy_7 (by decide) ?_
    exact r_iret O hQ d6_kindBy_32
-- X6.takes
theorem d6_takes_0 : decode cX6_takes 0 = .ok (.iload_n 1, 1) := by decide +kernel
theorem d6_takes_1 : decode cX6_takes 1 = .ok (.bipush (-9), 2) := by decide +kernel
theorem d6_takes_3 : decode cX6_takes 3 = .ok (.if_icmp .ne 5, 3) := by decide +kernel
theorem d6_takes_6 : decode cX6_takes 6 = .ok (.iconst 0, 1) := by decide +kernel
theorem d6_takes_7 : decode cX6_takes 7 = .ok (.ireturn, 1) := by decide +kernel
theorem d6_takes_8 : decode cX6_takes 8 = .ok (.aload_n 0, 1) := by decide +kernel
theorem d6_takes_9 : decode cX6_takes 9 = .ok (.dup, 1) := by decide +kernel
theorem d6_takes_10 : decode cX6_takes 10 = .ok (.getfield 92, 3) := by decide +kernel
theorem d6_takes_13 : decode cX6_takes 13 = .ok (.iconst 1, 1) := by decide +kernel
theorem d6_takes_14 : decode cX6_takes 14 = .ok (.iadd, 1) := by decide +kernel
theorem d6_takes_15 : decode cX6_takes 15 = .ok (.putfield 92, 3) := by decide +kernel
theorem d6_takes_18 : decode cX6_takes 18 = .ok (.iconst 1, 1) := by decide +kernel
theorem d6_takes_19 : decode cX6_takes 19 = .ok (.ireturn, 1) := by decide +kernel
noncomputable def f6_takes {α : Type} (p1 : Int32) (S : MS) (K : Int32 → MS → Option α) : Option α := if p1 = (-9) then (K 0 S) else (nm (sI S 0 15 ((S.1 0 15) + 1)) fun S1 => K 1 S1)
set_option maxHeartbeats 4000000 in
set_option maxRecDepth 100000 in
theorem c6_takes (l : Launch) (p1 : Int32) (S : MS) {α : Type} : CtI 22 eM l yX6_takes cX6_takes 2 (some .boolean) (rmG 0 0) S (fun ad => [.ref (ad 0), .int p1]) (α := α) (f6_takes p1 S) := by
  refine CtI.of (by decide) (fun _ => Nat.le_of_ble_eq_true rfl) (fun X K _ O hQ => ?_)
  have O : OK 22 X RX6 cX6_takes 2 (some .boolean) (rmG 0 0) := O
  show GM 22 eM X (f6_takes p1 S K) S 0 [(0, .ref (aX X 0)), (1, .int p1)] []
  unfold f6_takes
  refine r_iload_n O d6_takes_0 1 rfl ?_
  refine r_bipush O d6_takes_1 (v := (-9)) (by decide) ?_
  refine r_icmp_ne O 8 d6_takes_3 (by decide) ?_ ?_
  · refine r_aload_n O d6_takes_8 0 rfl ?_
    refine r_dup O d6_takes_9 rfl ?_
    refine g_X6_92 O d6_takes_10 ?_
    refine r_iconst O d6_takes_13 (v := 1) (by decide) ?_
    refine r_iadd O d6_takes_14 ?_
    refine p_X6_92 O d6_takes_15 (fun S1 => ?_)
    refine r_iconst O d6_takes_18 (v := 1) (by decide) ?_
    exact r_zret O hQ (by decide) d6_takes_19
  · refine r_iconst O d6_takes_6 (v := 0) (by decide) ?_
    exact r_zret O hQ (by decide) d6_takes_7
-- X6.digitBy
theorem d6_digitBy_0 : decode cX6_digitBy 0 = .ok (.iload_n 0, 1) := by decide +kernel
theorem d6_digitBy_1 : decode cX6_digitBy 1 = .ok (.i2l, 1) := by decide +kernel
theorem d6_digitBy_2 : decode cX6_digitBy 2 = .ok (.bipush 48, 2) := by decide +kernel
theorem d6_digitBy_4 : decode cX6_digitBy 4 = .ok (.iload_n 1, 1) := by decide +kernel
theorem d6_digitBy_5 : decode cX6_digitBy 5 = .ok (.iadd, 1) := by decide +kernel
theorem d6_digitBy_6 : decode cX6_digitBy 6 = .ok (.i2l, 1) := by decide +kernel
theorem d6_digitBy_7 : decode cX6_digitBy 7 = .ok (.bipush 48, 2) := by decide +kernel
theorem d6_digitBy_9 : decode cX6_digitBy 9 = .ok (.iload_n 2, 1) := by decide +kernel
theorem d6_digitBy_10 : decode cX6_digitBy 10 = .ok (.iadd, 1) := by decide +kernel
theorem d6_digitBy_11 : decode cX6_digitBy 11 = .ok (.i2l, 1) := by decide +kernel
theorem d6_digitBy_12 : decode cX6_digitBy 12 = .ok (.invokestatic 83, 3) := by decide +kernel
theorem d6_digitBy_15 : decode cX6_digitBy 15 = .ok (.ifCond .eq 10, 3) := by decide +kernel
theorem d6_digitBy_18 : decode cX6_digitBy 18 = .ok (.iload_n 0, 1) := by decide +kernel
theorem d6_digitBy_19 : decode cX6_digitBy 19 = .ok (.bipush 48, 2) := by decide +kernel
theorem d6_digitBy_21 : decode cX6_digitBy 21 = .ok (.isub, 1) := by decide +kernel
theorem d6_digitBy_22 : decode cX6_digitBy 22 = .ok (.goto 5, 3) := by decide +kernel
theorem d6_digitBy_25 : decode cX6_digitBy 25 = .ok (.bipush (-9), 2) := by decide +kernel
theorem d6_digitBy_27 : decode cX6_digitBy 27 = .ok (.ireturn, 1) := by decide +kernel
noncomputable def f6_digitBy {α : Type} (p0 : Int32) (p1 : Int32) (p2 : Int32) (S : MS) (K : Int32 → MS → Option α) : Option α := f6_within (Int32.toInt64 p0) (Int32.toInt64 ((48 : Int32) + p1)) (Int32.toInt64 ((48 : Int32) + p2)) S fun r2 S1 => if r2 = 0 then (K (-9) S1) else (K (p0 - 48) S1)
set_option maxHeartbeats 4000000 in
set_option maxRecDepth 100000 in
theorem c6_digitBy (l : Launch) (p0 : Int32) (p1 : Int32) (p2 : Int32) (S : MS) {α : Type} : CtI 22 eM l yX6_digitBy cX6_digitBy 3 (some .int) (rmG 1 25) S (fun ad => [.int p0, .int p1, .int p2]) (α := α) (f6_digitBy p0 p1 p2 S) := by
  refine CtI.of (by decide) (fun _ => Nat.le_of_ble_eq_true rfl) (fun X K _ O hQ => ?_)
  have O : OK 22 X RX6 cX6_digitBy 3 (some .int) (rmG 1 25) := O
  show GM 22 eM X (f6_digitBy p0 p1 p2 S K) S 0 [(0, .int p0), (1, .int p1), (2, .int p2)] []
  unfold f6_digitBy
  refine r_iload_n O d6_digitBy_0 0 rfl ?_
  refine r_i2l O d6_digitBy_1 ?_
  refine r_bipush O d6_digitBy_2 (v := 48) (by decide) ?_
  refine r_iload_n O d6_digitBy_4 1 rfl ?_
  refine r_iadd O d6_digitBy_5 ?_
  refine r_i2l O d6_digitBy_6 ?_
  refine r_bipush O d6_digitBy_7 (v := 48) (by decide) ?_
  refine r_iload_n O d6_digitBy_9 2 rfl ?_
  refine r_iadd O d6_digitBy_10 ?_
  refine r_i2l O d6_digitBy_11 ?_
  refine r_callSi O (rest := []) (c6_within (lX X) (Int32.toInt64 p0) (Int32.toInt64 ((48 : Int32) + p1)) (Int32.toInt64 ((48 : Int32) + p2)) S) w_753 w_754 w_51 w_755 hy_X6_within ⟨rfl, rfl, Nat.le_of_ble_eq_true rfl, Nat.le_of_ble_eq_true rfl⟩ rfl rfl (Nat.le_of_ble_eq_true rfl) d6_digitBy_12 (fun r2 S1 => ?_)
  refine r_if_eq O 25 d6_digitBy_15 (by decide) ?_ ?_
  · refine r_bipush O d6_digitBy_25 (v := (-9)) (by decide) ?_
    exact r_iret O hQ d6_digitBy_27
  · refine r_iload_n O d6_digitBy_18 0 rfl ?_
    refine r_bipush O d6_digitBy_19 (v := 48) (by decide) ?_
    refine r_isub O d6_digitBy_21 ?_
    refine r_goto O 27 d6_digitBy_22 (by decide) ?_
    exact r_iret O hQ d6_digitBy_27
-- X6.sideBy
theorem d6_sideBy_0 : decode cX6_sideBy 0 = .ok (.iload_n 0, 1) := by decide +kernel
theorem d6_sideBy_1 : decode cX6_sideBy 1 = .ok (.bipush 112, 2) := by decide +kernel
theorem d6_sideBy_3 : decode cX6_sideBy 3 = .ok (.if_icmp .ne 7, 3) := by decide +kernel
theorem d6_sideBy_6 : decode cX6_sideBy 6 = .ok (.iconst 0, 1) := by decide +kernel
theorem d6_sideBy_7 : decode cX6_sideBy 7 = .ok (.goto 25, 3) := by decide +kernel
theorem d6_sideBy_10 : decode cX6_sideBy 10 = .ok (.iload_n 0, 1) := by decide +kernel
theorem d6_sideBy_11 : decode cX6_sideBy 11 = .ok (.bipush 99, 2) := by decide +kernel
theorem d6_sideBy_13 : decode cX6_sideBy 13 = .ok (.if_icmp .ne 7, 3) := by decide +kernel
theorem d6_sideBy_16 : decode cX6_sideBy 16 = .ok (.iconst 1, 1) := by decide +kernel
theorem d6_sideBy_17 : decode cX6_sideBy 17 = .ok (.goto 15, 3) := by decide +kernel
theorem d6_sideBy_20 : decode cX6_sideBy 20 = .ok (.iload_n 0, 1) := by decide +kernel
theorem d6_sideBy_21 : decode cX6_sideBy 21 = .ok (.bipush 115, 2) := by decide +kernel
theorem d6_sideBy_23 : decode cX6_sideBy 23 = .ok (.if_icmp .ne 7, 3) := by decide +kernel
theorem d6_sideBy_26 : decode cX6_sideBy 26 = .ok (.iconst 2, 1) := by decide +kernel
theorem d6_sideBy_27 : decode cX6_sideBy 27 = .ok (.goto 5, 3) := by decide +kernel
theorem d6_sideBy_30 : decode cX6_sideBy 30 = .ok (.bipush (-9), 2) := by decide +kernel
theorem d6_sideBy_32 : decode cX6_sideBy 32 = .ok (.ireturn, 1) := by decide +kernel
noncomputable def f6_sideBy {α : Type} (p0 : Int32) (S : MS) (K : Int32 → MS → Option α) : Option α := if p0 = 112 then (K 0 S) else (if p0 = 99 then (K 1 S) else (if p0 = 115 then (K 2 S) else (K (-9) S)))
set_option maxHeartbeats 4000000 in
set_option maxRecDepth 100000 in
theorem c6_sideBy (l : Launch) (p0 : Int32) (S : MS) {α : Type} : CtI 22 eM l yX6_sideBy cX6_sideBy 1 (some .int) (rmG 0 0) S (fun ad => [.int p0]) (α := α) (f6_sideBy p0 S) := by
  refine CtI.of (by decide) (fun _ => Nat.le_of_ble_eq_true rfl) (fun X K _ O hQ => ?_)
  have O : OK 22 X RX6 cX6_sideBy 1 (some .int) (rmG 0 0) := O
  show GM 22 eM X (f6_sideBy p0 S K) S 0 [(0, .int p0)] []
  unfold f6_sideBy
  refine r_iload_n O d6_sideBy_0 0 rfl ?_
  refine r_bipush O d6_sideBy_1 (v := 112) (by decide) ?_
  refine r_icmp_ne O 10 d6_sideBy_3 (by decide) ?_ ?_
  · refine r_iload_n O d6_sideBy_10 0 rfl ?_
    refine r_bipush O d6_sideBy_11 (v := 99) (by decide) ?_
    refine r_icmp_ne O 20 d6_sideBy_13 (by decide) ?_ ?_
    · refine r_iload_n O d6_sideBy_20 0 rfl ?_
      refine r_bipush O d6_sideBy_21 (v := 115) (by decide) ?_
      refine r_icmp_ne O 30 d6_sideBy_23 (by decide) ?_ ?_
      · refine r_bipush O d6_sideBy_30 (v := (-9)) (by decide) ?_
        exact r_iret O hQ d6_sideBy_32
      · refine r_iconst O d6_sideBy_26 (v := 2) (by decide) ?_
        refine r_goto O 32 d6_sideBy_27 (by decide) ?_
        exact r_iret O hQ d6_sideBy_32
    · refine r_iconst O d6_sideBy_16 (v := 1) (by decide) ?_
      refine r_goto O 32 d6_sideBy_17 (by decide) ?_
      exact r_iret O hQ d6_sideBy_32
  · refine r_iconst O d6_sideBy_6 (v := 0) (by decide) ?_
    refine r_goto O 32 d6_sideBy_7 (by decide) ?_
    exact r_iret O hQ d6_sideBy_32
-- X6.readTank
theorem d6_readTank_0 : decode cX6_readTank 0 = .ok (.aload_n 0, 1) := by decide +kernel
theorem d6_readTank_1 : decode cX6_readTank 1 = .ok (.getfield 95, 3) := by decide +kernel
theorem d6_readTank_4 : decode cX6_readTank 4 = .ok (.istore_n 2, 1) := by decide +kernel
theorem d6_readTank_5 : decode cX6_readTank 5 = .ok (.aload_n 0, 1) := by decide +kernel
theorem d6_readTank_6 : decode cX6_readTank 6 = .ok (.getfield 41, 3) := by decide +kernel
theorem d6_readTank_9 : decode cX6_readTank 9 = .ok (.iload_n 2, 1) := by decide +kernel
theorem d6_readTank_10 : decode cX6_readTank 10 = .ok (.aload_n 0, 1) := by decide +kernel
theorem d6_readTank_11 : decode cX6_readTank 11 = .ok (.iload_n 1, 1) := by decide +kernel
theorem d6_readTank_12 : decode cX6_readTank 12 = .ok (.invokevirtual 98, 3) := by decide +kernel
theorem d6_readTank_15 : decode cX6_readTank 15 = .ok (.invokestatic 102, 3) := by decide +kernel
theorem d6_readTank_18 : decode cX6_readTank 18 = .ok (.iastore, 1) := by decide +kernel
theorem d6_readTank_19 : decode cX6_readTank 19 = .ok (.aload_n 0, 1) := by decide +kernel
theorem d6_readTank_20 : decode cX6_readTank 20 = .ok (.aload_n 0, 1) := by decide +kernel
theorem d6_readTank_21 : decode cX6_readTank 21 = .ok (.getfield 41, 3) := by decide +kernel
theorem d6_readTank_24 : decode cX6_readTank 24 = .ok (.iload_n 2, 1) := by decide +kernel
theorem d6_readTank_25 : decode cX6_readTank 25 = .ok (.iaload, 1) := by decide +kernel
theorem d6_readTank_26 : decode cX6_readTank 26 = .ok (.invokevirtual 105, 3) := by decide +kernel
theorem d6_readTank_29 : decode cX6_readTank 29 = .ok (.ifCond .ne 5, 3) := by decide +kernel
theorem d6_readTank_32 : decode cX6_readTank 32 = .ok (.iconst 0, 1) := by decide +kernel
theorem d6_readTank_33 : decode cX6_readTank 33 = .ok (.ireturn, 1) := by decide +kernel
theorem d6_readTank_34 : decode cX6_readTank 34 = .ok (.aload_n 0, 1) := by decide +kernel
theorem d6_readTank_35 : decode cX6_readTank 35 = .ok (.getfield 44, 3) := by decide +kernel
theorem d6_readTank_38 : decode cX6_readTank 38 = .ok (.iload_n 2, 1) := by decide +kernel
theorem d6_readTank_39 : decode cX6_readTank 39 = .ok (.aload_n 0, 1) := by decide +kernel
theorem d6_readTank_40 : decode cX6_readTank 40 = .ok (.iload_n 1, 1) := by decide +kernel
theorem d6_readTank_41 : decode cX6_readTank 41 = .ok (.invokevirtual 98, 3) := by decide +kernel
theorem d6_readTank_44 : decode cX6_readTank 44 = .ok (.iconst 0, 1) := by decide +kernel
theorem d6_readTank_45 : decode cX6_readTank 45 = .ok (.bipush 6, 2) := by decide +kernel
theorem d6_readTank_47 : decode cX6_readTank 47 = .ok (.invokestatic 109, 3) := by decide +kernel
theorem d6_readTank_50 : decode cX6_readTank 50 = .ok (.iastore, 1) := by decide +kernel
theorem d6_readTank_51 : decode cX6_readTank 51 = .ok (.aload_n 0, 1) := by decide +kernel
theorem d6_readTank_52 : decode cX6_readTank 52 = .ok (.aload_n 0, 1) := by decide +kernel
theorem d6_readTank_53 : decode cX6_readTank 53 = .ok (.getfield 44, 3) := by decide +kernel
theorem d6_readTank_56 : decode cX6_readTank 56 = .ok (.iload_n 2, 1) := by decide +kernel
theorem d6_readTank_57 : decode cX6_readTank 57 = .ok (.iaload, 1) := by decide +kernel
theorem d6_readTank_58 : decode cX6_readTank 58 = .ok (.invokevirtual 105, 3) := by decide +kernel
theorem d6_readTank_61 : decode cX6_readTank 61 = .ok (.ifCond .ne 5, 3) := by decide +kernel
theorem d6_readTank_64 : decode cX6_readTank 64 = .ok (.iconst 0, 1) := by decide +kernel
theorem d6_readTank_65 : decode cX6_readTank 65 = .ok (.ireturn, 1) := by decide +kernel
theorem d6_readTank_66 : decode cX6_readTank 66 = .ok (.aload_n 0, 1) := by decide +kernel
theorem d6_readTank_67 : decode cX6_readTank 67 = .ok (.getfield 47, 3) := by decide +kernel
theorem d6_readTank_70 : decode cX6_readTank 70 = .ok (.iload_n 2, 1) := by decide +kernel
theorem d6_readTank_71 : decode cX6_readTank 71 = .ok (.aload_n 0, 1) := by decide +kernel
theorem d6_readTank_72 : decode cX6_readTank 72 = .ok (.iload_n 1, 1) := by decide +kernel
theorem d6_readTank_73 : decode cX6_readTank 73 = .ok (.invokevirtual 98, 3) := by decide +kernel
theorem d6_readTank_76 : decode cX6_readTank 76 = .ok (.invokestatic 113, 3) := by decide +kernel
theorem d6_readTank_79 : decode cX6_readTank 79 = .ok (.iastore, 1) := by decide +kernel
theorem d6_readTank_80 : decode cX6_readTank 80 = .ok (.aload_n 0, 1) := by decide +kernel
theorem d6_readTank_81 : decode cX6_readTank 81 = .ok (.aload_n 0, 1) := by decide +kernel
theorem d6_readTank_82 : decode cX6_readTank 82 = .ok (.getfield 47, 3) := by decide +kernel
theorem d6_readTank_85 : decode cX6_readTank 85 = .ok (.iload_n 2, 1) := by decide +kernel
theorem d6_readTank_86 : decode cX6_readTank 86 = .ok (.iaload, 1) := by decide +kernel
theorem d6_readTank_87 : decode cX6_readTank 87 = .ok (.invokevirtual 105, 3) := by decide +kernel
theorem d6_readTank_90 : decode cX6_readTank 90 = .ok (.ifCond .ne 5, 3) := by decide +kernel
theorem d6_readTank_93 : decode cX6_readTank 93 = .ok (.iconst 0, 1) := by decide +kernel
theorem d6_readTank_94 : decode cX6_readTank 94 = .ok (.ireturn, 1) := by decide +kernel
theorem d6_readTank_95 : decode cX6_readTank 95 = .ok (.aload_n 0, 1) := by decide +kernel
theorem d6_readTank_96 : decode cX6_readTank 96 = .ok (.getfield 50, 3) := by decide +kernel
theorem d6_readTank_99 : decode cX6_readTank 99 = .ok (.iload_n 2, 1) := by decide +kernel
theorem d6_readTank_100 : decode cX6_readTank 100 = .ok (.aload_n 0, 1) := by decide +kernel
theorem d6_readTank_101 : decode cX6_readTank 101 = .ok (.iload_n 1, 1) := by decide +kernel
theorem d6_readTank_102 : decode cX6_readTank 102 = .ok (.invokevirtual 98, 3) := by decide +kernel
theorem d6_readTank_105 : decode cX6_readTank 105 = .ok (.iconst 1, 1) := by decide +kernel
theorem d6_readTank_106 : decode cX6_readTank 106 = .ok (.bipush 9, 2) := by decide +kernel
theorem d6_readTank_108 : decode cX6_readTank 108 = .ok (.invokestatic 109, 3) := by decide +kernel
theorem d6_readTank_111 : decode cX6_readTank 111 = .ok (.iastore, 1) := by decide +kernel
theorem d6_readTank_112 : decode cX6_readTank 112 = .ok (.aload_n 0, 1) := by decide +kernel
theorem d6_readTank_113 : decode cX6_readTank 113 = .ok (.aload_n 0, 1) := by decide +kernel
theorem d6_readTank_114 : decode cX6_readTank 114 = .ok (.getfield 50, 3) := by decide +kernel
theorem d6_readTank_117 : decode cX6_readTank 117 = .ok (.iload_n 2, 1) := by decide +kernel
theorem d6_readTank_118 : decode cX6_readTank 118 = .ok (.iaload, 1) := by decide +kernel
theorem d6_readTank_119 : decode cX6_readTank 119 = .ok (.invokevirtual 105, 3) := by decide +kernel
theorem d6_readTank_122 : decode cX6_readTank 122 = .ok (.ifCond .ne 5, 3) := by decide +kernel
theorem d6_readTank_125 : decode cX6_readTank 125 = .ok (.iconst 0, 1) := by decide +kernel
theorem d6_readTank_126 : decode cX6_readTank 126 = .ok (.ireturn, 1) := by decide +kernel
theorem d6_readTank_127 : decode cX6_readTank 127 = .ok (.aload_n 0, 1) := by decide +kernel
theorem d6_readTank_128 : decode cX6_readTank 128 = .ok (.iload_n 1, 1) := by decide +kernel
theorem d6_readTank_129 : decode cX6_readTank 129 = .ok (.invokevirtual 98, 3) := by decide +kernel
theorem d6_readTank_132 : decode cX6_readTank 132 = .ok (.bipush 101, 2) := by decide +kernel
theorem d6_readTank_134 : decode cX6_readTank 134 = .ok (.if_icmp .ne 7, 3) := by decide +kernel
theorem d6_readTank_137 : decode cX6_readTank 137 = .ok (.iconst 0, 1) := by decide +kernel
theorem d6_readTank_138 : decode cX6_readTank 138 = .ok (.goto 19, 3) := by decide +kernel
theorem d6_readTank_141 : decode cX6_readTank 141 = .ok (.aload_n 0, 1) := by decide +kernel
theorem d6_readTank_142 : decode cX6_readTank 142 = .ok (.iload_n 1, 1) := by decide +kernel
theorem d6_readTank_143 : decode cX6_readTank 143 = .ok (.invokevirtual 98, 3) := by decide +kernel
theorem d6_readTank_146 : decode cX6_readTank 146 = .ok (.bipush 111, 2) := by decide +kernel
theorem d6_readTank_148 : decode cX6_readTank 148 = .ok (.if_icmp .ne 7, 3) := by decide +kernel
theorem d6_readTank_151 : decode cX6_readTank 151 = .ok (.iconst 1, 1) := by decide +kernel
theorem d6_readTank_152 : decode cX6_readTank 152 = .ok (.goto 5, 3) := by decide +kernel
theorem d6_readTank_155 : decode cX6_readTank 155 = .ok (.bipush (-9), 2) := by decide +kernel
theorem d6_readTank_157 : decode cX6_readTank 157 = .ok (.istore_n 3, 1) := by decide +kernel
theorem d6_readTank_158 : decode cX6_readTank 158 = .ok (.aload_n 0, 1) := by decide +kernel
theorem d6_readTank_159 : decode cX6_readTank 159 = .ok (.dup, 1) := by decide +kernel
theorem d6_readTank_160 : decode cX6_readTank 160 = .ok (.getfield 116, 3) := by decide +kernel
theorem d6_readTank_163 : decode cX6_readTank 163 = .ok (.iload_n 3, 1) := by decide +kernel
theorem d6_readTank_164 : decode cX6_readTank 164 = .ok (.iconst 1, 1) := by decide +kernel
theorem d6_readTank_165 : decode cX6_readTank 165 = .ok (.if_icmp .ne 12, 3) := by decide +kernel
theorem d6_readTank_168 : decode cX6_readTank 168 = .ok (.aload_n 0, 1) := by decide +kernel
theorem d6_readTank_169 : decode cX6_readTank 169 = .ok (.getfield 19, 3) := by decide +kernel
theorem d6_readTank_172 : decode cX6_readTank 172 = .ok (.iload_n 2, 1) := by decide +kernel
theorem d6_readTank_173 : decode cX6_readTank 173 = .ok (.iaload, 1) := by decide +kernel
theorem d6_readTank_174 : decode cX6_readTank 174 = .ok (.goto 4, 3) := by decide +kernel
theorem d6_readTank_177 : decode cX6_readTank 177 = .ok (.iconst 0, 1) := by decide +kernel
theorem d6_readTank_178 : decode cX6_readTank 178 = .ok (.iadd, 1) := by decide +kernel
theorem d6_readTank_179 : decode cX6_readTank 179 = .ok (.putfield 116, 3) := by decide +kernel
theorem d6_readTank_182 : decode cX6_readTank 182 = .ok (.aload_n 0, 1) := by decide +kernel
theorem d6_readTank_183 : decode cX6_readTank 183 = .ok (.dup, 1) := by decide +kernel
theorem d6_readTank_184 : decode cX6_readTank 184 = .ok (.getfield 119, 3) := by decide +kernel
theorem d6_readTank_187 : decode cX6_readTank 187 = .ok (.iload_n 3, 1) := by decide +kernel
theorem d6_readTank_188 : decode cX6_readTank 188 = .ok (.iconst 1, 1) := by decide +kernel
theorem d6_readTank_189 : decode cX6_readTank 189 = .ok (.if_icmp .ne 9, 3) := by decide +kernel
theorem d6_readTank_192 : decode cX6_readTank 192 = .ok (.iconst 1, 1) := by decide +kernel
theorem d6_readTank_193 : decode cX6_readTank 193 = .ok (.iload_n 2, 1) := by decide +kernel
theorem d6_readTank_194 : decode cX6_readTank 194 = .ok (.ishl, 1) := by decide +kernel
theorem d6_readTank_195 : decode cX6_readTank 195 = .ok (.goto 4, 3) := by decide +kernel
theorem d6_readTank_198 : decode cX6_readTank 198 = .ok (.iconst 0, 1) := by decide +kernel
theorem d6_readTank_199 : decode cX6_readTank 199 = .ok (.ior, 1) := by decide +kernel
theorem d6_readTank_200 : decode cX6_readTank 200 = .ok (.putfield 119, 3) := by decide +kernel
theorem d6_readTank_203 : decode cX6_readTank 203 = .ok (.aload_n 0, 1) := by decide +kernel
theorem d6_readTank_204 : decode cX6_readTank 204 = .ok (.dup, 1) := by decide +kernel
theorem d6_readTank_205 : decode cX6_readTank 205 = .ok (.getfield 95, 3) := by decide +kernel
theorem d6_readTank_208 : decode cX6_readTank 208 = .ok (.iconst 1, 1) := by decide +kernel
theorem d6_readTank_209 : decode cX6_readTank 209 = .ok (.iadd, 1) := by decide +kernel
theorem d6_readTank_210 : decode cX6_readTank 210 = .ok (.putfield 95, 3) := by decide +kernel
theorem d6_readTank_213 : decode cX6_readTank 213 = .ok (.aload_n 0, 1) := by decide +kernel
theorem d6_readTank_214 : decode cX6_readTank 214 = .ok (.iload_n 3, 1) := by decide +kernel
theorem d6_readTank_215 : decode cX6_readTank 215 = .ok (.invokevirtual 105, 3) := by decide +kernel
theorem d6_readTank_218 : decode cX6_readTank 218 = .ok (.ireturn, 1) := by decide +kernel
noncomputable def f6_readTank_J178 {α : Type} (c2 : Int32) (c3 : Int32) (s0 : Int32) (s1 : Int32) (S : MS) (K : Int32 → MS → Option α) : Option α := nm (sI S 0 17 (s1 + s0)) fun S42 => if c3 = 1 then (nm (sI S42 0 18 ((S42.1 0 18) ||| ((1 : Int32) <<< (c2 &&& 31)))) fun S48 => nm (sI S48 0 16 ((S48.1 0 16) + 1)) fun S49 => f6_takes c3 S49 fun r51 S50 => zb r51 (K r51 S50)) else (nm (sI S42 0 18 ((S42.1 0 18) ||| 0)) fun S43 => nm (sI S43 0 16 ((S43.1 0 16) + 1)) fun S44 => f6_takes c3 S44 fun r46 S45 => zb r46 (K r46 S45))
noncomputable def f6_readTank_J157 {α : Type} (c2 : Int32) (s0 : Int32) (S : MS) (K : Int32 → MS → Option α) : Option α := if s0 = 1 then (ck c2 7 fun k53 => f6_readTank_J178 c2 s0 (S.1 4 k53) (S.1 0 17) S K) else (f6_readTank_J178 c2 s0 0 (S.1 0 17) S K)
noncomputable def f6_readTank {α : Type} (p1 : Int32) (S : MS) (K : Int32 → MS → Option α) : Option α := nm (S.1 0 16) fun x2_1 => f6_code p1 S fun r3 S2 => f6_kindBy r3 S2 fun r5 S4 => ck x2_1 6 fun k6 => nm (sI S4 11 k6 r5) fun S7 => ck x2_1 6 fun k8 => f6_takes (S7.1 11 k8) S7 fun r10 S9 => if r10 = 0 then (K 0 S9) else (f6_code p1 S9 fun r12 S11 => f6_digitBy r12 0 6 S11 fun r14 S13 => ck x2_1 6 fun k15 => nm (sI S13 12 k15 r14) fun S16 => ck x2_1 6 fun k17 => f6_takes (S16.1 12 k17) S16 fun r19 S18 => if r19 = 0 then (K 0 S18) else (f6_code p1 S18 fun r21 S20 => f6_sideBy r21 S20 fun r23 S22 => ck x2_1 6 fun k24 => nm (sI S22 13 k24 r23) fun S25 => ck x2_1 6 fun k26 => f6_takes (S25.1 13 k26) S25 fun r28 S27 => if r28 = 0 then (K 0 S27) else (f6_code p1 S27 fun r30 S29 => f6_digitBy r30 1 9 S29 fun r32 S31 => ck x2_1 6 fun k33 => nm (sI S31 14 k33 r32) fun S34 => ck x2_1 6 fun k35 => f6_takes (S34.1 14 k35) S34 fun r37 S36 => if r37 = 0 then (K 0 S36) else (f6_code p1 S36 fun r39 S38 => if r39 = 101 then (f6_readTank_J157 x2_1 0 S38 K) else (f6_code p1 S38 fun r41 S40 => if r41 = 111 then (f6_readTank_J157 x2_1 1 S40 K) else (f6_readTank_J157 x2_1 (-9) S40 K))))))
set_option maxHeartbeats 4000000 in
set_option maxRecDepth 100000 in
theorem j6_readTank_178 {α : Type} {X : GX α} (O : OK 22 X RX6 cX6_readTank 4 (some .boolean) (rmG 2 47)) {K : Int32 → MS → Option α} (hQ : RtI 22 eM X K) {c2 : Int32} {c3 : Int32} {s0 : Int32} {s1 : Int32} {S : MS} : GM 22 eM X (f6_readTank_J178 c2 c3 s0 s1 S K) S 178 [(0, .ref (aX X 0)), (2, .int c2), (3, .int c3)] [.int s0, .int s1, .ref (aX X 0)] := by
  unfold f6_readTank_J178
  refine r_iadd O d6_readTank_178 ?_
  refine p_X6_116 O d6_readTank_179 (fun S42 => ?_)
  refine r_aload_n O d6_readTank_182 0 rfl ?_
  refine r_dup O d6_readTank_183 rfl ?_
  refine g_X6_119 O d6_readTank_184 ?_
  refine r_iload_n O d6_readTank_187 2 rfl ?_
  refine r_iconst O d6_readTank_188 (v := 1) (by decide) ?_
  refine r_icmp_ne O 198 d6_readTank_189 (by decide) ?_ ?_
  · refine r_iconst O d6_readTank_198 (v := 0) (by decide) ?_
    refine r_ior O d6_readTank_199 ?_
    refine p_X6_119 O d6_readTank_200 (fun S43 => ?_)
    refine r_aload_n O d6_readTank_203 0 rfl ?_
    refine r_dup O d6_readTank_204 rfl ?_
    refine g_X6_95 O d6_readTank_205 ?_
    refine r_iconst O d6_readTank_208 (v := 1) (by decide) ?_
    refine r_iadd O d6_readTank_209 ?_
    refine p_X6_95 O d6_readTank_210 (fun S44 => ?_)
    refine r_aload_n O d6_readTank_213 0 rfl ?_
    refine r_iload_n O d6_readTank_214 2 rfl ?_
    refine r_callVi O (b := 0) (bv := fun ad => [.int c3]) (rest := []) (c6_takes (lX X) c3 S44) (fun _ => rfl) (by decide) eM_0 rfl rfl w_783 w_785 w_23 w_51 w_786 hy_X6_takes ⟨rfl, rfl, Nat.le_of_ble_eq_true rfl, Nat.le_of_ble_eq_true rfl⟩ rfl rfl (Nat.le_of_ble_eq_true rfl) d6_readTank_215 (fun r46 S45 => ?_)
    refine r_zb (fun hz47 => ?_)
    exact r_zret O hQ hz47 d6_readTank_218
  · refine r_iconst O d6_readTank_192 (v := 1) (by decide) ?_
    refine r_iload_n O d6_readTank_193 1 rfl ?_
    refine r_ishl O d6_readTank_194 ?_
    refine r_goto O 199 d6_readTank_195 (by decide) ?_
    refine r_ior O d6_readTank_199 ?_
    refine p_X6_119 O d6_readTank_200 (fun S48 => ?_)
    refine r_aload_n O d6_readTank_203 0 rfl ?_
    refine r_dup O d6_readTank_204 rfl ?_
    refine g_X6_95 O d6_readTank_205 ?_
    refine r_iconst O d6_readTank_208 (v := 1) (by decide) ?_
    refine r_iadd O d6_readTank_209 ?_
    refine p_X6_95 O d6_readTank_210 (fun S49 => ?_)
    refine r_aload_n O d6_readTank_213 0 rfl ?_
    refine r_iload_n O d6_readTank_214 2 rfl ?_
    refine r_callVi O (b := 0) (bv := fun ad => [.int c3]) (rest := []) (c6_takes (lX X) c3 S49) (fun _ => rfl) (by decide) eM_0 rfl rfl w_783 w_785 w_23 w_51 w_786 hy_X6_takes ⟨rfl, rfl, Nat.le_of_ble_eq_true rfl, Nat.le_of_ble_eq_true rfl⟩ rfl rfl (Nat.le_of_ble_eq_true rfl) d6_readTank_215 (fun r51 S50 => ?_)
    refine r_zb (fun hz52 => ?_)
    exact r_zret O hQ hz52 d6_readTank_218
set_option maxHeartbeats 4000000 in
set_option maxRecDepth 100000 in
theorem j6_readTank_157 {α : Type} {X : GX α} (O : OK 22 X RX6 cX6_readTank 4 (some .boolean) (rmG 2 47)) {K : Int32 → MS → Option α} (hQ : RtI 22 eM X K) {c2 : Int32} {s0 : Int32} {S : MS} : GM 22 eM X (f6_readTank_J157 c2 s0 S K) S 157 [(0, .ref (aX X 0)), (2, .int c2)] [.int s0] := by
  unfold f6_readTank_J157
  refine r_istore_n O d6_readTank_157 [(3, .int s0), (0, .ref (aX X 0)), (2, .int c2)] (by decide) rfl ?_
  refine r_aload_n O d6_readTank_158 1 rfl ?_
  refine r_dup O d6_readTank_159 rfl ?_
  refine g_X6_116 O d6_readTank_160 ?_
  refine r_iload_n O d6_readTank_163 0 rfl ?_
  refine r_iconst O d6_readTank_164 (v := 1) (by decide) ?_
  refine r_icmp_ne O 177 d6_readTank_165 (by decide) ?_ ?_
  · refine r_iconst O d6_readTank_177 (v := 0) (by decide) ?_
    refine r_sub [1, 2, 0] rfl ?_
    exact j6_readTank_178 O hQ
  · refine r_aload_n O d6_readTank_168 1 rfl ?_
    refine g_X6_19 O d6_readTank_169 ?_
    refine r_iload_n O d6_readTank_172 2 rfl ?_
    refine r_iald O (j := 4) (by decide) eM_4 d6_readTank_173 (fun k53 hk53 => ?_)
    refine r_goto O 178 d6_readTank_174 (by decide) ?_
    refine r_sub [1, 2, 0] rfl ?_
    exact j6_readTank_178 O hQ
set_option maxHeartbeats 4000000 in
set_option maxRecDepth 100000 in
theorem c6_readTank (l : Launch) (p1 : Int32) (S : MS) {α : Type} : CtI 22 eM l yX6_readTank cX6_readTank 4 (some .boolean) (rmG 2 47) S (fun ad => [.ref (ad 0), .int p1]) (α := α) (f6_readTank p1 S) := by
  refine CtI.of (by decide) (fun _ => Nat.le_of_ble_eq_true rfl) (fun X K _ O hQ => ?_)
  have O : OK 22 X RX6 cX6_readTank 4 (some .boolean) (rmG 2 47) := O
  show GM 22 eM X (f6_readTank p1 S K) S 0 [(0, .ref (aX X 0)), (1, .int p1)] []
  unfold f6_readTank
  refine r_aload_n O d6_readTank_0 0 rfl ?_
  refine g_X6_95 O d6_readTank_1 ?_
  refine r_istore_n_nm O d6_readTank_4 (fun x2_1 => [(2, .int x2_1), (0, .ref (aX X 0)), (1, .int p1)]) (by decide) (fun _ => rfl) (fun x2_1 => ?_)
  refine r_aload_n O d6_readTank_5 1 rfl ?_
  refine g_X6_41 O d6_readTank_6 ?_
  refine r_iload_n O d6_readTank_9 0 rfl ?_
  refine r_aload_n O d6_readTank_10 1 rfl ?_
  refine r_iload_n O d6_readTank_11 2 rfl ?_
  refine r_callVi O (b := 0) (bv := fun ad => [.int p1]) (rest := [.int x2_1, .ref (aX X 11)]) (c6_code (lX X) p1 S) (fun _ => rfl) (by decide) eM_0 rfl rfl w_772 w_774 w_21 w_51 w_775 hy_X6_code ⟨rfl, rfl, Nat.le_of_ble_eq_true rfl, Nat.le_of_ble_eq_true rfl⟩ rfl rfl (Nat.le_of_ble_eq_true rfl) d6_readTank_12 (fun r3 S2 => ?_)
  refine r_callSi O (rest := [.int x2_1, .ref (aX X 11)]) (c6_kindBy (lX X) r3 S2) w_780 w_781 w_51 w_782 hy_X6_kindBy ⟨rfl, rfl, Nat.le_of_ble_eq_true rfl, Nat.le_of_ble_eq_true rfl⟩ rfl rfl (Nat.le_of_ble_eq_true rfl) d6_readTank_15 (fun r5 S4 => ?_)
  refine r_iast O (j := 11) (by decide) (fun _ => eM_11) d6_readTank_18 (fun S7 => ?_)
  refine r_aload_n O d6_readTank_19 1 rfl ?_
  refine r_aload_n O d6_readTank_20 1 rfl ?_
  refine g_X6_41 O d6_readTank_21 ?_
  refine r_iload_n O d6_readTank_24 0 rfl ?_
  refine r_iald O (j := 11) (by decide) eM_11 d6_readTank_25 (fun k8 hk8 => ?_)
  refine r_callVi O (b := 0) (bv := fun ad => [.int (S7.1 11 k8)]) (rest := []) (c6_takes (lX X) (S7.1 11 k8) S7) (fun _ => rfl) (by decide) eM_0 rfl rfl w_783 w_785 w_23 w_51 w_786 hy_X6_takes ⟨rfl, rfl, Nat.le_of_ble_eq_true rfl, Nat.le_of_ble_eq_true rfl⟩ rfl rfl (Nat.le_of_ble_eq_true rfl) d6_readTank_26 (fun r10 S9 => ?_)
  refine r_if_ne O 34 d6_readTank_29 (by decide) ?_ ?_
  · refine r_aload_n O d6_readTank_34 1 rfl ?_
    refine g_X6_44 O d6_readTank_35 ?_
    refine r_iload_n O d6_readTank_38 0 rfl ?_
    refine r_aload_n O d6_readTank_39 1 rfl ?_
    refine r_iload_n O d6_readTank_40 2 rfl ?_
    refine r_callVi O (b := 0) (bv := fun ad => [.int p1]) (rest := [.int x2_1, .ref (aX X 12)]) (c6_code (lX X) p1 S9) (fun _ => rfl) (by decide) eM_0 rfl rfl w_772 w_774 w_21 w_51 w_775 hy_X6_code ⟨rfl, rfl, Nat.le_of_ble_eq_true rfl, Nat.le_of_ble_eq_true rfl⟩ rfl rfl (Nat.le_of_ble_eq_true rfl) d6_readTank_41 (fun r12 S11 => ?_)
    refine r_iconst O d6_readTank_44 (v := 0) (by decide) ?_
    refine r_bipush O d6_readTank_45 (v := 6) (by decide) ?_
    refine r_callSi O (rest := [.int x2_1, .ref (aX X 12)]) (c6_digitBy (lX X) r12 0 6 S11) w_787 w_788 w_51 w_789 hy_X6_digitBy ⟨rfl, rfl, Nat.le_of_ble_eq_true rfl, Nat.le_of_ble_eq_true rfl⟩ rfl rfl (Nat.le_of_ble_eq_true rfl) d6_readTank_47 (fun r14 S13 => ?_)
    refine r_iast O (j := 12) (by decide) (fun _ => eM_12) d6_readTank_50 (fun S16 => ?_)
    refine r_aload_n O d6_readTank_51 1 rfl ?_
    refine r_aload_n O d6_readTank_52 1 rfl ?_
    refine g_X6_44 O d6_readTank_53 ?_
    refine r_iload_n O d6_readTank_56 0 rfl ?_
    refine r_iald O (j := 12) (by decide) eM_12 d6_readTank_57 (fun k17 hk17 => ?_)
    refine r_callVi O (b := 0) (bv := fun ad => [.int (S16.1 12 k17)]) (rest := []) (c6_takes (lX X) (S16.1 12 k17) S16) (fun _ => rfl) (by decide) eM_0 rfl rfl w_783 w_785 w_23 w_51 w_786 hy_X6_takes ⟨rfl, rfl, Nat.le_of_ble_eq_true rfl, Nat.le_of_ble_eq_true rfl⟩ rfl rfl (Nat.le_of_ble_eq_true rfl) d6_readTank_58 (fun r19 S18 => ?_)
    refine r_if_ne O 66 d6_readTank_61 (by decide) ?_ ?_
    · refine r_aload_n O d6_readTank_66 1 rfl ?_
      refine g_X6_47 O d6_readTank_67 ?_
      refine r_iload_n O d6_readTank_70 0 rfl ?_
      refine r_aload_n O d6_readTank_71 1 rfl ?_
      refine r_iload_n O d6_readTank_72 2 rfl ?_
      refine r_callVi O (b := 0) (bv := fun ad => [.int p1]) (rest := [.int x2_1, .ref (aX X 13)]) (c6_code (lX X) p1 S18) (fun _ => rfl) (by decide) eM_0 rfl rfl w_772 w_774 w_21 w_51 w_775 hy_X6_code ⟨rfl, rfl, Nat.le_of_ble_eq_true rfl, Nat.le_of_ble_eq_true rfl⟩ rfl rfl (Nat.le_of_ble_eq_true rfl) d6_readTank_73 (fun r21 S20 => ?_)
      refine r_callSi O (rest := [.int x2_1, .ref (aX X 13)]) (c6_sideBy (lX X) r21 S20) w_790 w_791 w_51 w_792 hy_X6_sideBy ⟨rfl, rfl, Nat.le_of_ble_eq_true rfl, Nat.le_of_ble_eq_true rfl⟩ rfl rfl (Nat.le_of_ble_eq_true rfl) d6_readTank_76 (fun r23 S22 => ?_)
      refine r_iast O (j := 13) (by decide) (fun _ => eM_13) d6_readTank_79 (fun S25 => ?_)
      refine r_aload_n O d6_readTank_80 1 rfl ?_
      refine r_aload_n O d6_readTank_81 1 rfl ?_
      refine g_X6_47 O d6_readTank_82 ?_
      refine r_iload_n O d6_readTank_85 0 rfl ?_
      refine r_iald O (j := 13) (by decide) eM_13 d6_readTank_86 (fun k26 hk26 => ?_)
      refine r_callVi O (b := 0) (bv := fun ad => [.int (S25.1 13 k26)]) (rest := []) (c6_takes (lX X) (S25.1 13 k26) S25) (fun _ => rfl) (by decide) eM_0 rfl rfl w_783 w_785 w_23 w_51 w_786 hy_X6_takes ⟨rfl, rfl, Nat.le_of_ble_eq_true rfl, Nat.le_of_ble_eq_true rfl⟩ rfl rfl (Nat.le_of_ble_eq_true rfl) d6_readTank_87 (fun r28 S27 => ?_)
      refine r_if_ne O 95 d6_readTank_90 (by decide) ?_ ?_
      · refine r_aload_n O d6_readTank_95 1 rfl ?_
        refine g_X6_50 O d6_readTank_96 ?_
        refine r_iload_n O d6_readTank_99 0 rfl ?_
        refine r_aload_n O d6_readTank_100 1 rfl ?_
        refine r_iload_n O d6_readTank_101 2 rfl ?_
        refine r_callVi O (b := 0) (bv := fun ad => [.int p1]) (rest := [.int x2_1, .ref (aX X 14)]) (c6_code (lX X) p1 S27) (fun _ => rfl) (by decide) eM_0 rfl rfl w_772 w_774 w_21 w_51 w_775 hy_X6_code ⟨rfl, rfl, Nat.le_of_ble_eq_true rfl, Nat.le_of_ble_eq_true rfl⟩ rfl rfl (Nat.le_of_ble_eq_true rfl) d6_readTank_102 (fun r30 S29 => ?_)
        refine r_iconst O d6_readTank_105 (v := 1) (by decide) ?_
        refine r_bipush O d6_readTank_106 (v := 9) (by decide) ?_
        refine r_callSi O (rest := [.int x2_1, .ref (aX X 14)]) (c6_digitBy (lX X) r30 1 9 S29) w_787 w_788 w_51 w_789 hy_X6_digitBy ⟨rfl, rfl, Nat.le_of_ble_eq_true rfl, Nat.le_of_ble_eq_true rfl⟩ rfl rfl (Nat.le_of_ble_eq_true rfl) d6_readTank_108 (fun r32 S31 => ?_)
        refine r_iast O (j := 14) (by decide) (fun _ => eM_14) d6_readTank_111 (fun S34 => ?_)
        refine r_aload_n O d6_readTank_112 1 rfl ?_
        refine r_aload_n O d6_readTank_113 1 rfl ?_
        refine g_X6_50 O d6_readTank_114 ?_
        refine r_iload_n O d6_readTank_117 0 rfl ?_
        refine r_iald O (j := 14) (by decide) eM_14 d6_readTank_118 (fun k35 hk35 => ?_)
        refine r_callVi O (b := 0) (bv := fun ad => [.int (S34.1 14 k35)]) (rest := []) (c6_takes (lX X) (S34.1 14 k35) S34) (fun _ => rfl) (by decide) eM_0 rfl rfl w_783 w_785 w_23 w_51 w_786 hy_X6_takes ⟨rfl, rfl, Nat.le_of_ble_eq_true rfl, Nat.le_of_ble_eq_true rfl⟩ rfl rfl (Nat.le_of_ble_eq_true rfl) d6_readTank_119 (fun r37 S36 => ?_)
        refine r_if_ne O 127 d6_readTank_122 (by decide) ?_ ?_
        · refine r_aload_n O d6_readTank_127 1 rfl ?_
          refine r_iload_n O d6_readTank_128 2 rfl ?_
          refine r_callVi O (b := 0) (bv := fun ad => [.int p1]) (rest := []) (c6_code (lX X) p1 S36) (fun _ => rfl) (by decide) eM_0 rfl rfl w_772 w_774 w_21 w_51 w_775 hy_X6_code ⟨rfl, rfl, Nat.le_of_ble_eq_true rfl, Nat.le_of_ble_eq_true rfl⟩ rfl rfl (Nat.le_of_ble_eq_true rfl) d6_readTank_129 (fun r39 S38 => ?_)
          refine r_bipush O d6_readTank_132 (v := 101) (by decide) ?_
          refine r_icmp_ne O 141 d6_readTank_134 (by decide) ?_ ?_
          · refine r_aload_n O d6_readTank_141 1 rfl ?_
            refine r_iload_n O d6_readTank_142 2 rfl ?_
            refine r_callVi O (b := 0) (bv := fun ad => [.int p1]) (rest := []) (c6_code (lX X) p1 S38) (fun _ => rfl) (by decide) eM_0 rfl rfl w_772 w_774 w_21 w_51 w_775 hy_X6_code ⟨rfl, rfl, Nat.le_of_ble_eq_true rfl, Nat.le_of_ble_eq_true rfl⟩ rfl rfl (Nat.le_of_ble_eq_true rfl) d6_readTank_143 (fun r41 S40 => ?_)
            refine r_bipush O d6_readTank_146 (v := 111) (by decide) ?_
            refine r_icmp_ne O 155 d6_readTank_148 (by decide) ?_ ?_
            · refine r_bipush O d6_readTank_155 (v := (-9)) (by decide) ?_
              refine r_sub [1, 0] rfl ?_
              exact j6_readTank_157 O hQ
            · refine r_iconst O d6_readTank_151 (v := 1) (by decide) ?_
              refine r_goto O 157 d6_readTank_152 (by decide) ?_
              refine r_sub [1, 0] rfl ?_
              exact j6_readTank_157 O hQ
          · refine r_iconst O d6_readTank_137 (v := 0) (by decide) ?_
            refine r_goto O 157 d6_readTank_138 (by decide) ?_
            refine r_sub [1, 0] rfl ?_
            exact j6_readTank_157 O hQ
        · refine r_iconst O d6_readTank_125 (v := 0) (by decide) ?_
          exact r_zret O hQ (by decide) d6_readTank_126
      · refine r_iconst O d6_readTank_93 (v := 0) (by decide) ?_
        exact r_zret O hQ (by decide) d6_readTank_94
    · refine r_iconst O d6_readTank_64 (v := 0) (by decide) ?_
      exact r_zret O hQ (by decide) d6_readTank_65
  · refine r_iconst O d6_readTank_32 (v := 0) (by decide) ?_
    exact r_zret O hQ (by decide) d6_readTank_33
-- X6.readAll
theorem d6_readAll_0 : decode cX6_readAll 0 = .ok (.aload_n 0, 1) := by decide +kernel
theorem d6_readAll_1 : decode cX6_readAll 1 = .ok (.iconst 0, 1) := by decide +kernel
theorem d6_readAll_2 : decode cX6_readAll 2 = .ok (.putfield 95, 3) := by decide +kernel
theorem d6_readAll_5 : decode cX6_readAll 5 = .ok (.aload_n 0, 1) := by decide +kernel
theorem d6_readAll_6 : decode cX6_readAll 6 = .ok (.iconst 0, 1) := by decide +kernel
theorem d6_readAll_7 : decode cX6_readAll 7 = .ok (.putfield 116, 3) := by decide +kernel
theorem d6_readAll_10 : decode cX6_readAll 10 = .ok (.aload_n 0, 1) := by decide +kernel
theorem d6_readAll_11 : decode cX6_readAll 11 = .ok (.iconst 0, 1) := by decide +kernel
theorem d6_readAll_12 : decode cX6_readAll 12 = .ok (.putfield 119, 3) := by decide +kernel
theorem d6_readAll_15 : decode cX6_readAll 15 = .ok (.aload_n 0, 1) := by decide +kernel
theorem d6_readAll_16 : decode cX6_readAll 16 = .ok (.iload_n 1, 1) := by decide +kernel
theorem d6_readAll_17 : decode cX6_readAll 17 = .ok (.invokevirtual 98, 3) := by decide +kernel
theorem d6_readAll_20 : decode cX6_readAll 20 = .ok (.bipush 115, 2) := by decide +kernel
theorem d6_readAll_22 : decode cX6_readAll 22 = .ok (.if_icmp .eq 5, 3) := by decide +kernel
theorem d6_readAll_25 : decode cX6_readAll 25 = .ok (.iconst 0, 1) := by decide +kernel
theorem d6_readAll_26 : decode cX6_readAll 26 = .ok (.ireturn, 1) := by decide +kernel
theorem d6_readAll_27 : decode cX6_readAll 27 = .ok (.aload_n 0, 1) := by decide +kernel
theorem d6_readAll_28 : decode cX6_readAll 28 = .ok (.dup, 1) := by decide +kernel
theorem d6_readAll_29 : decode cX6_readAll 29 = .ok (.getfield 92, 3) := by decide +kernel
theorem d6_readAll_32 : decode cX6_readAll 32 = .ok (.iconst 1, 1) := by decide +kernel
theorem d6_readAll_33 : decode cX6_readAll 33 = .ok (.iadd, 1) := by decide +kernel
theorem d6_readAll_34 : decode cX6_readAll 34 = .ok (.putfield 92, 3) := by decide +kernel
theorem d6_readAll_37 : decode cX6_readAll 37 = .ok (.aload_n 0, 1) := by decide +kernel
theorem d6_readAll_38 : decode cX6_readAll 38 = .ok (.getfield 95, 3) := by decide +kernel
theorem d6_readAll_41 : decode cX6_readAll 41 = .ok (.ifCond .eq 22, 3) := by decide +kernel
theorem d6_readAll_44 : decode cX6_readAll 44 = .ok (.aload_n 0, 1) := by decide +kernel
theorem d6_readAll_45 : decode cX6_readAll 45 = .ok (.getfield 95, 3) := by decide +kernel
theorem d6_readAll_48 : decode cX6_readAll 48 = .ok (.bipush 6, 2) := by decide +kernel
theorem d6_readAll_50 : decode cX6_readAll 50 = .ok (.if_icmp .ge 45, 3) := by decide +kernel
theorem d6_readAll_53 : decode cX6_readAll 53 = .ok (.aload_n 0, 1) := by decide +kernel
theorem d6_readAll_54 : decode cX6_readAll 54 = .ok (.iload_n 1, 1) := by decide +kernel
theorem d6_readAll_55 : decode cX6_readAll 55 = .ok (.invokevirtual 98, 3) := by decide +kernel
theorem d6_readAll_58 : decode cX6_readAll 58 = .ok (.bipush 59, 2) := by decide +kernel
theorem d6_readAll_60 : decode cX6_readAll 60 = .ok (.if_icmp .ne 35, 3) := by decide +kernel
theorem d6_readAll_63 : decode cX6_readAll 63 = .ok (.aload_n 0, 1) := by decide +kernel
theorem d6_readAll_64 : decode cX6_readAll 64 = .ok (.iload_n 1, 1) := by decide +kernel
theorem d6_readAll_65 : decode cX6_readAll 65 = .ok (.invokevirtual 98, 3) := by decide +kernel
theorem d6_readAll_68 : decode cX6_readAll 68 = .ok (.bipush 59, 2) := by decide +kernel
theorem d6_readAll_70 : decode cX6_readAll 70 = .ok (.if_icmp .eq 5, 3) := by decide +kernel
theorem d6_readAll_73 : decode cX6_readAll 73 = .ok (.iconst 0, 1) := by decide +kernel
theorem d6_readAll_74 : decode cX6_readAll 74 = .ok (.ireturn, 1) := by decide +kernel
theorem d6_readAll_75 : decode cX6_readAll 75 = .ok (.aload_n 0, 1) := by decide +kernel
theorem d6_readAll_76 : decode cX6_readAll 76 = .ok (.dup, 1) := by decide +kernel
theorem d6_readAll_77 : decode cX6_readAll 77 = .ok (.getfield 92, 3) := by decide +kernel
theorem d6_readAll_80 : decode cX6_readAll 80 = .ok (.iconst 1, 1) := by decide +kernel
theorem d6_readAll_81 : decode cX6_readAll 81 = .ok (.iadd, 1) := by decide +kernel
theorem d6_readAll_82 : decode cX6_readAll 82 = .ok (.putfield 92, 3) := by decide +kernel
theorem d6_readAll_85 : decode cX6_readAll 85 = .ok (.aload_n 0, 1) := by decide +kernel
theorem d6_readAll_86 : decode cX6_readAll 86 = .ok (.iload_n 1, 1) := by decide +kernel
theorem d6_readAll_87 : decode cX6_readAll 87 = .ok (.invokevirtual 122, 3) := by decide +kernel
theorem d6_readAll_90 : decode cX6_readAll 90 = .ok (.ifCond .ne (-53), 3) := by decide +kernel
theorem d6_readAll_93 : decode cX6_readAll 93 = .ok (.iconst 0, 1) := by decide +kernel
theorem d6_readAll_94 : decode cX6_readAll 94 = .ok (.ireturn, 1) := by decide +kernel
theorem d6_readAll_95 : decode cX6_readAll 95 = .ok (.aload_n 0, 1) := by decide +kernel
theorem d6_readAll_96 : decode cX6_readAll 96 = .ok (.getfield 92, 3) := by decide +kernel
theorem d6_readAll_99 : decode cX6_readAll 99 = .ok (.iload_n 1, 1) := by decide +kernel
theorem d6_readAll_100 : decode cX6_readAll 100 = .ok (.if_icmp .ne 7, 3) := by decide +kernel
theorem d6_readAll_103 : decode cX6_readAll 103 = .ok (.iconst 1, 1) := by decide +kernel
theorem d6_readAll_104 : decode cX6_readAll 104 = .ok (.goto 4, 3) := by decide +kernel
theorem d6_readAll_107 : decode cX6_readAll 107 = .ok (.iconst 0, 1) := by decide +kernel
theorem d6_readAll_108 : decode cX6_readAll 108 = .ok (.ireturn, 1) := by decide +kernel
noncomputable def f6_readAll_J63 {α : Type} (c1 : Int32) (S : MS) (K : Int32 → MS → Option α) (KB : MS → Option α) (KX : MS → Option α) : Option α := f6_code c1 S fun r8 S7 => if r8 = 59 then (nm (sI S7 0 15 ((S7.1 0 15) + 1)) fun S9 => f6_readTank c1 S9 fun r11 S10 => if r11 = 0 then (K 0 S10) else (KB S10)) else (K 0 S7)
noncomputable def f6_readAll_L37 {α : Type} (c1 : Int32) (K : Int32 → MS → Option α) (KX : MS → Option α) : Nat → MS → Option α
  | 0, _ => none
  | n + 1, S => if (S.1 0 16) = 0 then (f6_readAll_J63 c1 S K (f6_readAll_L37 c1 K KX n) KX) else (if 6 ≤ (S.1 0 16) then (KX S) else (f6_code c1 S fun r13 S12 => if r13 = 59 then (f6_readAll_J63 c1 S12 K (f6_readAll_L37 c1 K KX n) KX) else (KX S12)))
noncomputable def f6_readAll {α : Type} (p1 : Int32) (S : MS) (K : Int32 → MS → Option α) : Option α := nm (sI S 0 16 0) fun S1 => nm (sI S1 0 17 0) fun S2 => nm (sI S2 0 18 0) fun S3 => f6_code p1 S3 fun r5 S4 => if r5 = 115 then (nm (sI S4 0 15 ((S4.1 0 15) + 1)) fun S6 => f6_readAll_L37 p1 K (fun S14 => if (S14.1 0 15) = p1 then (K 1 S14) else (K 0 S14)) FU S6) else (K 0 S4)
set_option maxHeartbeats 4000000 in
set_option maxRecDepth 100000 in
theorem j6_readAll_63 {α : Type} {X : GX α} (O : OK 22 X RX6 cX6_readAll 2 (some .boolean) (rmG 3 70)) {K : Int32 → MS → Option α} (hQ : RtI 22 eM X K) {c1 : Int32} {S : MS} {KB : MS → Option α} {KX : MS → Option α} (hB : ∀ S, GM 22 eM X (KB S) S 37 [(0, .ref (aX X 0)), (1, .int c1)] []) (hX : ∀ S, GM 22 eM X (KX S) S 95 [(0, .ref (aX X 0)), (1, .int c1)] []) : GM 22 eM X (f6_readAll_J63 c1 S K KB KX) S 63 [(0, .ref (aX X 0)), (1, .int c1)] [] := by
  unfold f6_readAll_J63
  refine r_aload_n O d6_readAll_63 0 rfl ?_
  refine r_iload_n O d6_readAll_64 1 rfl ?_
  refine r_callVi O (b := 0) (bv := fun ad => [.int c1]) (rest := []) (c6_code (lX X) c1 S) (fun _ => rfl) (by decide) eM_0 rfl rfl w_772 w_774 w_21 w_51 w_775 hy_X6_code ⟨rfl, rfl, Nat.le_of_ble_eq_true rfl, Nat.le_of_ble_eq_true rfl⟩ rfl rfl (Nat.le_of_ble_eq_true rfl) d6_readAll_65 (fun r8 S7 => ?_)
  refine r_bipush O d6_readAll_68 (v := 59) (by decide) ?_
  refine r_icmp_eq O 75 d6_readAll_70 (by decide) ?_ ?_
  · refine r_aload_n O d6_readAll_75 0 rfl ?_
    refine r_dup O d6_readAll_76 rfl ?_
    refine g_X6_92 O d6_readAll_77 ?_
    refine r_iconst O d6_readAll_80 (v := 1) (by decide) ?_
    refine r_iadd O d6_readAll_81 ?_
    refine p_X6_92 O d6_readAll_82 (fun S9 => ?_)
    refine r_aload_n O d6_readAll_85 0 rfl ?_
    refine r_iload_n O d6_readAll_86 1 rfl ?_
    refine r_callVi O (b := 0) (bv := fun ad => [.int c1]) (rest := []) (c6_readTank (lX X) c1 S9) (fun _ => rfl) (by decide) eM_0 rfl rfl w_776 w_778 w_22 w_51 w_779 hy_X6_readTank ⟨rfl, rfl, Nat.le_of_ble_eq_true rfl, Nat.le_of_ble_eq_true rfl⟩ rfl rfl (Nat.le_of_ble_eq_true rfl) d6_readAll_87 (fun r11 S10 => ?_)
    refine r_if_ne O 37 d6_readAll_90 (by decide) ?_ ?_
    · refine r_sub [0, 1] rfl ?_
      exact hB _
    · refine r_iconst O d6_readAll_93 (v := 0) (by decide) ?_
      exact r_zret O hQ (by decide) d6_readAll_94
  · refine r_iconst O d6_readAll_73 (v := 0) (by decide) ?_
    exact r_zret O hQ (by decide) d6_readAll_74
set_option maxHeartbeats 4000000 in
set_option maxRecDepth 100000 in
theorem l6_readAll_37 {α : Type} {X : GX α} (O : OK 22 X RX6 cX6_readAll 2 (some .boolean) (rmG 3 70)) {K : Int32 → MS → Option α} (hQ : RtI 22 eM X K) {c1 : Int32} {KX : MS → Option α} (hX : ∀ S, GM 22 eM X (KX S) S 95 [(0, .ref (aX X 0)), (1, .int c1)] []) : ∀ n S, GM 22 eM X (f6_readAll_L37 c1 K KX n S) S 37 [(0, .ref (aX X 0)), (1, .int c1)] [] := by
  intro n
  induction n with
  | zero => intro S; exact r_none
  | succ n ih =>
    intro S
    rw [f6_readAll_L37]
    refine r_aload_n O d6_readAll_37 0 rfl ?_
    refine g_X6_95 O d6_readAll_38 ?_
    refine r_if_eq O 63 d6_readAll_41 (by decide) ?_ ?_
    · refine r_sub [0, 1] rfl ?_
      exact j6_readAll_63 O hQ (fun _ => ih _) hX
    · refine r_aload_n O d6_readAll_44 0 rfl ?_
      refine g_X6_95 O d6_readAll_45 ?_
      refine r_bipush O d6_readAll_48 (v := 6) (by decide) ?_
      refine r_icmp_ge O 95 d6_readAll_50 (by decide) ?_ ?_
      · refine r_sub [0, 1] rfl ?_
        exact hX _
      · refine r_aload_n O d6_readAll_53 0 rfl ?_
        refine r_iload_n O d6_readAll_54 1 rfl ?_
        refine r_callVi O (b := 0) (bv := fun ad => [.int c1]) (rest := []) (c6_code (lX X) c1 S) (fun _ => rfl) (by decide) eM_0 rfl rfl w_772 w_774 w_21 w_51 w_775 hy_X6_code ⟨rfl, rfl, Nat.le_of_ble_eq_true rfl, Nat.le_of_ble_eq_true rfl⟩ rfl rfl (Nat.le_of_ble_eq_true rfl) d6_readAll_55 (fun r13 S12 => ?_)
        refine r_bipush O d6_readAll_58 (v := 59) (by decide) ?_
        refine r_icmp_ne O 95 d6_readAll_60 (by decide) ?_ ?_
        · refine r_sub [0, 1] rfl ?_
          exact hX _
        · refine r_sub [0, 1] rfl ?_
          exact j6_readAll_63 O hQ (fun _ => ih _) hX
set_option maxHeartbeats 4000000 in
set_option maxRecDepth 100000 in
theorem c6_readAll (l : Launch) (p1 : Int32) (S : MS) {α : Type} : CtI 22 eM l yX6_readAll cX6_readAll 2 (some .boolean) (rmG 3 70) S (fun ad => [.ref (ad 0), .int p1]) (α := α) (f6_readAll p1 S) := by
  refine CtI.of (by decide) (fun _ => Nat.le_of_ble_eq_true rfl) (fun X K _ O hQ => ?_)
  have O : OK 22 X RX6 cX6_readAll 2 (some .boolean) (rmG 3 70) := O
  show GM 22 eM X (f6_readAll p1 S K) S 0 [(0, .ref (aX X 0)), (1, .int p1)] []
  unfold f6_readAll
  refine r_aload_n O d6_readAll_0 0 rfl ?_
  refine r_iconst O d6_readAll_1 (v := 0) (by decide) ?_
  refine p_X6_95 O d6_readAll_2 (fun S1 => ?_)
  refine r_aload_n O d6_readAll_5 0 rfl ?_
  refine r_iconst O d6_readAll_6 (v := 0) (by decide) ?_
  refine p_X6_116 O d6_readAll_7 (fun S2 => ?_)
  refine r_aload_n O d6_readAll_10 0 rfl ?_
  refine r_iconst O d6_readAll_11 (v := 0) (by decide) ?_
  refine p_X6_119 O d6_readAll_12 (fun S3 => ?_)
  refine r_aload_n O d6_readAll_15 0 rfl ?_
  refine r_iload_n O d6_readAll_16 1 rfl ?_
  refine r_callVi O (b := 0) (bv := fun ad => [.int p1]) (rest := []) (c6_code (lX X) p1 S3) (fun _ => rfl) (by decide) eM_0 rfl rfl w_772 w_774 w_21 w_51 w_775 hy_X6_code ⟨rfl, rfl, Nat.le_of_ble_eq_true rfl, Nat.le_of_ble_eq_true rfl⟩ rfl rfl (Nat.le_of_ble_eq_true rfl) d6_readAll_17 (fun r5 S4 => ?_)
  refine r_bipush O d6_readAll_20 (v := 115) (by decide) ?_
  refine r_icmp_eq O 27 d6_readAll_22 (by decide) ?_ ?_
  · refine r_aload_n O d6_readAll_27 0 rfl ?_
    refine r_dup O d6_readAll_28 rfl ?_
    refine g_X6_92 O d6_readAll_29 ?_
    refine r_iconst O d6_readAll_32 (v := 1) (by decide) ?_
    refine r_iadd O d6_readAll_33 ?_
    refine p_X6_92 O d6_readAll_34 (fun S6 => ?_)
    refine r_sub [0, 1] rfl ?_
    refine l6_readAll_37 O hQ (fun S14 => ?_) _ _
    refine r_aload_n O d6_readAll_95 0 rfl ?_
    refine g_X6_92 O d6_readAll_96 ?_
    refine r_iload_n O d6_readAll_99 1 rfl ?_
    refine r_icmp_ne O 107 d6_readAll_100 (by decide) ?_ ?_
    · refine r_iconst O d6_readAll_107 (v := 0) (by decide) ?_
      exact r_zret O hQ (by decide) d6_readAll_108
    · refine r_iconst O d6_readAll_103 (v := 1) (by decide) ?_
      refine r_goto O 108 d6_readAll_104 (by decide) ?_
      exact r_zret O hQ (by decide) d6_readAll_108
  · refine r_iconst O d6_readAll_25 (v := 0) (by decide) ?_
    exact r_zret O hQ (by decide) d6_readAll_26
-- X6.fails
theorem d6_fails_0 : decode cX6_fails 0 = .ok (.aload_n 0, 1) := by decide +kernel
theorem d6_fails_1 : decode cX6_fails 1 = .ok (.iload_n 1, 1) := by decide +kernel
theorem d6_fails_2 : decode cX6_fails 2 = .ok (.putfield 75, 3) := by decide +kernel
theorem d6_fails_5 : decode cX6_fails 5 = .ok (.bipush (-10), 2) := by decide +kernel
theorem d6_fails_7 : decode cX6_fails 7 = .ok (.iload_n 1, 1) := by decide +kernel
theorem d6_fails_8 : decode cX6_fails 8 = .ok (.isub, 1) := by decide +kernel
theorem d6_fails_9 : decode cX6_fails 9 = .ok (.ireturn, 1) := by decide +kernel
noncomputable def f6_fails {α : Type} (p1 : Int32) (S : MS) (K : Int32 → MS → Option α) : Option α := nm (sI S 0 0 p1) fun S1 => K ((-10) - p1) S1
set_option maxHeartbeats 4000000 in
set_option maxRecDepth 100000 in
theorem c6_fails (l : Launch) (p1 : Int32) (S : MS) {α : Type} : CtI 22 eM l yX6_fails cX6_fails 2 (some .int) (rmG 0 0) S (fun ad => [.ref (ad 0), .int p1]) (α := α) (f6_fails p1 S) := by
  refine CtI.of (by decide) (fun _ => Nat.le_of_ble_eq_true rfl) (fun X K _ O hQ => ?_)
  have O : OK 22 X RX6 cX6_fails 2 (some .int) (rmG 0 0) := O
  show GM 22 eM X (f6_fails p1 S K) S 0 [(0, .ref (aX X 0)), (1, .int p1)] []
  unfold f6_fails
  refine r_aload_n O d6_fails_0 0 rfl ?_
  refine r_iload_n O d6_fails_1 1 rfl ?_
  refine p_X6_75 O d6_fails_2 (fun S1 => ?_)
  refine r_bipush O d6_fails_5 (v := (-10)) (by decide) ?_
  refine r_iload_n O d6_fails_7 1 rfl ?_
  refine r_isub O d6_fails_8 ?_
  exact r_iret O hQ d6_fails_9
-- X6.ship
theorem d6_ship_0 : decode cX6_ship 0 = .ok (.aload_n 0, 1) := by decide +kernel
theorem d6_ship_1 : decode cX6_ship 1 = .ok (.iconst 0, 1) := by decide +kernel
theorem d6_ship_2 : decode cX6_ship 2 = .ok (.putfield 75, 3) := by decide +kernel
theorem d6_ship_5 : decode cX6_ship 5 = .ok (.iload_n 1, 1) := by decide +kernel
theorem d6_ship_6 : decode cX6_ship 6 = .ok (.invokestatic 125, 3) := by decide +kernel
theorem d6_ship_9 : decode cX6_ship 9 = .ok (.ifCond .ne 5, 3) := by decide +kernel
theorem d6_ship_12 : decode cX6_ship 12 = .ok (.iconst (-1), 1) := by decide +kernel
theorem d6_ship_13 : decode cX6_ship 13 = .ok (.ireturn, 1) := by decide +kernel
theorem d6_ship_14 : decode cX6_ship 14 = .ok (.iload_n 2, 1) := by decide +kernel
theorem d6_ship_15 : decode cX6_ship 15 = .ok (.invokestatic 128, 3) := by decide +kernel
theorem d6_ship_18 : decode cX6_ship 18 = .ok (.ifCond .ne 6, 3) := by decide +kernel
theorem d6_ship_21 : decode cX6_ship 21 = .ok (.bipush (-2), 2) := by decide +kernel
theorem d6_ship_23 : decode cX6_ship 23 = .ok (.ireturn, 1) := by decide +kernel
theorem d6_ship_24 : decode cX6_ship 24 = .ok (.aload_n 0, 1) := by decide +kernel
theorem d6_ship_25 : decode cX6_ship 25 = .ok (.iload_n 1, 1) := by decide +kernel
theorem d6_ship_26 : decode cX6_ship 26 = .ok (.iload_n 2, 1) := by decide +kernel
theorem d6_ship_27 : decode cX6_ship 27 = .ok (.iload_n 3, 1) := by decide +kernel
theorem d6_ship_28 : decode cX6_ship 28 = .ok (.iload 4, 2) := by decide +kernel
theorem d6_ship_30 : decode cX6_ship 30 = .ok (.invokevirtual 131, 3) := by decide +kernel
theorem d6_ship_33 : decode cX6_ship 33 = .ok (.istore 5, 2) := by decide +kernel
theorem d6_ship_35 : decode cX6_ship 35 = .ok (.iload 5, 2) := by decide +kernel
theorem d6_ship_37 : decode cX6_ship 37 = .ok (.ifCond .eq 10, 3) := by decide +kernel
theorem d6_ship_40 : decode cX6_ship 40 = .ok (.aload_n 0, 1) := by decide +kernel
theorem d6_ship_41 : decode cX6_ship 41 = .ok (.iload 5, 2) := by decide +kernel
theorem d6_ship_43 : decode cX6_ship 43 = .ok (.invokevirtual 135, 3) := by decide +kernel
theorem d6_ship_46 : decode cX6_ship 46 = .ok (.ireturn, 1) := by decide +kernel
theorem d6_ship_47 : decode cX6_ship 47 = .ok (.bipush 60, 2) := by decide +kernel
theorem d6_ship_49 : decode cX6_ship 49 = .ok (.iload_n 1, 1) := by decide +kernel
theorem d6_ship_50 : decode cX6_ship 50 = .ok (.imul, 1) := by decide +kernel
theorem d6_ship_51 : decode cX6_ship 51 = .ok (.iload_n 3, 1) := by decide +kernel
theorem d6_ship_52 : decode cX6_ship 52 = .ok (.iadd, 1) := by decide +kernel
theorem d6_ship_53 : decode cX6_ship 53 = .ok (.istore 6, 2) := by decide +kernel
theorem d6_ship_55 : decode cX6_ship 55 = .ok (.aload_n 0, 1) := by decide +kernel
theorem d6_ship_56 : decode cX6_ship 56 = .ok (.iload 6, 2) := by decide +kernel
theorem d6_ship_58 : decode cX6_ship 58 = .ok (.putfield 92, 3) := by decide +kernel
theorem d6_ship_61 : decode cX6_ship 61 = .ok (.aload_n 0, 1) := by decide +kernel
theorem d6_ship_62 : decode cX6_ship 62 = .ok (.iload 6, 2) := by decide +kernel
theorem d6_ship_64 : decode cX6_ship 64 = .ok (.iload 4, 2) := by decide +kernel
theorem d6_ship_66 : decode cX6_ship 66 = .ok (.iadd, 1) := by decide +kernel
theorem d6_ship_67 : decode cX6_ship 67 = .ok (.invokevirtual 138, 3) := by decide +kernel
theorem d6_ship_70 : decode cX6_ship 70 = .ok (.ifCond .ne 14, 3) := by decide +kernel
theorem d6_ship_73 : decode cX6_ship 73 = .ok (.bipush (-100), 2) := by decide +kernel
theorem d6_ship_75 : decode cX6_ship 75 = .ok (.aload_n 0, 1) := by decide +kernel
theorem d6_ship_76 : decode cX6_ship 76 = .ok (.getfield 92, 3) := by decide +kernel
theorem d6_ship_79 : decode cX6_ship 79 = .ok (.iload 6, 2) := by decide +kernel
theorem d6_ship_81 : decode cX6_ship 81 = .ok (.isub, 1) := by decide +kernel
theorem d6_ship_82 : decode cX6_ship 82 = .ok (.isub, 1) := by decide +kernel
theorem d6_ship_83 : decode cX6_ship 83 = .ok (.ireturn, 1) := by decide +kernel
theorem d6_ship_84 : decode cX6_ship 84 = .ok (.aload_n 0, 1) := by decide +kernel
theorem d6_ship_85 : decode cX6_ship 85 = .ok (.aload_n 0, 1) := by decide +kernel
theorem d6_ship_86 : decode cX6_ship 86 = .ok (.getfield 95, 3) := by decide +kernel
theorem d6_ship_89 : decode cX6_ship 89 = .ok (.putfield 89, 3) := by decide +kernel
theorem d6_ship_92 : decode cX6_ship 92 = .ok (.iconst 0, 1) := by decide +kernel
theorem d6_ship_93 : decode cX6_ship 93 = .ok (.istore 7, 2) := by decide +kernel
theorem d6_ship_95 : decode cX6_ship 95 = .ok (.iload 7, 2) := by decide +kernel
theorem d6_ship_97 : decode cX6_ship 97 = .ok (.aload_n 0, 1) := by decide +kernel
theorem d6_ship_98 : decode cX6_ship 98 = .ok (.getfield 89, 3) := by decide +kernel
theorem d6_ship_101 : decode cX6_ship 101 = .ok (.if_icmp .ge 73, 3) := by decide +kernel
theorem d6_ship_104 : decode cX6_ship 104 = .ok (.aload_n 0, 1) := by decide +kernel
theorem d6_ship_105 : decode cX6_ship 105 = .ok (.getfield 22, 3) := by decide +kernel
theorem d6_ship_108 : decode cX6_ship 108 = .ok (.iload 7, 2) := by decide +kernel
theorem d6_ship_110 : decode cX6_ship 110 = .ok (.aload_n 0, 1) := by decide +kernel
theorem d6_ship_111 : decode cX6_ship 111 = .ok (.getfield 41, 3) := by decide +kernel
theorem d6_ship_114 : decode cX6_ship 114 = .ok (.iload 7, 2) := by decide +kernel
theorem d6_ship_116 : decode cX6_ship 116 = .ok (.iaload, 1) := by decide +kernel
theorem d6_ship_117 : decode cX6_ship 117 = .ok (.iastore, 1) := by decide +kernel
theorem d6_ship_118 : decode cX6_ship 118 = .ok (.aload_n 0, 1) := by decide +kernel
theorem d6_ship_119 : decode cX6_ship 119 = .ok (.getfield 25, 3) := by decide +kernel
theorem d6_ship_122 : decode cX6_ship 122 = .ok (.iload 7, 2) := by decide +kernel
theorem d6_ship_124 : decode cX6_ship 124 = .ok (.aload_n 0, 1) := by decide +kernel
theorem d6_ship_125 : decode cX6_ship 125 = .ok (.getfield 44, 3) := by decide +kernel
theorem d6_ship_128 : decode cX6_ship 128 = .ok (.iload 7, 2) := by decide +kernel
theorem d6_ship_130 : decode cX6_ship 130 = .ok (.iaload, 1) := by decide +kernel
theorem d6_ship_131 : decode cX6_ship 131 = .ok (.iastore, 1) := by decide +kernel
theorem d6_ship_132 : decode cX6_ship 132 = .ok (.aload_n 0, 1) := by decide +kernel
theorem d6_ship_133 : decode cX6_ship 133 = .ok (.getfield 28, 3) := by decide +kernel
theorem d6_ship_136 : decode cX6_ship 136 = .ok (.iload 7, 2) := by decide +kernel
theorem d6_ship_138 : decode cX6_ship 138 = .ok (.aload_n 0, 1) := by decide +kernel
theorem d6_ship_139 : decode cX6_ship 139 = .ok (.getfield 47, 3) := by decide +kernel
theorem d6_ship_142 : decode cX6_ship 142 = .ok (.iload 7, 2) := by decide +kernel
theorem d6_ship_144 : decode cX6_ship 144 = .ok (.iaload, 1) := by decide +kernel
theorem d6_ship_145 : decode cX6_ship 145 = .ok (.iastore, 1) := by decide +kernel
theorem d6_ship_146 : decode cX6_ship 146 = .ok (.aload_n 0, 1) := by decide +kernel
theorem d6_ship_147 : decode cX6_ship 147 = .ok (.getfield 31, 3) := by decide +kernel
theorem d6_ship_150 : decode cX6_ship 150 = .ok (.iload 7, 2) := by decide +kernel
theorem d6_ship_152 : decode cX6_ship 152 = .ok (.aload_n 0, 1) := by decide +kernel
theorem d6_ship_153 : decode cX6_ship 153 = .ok (.getfield 50, 3) := by decide +kernel
theorem d6_ship_156 : decode cX6_ship 156 = .ok (.iload 7, 2) := by decide +kernel
theorem d6_ship_158 : decode cX6_ship 158 = .ok (.iaload, 1) := by decide +kernel
theorem d6_ship_159 : decode cX6_ship 159 = .ok (.iastore, 1) := by decide +kernel
theorem d6_ship_160 : decode cX6_ship 160 = .ok (.aload_n 0, 1) := by decide +kernel
theorem d6_ship_161 : decode cX6_ship 161 = .ok (.getfield 34, 3) := by decide +kernel
theorem d6_ship_164 : decode cX6_ship 164 = .ok (.iload 7, 2) := by decide +kernel
theorem d6_ship_166 : decode cX6_ship 166 = .ok (.iconst 0, 1) := by decide +kernel
theorem d6_ship_167 : decode cX6_ship 167 = .ok (.bastore, 1) := by decide +kernel
theorem d6_ship_168 : decode cX6_ship 168 = .ok (.iinc 7 1, 3) := by decide +kernel
theorem d6_ship_171 : decode cX6_ship 171 = .ok (.goto (-76), 3) := by decide +kernel
theorem d6_ship_174 : decode cX6_ship 174 = .ok (.iconst 0, 1) := by decide +kernel
theorem d6_ship_175 : decode cX6_ship 175 = .ok (.istore 7, 2) := by decide +kernel
theorem d6_ship_177 : decode cX6_ship 177 = .ok (.iload 7, 2) := by decide +kernel
theorem d6_ship_179 : decode cX6_ship 179 = .ok (.iconst 3, 1) := by decide +kernel
theorem d6_ship_180 : decode cX6_ship 180 = .ok (.if_icmp .ge 19, 3) := by decide +kernel
theorem d6_ship_183 : decode cX6_ship 183 = .ok (.aload_n 0, 1) := by decide +kernel
theorem d6_ship_184 : decode cX6_ship 184 = .ok (.getfield 38, 3) := by decide +kernel
theorem d6_ship_187 : decode cX6_ship 187 = .ok (.iload 7, 2) := by decide +kernel
theorem d6_ship_189 : decode cX6_ship 189 = .ok (.sipush 999, 3) := by decide +kernel
theorem d6_ship_192 : decode cX6_ship 192 = .ok (.iastore, 1) := by decide +kernel
theorem d6_ship_193 : decode cX6_ship 193 = .ok (.iinc 7 1, 3) := by decide +kernel
theorem d6_ship_196 : decode cX6_ship 196 = .ok (.goto (-19), 3) := by decide +kernel
theorem d6_ship_199 : decode cX6_ship 199 = .ok (.aload_n 0, 1) := by decide +kernel
theorem d6_ship_200 : decode cX6_ship 200 = .ok (.aload_n 0, 1) := by decide +kernel
theorem d6_ship_201 : decode cX6_ship 201 = .ok (.getfield 116, 3) := by decide +kernel
theorem d6_ship_204 : decode cX6_ship 204 = .ok (.putfield 141, 3) := by decide +kernel
theorem d6_ship_207 : decode cX6_ship 207 = .ok (.aload_n 0, 1) := by decide +kernel
theorem d6_ship_208 : decode cX6_ship 208 = .ok (.aload_n 0, 1) := by decide +kernel
theorem d6_ship_209 : decode cX6_ship 209 = .ok (.getfield 119, 3) := by decide +kernel
theorem d6_ship_212 : decode cX6_ship 212 = .ok (.putfield 144, 3) := by decide +kernel
theorem d6_ship_215 : decode cX6_ship 215 = .ok (.aload_n 0, 1) := by decide +kernel
theorem d6_ship_216 : decode cX6_ship 216 = .ok (.iconst 0, 1) := by decide +kernel
theorem d6_ship_217 : decode cX6_ship 217 = .ok (.putfield 147, 3) := by decide +kernel
theorem d6_ship_220 : decode cX6_ship 220 = .ok (.aload_n 0, 1) := by decide +kernel
theorem d6_ship_221 : decode cX6_ship 221 = .ok (.iconst 0, 1) := by decide +kernel
theorem d6_ship_222 : decode cX6_ship 222 = .ok (.putfield 150, 3) := by decide +kernel
theorem d6_ship_225 : decode cX6_ship 225 = .ok (.aload_n 0, 1) := by decide +kernel
theorem d6_ship_226 : decode cX6_ship 226 = .ok (.getfield 89, 3) := by decide +kernel
theorem d6_ship_229 : decode cX6_ship 229 = .ok (.ireturn, 1) := by decide +kernel
noncomputable def f6_ship_L95 {α : Type} (KX : Int32 → MS → Option α) : Nat → Int32 → MS → Option α
  | 0, _, _ => none
  | n + 1, v7, S => if (S.1 0 6) ≤ v7 then (KX v7 S) else (ck v7 6 fun k13 => ck v7 6 fun k14 => nm (sI S 5 k14 (S.1 11 k13)) fun S15 => ck v7 6 fun k16 => ck v7 6 fun k17 => nm (sI S15 6 k17 (S15.1 12 k16)) fun S18 => ck v7 6 fun k19 => ck v7 6 fun k20 => nm (sI S18 7 k20 (S18.1 13 k19)) fun S21 => ck v7 6 fun k22 => ck v7 6 fun k23 => nm (sI S21 8 k23 (S21.1 14 k22)) fun S24 => ck v7 6 fun k25 => nm (sI S24 9 k25 (vp_nar .boolean 0)) fun S26 => nm (v7 + 1) fun x7_27 => f6_ship_L95 KX n x7_27 S26)
noncomputable def f6_ship_L177 {α : Type} (KX : Int32 → MS → Option α) : Nat → Int32 → MS → Option α
  | 0, _, _ => none
  | n + 1, v7, S => if 3 ≤ v7 then (KX v7 S) else (ck v7 3 fun k30 => nm (sI S 10 k30 999) fun S31 => nm (v7 + 1) fun x7_32 => f6_ship_L177 KX n x7_32 S31)
noncomputable def f6_ship {α : Type} (p1 : Int32) (p2 : Int32) (p3 : Int32) (p4 : Int32) (S : MS) (K : Int32 → MS → Option α) : Option α := nm (sI S 0 0 0) fun S1 => f6_isSheet p1 S1 fun r3 S2 => if r3 = 0 then (K (-1) S2) else (f6_isSort p2 S2 fun r5 S4 => if r5 = 0 then (K (-2) S4) else (f6_against p1 p2 p3 p4 S4 fun r7 S6 => if r7 = 0 then (nm (((60 : Int32) * p1) + p3) fun x6_8 => nm (sI S6 0 15 x6_8) fun S9 => f6_readAll (x6_8 + p4) S9 fun r11 S10 => if r11 = 0 then (K ((-100) - ((S10.1 0 15) - x6_8)) S10) else (nm (sI S10 0 6 (S10.1 0 16)) fun S12 => f6_ship_L95 (fun v7_29 S28 => f6_ship_L177 (fun v7_34 S33 => nm (sI S33 0 14 (S33.1 0 17)) fun S35 => nm (sI S35 0 13 (S35.1 0 18)) fun S36 => nm (sI S36 0 34 0) fun S37 => nm (sI S37 0 28 0) fun S38 => K (S38.1 0 6) S38) FU 0 S28) FU 0 S12)) else (f6_fails r7 S6 fun r40 S39 => K r40 S39)))
set_option maxHeartbeats 4000000 in
set_option maxRecDepth 100000 in
theorem l6_ship_95 {α : Type} {X : GX α} (O : OK 22 X RX6 cX6_ship 8 (some .int) (rmG 4 91)) {KX : Int32 → MS → Option α} (hX : ∀ v7 S, GM 22 eM X (KX v7 S) S 174 [(0, .ref (aX X 0)), (7, .int v7)] []) : ∀ n v7 S, GM 22 eM X (f6_ship_L95 KX n v7 S) S 95 [(0, .ref (aX X 0)), (7, .int v7)] [] := by
  intro n
  induction n with
  | zero => intro v7 S; exact r_none
  | succ n ih =>
    intro v7 S
    rw [f6_ship_L95]
    refine r_iload O d6_ship_95 1 rfl ?_
    refine r_aload_n O d6_ship_97 0 rfl ?_
    refine g_X6_89 O d6_ship_98 ?_
    refine r_icmp_ge O 174 d6_ship_101 (by decide) ?_ ?_
    · refine r_sub [0, 1] rfl ?_
      exact hX _ _
    · refine r_aload_n O d6_ship_104 0 rfl ?_
      refine g_X6_22 O d6_ship_105 ?_
      refine r_iload O d6_ship_108 1 rfl ?_
      refine r_aload_n O d6_ship_110 0 rfl ?_
      refine g_X6_41 O d6_ship_111 ?_
      refine r_iload O d6_ship_114 1 rfl ?_
      refine r_iald O (j := 11) (by decide) eM_11 d6_ship_116 (fun k13 hk13 => ?_)
      refine r_iast O (j := 5) (by decide) (fun _ => eM_5) d6_ship_117 (fun S15 => ?_)
      refine r_aload_n O d6_ship_118 0 rfl ?_
      refine g_X6_25 O d6_ship_119 ?_
      refine r_iload O d6_ship_122 1 rfl ?_
      refine r_aload_n O d6_ship_124 0 rfl ?_
      refine g_X6_44 O d6_ship_125 ?_
      refine r_iload O d6_ship_128 1 rfl ?_
      refine r_iald O (j := 12) (by decide) eM_12 d6_ship_130 (fun k16 hk16 => ?_)
      refine r_iast O (j := 6) (by decide) (fun _ => eM_6) d6_ship_131 (fun S18 => ?_)
      refine r_aload_n O d6_ship_132 0 rfl ?_
      refine g_X6_28 O d6_ship_133 ?_
      refine r_iload O d6_ship_136 1 rfl ?_
      refine r_aload_n O d6_ship_138 0 rfl ?_
      refine g_X6_47 O d6_ship_139 ?_
      refine r_iload O d6_ship_142 1 rfl ?_
      refine r_iald O (j := 13) (by decide) eM_13 d6_ship_144 (fun k19 hk19 => ?_)
      refine r_iast O (j := 7) (by decide) (fun _ => eM_7) d6_ship_145 (fun S21 => ?_)
      refine r_aload_n O d6_ship_146 0 rfl ?_
      refine g_X6_31 O d6_ship_147 ?_
      refine r_iload O d6_ship_150 1 rfl ?_
      refine r_aload_n O d6_ship_152 0 rfl ?_
      refine g_X6_50 O d6_ship_153 ?_
      refine r_iload O d6_ship_156 1 rfl ?_
      refine r_iald O (j := 14) (by decide) eM_14 d6_ship_158 (fun k22 hk22 => ?_)
      refine r_iast O (j := 8) (by decide) (fun _ => eM_8) d6_ship_159 (fun S24 => ?_)
      refine r_aload_n O d6_ship_160 0 rfl ?_
      refine g_X6_34 O d6_ship_161 ?_
      refine r_iload O d6_ship_164 1 rfl ?_
      refine r_iconst O d6_ship_166 (v := 0) (by decide) ?_
      refine r_zast O (j := 9) (by decide) (fun _ => eM_9) d6_ship_167 (fun S26 => ?_)
      refine r_iinc O d6_ship_168 1 (c0 := 1) rfl (by decide) (fun x7_27 => [(7, .int x7_27), (0, .ref (aX X 0))]) (by decide) (fun _ => rfl) (fun x7_27 => ?_)
      refine r_goto O 95 d6_ship_171 (by decide) ?_
      refine r_sub [1, 0] rfl ?_
      exact ih _ _
set_option maxHeartbeats 4000000 in
set_option maxRecDepth 100000 in
theorem l6_ship_177 {α : Type} {X : GX α} (O : OK 22 X RX6 cX6_ship 8 (some .int) (rmG 4 91)) {KX : Int32 → MS → Option α} (hX : ∀ v7 S, GM 22 eM X (KX v7 S) S 199 [(0, .ref (aX X 0)), (7, .int v7)] []) : ∀ n v7 S, GM 22 eM X (f6_ship_L177 KX n v7 S) S 177 [(0, .ref (aX X 0)), (7, .int v7)] [] := by
  intro n
  induction n with
  | zero => intro v7 S; exact r_none
  | succ n ih =>
    intro v7 S
    rw [f6_ship_L177]
    refine r_iload O d6_ship_177 1 rfl ?_
    refine r_iconst O d6_ship_179 (v := 3) (by decide) ?_
    refine r_icmp_ge O 199 d6_ship_180 (by decide) ?_ ?_
    · refine r_sub [0, 1] rfl ?_
      exact hX _ _
    · refine r_aload_n O d6_ship_183 0 rfl ?_
      refine g_X6_38 O d6_ship_184 ?_
      refine r_iload O d6_ship_187 1 rfl ?_
      refine r_sipush O d6_ship_189 (v := 999) (by decide) ?_
      refine r_iast O (j := 10) (by decide) (fun _ => eM_10) d6_ship_192 (fun S31 => ?_)
      refine r_iinc O d6_ship_193 1 (c0 := 1) rfl (by decide) (fun x7_32 => [(7, .int x7_32), (0, .ref (aX X 0))]) (by decide) (fun _ => rfl) (fun x7_32 => ?_)
      refine r_goto O 177 d6_ship_196 (by decide) ?_
      refine r_sub [1, 0] rfl ?_
      exact ih _ _
set_option maxHeartbeats 4000000 in
set_option maxRecDepth 100000 in
theorem c6_ship (l : Launch) (p1 : Int32) (p2 : Int32) (p3 : Int32) (p4 : Int32) (S : MS) {α : Type} : CtI 22 eM l yX6_ship cX6_ship 8 (some .int) (rmG 4 91) S (fun ad => [.ref (ad 0), .int p1, .int p2, .int p3, .int p4]) (α := α) (f6_ship p1 p2 p3 p4 S) := by
  refine CtI.of (by decide) (fun _ => Nat.le_of_ble_eq_true rfl) (fun X K _ O hQ => ?_)
  have O : OK 22 X RX6 cX6_ship 8 (some .int) (rmG 4 91) := O
  show GM 22 eM X (f6_ship p1 p2 p3 p4 S K) S 0 [(0, .ref (aX X 0)), (1, .int p1), (2, .int p2), (3, .int p3), (4, .int p4)] []
  unfold f6_ship
  refine r_aload_n O d6_ship_0 0 rfl ?_
  refine r_iconst O d6_ship_1 (v := 0) (by decide) ?_
  refine p_X6_75 O d6_ship_2 (fun S1 => ?_)
  refine r_iload_n O d6_ship_5 1 rfl ?_
  refine r_callSi O (rest := []) (c6_isSheet (lX X) p1 S1) w_749 w_750 w_51 w_751 hy_X6_isSheet ⟨rfl, rfl, Nat.le_of_ble_eq_true rfl, Nat.le_of_ble_eq_true rfl⟩ rfl rfl (Nat.le_of_ble_eq_true rfl) d6_ship_6 (fun r3 S2 => ?_)
  refine r_if_ne O 14 d6_ship_9 (by decide) ?_ ?_
  · refine r_iload_n O d6_ship_14 2 rfl ?_
    refine r_callSi O (rest := []) (c6_isSort (lX X) p2 S2) w_756 w_757 w_51 w_758 hy_X6_isSort ⟨rfl, rfl, Nat.le_of_ble_eq_true rfl, Nat.le_of_ble_eq_true rfl⟩ rfl rfl (Nat.le_of_ble_eq_true rfl) d6_ship_15 (fun r5 S4 => ?_)
    refine r_if_ne O 24 d6_ship_18 (by decide) ?_ ?_
    · refine r_aload_n O d6_ship_24 0 rfl ?_
      refine r_iload_n O d6_ship_25 1 rfl ?_
      refine r_iload_n O d6_ship_26 2 rfl ?_
      refine r_iload_n O d6_ship_27 3 rfl ?_
      refine r_iload O d6_ship_28 4 rfl ?_
      refine r_callVi O (b := 0) (bv := fun ad => [.int p1, .int p2, .int p3, .int p4]) (rest := []) (c6_against (lX X) p1 p2 p3 p4 S4) (fun _ => rfl) (by decide) eM_0 rfl rfl w_760 w_762 w_18 w_51 w_763 hy_X6_against ⟨rfl, rfl, Nat.le_of_ble_eq_true rfl, Nat.le_of_ble_eq_true rfl⟩ rfl rfl (Nat.le_of_ble_eq_true rfl) d6_ship_30 (fun r7 S6 => ?_)
      refine r_istore O d6_ship_33 [(5, .int r7), (0, .ref (aX X 0)), (1, .int p1), (2, .int p2), (3, .int p3), (4, .int p4)] (by decide) rfl ?_
      refine r_iload O d6_ship_35 0 rfl ?_
      refine r_if_eq O 47 d6_ship_37 (by decide) ?_ ?_
      · refine r_bipush O d6_ship_47 (v := 60) (by decide) ?_
        refine r_iload_n O d6_ship_49 2 rfl ?_
        refine r_imul O d6_ship_50 ?_
        refine r_iload_n O d6_ship_51 4 rfl ?_
        refine r_iadd O d6_ship_52 ?_
        refine r_istore_nm O d6_ship_53 (fun x6_8 => [(6, .int x6_8), (5, .int r7), (0, .ref (aX X 0)), (1, .int p1), (2, .int p2), (3, .int p3), (4, .int p4)]) (by decide) (fun _ => rfl) (fun x6_8 => ?_)
        refine r_aload_n O d6_ship_55 2 rfl ?_
        refine r_iload O d6_ship_56 0 rfl ?_
        refine p_X6_92 O d6_ship_58 (fun S9 => ?_)
        refine r_aload_n O d6_ship_61 2 rfl ?_
        refine r_iload O d6_ship_62 0 rfl ?_
        refine r_iload O d6_ship_64 6 rfl ?_
        refine r_iadd O d6_ship_66 ?_
        refine r_callVi O (b := 0) (bv := fun ad => [.int (x6_8 + p4)]) (rest := []) (c6_readAll (lX X) (x6_8 + p4) S9) (fun _ => rfl) (by decide) eM_0 rfl rfl w_768 w_770 w_20 w_51 w_771 hy_X6_readAll ⟨rfl, rfl, Nat.le_of_ble_eq_true rfl, Nat.le_of_ble_eq_true rfl⟩ rfl rfl (Nat.le_of_ble_eq_true rfl) d6_ship_67 (fun r11 S10 => ?_)
        refine r_if_ne O 84 d6_ship_70 (by decide) ?_ ?_
        · refine r_aload_n O d6_ship_84 2 rfl ?_
          refine r_aload_n O d6_ship_85 2 rfl ?_
          refine g_X6_95 O d6_ship_86 ?_
          refine p_X6_89 O d6_ship_89 (fun S12 => ?_)
          refine r_iconst O d6_ship_92 (v := 0) (by decide) ?_
          refine r_istore O d6_ship_93 [(7, .int 0), (6, .int x6_8), (5, .int r7), (0, .ref (aX X 0)), (1, .int p1), (2, .int p2), (3, .int p3), (4, .int p4)] (by decide) rfl ?_
          refine r_sub [3, 0] rfl ?_
          refine l6_ship_95 O (fun v7_29 S28 => ?_) _ _ _
          refine r_iconst O d6_ship_174 (v := 0) (by decide) ?_
          refine r_istore O d6_ship_175 [(7, .int 0), (0, .ref (aX X 0))] (by decide) rfl ?_
          refine r_sub [1, 0] rfl ?_
          refine l6_ship_177 O (fun v7_34 S33 => ?_) _ _ _
          refine r_aload_n O d6_ship_199 0 rfl ?_
          refine r_aload_n O d6_ship_200 0 rfl ?_
          refine g_X6_116 O d6_ship_201 ?_
          refine p_X6_141 O d6_ship_204 (fun S35 => ?_)
          refine r_aload_n O d6_ship_207 0 rfl ?_
          refine r_aload_n O d6_ship_208 0 rfl ?_
          refine g_X6_119 O d6_ship_209 ?_
          refine p_X6_144 O d6_ship_212 (fun S36 => ?_)
          refine r_aload_n O d6_ship_215 0 rfl ?_
          refine r_iconst O d6_ship_216 (v := 0) (by decide) ?_
          refine p_X6_147 O d6_ship_217 (fun S37 => ?_)
          refine r_aload_n O d6_ship_220 0 rfl ?_
          refine r_iconst O d6_ship_221 (v := 0) (by decide) ?_
          refine p_X6_150 O (by decide) d6_ship_222 (fun S38 => ?_)
          refine r_aload_n O d6_ship_225 0 rfl ?_
          refine g_X6_89 O d6_ship_226 ?_
          exact r_iret O hQ d6_ship_229
        · refine r_bipush O d6_ship_73 (v := (-100)) (by decide) ?_
          refine r_aload_n O d6_ship_75 2 rfl ?_
          refine g_X6_92 O d6_ship_76 ?_
          refine r_iload O d6_ship_79 0 rfl ?_
          refine r_isub O d6_ship_81 ?_
          refine r_isub O d6_ship_82 ?_
          exact r_iret O hQ d6_ship_83
      · refine r_aload_n O d6_ship_40 1 rfl ?_
        refine r_iload O d6_ship_41 0 rfl ?_
        refine r_callVi O (b := 0) (bv := fun ad => [.int r7]) (rest := []) (c6_fails (lX X) r7 S6) (fun _ => rfl) (by decide) eM_0 rfl rfl w_764 w_766 w_19 w_51 w_767 hy_X6_fails ⟨rfl, rfl, Nat.le_of_ble_eq_true rfl, Nat.le_of_ble_eq_true rfl⟩ rfl rfl (Nat.le_of_ble_eq_true rfl) d6_ship_43 (fun r40 S39 => ?_)
        exact r_iret O hQ d6_ship_46
    · refine r_bipush O d6_ship_21 (v := (-2)) (by decide) ?_
      exact r_iret O hQ d6_ship_23
  · refine r_iconst O d6_ship_12 (v := (-1)) (by decide) ?_
    exact r_iret O hQ d6_ship_13
-- X6.isTank
theorem d6_isTank_0 : decode cX6_isTank 0 = .ok (.iload_n 1, 1) := by decide +kernel
theorem d6_isTank_1 : decode cX6_isTank 1 = .ok (.i2l, 1) := by decide +kernel
theorem d6_isTank_2 : decode cX6_isTank 2 = .ok (.lconst 0, 1) := by decide +kernel
theorem d6_isTank_3 : decode cX6_isTank 3 = .ok (.aload_n 0, 1) := by decide +kernel
theorem d6_isTank_4 : decode cX6_isTank 4 = .ok (.getfield 89, 3) := by decide +kernel
theorem d6_isTank_7 : decode cX6_isTank 7 = .ok (.iconst 1, 1) := by decide +kernel
theorem d6_isTank_8 : decode cX6_isTank 8 = .ok (.isub, 1) := by decide +kernel
theorem d6_isTank_9 : decode cX6_isTank 9 = .ok (.i2l, 1) := by decide +kernel
theorem d6_isTank_10 : decode cX6_isTank 10 = .ok (.invokestatic 83, 3) := by decide +kernel
theorem d6_isTank_13 : decode cX6_isTank 13 = .ok (.ireturn, 1) := by decide +kernel
noncomputable def f6_isTank {α : Type} (p1 : Int32) (S : MS) (K : Int32 → MS → Option α) : Option α := f6_within (Int32.toInt64 p1) 0 (Int32.toInt64 ((S.1 0 6) - 1)) S fun r2 S1 => zb r2 (K r2 S1)
set_option maxHeartbeats 4000000 in
set_option maxRecDepth 100000 in
theorem c6_isTank (l : Launch) (p1 : Int32) (S : MS) {α : Type} : CtI 22 eM l yX6_isTank cX6_isTank 2 (some .boolean) (rmG 1 25) S (fun ad => [.ref (ad 0), .int p1]) (α := α) (f6_isTank p1 S) := by
  refine CtI.of (by decide) (fun _ => Nat.le_of_ble_eq_true rfl) (fun X K _ O hQ => ?_)
  have O : OK 22 X RX6 cX6_isTank 2 (some .boolean) (rmG 1 25) := O
  show GM 22 eM X (f6_isTank p1 S K) S 0 [(0, .ref (aX X 0)), (1, .int p1)] []
  unfold f6_isTank
  refine r_iload_n O d6_isTank_0 1 rfl ?_
  refine r_i2l O d6_isTank_1 ?_
  refine r_lconst O d6_isTank_2 (v := 0) (by decide) ?_
  refine r_aload_n O d6_isTank_3 0 rfl ?_
  refine g_X6_89 O d6_isTank_4 ?_
  refine r_iconst O d6_isTank_7 (v := 1) (by decide) ?_
  refine r_isub O d6_isTank_8 ?_
  refine r_i2l O d6_isTank_9 ?_
  refine r_callSi O (rest := []) (c6_within (lX X) (Int32.toInt64 p1) 0 (Int32.toInt64 ((S.1 0 6) - 1)) S) w_753 w_754 w_51 w_755 hy_X6_within ⟨rfl, rfl, Nat.le_of_ble_eq_true rfl, Nat.le_of_ble_eq_true rfl⟩ rfl rfl (Nat.le_of_ble_eq_true rfl) d6_isTank_10 (fun r2 S1 => ?_)
  refine r_zb (fun hz3 => ?_)
  exact r_zret O hQ hz3 d6_isTank_13
-- X6.weightOf
theorem d6_weightOf_0 : decode cX6_weightOf 0 = .ok (.aload_n 0, 1) := by decide +kernel
theorem d6_weightOf_1 : decode cX6_weightOf 1 = .ok (.getfield 22, 3) := by decide +kernel
theorem d6_weightOf_4 : decode cX6_weightOf 4 = .ok (.iload_n 1, 1) := by decide +kernel
theorem d6_weightOf_5 : decode cX6_weightOf 5 = .ok (.iaload, 1) := by decide +kernel
theorem d6_weightOf_6 : decode cX6_weightOf 6 = .ok (.ifCond .ne 12, 3) := by decide +kernel
theorem d6_weightOf_9 : decode cX6_weightOf 9 = .ok (.aload_n 0, 1) := by decide +kernel
theorem d6_weightOf_10 : decode cX6_weightOf 10 = .ok (.getfield 31, 3) := by decide +kernel
theorem d6_weightOf_13 : decode cX6_weightOf 13 = .ok (.iload_n 1, 1) := by decide +kernel
theorem d6_weightOf_14 : decode cX6_weightOf 14 = .ok (.iaload, 1) := by decide +kernel
theorem d6_weightOf_15 : decode cX6_weightOf 15 = .ok (.goto 37, 3) := by decide +kernel
theorem d6_weightOf_18 : decode cX6_weightOf 18 = .ok (.aload_n 0, 1) := by decide +kernel
theorem d6_weightOf_19 : decode cX6_weightOf 19 = .ok (.getfield 22, 3) := by decide +kernel
theorem d6_weightOf_22 : decode cX6_weightOf 22 = .ok (.iload_n 1, 1) := by decide +kernel
theorem d6_weightOf_23 : decode cX6_weightOf 23 = .ok (.iaload, 1) := by decide +kernel
theorem d6_weightOf_24 : decode cX6_weightOf 24 = .ok (.iconst 1, 1) := by decide +kernel
theorem d6_weightOf_25 : decode cX6_weightOf 25 = .ok (.if_icmp .ne 14, 3) := by decide +kernel
theorem d6_weightOf_28 : decode cX6_weightOf 28 = .ok (.aload_n 0, 1) := by decide +kernel
theorem d6_weightOf_29 : decode cX6_weightOf 29 = .ok (.getfield 31, 3) := by decide +kernel
theorem d6_weightOf_32 : decode cX6_weightOf 32 = .ok (.iload_n 1, 1) := by decide +kernel
theorem d6_weightOf_33 : decode cX6_weightOf 33 = .ok (.iaload, 1) := by decide +kernel
theorem d6_weightOf_34 : decode cX6_weightOf 34 = .ok (.iconst 1, 1) := by decide +kernel
theorem d6_weightOf_35 : decode cX6_weightOf 35 = .ok (.iadd, 1) := by decide +kernel
theorem d6_weightOf_36 : decode cX6_weightOf 36 = .ok (.goto 16, 3) := by decide +kernel
theorem d6_weightOf_39 : decode cX6_weightOf 39 = .ok (.aload_n 0, 1) := by decide +kernel
theorem d6_weightOf_40 : decode cX6_weightOf 40 = .ok (.getfield 31, 3) := by decide +kernel
theorem d6_weightOf_43 : decode cX6_weightOf 43 = .ok (.iload_n 1, 1) := by decide +kernel
theorem d6_weightOf_44 : decode cX6_weightOf 44 = .ok (.iaload, 1) := by decide +kernel
theorem d6_weightOf_45 : decode cX6_weightOf 45 = .ok (.aload_n 0, 1) := by decide +kernel
theorem d6_weightOf_46 : decode cX6_weightOf 46 = .ok (.getfield 31, 3) := by decide +kernel
theorem d6_weightOf_49 : decode cX6_weightOf 49 = .ok (.iload_n 1, 1) := by decide +kernel
theorem d6_weightOf_50 : decode cX6_weightOf 50 = .ok (.iaload, 1) := by decide +kernel
theorem d6_weightOf_51 : decode cX6_weightOf 51 = .ok (.iadd, 1) := by decide +kernel
theorem d6_weightOf_52 : decode cX6_weightOf 52 = .ok (.ireturn, 1) := by decide +kernel
noncomputable def f6_weightOf {α : Type} (p1 : Int32) (S : MS) (K : Int32 → MS → Option α) : Option α := ck p1 6 fun k1 => if (S.1 5 k1) = 0 then (ck p1 6 fun k6 => K (S.1 8 k6) S) else (ck p1 6 fun k2 => if (S.1 5 k2) = 1 then (ck p1 6 fun k5 => K ((S.1 8 k5) + 1) S) else (ck p1 6 fun k3 => ck p1 6 fun k4 => K ((S.1 8 k3) + (S.1 8 k4)) S))
set_option maxHeartbeats 4000000 in
set_option maxRecDepth 100000 in
theorem c6_weightOf (l : Launch) (p1 : Int32) (S : MS) {α : Type} : CtI 22 eM l yX6_weightOf cX6_weightOf 2 (some .int) (rmG 0 0) S (fun ad => [.ref (ad 0), .int p1]) (α := α) (f6_weightOf p1 S) := by
  refine CtI.of (by decide) (fun _ => Nat.le_of_ble_eq_true rfl) (fun X K _ O hQ => ?_)
  have O : OK 22 X RX6 cX6_weightOf 2 (some .int) (rmG 0 0) := O
  show GM 22 eM X (f6_weightOf p1 S K) S 0 [(0, .ref (aX X 0)), (1, .int p1)] []
  unfold f6_weightOf
  refine r_aload_n O d6_weightOf_0 0 rfl ?_
  refine g_X6_22 O d6_weightOf_1 ?_
  refine r_iload_n O d6_weightOf_4 1 rfl ?_
  refine r_iald O (j := 5) (by decide) eM_5 d6_weightOf_5 (fun k1 hk1 => ?_)
  refine r_if_ne O 18 d6_weightOf_6 (by decide) ?_ ?_
  · refine r_aload_n O d6_weightOf_18 0 rfl ?_
    refine g_X6_22 O d6_weightOf_19 ?_
    refine r_iload_n O d6_weightOf_22 1 rfl ?_
    refine r_iald O (j := 5) (by decide) eM_5 d6_weightOf_23 (fun k2 hk2 => ?_)
    refine r_iconst O d6_weightOf_24 (v := 1) (by decide) ?_
    refine r_icmp_ne O 39 d6_weightOf_25 (by decide) ?_ ?_
    · refine r_aload_n O d6_weightOf_39 0 rfl ?_
      refine g_X6_31 O d6_weightOf_40 ?_
      refine r_iload_n O d6_weightOf_43 1 rfl ?_
      refine r_iald O (j := 8) (by decide) eM_8 d6_weightOf_44 (fun k3 hk3 => ?_)
      refine r_aload_n O d6_weightOf_45 0 rfl ?_
      refine g_X6_31 O d6_weightOf_46 ?_
      refine r_iload_n O d6_weightOf_49 1 rfl ?_
      refine r_iald O (j := 8) (by decide) eM_8 d6_weightOf_50 (fun k4 hk4 => ?_)
      refine r_iadd O d6_weightOf_51 ?_
      exact r_iret O hQ d6_weightOf_52
    · refine r_aload_n O d6_weightOf_28 0 rfl ?_
      refine g_X6_31 O d6_weightOf_29 ?_
      refine r_iload_n O d6_weightOf_32 1 rfl ?_
      refine r_iald O (j := 8) (by decide) eM_8 d6_weightOf_33 (fun k5 hk5 => ?_)
      refine r_iconst O d6_weightOf_34 (v := 1) (by decide) ?_
      refine r_iadd O d6_weightOf_35 ?_
      refine r_goto O 52 d6_weightOf_36 (by decide) ?_
      exact r_iret O hQ d6_weightOf_52
  · refine r_aload_n O d6_weightOf_9 0 rfl ?_
    refine g_X6_31 O d6_weightOf_10 ?_
    refine r_iload_n O d6_weightOf_13 1 rfl ?_
    refine r_iald O (j := 8) (by decide) eM_8 d6_weightOf_14 (fun k6 hk6 => ?_)
    refine r_goto O 52 d6_weightOf_15 (by decide) ?_
    exact r_iret O hQ d6_weightOf_52
-- X6.waterIn
theorem d6_waterIn_0 : decode cX6_waterIn 0 = .ok (.iload_n 1, 1) := by decide +kernel
theorem d6_waterIn_1 : decode cX6_waterIn 1 = .ok (.aload_n 0, 1) := by decide +kernel
theorem d6_waterIn_2 : decode cX6_waterIn 2 = .ok (.getfield 19, 3) := by decide +kernel
theorem d6_waterIn_5 : decode cX6_waterIn 5 = .ok (.iload_n 2, 1) := by decide +kernel
theorem d6_waterIn_6 : decode cX6_waterIn 6 = .ok (.iaload, 1) := by decide +kernel
theorem d6_waterIn_7 : decode cX6_waterIn 7 = .ok (.idiv, 1) := by decide +kernel
theorem d6_waterIn_8 : decode cX6_waterIn 8 = .ok (.iconst 3, 1) := by decide +kernel
theorem d6_waterIn_9 : decode cX6_waterIn 9 = .ok (.irem, 1) := by decide +kernel
theorem d6_waterIn_10 : decode cX6_waterIn 10 = .ok (.ireturn, 1) := by decide +kernel
noncomputable def f6_waterIn {α : Type} (p1 : Int32) (p2 : Int32) (S : MS) (K : Int32 → MS → Option α) : Option α := ck p2 7 fun k1 => dz (S.1 4 k1) (K ((p1 / (S.1 4 k1)) - (p1 / (S.1 4 k1)) / 3 * 3) S)
set_option maxHeartbeats 4000000 in
set_option maxRecDepth 100000 in
theorem c6_waterIn (l : Launch) (p1 : Int32) (p2 : Int32) (S : MS) {α : Type} : CtI 22 eM l yX6_waterIn cX6_waterIn 3 (some .int) (rmG 0 0) S (fun ad => [.ref (ad 0), .int p1, .int p2]) (α := α) (f6_waterIn p1 p2 S) := by
  refine CtI.of (by decide) (fun _ => Nat.le_of_ble_eq_true rfl) (fun X K _ O hQ => ?_)
  have O : OK 22 X RX6 cX6_waterIn 3 (some .int) (rmG 0 0) := O
  show GM 22 eM X (f6_waterIn p1 p2 S K) S 0 [(0, .ref (aX X 0)), (1, .int p1), (2, .int p2)] []
  unfold f6_waterIn
  refine r_iload_n O d6_waterIn_0 1 rfl ?_
  refine r_aload_n O d6_waterIn_1 0 rfl ?_
  refine g_X6_19 O d6_waterIn_2 ?_
  refine r_iload_n O d6_waterIn_5 2 rfl ?_
  refine r_iald O (j := 4) (by decide) eM_4 d6_waterIn_6 (fun k1 hk1 => ?_)
  refine r_idiv O d6_waterIn_7 ?_
  refine r_iconst O d6_waterIn_8 (v := 3) (by decide) ?_
  refine r_irem_c O (by decide) d6_waterIn_9 ?_
  exact r_iret O hQ d6_waterIn_10
-- X6.plain
theorem d6_plain_0 : decode cX6_plain 0 = .ok (.iload_n 0, 1) := by decide +kernel
theorem d6_plain_1 : decode cX6_plain 1 = .ok (.ifCond .ge 8, 3) := by decide +kernel
theorem d6_plain_4 : decode cX6_plain 4 = .ok (.iload_n 0, 1) := by decide +kernel
theorem d6_plain_5 : decode cX6_plain 5 = .ok (.ineg, 1) := by decide +kernel
theorem d6_plain_6 : decode cX6_plain 6 = .ok (.goto 4, 3) := by decide +kernel
theorem d6_plain_9 : decode cX6_plain 9 = .ok (.iload_n 0, 1) := by decide +kernel
theorem d6_plain_10 : decode cX6_plain 10 = .ok (.ireturn, 1) := by decide +kernel
noncomputable def f6_plain {α : Type} (p0 : Int32) (S : MS) (K : Int32 → MS → Option α) : Option α := if 0 ≤ p0 then (K p0 S) else (K (-p0) S)
set_option maxHeartbeats 4000000 in
set_option maxRecDepth 100000 in
theorem c6_plain (l : Launch) (p0 : Int32) (S : MS) {α : Type} : CtI 22 eM l yX6_plain cX6_plain 1 (some .int) (rmG 0 0) S (fun ad => [.int p0]) (α := α) (f6_plain p0 S) := by
  refine CtI.of (by decide) (fun _ => Nat.le_of_ble_eq_true rfl) (fun X K _ O hQ => ?_)
  have O : OK 22 X RX6 cX6_plain 1 (some .int) (rmG 0 0) := O
  show GM 22 eM X (f6_plain p0 S K) S 0 [(0, .int p0)] []
  unfold f6_plain
  refine r_iload_n O d6_plain_0 0 rfl ?_
  refine r_if_ge O 9 d6_plain_1 (by decide) ?_ ?_
  · refine r_iload_n O d6_plain_9 0 rfl ?_
    exact r_iret O hQ d6_plain_10
  · refine r_iload_n O d6_plain_4 0 rfl ?_
    refine r_ineg O d6_plain_5 ?_
    refine r_goto O 10 d6_plain_6 (by decide) ?_
    exact r_iret O hQ d6_plain_10
-- X6.weigh
theorem d6_weigh_0 : decode cX6_weigh 0 = .ok (.aload_n 0, 1) := by decide +kernel
theorem d6_weigh_1 : decode cX6_weigh 1 = .ok (.iconst 0, 1) := by decide +kernel
theorem d6_weigh_2 : decode cX6_weigh 2 = .ok (.putfield 172, 3) := by decide +kernel
theorem d6_weigh_5 : decode cX6_weigh 5 = .ok (.aload_n 0, 1) := by decide +kernel
theorem d6_weigh_6 : decode cX6_weigh 6 = .ok (.iconst 0, 1) := by decide +kernel
theorem d6_weigh_7 : decode cX6_weigh 7 = .ok (.putfield 175, 3) := by decide +kernel
theorem d6_weigh_10 : decode cX6_weigh 10 = .ok (.aload_n 0, 1) := by decide +kernel
theorem d6_weigh_11 : decode cX6_weigh 11 = .ok (.iconst 0, 1) := by decide +kernel
theorem d6_weigh_12 : decode cX6_weigh 12 = .ok (.putfield 178, 3) := by decide +kernel
theorem d6_weigh_15 : decode cX6_weigh 15 = .ok (.iconst 0, 1) := by decide +kernel
theorem d6_weigh_16 : decode cX6_weigh 16 = .ok (.istore_n 3, 1) := by decide +kernel
theorem d6_weigh_17 : decode cX6_weigh 17 = .ok (.iconst 0, 1) := by decide +kernel
theorem d6_weigh_18 : decode cX6_weigh 18 = .ok (.istore 4, 2) := by decide +kernel
theorem d6_weigh_20 : decode cX6_weigh 20 = .ok (.iload 4, 2) := by decide +kernel
theorem d6_weigh_22 : decode cX6_weigh 22 = .ok (.bipush 7, 2) := by decide +kernel
theorem d6_weigh_24 : decode cX6_weigh 24 = .ok (.if_icmp .ge 17, 3) := by decide +kernel
theorem d6_weigh_27 : decode cX6_weigh 27 = .ok (.aload_n 0, 1) := by decide +kernel
theorem d6_weigh_28 : decode cX6_weigh 28 = .ok (.getfield 53, 3) := by decide +kernel
theorem d6_weigh_31 : decode cX6_weigh 31 = .ok (.iload 4, 2) := by decide +kernel
theorem d6_weigh_33 : decode cX6_weigh 33 = .ok (.iconst 0, 1) := by decide +kernel
theorem d6_weigh_34 : decode cX6_weigh 34 = .ok (.iastore, 1) := by decide +kernel
theorem d6_weigh_35 : decode cX6_weigh 35 = .ok (.iinc 4 1, 3) := by decide +kernel
theorem d6_weigh_38 : decode cX6_weigh 38 = .ok (.goto (-18), 3) := by decide +kernel
theorem d6_weigh_41 : decode cX6_weigh 41 = .ok (.iconst 0, 1) := by decide +kernel
theorem d6_weigh_42 : decode cX6_weigh 42 = .ok (.istore 4, 2) := by decide +kernel
theorem d6_weigh_44 : decode cX6_weigh 44 = .ok (.iload 4, 2) := by decide +kernel
theorem d6_weigh_46 : decode cX6_weigh 46 = .ok (.aload_n 0, 1) := by decide +kernel
theorem d6_weigh_47 : decode cX6_weigh 47 = .ok (.getfield 89, 3) := by decide +kernel
theorem d6_weigh_50 : decode cX6_weigh 50 = .ok (.if_icmp .ge 115, 3) := by decide +kernel
theorem d6_weigh_53 : decode cX6_weigh 53 = .ok (.iload 4, 2) := by decide +kernel
theorem d6_weigh_55 : decode cX6_weigh 55 = .ok (.iload_n 2, 1) := by decide +kernel
theorem d6_weigh_56 : decode cX6_weigh 56 = .ok (.if_icmp .ne 12, 3) := by decide +kernel
theorem d6_weigh_59 : decode cX6_weigh 59 = .ok (.aload_n 0, 1) := by decide +kernel
theorem d6_weigh_60 : decode cX6_weigh 60 = .ok (.iload 4, 2) := by decide +kernel
theorem d6_weigh_62 : decode cX6_weigh 62 = .ok (.invokevirtual 157, 3) := by decide +kernel
theorem d6_weigh_65 : decode cX6_weigh 65 = .ok (.goto 25, 3) := by decide +kernel
theorem d6_weigh_68 : decode cX6_weigh 68 = .ok (.aload_n 0, 1) := by decide +kernel
theorem d6_weigh_69 : decode cX6_weigh 69 = .ok (.iload_n 1, 1) := by decide +kernel
theorem d6_weigh_70 : decode cX6_weigh 70 = .ok (.iload 4, 2) := by decide +kernel
theorem d6_weigh_72 : decode cX6_weigh 72 = .ok (.invokevirtual 160, 3) := by decide +kernel
theorem d6_weigh_75 : decode cX6_weigh 75 = .ok (.ifCond .ne 7, 3) := by decide +kernel
theorem d6_weigh_78 : decode cX6_weigh 78 = .ok (.iconst 0, 1) := by decide +kernel
theorem d6_weigh_79 : decode cX6_weigh 79 = .ok (.goto 11, 3) := by decide +kernel
theorem d6_weigh_82 : decode cX6_weigh 82 = .ok (.iconst 2, 1) := by decide +kernel
theorem d6_weigh_83 : decode cX6_weigh 83 = .ok (.aload_n 0, 1) := by decide +kernel
theorem d6_weigh_84 : decode cX6_weigh 84 = .ok (.iload 4, 2) := by decide +kernel
theorem d6_weigh_86 : decode cX6_weigh 86 = .ok (.invokevirtual 157, 3) := by decide +kernel
theorem d6_weigh_89 : decode cX6_weigh 89 = .ok (.imul, 1) := by decide +kernel
theorem d6_weigh_90 : decode cX6_weigh 90 = .ok (.istore 5, 2) := by decide +kernel
theorem d6_weigh_92 : decode cX6_weigh 92 = .ok (.aload_n 0, 1) := by decide +kernel
theorem d6_weigh_93 : decode cX6_weigh 93 = .ok (.dup, 1) := by decide +kernel
theorem d6_weigh_94 : decode cX6_weigh 94 = .ok (.getfield 172, 3) := by decide +kernel
theorem d6_weigh_97 : decode cX6_weigh 97 = .ok (.iload 5, 2) := by decide +kernel
theorem d6_weigh_99 : decode cX6_weigh 99 = .ok (.aload_n 0, 1) := by decide +kernel
theorem d6_weigh_100 : decode cX6_weigh 100 = .ok (.getfield 25, 3) := by decide +kernel
theorem d6_weigh_103 : decode cX6_weigh 103 = .ok (.iload 4, 2) := by decide +kernel
theorem d6_weigh_105 : decode cX6_weigh 105 = .ok (.iaload, 1) := by decide +kernel
theorem d6_weigh_106 : decode cX6_weigh 106 = .ok (.iconst 3, 1) := by decide +kernel
theorem d6_weigh_107 : decode cX6_weigh 107 = .ok (.isub, 1) := by decide +kernel
theorem d6_weigh_108 : decode cX6_weigh 108 = .ok (.imul, 1) := by decide +kernel
theorem d6_weigh_109 : decode cX6_weigh 109 = .ok (.iadd, 1) := by decide +kernel
theorem d6_weigh_110 : decode cX6_weigh 110 = .ok (.putfield 172, 3) := by decide +kernel
theorem d6_weigh_113 : decode cX6_weigh 113 = .ok (.aload_n 0, 1) := by decide +kernel
theorem d6_weigh_114 : decode cX6_weigh 114 = .ok (.dup, 1) := by decide +kernel
theorem d6_weigh_115 : decode cX6_weigh 115 = .ok (.getfield 175, 3) := by decide +kernel
theorem d6_weigh_118 : decode cX6_weigh 118 = .ok (.iload 5, 2) := by decide +kernel
theorem d6_weigh_120 : decode cX6_weigh 120 = .ok (.aload_n 0, 1) := by decide +kernel
theorem d6_weigh_121 : decode cX6_weigh 121 = .ok (.getfield 28, 3) := by decide +kernel
theorem d6_weigh_124 : decode cX6_weigh 124 = .ok (.iload 4, 2) := by decide +kernel
theorem d6_weigh_126 : decode cX6_weigh 126 = .ok (.iaload, 1) := by decide +kernel
theorem d6_weigh_127 : decode cX6_weigh 127 = .ok (.iconst 1, 1) := by decide +kernel
theorem d6_weigh_128 : decode cX6_weigh 128 = .ok (.isub, 1) := by decide +kernel
theorem d6_weigh_129 : decode cX6_weigh 129 = .ok (.imul, 1) := by decide +kernel
theorem d6_weigh_130 : decode cX6_weigh 130 = .ok (.iadd, 1) := by decide +kernel
theorem d6_weigh_131 : decode cX6_weigh 131 = .ok (.putfield 175, 3) := by decide +kernel
theorem d6_weigh_134 : decode cX6_weigh 134 = .ok (.aload_n 0, 1) := by decide +kernel
theorem d6_weigh_135 : decode cX6_weigh 135 = .ok (.getfield 53, 3) := by decide +kernel
theorem d6_weigh_138 : decode cX6_weigh 138 = .ok (.aload_n 0, 1) := by decide +kernel
theorem d6_weigh_139 : decode cX6_weigh 139 = .ok (.getfield 25, 3) := by decide +kernel
theorem d6_weigh_142 : decode cX6_weigh 142 = .ok (.iload 4, 2) := by decide +kernel
theorem d6_weigh_144 : decode cX6_weigh 144 = .ok (.iaload, 1) := by decide +kernel
theorem d6_weigh_145 : decode cX6_weigh 145 = .ok (.dup2, 1) := by decide +kernel
theorem d6_weigh_146 : decode cX6_weigh 146 = .ok (.iaload, 1) := by decide +kernel
theorem d6_weigh_147 : decode cX6_weigh 147 = .ok (.bipush 7, 2) := by decide +kernel
theorem d6_weigh_149 : decode cX6_weigh 149 = .ok (.iload 5, 2) := by decide +kernel
theorem d6_weigh_151 : decode cX6_weigh 151 = .ok (.imul, 1) := by decide +kernel
theorem d6_weigh_152 : decode cX6_weigh 152 = .ok (.iadd, 1) := by decide +kernel
theorem d6_weigh_153 : decode cX6_weigh 153 = .ok (.iastore, 1) := by decide +kernel
theorem d6_weigh_154 : decode cX6_weigh 154 = .ok (.iload_n 3, 1) := by decide +kernel
theorem d6_weigh_155 : decode cX6_weigh 155 = .ok (.iload 5, 2) := by decide +kernel
theorem d6_weigh_157 : decode cX6_weigh 157 = .ok (.iadd, 1) := by decide +kernel
theorem d6_weigh_158 : decode cX6_weigh 158 = .ok (.istore_n 3, 1) := by decide +kernel
theorem d6_weigh_159 : decode cX6_weigh 159 = .ok (.iinc 4 1, 3) := by decide +kernel
theorem d6_weigh_162 : decode cX6_weigh 162 = .ok (.goto (-118), 3) := by decide +kernel
theorem d6_weigh_165 : decode cX6_weigh 165 = .ok (.iconst 0, 1) := by decide +kernel
theorem d6_weigh_166 : decode cX6_weigh 166 = .ok (.istore 4, 2) := by decide +kernel
theorem d6_weigh_168 : decode cX6_weigh 168 = .ok (.iload 4, 2) := by decide +kernel
theorem d6_weigh_170 : decode cX6_weigh 170 = .ok (.bipush 7, 2) := by decide +kernel
theorem d6_weigh_172 : decode cX6_weigh 172 = .ok (.if_icmp .ge 87, 3) := by decide +kernel
theorem d6_weigh_175 : decode cX6_weigh 175 = .ok (.iconst 0, 1) := by decide +kernel
theorem d6_weigh_176 : decode cX6_weigh 176 = .ok (.istore 5, 2) := by decide +kernel
theorem d6_weigh_178 : decode cX6_weigh 178 = .ok (.iconst 0, 1) := by decide +kernel
theorem d6_weigh_179 : decode cX6_weigh 179 = .ok (.istore 6, 2) := by decide +kernel
theorem d6_weigh_181 : decode cX6_weigh 181 = .ok (.iload 6, 2) := by decide +kernel
theorem d6_weigh_183 : decode cX6_weigh 183 = .ok (.iload 4, 2) := by decide +kernel
theorem d6_weigh_185 : decode cX6_weigh 185 = .ok (.if_icmp .gt 31, 3) := by decide +kernel
theorem d6_weigh_188 : decode cX6_weigh 188 = .ok (.iload 5, 2) := by decide +kernel
theorem d6_weigh_190 : decode cX6_weigh 190 = .ok (.iload 4, 2) := by decide +kernel
theorem d6_weigh_192 : decode cX6_weigh 192 = .ok (.iload 6, 2) := by decide +kernel
theorem d6_weigh_194 : decode cX6_weigh 194 = .ok (.isub, 1) := by decide +kernel
theorem d6_weigh_195 : decode cX6_weigh 195 = .ok (.iconst 1, 1) := by decide +kernel
theorem d6_weigh_196 : decode cX6_weigh 196 = .ok (.iadd, 1) := by decide +kernel
theorem d6_weigh_197 : decode cX6_weigh 197 = .ok (.aload_n 0, 1) := by decide +kernel
theorem d6_weigh_198 : decode cX6_weigh 198 = .ok (.getfield 53, 3) := by decide +kernel
theorem d6_weigh_201 : decode cX6_weigh 201 = .ok (.iload 6, 2) := by decide +kernel
theorem d6_weigh_203 : decode cX6_weigh 203 = .ok (.iaload, 1) := by decide +kernel
theorem d6_weigh_204 : decode cX6_weigh 204 = .ok (.iload_n 3, 1) := by decide +kernel
theorem d6_weigh_205 : decode cX6_weigh 205 = .ok (.isub, 1) := by decide +kernel
theorem d6_weigh_206 : decode cX6_weigh 206 = .ok (.imul, 1) := by decide +kernel
theorem d6_weigh_207 : decode cX6_weigh 207 = .ok (.iadd, 1) := by decide +kernel
theorem d6_weigh_208 : decode cX6_weigh 208 = .ok (.istore 5, 2) := by decide +kernel
theorem d6_weigh_210 : decode cX6_weigh 210 = .ok (.iinc 6 1, 3) := by decide +kernel
theorem d6_weigh_213 : decode cX6_weigh 213 = .ok (.goto (-32), 3) := by decide +kernel
theorem d6_weigh_216 : decode cX6_weigh 216 = .ok (.aload_n 0, 1) := by decide +kernel
theorem d6_weigh_217 : decode cX6_weigh 217 = .ok (.getfield 56, 3) := by decide +kernel
theorem d6_weigh_220 : decode cX6_weigh 220 = .ok (.iload 4, 2) := by decide +kernel
theorem d6_weigh_222 : decode cX6_weigh 222 = .ok (.iload 5, 2) := by decide +kernel
theorem d6_weigh_224 : decode cX6_weigh 224 = .ok (.iastore, 1) := by decide +kernel
theorem d6_weigh_225 : decode cX6_weigh 225 = .ok (.aload_n 0, 1) := by decide +kernel
theorem d6_weigh_226 : decode cX6_weigh 226 = .ok (.iload 5, 2) := by decide +kernel
theorem d6_weigh_228 : decode cX6_weigh 228 = .ok (.invokestatic 181, 3) := by decide +kernel
theorem d6_weigh_231 : decode cX6_weigh 231 = .ok (.aload_n 0, 1) := by decide +kernel
theorem d6_weigh_232 : decode cX6_weigh 232 = .ok (.getfield 178, 3) := by decide +kernel
theorem d6_weigh_235 : decode cX6_weigh 235 = .ok (.if_icmp .le 11, 3) := by decide +kernel
theorem d6_weigh_238 : decode cX6_weigh 238 = .ok (.iload 5, 2) := by decide +kernel
theorem d6_weigh_240 : decode cX6_weigh 240 = .ok (.invokestatic 181, 3) := by decide +kernel
theorem d6_weigh_243 : decode cX6_weigh 243 = .ok (.goto 7, 3) := by decide +kernel
theorem d6_weigh_246 : decode cX6_weigh 246 = .ok (.aload_n 0, 1) := by decide +kernel
theorem d6_weigh_247 : decode cX6_weigh 247 = .ok (.getfield 178, 3) := by decide +kernel
theorem d6_weigh_250 : decode cX6_weigh 250 = .ok (.putfield 178, 3) := by decide +kernel
theorem d6_weigh_253 : decode cX6_weigh 253 = .ok (.iinc 4 1, 3) := by decide +kernel
theorem d6_weigh_256 : decode cX6_weigh 256 = .ok (.goto (-88), 3) := by decide +kernel
theorem d6_weigh_259 : decode cX6_weigh 259 = .ok (.return_, 1) := by decide +kernel
noncomputable def f6_weigh_L20 {α : Type} (c1 : Int32) (c2 : Int32) (c3 : Int32) (KX : Int32 → MS → Option α) : Nat → Int32 → MS → Option α
  | 0, _, _ => none
  | n + 1, v4, S => if 7 ≤ v4 then (KX v4 S) else (ck v4 7 fun k4 => nm (sI S 15 k4 0) fun S5 => nm (v4 + 1) fun x4_6 => f6_weigh_L20 c1 c2 c3 KX n x4_6 S5)
noncomputable def f6_weigh_J90 {α : Type} (c1 : Int32) (c2 : Int32) (c3 : Int32) (c4 : Int32) (s0 : Int32) (S : MS) (KB : Int32 → Int32 → MS → Option α) (KX : Int32 → Int32 → MS → Option α) : Option α := ck c4 6 fun k13 => nm (sI S 0 25 ((S.1 0 25) + (s0 * ((S.1 6 k13) - 3)))) fun S14 => ck c4 6 fun k15 => nm (sI S14 0 26 ((S14.1 0 26) + (s0 * ((S14.1 7 k15) - 1)))) fun S16 => ck c4 6 fun k17 => ck (S16.1 6 k17) 7 fun k18 => ck (S16.1 6 k17) 7 fun k19 => nm (sI S16 15 k19 ((S16.1 15 k18) + ((7 : Int32) * s0))) fun S20 => nm (c3 + s0) fun x3_21 => nm (c4 + 1) fun x4_22 => KB x3_21 x4_22 S20
noncomputable def f6_weigh_L44 {α : Type} (c1 : Int32) (c2 : Int32) (KX : Int32 → Int32 → MS → Option α) : Nat → Int32 → Int32 → MS → Option α
  | 0, _, _, _ => none
  | n + 1, v3, v4, S => if (S.1 0 6) ≤ v4 then (KX v3 v4 S) else (if v4 = c2 then (f6_weightOf v4 S fun r24 S23 => f6_weigh_J90 c1 c2 v3 v4 r24 S23 (f6_weigh_L44 c1 c2 KX n) KX) else (f6_waterIn c1 v4 S fun r10 S9 => if r10 = 0 then (f6_weigh_J90 c1 c2 v3 v4 0 S9 (f6_weigh_L44 c1 c2 KX n) KX) else (f6_weightOf v4 S9 fun r12 S11 => f6_weigh_J90 c1 c2 v3 v4 ((2 : Int32) * r12) S11 (f6_weigh_L44 c1 c2 KX n) KX)))
noncomputable def f6_weigh_L181 {α : Type} (c3 : Int32) (c4 : Int32) (KX : Int32 → Int32 → MS → Option α) : Nat → Int32 → Int32 → MS → Option α
  | 0, _, _, _ => none
  | n + 1, v5, v6, S => if c4 < v6 then (KX v5 v6 S) else (ck v6 7 fun k28 => nm (v5 + (((c4 - v6) + 1) * ((S.1 15 k28) - c3))) fun x5_29 => nm (v6 + 1) fun x6_30 => f6_weigh_L181 c3 c4 KX n x5_29 x6_30 S)
noncomputable def f6_weigh_L168 {α : Type} (c3 : Int32) (KX : Int32 → MS → Option α) : Nat → Int32 → MS → Option α
  | 0, _, _ => none
  | n + 1, v4, S => if 7 ≤ v4 then (KX v4 S) else (f6_weigh_L181 c3 v4 (fun v5_32 v6_33 S31 => ck v4 7 fun k34 => nm (sI S31 16 k34 v5_32) fun S35 => f6_plain v5_32 S35 fun r37 S36 => if r37 ≤ (S36.1 0 27) then (nm (sI S36 0 27 (S36.1 0 27)) fun S38 => nm (v4 + 1) fun x4_39 => f6_weigh_L168 c3 KX n x4_39 S38) else (f6_plain v5_32 S36 fun r41 S40 => nm (sI S40 0 27 r41) fun S42 => nm (v4 + 1) fun x4_43 => f6_weigh_L168 c3 KX n x4_43 S42)) FU 0 0 S)
noncomputable def f6_weigh {α : Type} (p1 : Int32) (p2 : Int32) (S : MS) (K : MS → Option α) : Option α := nm (sI S 0 25 0) fun S1 => nm (sI S1 0 26 0) fun S2 => nm (sI S2 0 27 0) fun S3 => f6_weigh_L20 p1 p2 0 (fun v4_8 S7 => f6_weigh_L44 p1 p2 (fun v3_26 v4_27 S25 => f6_weigh_L168 v3_26 (fun v4_45 S44 => K S44) FU 0 S25) FU 0 0 S7) FU 0 S3
set_option maxHeartbeats 4000000 in
set_option maxRecDepth 100000 in
theorem l6_weigh_20 {α : Type} {X : GX α} (O : OK 22 X RX6 cX6_weigh 7 none (rmG 1 22)) {c1 : Int32} {c2 : Int32} {c3 : Int32} {KX : Int32 → MS → Option α} (hX : ∀ v4 S, GM 22 eM X (KX v4 S) S 41 [(0, .ref (aX X 0)), (1, .int c1), (2, .int c2), (3, .int c3), (4, .int v4)] []) : ∀ n v4 S, GM 22 eM X (f6_weigh_L20 c1 c2 c3 KX n v4 S) S 20 [(0, .ref (aX X 0)), (1, .int c1), (2, .int c2), (3, .int c3), (4, .int v4)] [] := by
  intro n
  induction n with
  | zero => intro v4 S; exact r_none
  | succ n ih =>
    intro v4 S
    rw [f6_weigh_L20]
    refine r_iload O d6_weigh_20 4 rfl ?_
    refine r_bipush O d6_weigh_22 (v := 7) (by decide) ?_
    refine r_icmp_ge O 41 d6_weigh_24 (by decide) ?_ ?_
    · refine r_sub [0, 1, 2, 3, 4] rfl ?_
      exact hX _ _
    · refine r_aload_n O d6_weigh_27 0 rfl ?_
      refine g_X6_53 O d6_weigh_28 ?_
      refine r_iload O d6_weigh_31 4 rfl ?_
      refine r_iconst O d6_weigh_33 (v := 0) (by decide) ?_
      refine r_iast O (j := 15) (by decide) (fun _ => eM_15) d6_weigh_34 (fun S5 => ?_)
      refine r_iinc O d6_weigh_35 4 (c0 := 1) rfl (by decide) (fun x4_6 => [(4, .int x4_6), (0, .ref (aX X 0)), (1, .int c1), (2, .int c2), (3, .int c3)]) (by decide) (fun _ => rfl) (fun x4_6 => ?_)
      refine r_goto O 20 d6_weigh_38 (by decide) ?_
      refine r_sub [1, 2, 3, 4, 0] rfl ?_
      exact ih _ _
set_option maxHeartbeats 4000000 in
set_option maxRecDepth 100000 in
theorem j6_weigh_90 {α : Type} {X : GX α} (O : OK 22 X RX6 cX6_weigh 7 none (rmG 1 22)) {c1 : Int32} {c2 : Int32} {c3 : Int32} {c4 : Int32} {s0 : Int32} {S : MS} {KB : Int32 → Int32 → MS → Option α} {KX : Int32 → Int32 → MS → Option α} (hB : ∀ v3q v4q S, GM 22 eM X (KB v3q v4q S) S 44 [(0, .ref (aX X 0)), (1, .int c1), (2, .int c2), (3, .int v3q), (4, .int v4q)] []) (hX : ∀ v3q v4q S, GM 22 eM X (KX v3q v4q S) S 165 [(0, .ref (aX X 0)), (1, .int c1), (2, .int c2), (3, .int v3q), (4, .int v4q)] []) : GM 22 eM X (f6_weigh_J90 c1 c2 c3 c4 s0 S KB KX) S 90 [(0, .ref (aX X 0)), (1, .int c1), (2, .int c2), (3, .int c3), (4, .int c4)] [.int s0] := by
  unfold f6_weigh_J90
  refine r_istore O d6_weigh_90 [(5, .int s0), (0, .ref (aX X 0)), (1, .int c1), (2, .int c2), (3, .int c3), (4, .int c4)] (by decide) rfl ?_
  refine r_aload_n O d6_weigh_92 1 rfl ?_
  refine r_dup O d6_weigh_93 rfl ?_
  refine g_X6_172 O d6_weigh_94 ?_
  refine r_iload O d6_weigh_97 0 rfl ?_
  refine r_aload_n O d6_weigh_99 1 rfl ?_
  refine g_X6_25 O d6_weigh_100 ?_
  refine r_iload O d6_weigh_103 5 rfl ?_
  refine r_iald O (j := 6) (by decide) eM_6 d6_weigh_105 (fun k13 hk13 => ?_)
  refine r_iconst O d6_weigh_106 (v := 3) (by decide) ?_
  refine r_isub O d6_weigh_107 ?_
  refine r_imul O d6_weigh_108 ?_
  refine r_iadd O d6_weigh_109 ?_
  refine p_X6_172 O d6_weigh_110 (fun S14 => ?_)
  refine r_aload_n O d6_weigh_113 1 rfl ?_
  refine r_dup O d6_weigh_114 rfl ?_
  refine g_X6_175 O d6_weigh_115 ?_
  refine r_iload O d6_weigh_118 0 rfl ?_
  refine r_aload_n O d6_weigh_120 1 rfl ?_
  refine g_X6_28 O d6_weigh_121 ?_
  refine r_iload O d6_weigh_124 5 rfl ?_
  refine r_iald O (j := 7) (by decide) eM_7 d6_weigh_126 (fun k15 hk15 => ?_)
  refine r_iconst O d6_weigh_127 (v := 1) (by decide) ?_
  refine r_isub O d6_weigh_128 ?_
  refine r_imul O d6_weigh_129 ?_
  refine r_iadd O d6_weigh_130 ?_
  refine p_X6_175 O d6_weigh_131 (fun S16 => ?_)
  refine r_aload_n O d6_weigh_134 1 rfl ?_
  refine g_X6_53 O d6_weigh_135 ?_
  refine r_aload_n O d6_weigh_138 1 rfl ?_
  refine g_X6_25 O d6_weigh_139 ?_
  refine r_iload O d6_weigh_142 5 rfl ?_
  refine r_iald O (j := 6) (by decide) eM_6 d6_weigh_144 (fun k17 hk17 => ?_)
  refine r_dup2 O d6_weigh_145 rfl rfl ?_
  refine r_iald O (j := 15) (by decide) eM_15 d6_weigh_146 (fun k18 hk18 => ?_)
  refine r_bipush O d6_weigh_147 (v := 7) (by decide) ?_
  refine r_iload O d6_weigh_149 0 rfl ?_
  refine r_imul O d6_weigh_151 ?_
  refine r_iadd O d6_weigh_152 ?_
  refine r_iast O (j := 15) (by decide) (fun _ => eM_15) d6_weigh_153 (fun S20 => ?_)
  refine r_iload_n O d6_weigh_154 4 rfl ?_
  refine r_iload O d6_weigh_155 0 rfl ?_
  refine r_iadd O d6_weigh_157 ?_
  refine r_istore_n_nm O d6_weigh_158 (fun x3_21 => [(3, .int x3_21), (5, .int s0), (0, .ref (aX X 0)), (1, .int c1), (2, .int c2), (4, .int c4)]) (by decide) (fun _ => rfl) (fun x3_21 => ?_)
  refine r_iinc O d6_weigh_159 5 (c0 := 1) rfl (by decide) (fun x4_22 => [(4, .int x4_22), (3, .int x3_21), (5, .int s0), (0, .ref (aX X 0)), (1, .int c1), (2, .int c2)]) (by decide) (fun _ => rfl) (fun x4_22 => ?_)
  refine r_goto O 44 d6_weigh_162 (by decide) ?_
  refine r_sub [3, 4, 5, 1, 0] rfl ?_
  exact hB _ _ _
set_option maxHeartbeats 4000000 in
set_option maxRecDepth 100000 in
theorem l6_weigh_44 {α : Type} {X : GX α} (O : OK 22 X RX6 cX6_weigh 7 none (rmG 1 22)) {c1 : Int32} {c2 : Int32} {KX : Int32 → Int32 → MS → Option α} (hX : ∀ v3 v4 S, GM 22 eM X (KX v3 v4 S) S 165 [(0, .ref (aX X 0)), (1, .int c1), (2, .int c2), (3, .int v3), (4, .int v4)] []) : ∀ n v3 v4 S, GM 22 eM X (f6_weigh_L44 c1 c2 KX n v3 v4 S) S 44 [(0, .ref (aX X 0)), (1, .int c1), (2, .int c2), (3, .int v3), (4, .int v4)] [] := by
  intro n
  induction n with
  | zero => intro v3 v4 S; exact r_none
  | succ n ih =>
    intro v3 v4 S
    rw [f6_weigh_L44]
    refine r_iload O d6_weigh_44 4 rfl ?_
    refine r_aload_n O d6_weigh_46 0 rfl ?_
    refine g_X6_89 O d6_weigh_47 ?_
    refine r_icmp_ge O 165 d6_weigh_50 (by decide) ?_ ?_
    · refine r_sub [0, 1, 2, 3, 4] rfl ?_
      exact hX _ _ _
    · refine r_iload O d6_weigh_53 4 rfl ?_
      refine r_iload_n O d6_weigh_55 2 rfl ?_
      refine r_icmp_ne O 68 d6_weigh_56 (by decide) ?_ ?_
      · refine r_aload_n O d6_weigh_68 0 rfl ?_
        refine r_iload_n O d6_weigh_69 1 rfl ?_
        refine r_iload O d6_weigh_70 4 rfl ?_
        refine r_callVi O (b := 0) (bv := fun ad => [.int c1, .int v4]) (rest := []) (c6_waterIn (lX X) c1 v4 S) (fun _ => rfl) (by decide) eM_0 rfl rfl w_805 w_807 w_26 w_51 w_808 hy_X6_waterIn ⟨rfl, rfl, Nat.le_of_ble_eq_true rfl, Nat.le_of_ble_eq_true rfl⟩ rfl rfl (Nat.le_of_ble_eq_true rfl) d6_weigh_72 (fun r10 S9 => ?_)
        refine r_if_ne O 82 d6_weigh_75 (by decide) ?_ ?_
        · refine r_iconst O d6_weigh_82 (v := 2) (by decide) ?_
          refine r_aload_n O d6_weigh_83 0 rfl ?_
          refine r_iload O d6_weigh_84 4 rfl ?_
          refine r_callVi O (b := 0) (bv := fun ad => [.int v4]) (rest := [.int 2]) (c6_weightOf (lX X) v4 S9) (fun _ => rfl) (by decide) eM_0 rfl rfl w_801 w_803 w_25 w_51 w_804 hy_X6_weightOf ⟨rfl, rfl, Nat.le_of_ble_eq_true rfl, Nat.le_of_ble_eq_true rfl⟩ rfl rfl (Nat.le_of_ble_eq_true rfl) d6_weigh_86 (fun r12 S11 => ?_)
          refine r_imul O d6_weigh_89 ?_
          refine r_sub [0, 1, 2, 3, 4] rfl ?_
          exact j6_weigh_90 O (fun _ _ _ => ih _ _ _) hX
        · refine r_iconst O d6_weigh_78 (v := 0) (by decide) ?_
          refine r_goto O 90 d6_weigh_79 (by decide) ?_
          refine r_sub [0, 1, 2, 3, 4] rfl ?_
          exact j6_weigh_90 O (fun _ _ _ => ih _ _ _) hX
      · refine r_aload_n O d6_weigh_59 0 rfl ?_
        refine r_iload O d6_weigh_60 4 rfl ?_
        refine r_callVi O (b := 0) (bv := fun ad => [.int v4]) (rest := []) (c6_weightOf (lX X) v4 S) (fun _ => rfl) (by decide) eM_0 rfl rfl w_801 w_803 w_25 w_51 w_804 hy_X6_weightOf ⟨rfl, rfl, Nat.le_of_ble_eq_true rfl, Nat.le_of_ble_eq_true rfl⟩ rfl rfl (Nat.le_of_ble_eq_true rfl) d6_weigh_62 (fun r24 S23 => ?_)
        refine r_goto O 90 d6_weigh_65 (by decide) ?_
        refine r_sub [0, 1, 2, 3, 4] rfl ?_
        exact j6_weigh_90 O (fun _ _ _ => ih _ _ _) hX
set_option maxHeartbeats 4000000 in
set_option maxRecDepth 100000 in
theorem l6_weigh_181 {α : Type} {X : GX α} (O : OK 22 X RX6 cX6_weigh 7 none (rmG 1 22)) {c3 : Int32} {c4 : Int32} {KX : Int32 → Int32 → MS → Option α} (hX : ∀ v5 v6 S, GM 22 eM X (KX v5 v6 S) S 216 [(0, .ref (aX X 0)), (3, .int c3), (4, .int c4), (5, .int v5), (6, .int v6)] []) : ∀ n v5 v6 S, GM 22 eM X (f6_weigh_L181 c3 c4 KX n v5 v6 S) S 181 [(0, .ref (aX X 0)), (3, .int c3), (4, .int c4), (5, .int v5), (6, .int v6)] [] := by
  intro n
  induction n with
  | zero => intro v5 v6 S; exact r_none
  | succ n ih =>
    intro v5 v6 S
    rw [f6_weigh_L181]
    refine r_iload O d6_weigh_181 4 rfl ?_
    refine r_iload O d6_weigh_183 2 rfl ?_
    refine r_icmp_gt O 216 d6_weigh_185 (by decide) ?_ ?_
    · refine r_sub [0, 1, 2, 3, 4] rfl ?_
      exact hX _ _ _
    · refine r_iload O d6_weigh_188 3 rfl ?_
      refine r_iload O d6_weigh_190 2 rfl ?_
      refine r_iload O d6_weigh_192 4 rfl ?_
      refine r_isub O d6_weigh_194 ?_
      refine r_iconst O d6_weigh_195 (v := 1) (by decide) ?_
      refine r_iadd O d6_weigh_196 ?_
      refine r_aload_n O d6_weigh_197 0 rfl ?_
      refine g_X6_53 O d6_weigh_198 ?_
      refine r_iload O d6_weigh_201 4 rfl ?_
      refine r_iald O (j := 15) (by decide) eM_15 d6_weigh_203 (fun k28 hk28 => ?_)
      refine r_iload_n O d6_weigh_204 1 rfl ?_
      refine r_isub O d6_weigh_205 ?_
      refine r_imul O d6_weigh_206 ?_
      refine r_iadd O d6_weigh_207 ?_
      refine r_istore_nm O d6_weigh_208 (fun x5_29 => [(5, .int x5_29), (0, .ref (aX X 0)), (3, .int c3), (4, .int c4), (6, .int v6)]) (by decide) (fun _ => rfl) (fun x5_29 => ?_)
      refine r_iinc O d6_weigh_210 4 (c0 := 1) rfl (by decide) (fun x6_30 => [(6, .int x6_30), (5, .int x5_29), (0, .ref (aX X 0)), (3, .int c3), (4, .int c4)]) (by decide) (fun _ => rfl) (fun x6_30 => ?_)
      refine r_goto O 181 d6_weigh_213 (by decide) ?_
      refine r_sub [2, 3, 4, 1, 0] rfl ?_
      exact ih _ _ _
set_option maxHeartbeats 4000000 in
set_option maxRecDepth 100000 in
theorem l6_weigh_168 {α : Type} {X : GX α} (O : OK 22 X RX6 cX6_weigh 7 none (rmG 1 22)) {c3 : Int32} {KX : Int32 → MS → Option α} (hX : ∀ v4 S, GM 22 eM X (KX v4 S) S 259 [(0, .ref (aX X 0)), (3, .int c3), (4, .int v4)] []) : ∀ n v4 S, GM 22 eM X (f6_weigh_L168 c3 KX n v4 S) S 168 [(0, .ref (aX X 0)), (3, .int c3), (4, .int v4)] [] := by
  intro n
  induction n with
  | zero => intro v4 S; exact r_none
  | succ n ih =>
    intro v4 S
    rw [f6_weigh_L168]
    refine r_iload O d6_weigh_168 2 rfl ?_
    refine r_bipush O d6_weigh_170 (v := 7) (by decide) ?_
    refine r_icmp_ge O 259 d6_weigh_172 (by decide) ?_ ?_
    · refine r_sub [0, 1, 2] rfl ?_
      exact hX _ _
    · refine r_iconst O d6_weigh_175 (v := 0) (by decide) ?_
      refine r_istore O d6_weigh_176 [(5, .int 0), (0, .ref (aX X 0)), (3, .int c3), (4, .int v4)] (by decide) rfl ?_
      refine r_iconst O d6_weigh_178 (v := 0) (by decide) ?_
      refine r_istore O d6_weigh_179 [(6, .int 0), (5, .int 0), (0, .ref (aX X 0)), (3, .int c3), (4, .int v4)] (by decide) rfl ?_
      refine r_sub [2, 3, 4, 1, 0] rfl ?_
      refine l6_weigh_181 O (fun v5_32 v6_33 S31 => ?_) _ _ _ _
      refine r_aload_n O d6_weigh_216 0 rfl ?_
      refine g_X6_56 O d6_weigh_217 ?_
      refine r_iload O d6_weigh_220 2 rfl ?_
      refine r_iload O d6_weigh_222 3 rfl ?_
      refine r_iast O (j := 16) (by decide) (fun _ => eM_16) d6_weigh_224 (fun S35 => ?_)
      refine r_aload_n O d6_weigh_225 0 rfl ?_
      refine r_iload O d6_weigh_226 3 rfl ?_
      refine r_callSi O (rest := [.ref (aX X 0)]) (c6_plain (lX X) v5_32 S35) w_821 w_822 w_51 w_823 hy_X6_plain ⟨rfl, rfl, Nat.le_of_ble_eq_true rfl, Nat.le_of_ble_eq_true rfl⟩ rfl rfl (Nat.le_of_ble_eq_true rfl) d6_weigh_228 (fun r37 S36 => ?_)
      refine r_aload_n O d6_weigh_231 0 rfl ?_
      refine g_X6_178 O d6_weigh_232 ?_
      refine r_icmp_le O 246 d6_weigh_235 (by decide) ?_ ?_
      · refine r_aload_n O d6_weigh_246 0 rfl ?_
        refine g_X6_178 O d6_weigh_247 ?_
        refine p_X6_178 O d6_weigh_250 (fun S38 => ?_)
        refine r_iinc O d6_weigh_253 2 (c0 := 1) rfl (by decide) (fun x4_39 => [(4, .int x4_39), (0, .ref (aX X 0)), (3, .int c3), (5, .int v5_32), (6, .int v6_33)]) (by decide) (fun _ => rfl) (fun x4_39 => ?_)
        refine r_goto O 168 d6_weigh_256 (by decide) ?_
        refine r_sub [1, 2, 0] rfl ?_
        exact ih _ _
      · refine r_iload O d6_weigh_238 3 rfl ?_
        refine r_callSi O (rest := [.ref (aX X 0)]) (c6_plain (lX X) v5_32 S36) w_821 w_822 w_51 w_823 hy_X6_plain ⟨rfl, rfl, Nat.le_of_ble_eq_true rfl, Nat.le_of_ble_eq_true rfl⟩ rfl rfl (Nat.le_of_ble_eq_true rfl) d6_weigh_240 (fun r41 S40 => ?_)
        refine r_goto O 250 d6_weigh_243 (by decide) ?_
        refine p_X6_178 O d6_weigh_250 (fun S42 => ?_)
        refine r_iinc O d6_weigh_253 2 (c0 := 1) rfl (by decide) (fun x4_43 => [(4, .int x4_43), (0, .ref (aX X 0)), (3, .int c3), (5, .int v5_32), (6, .int v6_33)]) (by decide) (fun _ => rfl) (fun x4_43 => ?_)
        refine r_goto O 168 d6_weigh_256 (by decide) ?_
        refine r_sub [1, 2, 0] rfl ?_
        exact ih _ _
set_option maxHeartbeats 4000000 in
set_option maxRecDepth 100000 in
theorem c6_weigh (l : Launch) (p1 : Int32) (p2 : Int32) (S : MS) {α : Type} : CtV 22 eM l yX6_weigh cX6_weigh 7 none (rmG 1 22) S (fun ad => [.ref (ad 0), .int p1, .int p2]) (α := α) (f6_weigh p1 p2 S) := by
  refine CtV.of (by decide) (fun _ => Nat.le_of_ble_eq_true rfl) (fun X K _ O hQ => ?_)
  have O : OK 22 X RX6 cX6_weigh 7 none (rmG 1 22) := O
  show GM 22 eM X (f6_weigh p1 p2 S K) S 0 [(0, .ref (aX X 0)), (1, .int p1), (2, .int p2)] []
  unfold f6_weigh
  refine r_aload_n O d6_weigh_0 0 rfl ?_
  refine r_iconst O d6_weigh_1 (v := 0) (by decide) ?_
  refine p_X6_172 O d6_weigh_2 (fun S1 => ?_)
  refine r_aload_n O d6_weigh_5 0 rfl ?_
  refine r_iconst O d6_weigh_6 (v := 0) (by decide) ?_
  refine p_X6_175 O d6_weigh_7 (fun S2 => ?_)
  refine r_aload_n O d6_weigh_10 0 rfl ?_
  refine r_iconst O d6_weigh_11 (v := 0) (by decide) ?_
  refine p_X6_178 O d6_weigh_12 (fun S3 => ?_)
  refine r_iconst O d6_weigh_15 (v := 0) (by decide) ?_
  refine r_istore_n O d6_weigh_16 [(3, .int 0), (0, .ref (aX X 0)), (1, .int p1), (2, .int p2)] (by decide) rfl ?_
  refine r_iconst O d6_weigh_17 (v := 0) (by decide) ?_
  refine r_istore O d6_weigh_18 [(4, .int 0), (3, .int 0), (0, .ref (aX X 0)), (1, .int p1), (2, .int p2)] (by decide) rfl ?_
  refine r_sub [2, 3, 4, 1, 0] rfl ?_
  refine l6_weigh_20 O (fun v4_8 S7 => ?_) _ _ _
  refine r_iconst O d6_weigh_41 (v := 0) (by decide) ?_
  refine r_istore O d6_weigh_42 [(4, .int 0), (0, .ref (aX X 0)), (1, .int p1), (2, .int p2), (3, .int 0)] (by decide) rfl ?_
  refine r_sub [1, 2, 3, 4, 0] rfl ?_
  refine l6_weigh_44 O (fun v3_26 v4_27 S25 => ?_) _ _ _ _
  refine r_iconst O d6_weigh_165 (v := 0) (by decide) ?_
  refine r_istore O d6_weigh_166 [(4, .int 0), (0, .ref (aX X 0)), (1, .int p1), (2, .int p2), (3, .int v3_26)] (by decide) rfl ?_
  refine r_sub [1, 4, 0] rfl ?_
  refine l6_weigh_168 O (fun v4_45 S44 => ?_) _ _ _
  exact r_vret O hQ d6_weigh_259
-- X6.isSafe
theorem d6_isSafe_0 : decode cX6_isSafe 0 = .ok (.aload_n 0, 1) := by decide +kernel
theorem d6_isSafe_1 : decode cX6_isSafe 1 = .ok (.iload_n 1, 1) := by decide +kernel
theorem d6_isSafe_2 : decode cX6_isSafe 2 = .ok (.iload_n 2, 1) := by decide +kernel
theorem d6_isSafe_3 : decode cX6_isSafe 3 = .ok (.invokevirtual 184, 3) := by decide +kernel
theorem d6_isSafe_6 : decode cX6_isSafe 6 = .ok (.aload_n 0, 1) := by decide +kernel
theorem d6_isSafe_7 : decode cX6_isSafe 7 = .ok (.getfield 172, 3) := by decide +kernel
theorem d6_isSafe_10 : decode cX6_isSafe 10 = .ok (.invokestatic 181, 3) := by decide +kernel
theorem d6_isSafe_13 : decode cX6_isSafe 13 = .ok (.iconst 2, 1) := by decide +kernel
theorem d6_isSafe_14 : decode cX6_isSafe 14 = .ok (.aload_n 0, 1) := by decide +kernel
theorem d6_isSafe_15 : decode cX6_isSafe 15 = .ok (.getfield 38, 3) := by decide +kernel
theorem d6_isSafe_18 : decode cX6_isSafe 18 = .ok (.iconst 0, 1) := by decide +kernel
theorem d6_isSafe_19 : decode cX6_isSafe 19 = .ok (.iaload, 1) := by decide +kernel
theorem d6_isSafe_20 : decode cX6_isSafe 20 = .ok (.imul, 1) := by decide +kernel
theorem d6_isSafe_21 : decode cX6_isSafe 21 = .ok (.if_icmp .gt 40, 3) := by decide +kernel
theorem d6_isSafe_24 : decode cX6_isSafe 24 = .ok (.aload_n 0, 1) := by decide +kernel
theorem d6_isSafe_25 : decode cX6_isSafe 25 = .ok (.getfield 175, 3) := by decide +kernel
theorem d6_isSafe_28 : decode cX6_isSafe 28 = .ok (.invokestatic 181, 3) := by decide +kernel
theorem d6_isSafe_31 : decode cX6_isSafe 31 = .ok (.iconst 2, 1) := by decide +kernel
theorem d6_isSafe_32 : decode cX6_isSafe 32 = .ok (.aload_n 0, 1) := by decide +kernel
theorem d6_isSafe_33 : decode cX6_isSafe 33 = .ok (.getfield 38, 3) := by decide +kernel
theorem d6_isSafe_36 : decode cX6_isSafe 36 = .ok (.iconst 1, 1) := by decide +kernel
theorem d6_isSafe_37 : decode cX6_isSafe 37 = .ok (.iaload, 1) := by decide +kernel
theorem d6_isSafe_38 : decode cX6_isSafe 38 = .ok (.imul, 1) := by decide +kernel
theorem d6_isSafe_39 : decode cX6_isSafe 39 = .ok (.if_icmp .gt 22, 3) := by decide +kernel
theorem d6_isSafe_42 : decode cX6_isSafe 42 = .ok (.aload_n 0, 1) := by decide +kernel
theorem d6_isSafe_43 : decode cX6_isSafe 43 = .ok (.getfield 178, 3) := by decide +kernel
theorem d6_isSafe_46 : decode cX6_isSafe 46 = .ok (.iconst 2, 1) := by decide +kernel
theorem d6_isSafe_47 : decode cX6_isSafe 47 = .ok (.aload_n 0, 1) := by decide +kernel
theorem d6_isSafe_48 : decode cX6_isSafe 48 = .ok (.getfield 38, 3) := by decide +kernel
theorem d6_isSafe_51 : decode cX6_isSafe 51 = .ok (.iconst 2, 1) := by decide +kernel
theorem d6_isSafe_52 : decode cX6_isSafe 52 = .ok (.iaload, 1) := by decide +kernel
theorem d6_isSafe_53 : decode cX6_isSafe 53 = .ok (.imul, 1) := by decide +kernel
theorem d6_isSafe_54 : decode cX6_isSafe 54 = .ok (.if_icmp .gt 7, 3) := by decide +kernel
theorem d6_isSafe_57 : decode cX6_isSafe 57 = .ok (.iconst 1, 1) := by decide +kernel
theorem d6_isSafe_58 : decode cX6_isSafe 58 = .ok (.goto 4, 3) := by decide +kernel
theorem d6_isSafe_61 : decode cX6_isSafe 61 = .ok (.iconst 0, 1) := by decide +kernel
theorem d6_isSafe_62 : decode cX6_isSafe 62 = .ok (.ireturn, 1) := by decide +kernel
noncomputable def f6_isSafe {α : Type} (p1 : Int32) (p2 : Int32) (S : MS) (K : Int32 → MS → Option α) : Option α := f6_weigh p1 p2 S fun S1 => f6_plain (S1.1 0 25) S1 fun r4 S3 => ck 0 3 fun k5 => if ((2 : Int32) * (S3.1 10 k5)) < r4 then (K 0 S3) else (f6_plain (S3.1 0 26) S3 fun r7 S6 => ck 1 3 fun k8 => if ((2 : Int32) * (S6.1 10 k8)) < r7 then (K 0 S6) else (ck 2 3 fun k9 => if ((2 : Int32) * (S6.1 10 k9)) < (S6.1 0 27) then (K 0 S6) else (K 1 S6)))
set_option maxHeartbeats 4000000 in
set_option maxRecDepth 100000 in
theorem c6_isSafe (l : Launch) (p1 : Int32) (p2 : Int32) (S : MS) {α : Type} : CtI 22 eM l yX6_isSafe cX6_isSafe 3 (some .boolean) (rmG 2 48) S (fun ad => [.ref (ad 0), .int p1, .int p2]) (α := α) (f6_isSafe p1 p2 S) := by
  refine CtI.of (by decide) (fun _ => Nat.le_of_ble_eq_true rfl) (fun X K _ O hQ => ?_)
  have O : OK 22 X RX6 cX6_isSafe 3 (some .boolean) (rmG 2 48) := O
  show GM 22 eM X (f6_isSafe p1 p2 S K) S 0 [(0, .ref (aX X 0)), (1, .int p1), (2, .int p2)] []
  unfold f6_isSafe
  refine r_aload_n O d6_isSafe_0 0 rfl ?_
  refine r_iload_n O d6_isSafe_1 1 rfl ?_
  refine r_iload_n O d6_isSafe_2 2 rfl ?_
  refine r_callVv O (b := 0) (bv := fun ad => [.int p1, .int p2]) (rest := []) (c6_weigh (lX X) p1 p2 S) (fun _ => rfl) (by decide) eM_0 rfl rfl w_817 w_819 w_29 w_51 w_820 hy_X6_weigh ⟨rfl, rfl, Nat.le_of_ble_eq_true rfl, Nat.le_of_ble_eq_true rfl⟩ rfl rfl (Nat.le_of_ble_eq_true rfl) d6_isSafe_3 (fun S1 => ?_)
  refine r_aload_n O d6_isSafe_6 0 rfl ?_
  refine g_X6_172 O d6_isSafe_7 ?_
  refine r_callSi O (rest := []) (c6_plain (lX X) (S1.1 0 25) S1) w_821 w_822 w_51 w_823 hy_X6_plain ⟨rfl, rfl, Nat.le_of_ble_eq_true rfl, Nat.le_of_ble_eq_true rfl⟩ rfl rfl (Nat.le_of_ble_eq_true rfl) d6_isSafe_10 (fun r4 S3 => ?_)
  refine r_iconst O d6_isSafe_13 (v := 2) (by decide) ?_
  refine r_aload_n O d6_isSafe_14 0 rfl ?_
  refine g_X6_38 O d6_isSafe_15 ?_
  refine r_iconst O d6_isSafe_18 (v := 0) (by decide) ?_
  refine r_iald O (j := 10) (by decide) eM_10 d6_isSafe_19 (fun k5 hk5 => ?_)
  refine r_imul O d6_isSafe_20 ?_
  refine r_icmp_gt O 61 d6_isSafe_21 (by decide) ?_ ?_
  · refine r_iconst O d6_isSafe_61 (v := 0) (by decide) ?_
    exact r_zret O hQ (by decide) d6_isSafe_62
  · refine r_aload_n O d6_isSafe_24 0 rfl ?_
    refine g_X6_175 O d6_isSafe_25 ?_
    refine r_callSi O (rest := []) (c6_plain (lX X) (S3.1 0 26) S3) w_821 w_822 w_51 w_823 hy_X6_plain ⟨rfl, rfl, Nat.le_of_ble_eq_true rfl, Nat.le_of_ble_eq_true rfl⟩ rfl rfl (Nat.le_of_ble_eq_true rfl) d6_isSafe_28 (fun r7 S6 => ?_)
    refine r_iconst O d6_isSafe_31 (v := 2) (by decide) ?_
    refine r_aload_n O d6_isSafe_32 0 rfl ?_
    refine g_X6_38 O d6_isSafe_33 ?_
    refine r_iconst O d6_isSafe_36 (v := 1) (by decide) ?_
    refine r_iald O (j := 10) (by decide) eM_10 d6_isSafe_37 (fun k8 hk8 => ?_)
    refine r_imul O d6_isSafe_38 ?_
    refine r_icmp_gt O 61 d6_isSafe_39 (by decide) ?_ ?_
    · refine r_iconst O d6_isSafe_61 (v := 0) (by decide) ?_
      exact r_zret O hQ (by decide) d6_isSafe_62
    · refine r_aload_n O d6_isSafe_42 0 rfl ?_
      refine g_X6_178 O d6_isSafe_43 ?_
      refine r_iconst O d6_isSafe_46 (v := 2) (by decide) ?_
      refine r_aload_n O d6_isSafe_47 0 rfl ?_
      refine g_X6_38 O d6_isSafe_48 ?_
      refine r_iconst O d6_isSafe_51 (v := 2) (by decide) ?_
      refine r_iald O (j := 10) (by decide) eM_10 d6_isSafe_52 (fun k9 hk9 => ?_)
      refine r_imul O d6_isSafe_53 ?_
      refine r_icmp_gt O 61 d6_isSafe_54 (by decide) ?_ ?_
      · refine r_iconst O d6_isSafe_61 (v := 0) (by decide) ?_
        exact r_zret O hQ (by decide) d6_isSafe_62
      · refine r_iconst O d6_isSafe_57 (v := 1) (by decide) ?_
        refine r_goto O 62 d6_isSafe_58 (by decide) ?_
        exact r_zret O hQ (by decide) d6_isSafe_62
-- X6.pumped
theorem d6_pumped_0 : decode cX6_pumped 0 = .ok (.aload_n 0, 1) := by decide +kernel
theorem d6_pumped_1 : decode cX6_pumped 1 = .ok (.iload_n 1, 1) := by decide +kernel
theorem d6_pumped_2 : decode cX6_pumped 2 = .ok (.iload_n 2, 1) := by decide +kernel
theorem d6_pumped_3 : decode cX6_pumped 3 = .ok (.invokevirtual 160, 3) := by decide +kernel
theorem d6_pumped_6 : decode cX6_pumped 6 = .ok (.istore_n 3, 1) := by decide +kernel
theorem d6_pumped_7 : decode cX6_pumped 7 = .ok (.iload_n 3, 1) := by decide +kernel
theorem d6_pumped_8 : decode cX6_pumped 8 = .ok (.ifCond .ne 16, 3) := by decide +kernel
theorem d6_pumped_11 : decode cX6_pumped 11 = .ok (.iload_n 1, 1) := by decide +kernel
theorem d6_pumped_12 : decode cX6_pumped 12 = .ok (.iconst 2, 1) := by decide +kernel
theorem d6_pumped_13 : decode cX6_pumped 13 = .ok (.aload_n 0, 1) := by decide +kernel
theorem d6_pumped_14 : decode cX6_pumped 14 = .ok (.getfield 19, 3) := by decide +kernel
theorem d6_pumped_17 : decode cX6_pumped 17 = .ok (.iload_n 2, 1) := by decide +kernel
theorem d6_pumped_18 : decode cX6_pumped 18 = .ok (.iaload, 1) := by decide +kernel
theorem d6_pumped_19 : decode cX6_pumped 19 = .ok (.imul, 1) := by decide +kernel
theorem d6_pumped_20 : decode cX6_pumped 20 = .ok (.iadd, 1) := by decide +kernel
theorem d6_pumped_21 : decode cX6_pumped 21 = .ok (.goto 13, 3) := by decide +kernel
theorem d6_pumped_24 : decode cX6_pumped 24 = .ok (.iload_n 1, 1) := by decide +kernel
theorem d6_pumped_25 : decode cX6_pumped 25 = .ok (.iload_n 3, 1) := by decide +kernel
theorem d6_pumped_26 : decode cX6_pumped 26 = .ok (.aload_n 0, 1) := by decide +kernel
theorem d6_pumped_27 : decode cX6_pumped 27 = .ok (.getfield 19, 3) := by decide +kernel
theorem d6_pumped_30 : decode cX6_pumped 30 = .ok (.iload_n 2, 1) := by decide +kernel
theorem d6_pumped_31 : decode cX6_pumped 31 = .ok (.iaload, 1) := by decide +kernel
theorem d6_pumped_32 : decode cX6_pumped 32 = .ok (.imul, 1) := by decide +kernel
theorem d6_pumped_33 : decode cX6_pumped 33 = .ok (.isub, 1) := by decide +kernel
theorem d6_pumped_34 : decode cX6_pumped 34 = .ok (.ireturn, 1) := by decide +kernel
noncomputable def f6_pumped {α : Type} (p1 : Int32) (p2 : Int32) (S : MS) (K : Int32 → MS → Option α) : Option α := f6_waterIn p1 p2 S fun r2 S1 => if r2 = 0 then (ck p2 7 fun k4 => K (p1 + ((2 : Int32) * (S1.1 4 k4))) S1) else (ck p2 7 fun k3 => K (p1 - (r2 * (S1.1 4 k3))) S1)
set_option maxHeartbeats 4000000 in
set_option maxRecDepth 100000 in
theorem c6_pumped (l : Launch) (p1 : Int32) (p2 : Int32) (S : MS) {α : Type} : CtI 22 eM l yX6_pumped cX6_pumped 4 (some .int) (rmG 1 22) S (fun ad => [.ref (ad 0), .int p1, .int p2]) (α := α) (f6_pumped p1 p2 S) := by
  refine CtI.of (by decide) (fun _ => Nat.le_of_ble_eq_true rfl) (fun X K _ O hQ => ?_)
  have O : OK 22 X RX6 cX6_pumped 4 (some .int) (rmG 1 22) := O
  show GM 22 eM X (f6_pumped p1 p2 S K) S 0 [(0, .ref (aX X 0)), (1, .int p1), (2, .int p2)] []
  unfold f6_pumped
  refine r_aload_n O d6_pumped_0 0 rfl ?_
  refine r_iload_n O d6_pumped_1 1 rfl ?_
  refine r_iload_n O d6_pumped_2 2 rfl ?_
  refine r_callVi O (b := 0) (bv := fun ad => [.int p1, .int p2]) (rest := []) (c6_waterIn (lX X) p1 p2 S) (fun _ => rfl) (by decide) eM_0 rfl rfl w_805 w_807 w_26 w_51 w_808 hy_X6_waterIn ⟨rfl, rfl, Nat.le_of_ble_eq_true rfl, Nat.le_of_ble_eq_true rfl⟩ rfl rfl (Nat.le_of_ble_eq_true rfl) d6_pumped_3 (fun r2 S1 => ?_)
  refine r_istore_n O d6_pumped_6 [(3, .int r2), (0, .ref (aX X 0)), (1, .int p1), (2, .int p2)] (by decide) rfl ?_
  refine r_iload_n O d6_pumped_7 0 rfl ?_
  refine r_if_ne O 24 d6_pumped_8 (by decide) ?_ ?_
  · refine r_iload_n O d6_pumped_24 2 rfl ?_
    refine r_iload_n O d6_pumped_25 0 rfl ?_
    refine r_aload_n O d6_pumped_26 1 rfl ?_
    refine g_X6_19 O d6_pumped_27 ?_
    refine r_iload_n O d6_pumped_30 3 rfl ?_
    refine r_iald O (j := 4) (by decide) eM_4 d6_pumped_31 (fun k3 hk3 => ?_)
    refine r_imul O d6_pumped_32 ?_
    refine r_isub O d6_pumped_33 ?_
    exact r_iret O hQ d6_pumped_34
  · refine r_iload_n O d6_pumped_11 2 rfl ?_
    refine r_iconst O d6_pumped_12 (v := 2) (by decide) ?_
    refine r_aload_n O d6_pumped_13 1 rfl ?_
    refine g_X6_19 O d6_pumped_14 ?_
    refine r_iload_n O d6_pumped_17 3 rfl ?_
    refine r_iald O (j := 4) (by decide) eM_4 d6_pumped_18 (fun k4 hk4 => ?_)
    refine r_imul O d6_pumped_19 ?_
    refine r_iadd O d6_pumped_20 ?_
    refine r_goto O 34 d6_pumped_21 (by decide) ?_
    exact r_iret O hQ d6_pumped_34
