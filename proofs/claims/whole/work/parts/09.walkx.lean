-- X5.plan
theorem d5_plan_0 : decode cX5_plan 0 = .ok (.iload_n 1, 1) := by decide +kernel
theorem d5_plan_1 : decode cX5_plan 1 = .ok (.iconst (-1), 1) := by decide +kernel
theorem d5_plan_2 : decode cX5_plan 2 = .ok (.if_icmp .lt 9, 3) := by decide +kernel
theorem d5_plan_5 : decode cX5_plan 5 = .ok (.iload_n 1, 1) := by decide +kernel
theorem d5_plan_6 : decode cX5_plan 6 = .ok (.bipush 19, 2) := by decide +kernel
theorem d5_plan_8 : decode cX5_plan 8 = .ok (.if_icmp .le 6, 3) := by decide +kernel
theorem d5_plan_11 : decode cX5_plan 11 = .ok (.bipush (-2), 2) := by decide +kernel
theorem d5_plan_13 : decode cX5_plan 13 = .ok (.ireturn, 1) := by decide +kernel
theorem d5_plan_14 : decode cX5_plan 14 = .ok (.aload_n 0, 1) := by decide +kernel
theorem d5_plan_15 : decode cX5_plan 15 = .ok (.invokevirtual 126, 3) := by decide +kernel
theorem d5_plan_18 : decode cX5_plan 18 = .ok (.ifCond .eq 6, 3) := by decide +kernel
theorem d5_plan_21 : decode cX5_plan 21 = .ok (.bipush (-3), 2) := by decide +kernel
theorem d5_plan_23 : decode cX5_plan 23 = .ok (.ireturn, 1) := by decide +kernel
theorem d5_plan_24 : decode cX5_plan 24 = .ok (.aload_n 0, 1) := by decide +kernel
theorem d5_plan_25 : decode cX5_plan 25 = .ok (.getfield 27, 3) := by decide +kernel
theorem d5_plan_28 : decode cX5_plan 28 = .ok (.aload_n 0, 1) := by decide +kernel
theorem d5_plan_29 : decode cX5_plan 29 = .ok (.getfield 20, 3) := by decide +kernel
theorem d5_plan_32 : decode cX5_plan 32 = .ok (.invokevirtual 161, 3) := by decide +kernel
theorem d5_plan_35 : decode cX5_plan 35 = .ok (.iload_n 1, 1) := by decide +kernel
theorem d5_plan_36 : decode cX5_plan 36 = .ok (.iconst (-1), 1) := by decide +kernel
theorem d5_plan_37 : decode cX5_plan 37 = .ok (.if_icmp .ne 11, 3) := by decide +kernel
theorem d5_plan_40 : decode cX5_plan 40 = .ok (.aload_n 0, 1) := by decide +kernel
theorem d5_plan_41 : decode cX5_plan 41 = .ok (.getfield 27, 3) := by decide +kernel
theorem d5_plan_44 : decode cX5_plan 44 = .ok (.invokevirtual 165, 3) := by decide +kernel
theorem d5_plan_47 : decode cX5_plan 47 = .ok (.ireturn, 1) := by decide +kernel
theorem d5_plan_48 : decode cX5_plan 48 = .ok (.aload_n 0, 1) := by decide +kernel
theorem d5_plan_49 : decode cX5_plan 49 = .ok (.getfield 27, 3) := by decide +kernel
theorem d5_plan_52 : decode cX5_plan 52 = .ok (.iload_n 1, 1) := by decide +kernel
theorem d5_plan_53 : decode cX5_plan 53 = .ok (.invokevirtual 168, 3) := by decide +kernel
theorem d5_plan_56 : decode cX5_plan 56 = .ok (.ireturn, 1) := by decide +kernel
noncomputable def f5_plan {α : Type} (p1 : Int32) (S : MS) (K : Int32 → MS → Option α) : Option α := if p1 < (-1) then (K (-2) S) else (if p1 ≤ 19 then (f5_hasNoShip S fun r2 S1 => if r2 = 0 then (f2_refresh S1 fun S3 => if p1 = (-1) then (f2_planLength S3 fun r8 S7 => K r8 S7) else (f2_planTank p1 S3 fun r6 S5 => K r6 S5)) else (K (-3) S1)) else (K (-2) S))
set_option maxHeartbeats 4000000 in
set_option maxRecDepth 100000 in
theorem c5_plan (l : Launch) (p1 : Int32) (S : MS) {α : Type} : CtI 30 eX l yX5_plan cX5_plan 2 (some .int) (rmG 6 134) S (fun ad => [.ref (ad 0), .int p1]) (α := α) (f5_plan p1 S) := by
  refine CtI.of (by decide) (fun _ => Nat.le_of_ble_eq_true rfl) (fun X K _ O hQ => ?_)
  have O : OK 30 X RX5 cX5_plan 2 (some .int) (rmG 6 134) := O
  show GM 30 eX X (f5_plan p1 S K) S 0 [(0, .ref (aX X 0)), (1, .int p1)] []
  unfold f5_plan
  refine r_iload_n O d5_plan_0 1 rfl ?_
  refine r_iconst O d5_plan_1 (v := (-1)) (by decide) ?_
  refine r_icmp_lt O 11 d5_plan_2 (by decide) ?_ ?_
  · refine r_bipush O d5_plan_11 (v := (-2)) (by decide) ?_
    exact r_iret O hQ d5_plan_13
  · refine r_iload_n O d5_plan_5 1 rfl ?_
    refine r_bipush O d5_plan_6 (v := 19) (by decide) ?_
    refine r_icmp_le O 14 d5_plan_8 (by decide) ?_ ?_
    · refine r_aload_n O d5_plan_14 0 rfl ?_
      refine r_callVi O (b := 0) (bv := fun ad => []) (rest := []) (c5_hasNoShip (lX X) S) (fun _ => rfl) (by decide) eX_0 rfl rfl w_375 w_377 w_2 w_45 w_378 hy_X5_hasNoShip ⟨rfl, rfl, Nat.le_of_ble_eq_true rfl, Nat.le_of_ble_eq_true rfl⟩ rfl rfl (Nat.le_of_ble_eq_true rfl) d5_plan_15 (fun r2 S1 => ?_)
      refine r_if_eq O 24 d5_plan_18 (by decide) ?_ ?_
      · refine r_aload_n O d5_plan_24 0 rfl ?_
        refine g_X5_27 O d5_plan_25 ?_
        refine r_aload_n O d5_plan_28 0 rfl ?_
        refine g_X5_20 O d5_plan_29 ?_
        refine r_callVv O (b := 3) (bv := fun ad => [.ref (ad 2)]) (rest := []) (c2_refresh (lX X) S1) (fun _ => rfl) (by decide) eX_3 rfl rfl w_414 w_415 w_416 w_49 w_417 hy_X2_refresh ⟨rfl, rfl, Nat.le_of_ble_eq_true rfl, Nat.le_of_ble_eq_true rfl⟩ rfl rfl (Nat.le_of_ble_eq_true rfl) d5_plan_32 (fun S3 => ?_)
        refine r_iload_n O d5_plan_35 1 rfl ?_
        refine r_iconst O d5_plan_36 (v := (-1)) (by decide) ?_
        refine r_icmp_ne O 48 d5_plan_37 (by decide) ?_ ?_
        · refine r_aload_n O d5_plan_48 0 rfl ?_
          refine g_X5_27 O d5_plan_49 ?_
          refine r_iload_n O d5_plan_52 1 rfl ?_
          refine r_callVi O (b := 3) (bv := fun ad => [.int p1]) (rest := []) (c2_planTank (lX X) p1 S3) (fun _ => rfl) (by decide) eX_3 rfl rfl w_448 w_449 w_450 w_49 w_451 hy_X2_planTank ⟨rfl, rfl, Nat.le_of_ble_eq_true rfl, Nat.le_of_ble_eq_true rfl⟩ rfl rfl (Nat.le_of_ble_eq_true rfl) d5_plan_53 (fun r6 S5 => ?_)
          exact r_iret O hQ d5_plan_56
        · refine r_aload_n O d5_plan_40 0 rfl ?_
          refine g_X5_27 O d5_plan_41 ?_
          refine r_callVi O (b := 3) (bv := fun ad => []) (rest := []) (c2_planLength (lX X) S3) (fun _ => rfl) (by decide) eX_3 rfl rfl w_444 w_445 w_446 w_49 w_447 hy_X2_planLength ⟨rfl, rfl, Nat.le_of_ble_eq_true rfl, Nat.le_of_ble_eq_true rfl⟩ rfl rfl (Nat.le_of_ble_eq_true rfl) d5_plan_44 (fun r8 S7 => ?_)
          exact r_iret O hQ d5_plan_47
      · refine r_bipush O d5_plan_21 (v := (-3)) (by decide) ?_
        exact r_iret O hQ d5_plan_23
    · refine r_bipush O d5_plan_11 (v := (-2)) (by decide) ?_
      exact r_iret O hQ d5_plan_13
-- X2.shortestPlans
theorem d2_shortestPlans_0 : decode cX2_shortestPlans 0 = .ok (.lconst 0, 1) := by decide +kernel
theorem d2_shortestPlans_1 : decode cX2_shortestPlans 1 = .ok (.lstore_n 2, 1) := by decide +kernel
theorem d2_shortestPlans_2 : decode cX2_shortestPlans 2 = .ok (.iconst 0, 1) := by decide +kernel
theorem d2_shortestPlans_3 : decode cX2_shortestPlans 3 = .ok (.istore 4, 2) := by decide +kernel
theorem d2_shortestPlans_5 : decode cX2_shortestPlans 5 = .ok (.iload 4, 2) := by decide +kernel
theorem d2_shortestPlans_7 : decode cX2_shortestPlans 7 = .ok (.aload_n 0, 1) := by decide +kernel
theorem d2_shortestPlans_8 : decode cX2_shortestPlans 8 = .ok (.getfield 39, 3) := by decide +kernel
theorem d2_shortestPlans_11 : decode cX2_shortestPlans 11 = .ok (.if_icmp .ge 51, 3) := by decide +kernel
theorem d2_shortestPlans_14 : decode cX2_shortestPlans 14 = .ok (.aload_n 0, 1) := by decide +kernel
theorem d2_shortestPlans_15 : decode cX2_shortestPlans 15 = .ok (.getfield 9, 3) := by decide +kernel
theorem d2_shortestPlans_18 : decode cX2_shortestPlans 18 = .ok (.iload 4, 2) := by decide +kernel
theorem d2_shortestPlans_20 : decode cX2_shortestPlans 20 = .ok (.iaload, 1) := by decide +kernel
theorem d2_shortestPlans_21 : decode cX2_shortestPlans 21 = .ok (.istore 5, 2) := by decide +kernel
theorem d2_shortestPlans_23 : decode cX2_shortestPlans 23 = .ok (.aload_n 0, 1) := by decide +kernel
theorem d2_shortestPlans_24 : decode cX2_shortestPlans 24 = .ok (.getfield 15, 3) := by decide +kernel
theorem d2_shortestPlans_27 : decode cX2_shortestPlans 27 = .ok (.iload 5, 2) := by decide +kernel
theorem d2_shortestPlans_29 : decode cX2_shortestPlans 29 = .ok (.iaload, 1) := by decide +kernel
theorem d2_shortestPlans_30 : decode cX2_shortestPlans 30 = .ok (.aload_n 0, 1) := by decide +kernel
theorem d2_shortestPlans_31 : decode cX2_shortestPlans 31 = .ok (.invokevirtual 100, 3) := by decide +kernel
theorem d2_shortestPlans_34 : decode cX2_shortestPlans 34 = .ok (.if_icmp .ne 22, 3) := by decide +kernel
theorem d2_shortestPlans_37 : decode cX2_shortestPlans 37 = .ok (.aload_n 1, 1) := by decide +kernel
theorem d2_shortestPlans_38 : decode cX2_shortestPlans 38 = .ok (.iload 5, 2) := by decide +kernel
theorem d2_shortestPlans_40 : decode cX2_shortestPlans 40 = .ok (.invokevirtual 97, 3) := by decide +kernel
theorem d2_shortestPlans_43 : decode cX2_shortestPlans 43 = .ok (.ifCond .eq 13, 3) := by decide +kernel
theorem d2_shortestPlans_46 : decode cX2_shortestPlans 46 = .ok (.lload_n 2, 1) := by decide +kernel
theorem d2_shortestPlans_47 : decode cX2_shortestPlans 47 = .ok (.aload_n 0, 1) := by decide +kernel
theorem d2_shortestPlans_48 : decode cX2_shortestPlans 48 = .ok (.getfield 24, 3) := by decide +kernel
theorem d2_shortestPlans_51 : decode cX2_shortestPlans 51 = .ok (.iload 5, 2) := by decide +kernel
theorem d2_shortestPlans_53 : decode cX2_shortestPlans 53 = .ok (.laload, 1) := by decide +kernel
theorem d2_shortestPlans_54 : decode cX2_shortestPlans 54 = .ok (.ladd, 1) := by decide +kernel
theorem d2_shortestPlans_55 : decode cX2_shortestPlans 55 = .ok (.lstore_n 2, 1) := by decide +kernel
theorem d2_shortestPlans_56 : decode cX2_shortestPlans 56 = .ok (.iinc 4 1, 3) := by decide +kernel
theorem d2_shortestPlans_59 : decode cX2_shortestPlans 59 = .ok (.goto (-54), 3) := by decide +kernel
theorem d2_shortestPlans_62 : decode cX2_shortestPlans 62 = .ok (.lload_n 2, 1) := by decide +kernel
theorem d2_shortestPlans_63 : decode cX2_shortestPlans 63 = .ok (.lreturn, 1) := by decide +kernel
noncomputable def f2_shortestPlans_L5 {α : Type} (KX : Int64 → Int32 → MS → Option α) : Nat → Int64 → Int32 → MS → Option α
  | 0, _, _, _ => none
  | n + 1, v2, v4, S => if (S.1 3 8) ≤ v4 then (KX v2 v4 S) else (ck v4 729 fun k1 => nm (S.1 9 k1) fun x5_2 => ck x5_2 729 fun k3 => f2_planLength S fun r5 S4 => if (S.1 10 k3) = r5 then (f3_isChanged x5_2 S4 fun r8 S7 => if r8 = 0 then (nm (v4 + 1) fun x4_9 => f2_shortestPlans_L5 KX n v2 x4_9 S7) else (ck x5_2 729 fun k10 => nm (v2 + (S7.2 13 k10)) fun x2_11 => nm (v4 + 1) fun x4_12 => f2_shortestPlans_L5 KX n x2_11 x4_12 S7)) else (nm (v4 + 1) fun x4_6 => f2_shortestPlans_L5 KX n v2 x4_6 S4))
noncomputable def f2_shortestPlans {α : Type} (S : MS) (K : Int64 → MS → Option α) : Option α := f2_shortestPlans_L5 (fun v2_14 v4_15 S13 => K v2_14 S13) FU 0 0 S
set_option maxHeartbeats 4000000 in
set_option maxRecDepth 100000 in
theorem l2_shortestPlans_5 {α : Type} {X : GX α} (O : OK 30 X RX2 cX2_shortestPlans 6 (some .long) (rmG 2 45)) {KX : Int64 → Int32 → MS → Option α} (hX : ∀ v2 v4 S, GM 30 eX X (KX v2 v4 S) S 62 [(0, .ref (aX X 3)), (1, .ref (aX X 2)), (2, .long v2), (4, .int v4)] []) : ∀ n v2 v4 S, GM 30 eX X (f2_shortestPlans_L5 KX n v2 v4 S) S 5 [(0, .ref (aX X 3)), (1, .ref (aX X 2)), (2, .long v2), (4, .int v4)] [] := by
  intro n
  induction n with
  | zero => intro v2 v4 S; exact r_none
  | succ n ih =>
    intro v2 v4 S
    rw [f2_shortestPlans_L5]
    refine r_iload O d2_shortestPlans_5 3 rfl ?_
    refine r_aload_n O d2_shortestPlans_7 0 rfl ?_
    refine g_X2_39 O d2_shortestPlans_8 ?_
    refine r_icmp_ge O 62 d2_shortestPlans_11 (by decide) ?_ ?_
    · refine r_sub [0, 1, 2, 3] rfl ?_
      exact hX _ _ _
    · refine r_aload_n O d2_shortestPlans_14 0 rfl ?_
      refine g_X2_9 O d2_shortestPlans_15 ?_
      refine r_iload O d2_shortestPlans_18 3 rfl ?_
      refine r_iald O (j := 9) (by decide) eX_9 d2_shortestPlans_20 (fun k1 hk1 => ?_)
      refine r_istore_nm O d2_shortestPlans_21 (fun x5_2 => [(5, .int x5_2), (0, .ref (aX X 3)), (1, .ref (aX X 2)), (2, .long v2), (4, .int v4)]) (by decide) (fun _ => rfl) (fun x5_2 => ?_)
      refine r_aload_n O d2_shortestPlans_23 1 rfl ?_
      refine g_X2_15 O d2_shortestPlans_24 ?_
      refine r_iload O d2_shortestPlans_27 0 rfl ?_
      refine r_iald O (j := 10) (by decide) eX_10 d2_shortestPlans_29 (fun k3 hk3 => ?_)
      refine r_aload_n O d2_shortestPlans_30 1 rfl ?_
      refine r_callVi O (b := 3) (bv := fun ad => []) (rest := [.int (S.1 10 k3)]) (c2_planLength (lX X) S) (fun _ => rfl) (by decide) eX_3 rfl rfl w_452 w_445 w_446 w_49 w_447 hy_X2_planLength ⟨rfl, rfl, Nat.le_of_ble_eq_true rfl, Nat.le_of_ble_eq_true rfl⟩ rfl rfl (Nat.le_of_ble_eq_true rfl) d2_shortestPlans_31 (fun r5 S4 => ?_)
      refine r_icmp_ne O 56 d2_shortestPlans_34 (by decide) ?_ ?_
      · refine r_iinc O d2_shortestPlans_56 4 (c0 := 1) rfl (by decide) (fun x4_6 => [(4, .int x4_6), (5, .int x5_2), (0, .ref (aX X 3)), (1, .ref (aX X 2)), (2, .long v2)]) (by decide) (fun _ => rfl) (fun x4_6 => ?_)
        refine r_goto O 5 d2_shortestPlans_59 (by decide) ?_
        refine r_sub [2, 3, 4, 0] rfl ?_
        exact ih _ _ _
      · refine r_aload_n O d2_shortestPlans_37 2 rfl ?_
        refine r_iload O d2_shortestPlans_38 0 rfl ?_
        refine r_callVi O (b := 2) (bv := fun ad => [.int x5_2]) (rest := []) (c3_isChanged (lX X) x5_2 S4) (fun _ => rfl) (by decide) eX_2 rfl rfl w_440 w_441 w_442 w_46 w_443 hy_X3_isChanged ⟨rfl, rfl, Nat.le_of_ble_eq_true rfl, Nat.le_of_ble_eq_true rfl⟩ rfl rfl (Nat.le_of_ble_eq_true rfl) d2_shortestPlans_40 (fun r8 S7 => ?_)
        refine r_if_eq O 56 d2_shortestPlans_43 (by decide) ?_ ?_
        · refine r_iinc O d2_shortestPlans_56 4 (c0 := 1) rfl (by decide) (fun x4_9 => [(4, .int x4_9), (5, .int x5_2), (0, .ref (aX X 3)), (1, .ref (aX X 2)), (2, .long v2)]) (by decide) (fun _ => rfl) (fun x4_9 => ?_)
          refine r_goto O 5 d2_shortestPlans_59 (by decide) ?_
          refine r_sub [2, 3, 4, 0] rfl ?_
          exact ih _ _ _
        · refine r_lload_n O d2_shortestPlans_46 3 rfl ?_
          refine r_aload_n O d2_shortestPlans_47 1 rfl ?_
          refine g_X2_24 O d2_shortestPlans_48 ?_
          refine r_iload O d2_shortestPlans_51 0 rfl ?_
          refine r_lald O (j := 13) (by decide) eX_13 d2_shortestPlans_53 (fun k10 hk10 => ?_)
          refine r_ladd O d2_shortestPlans_54 ?_
          refine r_lstore_n_nm O d2_shortestPlans_55 (fun x2_11 => [(2, .long x2_11), (5, .int x5_2), (0, .ref (aX X 3)), (1, .ref (aX X 2)), (4, .int v4)]) (by decide) (fun _ => rfl) (fun x2_11 => ?_)
          refine r_iinc O d2_shortestPlans_56 4 (c0 := 1) rfl (by decide) (fun x4_12 => [(4, .int x4_12), (2, .long x2_11), (5, .int x5_2), (0, .ref (aX X 3)), (1, .ref (aX X 2))]) (by decide) (fun _ => rfl) (fun x4_12 => ?_)
          refine r_goto O 5 d2_shortestPlans_59 (by decide) ?_
          refine r_sub [3, 4, 1, 0] rfl ?_
          exact ih _ _ _
set_option maxHeartbeats 4000000 in
set_option maxRecDepth 100000 in
theorem c2_shortestPlans (l : Launch) (S : MS) {α : Type} : CtL 30 eX l yX2_shortestPlans cX2_shortestPlans 6 (some .long) (rmG 2 45) S (fun ad => [.ref (ad 3), .ref (ad 2)]) (α := α) (f2_shortestPlans S) := by
  refine CtL.of (by decide) (fun _ => Nat.le_of_ble_eq_true rfl) (fun X K _ O hQ => ?_)
  have O : OK 30 X RX2 cX2_shortestPlans 6 (some .long) (rmG 2 45) := O
  show GM 30 eX X (f2_shortestPlans S K) S 0 [(0, .ref (aX X 3)), (1, .ref (aX X 2))] []
  unfold f2_shortestPlans
  refine r_lconst O d2_shortestPlans_0 (v := 0) (by decide) ?_
  refine r_lstore_n O d2_shortestPlans_1 [(2, .long 0), (0, .ref (aX X 3)), (1, .ref (aX X 2))] (by decide) rfl ?_
  refine r_iconst O d2_shortestPlans_2 (v := 0) (by decide) ?_
  refine r_istore O d2_shortestPlans_3 [(4, .int 0), (2, .long 0), (0, .ref (aX X 3)), (1, .ref (aX X 2))] (by decide) rfl ?_
  refine r_sub [2, 3, 1, 0] rfl ?_
  refine l2_shortestPlans_5 O (fun v2_14 v4_15 S13 => ?_) _ _ _ _
  refine r_lload_n O d2_shortestPlans_62 2 rfl ?_
  exact r_lret O hQ d2_shortestPlans_63
-- X5.plans
theorem d5_plans_0 : decode cX5_plans 0 = .ok (.aload_n 0, 1) := by decide +kernel
theorem d5_plans_1 : decode cX5_plans 1 = .ok (.invokevirtual 126, 3) := by decide +kernel
theorem d5_plans_4 : decode cX5_plans 4 = .ok (.ifCond .eq 7, 3) := by decide +kernel
theorem d5_plans_7 : decode cX5_plans 7 = .ok (.ldc2_w 171, 3) := by decide +kernel
theorem d5_plans_10 : decode cX5_plans 10 = .ok (.lreturn, 1) := by decide +kernel
theorem d5_plans_11 : decode cX5_plans 11 = .ok (.aload_n 0, 1) := by decide +kernel
theorem d5_plans_12 : decode cX5_plans 12 = .ok (.getfield 27, 3) := by decide +kernel
theorem d5_plans_15 : decode cX5_plans 15 = .ok (.aload_n 0, 1) := by decide +kernel
theorem d5_plans_16 : decode cX5_plans 16 = .ok (.getfield 20, 3) := by decide +kernel
theorem d5_plans_19 : decode cX5_plans 19 = .ok (.invokevirtual 161, 3) := by decide +kernel
theorem d5_plans_22 : decode cX5_plans 22 = .ok (.aload_n 0, 1) := by decide +kernel
theorem d5_plans_23 : decode cX5_plans 23 = .ok (.getfield 27, 3) := by decide +kernel
theorem d5_plans_26 : decode cX5_plans 26 = .ok (.aload_n 0, 1) := by decide +kernel
theorem d5_plans_27 : decode cX5_plans 27 = .ok (.getfield 20, 3) := by decide +kernel
theorem d5_plans_30 : decode cX5_plans 30 = .ok (.invokevirtual 173, 3) := by decide +kernel
theorem d5_plans_33 : decode cX5_plans 33 = .ok (.lreturn, 1) := by decide +kernel
noncomputable def f5_plans {α : Type} (S : MS) (K : Int64 → MS → Option α) : Option α := f5_hasNoShip S fun r2 S1 => if r2 = 0 then (f2_refresh S1 fun S3 => f2_shortestPlans S3 fun r6 S5 => K r6 S5) else (K (-9223372036854775808) S1)
set_option maxHeartbeats 4000000 in
set_option maxRecDepth 100000 in
theorem c5_plans (l : Launch) (S : MS) {α : Type} : CtL 30 eX l yX5_plans cX5_plans 1 (some .long) (rmG 6 134) S (fun ad => [.ref (ad 0)]) (α := α) (f5_plans S) := by
  refine CtL.of (by decide) (fun _ => Nat.le_of_ble_eq_true rfl) (fun X K _ O hQ => ?_)
  have O : OK 30 X RX5 cX5_plans 1 (some .long) (rmG 6 134) := O
  show GM 30 eX X (f5_plans S K) S 0 [(0, .ref (aX X 0))] []
  unfold f5_plans
  refine r_aload_n O d5_plans_0 0 rfl ?_
  refine r_callVi O (b := 0) (bv := fun ad => []) (rest := []) (c5_hasNoShip (lX X) S) (fun _ => rfl) (by decide) eX_0 rfl rfl w_375 w_377 w_2 w_45 w_378 hy_X5_hasNoShip ⟨rfl, rfl, Nat.le_of_ble_eq_true rfl, Nat.le_of_ble_eq_true rfl⟩ rfl rfl (Nat.le_of_ble_eq_true rfl) d5_plans_1 (fun r2 S1 => ?_)
  refine r_if_eq O 11 d5_plans_4 (by decide) ?_ ?_
  · refine r_aload_n O d5_plans_11 0 rfl ?_
    refine g_X5_27 O d5_plans_12 ?_
    refine r_aload_n O d5_plans_15 0 rfl ?_
    refine g_X5_20 O d5_plans_16 ?_
    refine r_callVv O (b := 3) (bv := fun ad => [.ref (ad 2)]) (rest := []) (c2_refresh (lX X) S1) (fun _ => rfl) (by decide) eX_3 rfl rfl w_414 w_415 w_416 w_49 w_417 hy_X2_refresh ⟨rfl, rfl, Nat.le_of_ble_eq_true rfl, Nat.le_of_ble_eq_true rfl⟩ rfl rfl (Nat.le_of_ble_eq_true rfl) d5_plans_19 (fun S3 => ?_)
    refine r_aload_n O d5_plans_22 0 rfl ?_
    refine g_X5_27 O d5_plans_23 ?_
    refine r_aload_n O d5_plans_26 0 rfl ?_
    refine g_X5_20 O d5_plans_27 ?_
    refine r_callVl O (b := 3) (bv := fun ad => [.ref (ad 2)]) (rest := []) (c2_shortestPlans (lX X) S3) (fun _ => rfl) (by decide) eX_3 rfl rfl w_458 w_459 w_460 w_49 w_461 hy_X2_shortestPlans ⟨rfl, rfl, Nat.le_of_ble_eq_true rfl, Nat.le_of_ble_eq_true rfl⟩ rfl rfl (Nat.le_of_ble_eq_true rfl) d5_plans_30 (fun r6 S5 => ?_)
    exact r_lret O hQ d5_plans_33
  · refine r_ldc2 O (v := (-9223372036854775808)) w_457 d5_plans_7 ?_
    exact r_lret O hQ d5_plans_10
-- X5.isAskedOfDay
theorem d5_isAskedOfDay_0 : decode cX5_isAskedOfDay 0 = .ok (.iload_n 0, 1) := by decide +kernel
theorem d5_isAskedOfDay_1 : decode cX5_isAskedOfDay 1 = .ok (.ifCond .lt 8, 3) := by decide +kernel
theorem d5_isAskedOfDay_4 : decode cX5_isAskedOfDay 4 = .ok (.iload_n 0, 1) := by decide +kernel
theorem d5_isAskedOfDay_5 : decode cX5_isAskedOfDay 5 = .ok (.iconst 4, 1) := by decide +kernel
theorem d5_isAskedOfDay_6 : decode cX5_isAskedOfDay 6 = .ok (.if_icmp .le 15, 3) := by decide +kernel
theorem d5_isAskedOfDay_9 : decode cX5_isAskedOfDay 9 = .ok (.iload_n 0, 1) := by decide +kernel
theorem d5_isAskedOfDay_10 : decode cX5_isAskedOfDay 10 = .ok (.bipush 10, 2) := by decide +kernel
theorem d5_isAskedOfDay_12 : decode cX5_isAskedOfDay 12 = .ok (.if_icmp .lt 13, 3) := by decide +kernel
theorem d5_isAskedOfDay_15 : decode cX5_isAskedOfDay 15 = .ok (.iload_n 0, 1) := by decide +kernel
theorem d5_isAskedOfDay_16 : decode cX5_isAskedOfDay 16 = .ok (.bipush 16, 2) := by decide +kernel
theorem d5_isAskedOfDay_18 : decode cX5_isAskedOfDay 18 = .ok (.if_icmp .ge 7, 3) := by decide +kernel
theorem d5_isAskedOfDay_21 : decode cX5_isAskedOfDay 21 = .ok (.iconst 1, 1) := by decide +kernel
theorem d5_isAskedOfDay_22 : decode cX5_isAskedOfDay 22 = .ok (.goto 4, 3) := by decide +kernel
theorem d5_isAskedOfDay_25 : decode cX5_isAskedOfDay 25 = .ok (.iconst 0, 1) := by decide +kernel
theorem d5_isAskedOfDay_26 : decode cX5_isAskedOfDay 26 = .ok (.ireturn, 1) := by decide +kernel
noncomputable def f5_isAskedOfDay {α : Type} (p0 : Int32) (S : MS) (K : Int32 → MS → Option α) : Option α := if p0 < 0 then (if p0 < 10 then (K 0 S) else (if 16 ≤ p0 then (K 0 S) else (K 1 S))) else (if p0 ≤ 4 then (K 1 S) else (if p0 < 10 then (K 0 S) else (if 16 ≤ p0 then (K 0 S) else (K 1 S))))
set_option maxHeartbeats 4000000 in
set_option maxRecDepth 100000 in
theorem c5_isAskedOfDay (l : Launch) (p0 : Int32) (S : MS) {α : Type} : CtI 30 eX l yX5_isAskedOfDay cX5_isAskedOfDay 1 (some .boolean) (rmG 0 0) S (fun ad => [.int p0]) (α := α) (f5_isAskedOfDay p0 S) := by
  refine CtI.of (by decide) (fun _ => Nat.le_of_ble_eq_true rfl) (fun X K _ O hQ => ?_)
  have O : OK 30 X RX5 cX5_isAskedOfDay 1 (some .boolean) (rmG 0 0) := O
  show GM 30 eX X (f5_isAskedOfDay p0 S K) S 0 [(0, .int p0)] []
  unfold f5_isAskedOfDay
  refine r_iload_n O d5_isAskedOfDay_0 0 rfl ?_
  refine r_if_lt O 9 d5_isAskedOfDay_1 (by decide) ?_ ?_
  · refine r_iload_n O d5_isAskedOfDay_9 0 rfl ?_
    refine r_bipush O d5_isAskedOfDay_10 (v := 10) (by decide) ?_
    refine r_icmp_lt O 25 d5_isAskedOfDay_12 (by decide) ?_ ?_
    · refine r_iconst O d5_isAskedOfDay_25 (v := 0) (by decide) ?_
      exact r_zret O hQ (by decide) d5_isAskedOfDay_26
    · refine r_iload_n O d5_isAskedOfDay_15 0 rfl ?_
      refine r_bipush O d5_isAskedOfDay_16 (v := 16) (by decide) ?_
      refine r_icmp_ge O 25 d5_isAskedOfDay_18 (by decide) ?_ ?_
      · refine r_iconst O d5_isAskedOfDay_25 (v := 0) (by decide) ?_
        exact r_zret O hQ (by decide) d5_isAskedOfDay_26
      · refine r_iconst O d5_isAskedOfDay_21 (v := 1) (by decide) ?_
        refine r_goto O 26 d5_isAskedOfDay_22 (by decide) ?_
        exact r_zret O hQ (by decide) d5_isAskedOfDay_26
  · refine r_iload_n O d5_isAskedOfDay_4 0 rfl ?_
    refine r_iconst O d5_isAskedOfDay_5 (v := 4) (by decide) ?_
    refine r_icmp_le O 21 d5_isAskedOfDay_6 (by decide) ?_ ?_
    · refine r_iconst O d5_isAskedOfDay_21 (v := 1) (by decide) ?_
      refine r_goto O 26 d5_isAskedOfDay_22 (by decide) ?_
      exact r_zret O hQ (by decide) d5_isAskedOfDay_26
    · refine r_iload_n O d5_isAskedOfDay_9 0 rfl ?_
      refine r_bipush O d5_isAskedOfDay_10 (v := 10) (by decide) ?_
      refine r_icmp_lt O 25 d5_isAskedOfDay_12 (by decide) ?_ ?_
      · refine r_iconst O d5_isAskedOfDay_25 (v := 0) (by decide) ?_
        exact r_zret O hQ (by decide) d5_isAskedOfDay_26
      · refine r_iload_n O d5_isAskedOfDay_15 0 rfl ?_
        refine r_bipush O d5_isAskedOfDay_16 (v := 16) (by decide) ?_
        refine r_icmp_ge O 25 d5_isAskedOfDay_18 (by decide) ?_ ?_
        · refine r_iconst O d5_isAskedOfDay_25 (v := 0) (by decide) ?_
          exact r_zret O hQ (by decide) d5_isAskedOfDay_26
        · refine r_iconst O d5_isAskedOfDay_21 (v := 1) (by decide) ?_
          refine r_goto O 26 d5_isAskedOfDay_22 (by decide) ?_
          exact r_zret O hQ (by decide) d5_isAskedOfDay_26
-- X5.areTankNumbers
theorem d5_areTankNumbers_0 : decode cX5_areTankNumbers 0 = .ok (.iload_n 1, 1) := by decide +kernel
theorem d5_areTankNumbers_1 : decode cX5_areTankNumbers 1 = .ok (.istore_n 3, 1) := by decide +kernel
theorem d5_areTankNumbers_2 : decode cX5_areTankNumbers 2 = .ok (.iload_n 3, 1) := by decide +kernel
theorem d5_areTankNumbers_3 : decode cX5_areTankNumbers 3 = .ok (.iload_n 1, 1) := by decide +kernel
theorem d5_areTankNumbers_4 : decode cX5_areTankNumbers 4 = .ok (.iload_n 2, 1) := by decide +kernel
theorem d5_areTankNumbers_5 : decode cX5_areTankNumbers 5 = .ok (.iadd, 1) := by decide +kernel
theorem d5_areTankNumbers_6 : decode cX5_areTankNumbers 6 = .ok (.if_icmp .ge 31, 3) := by decide +kernel
theorem d5_areTankNumbers_9 : decode cX5_areTankNumbers 9 = .ok (.aload_n 0, 1) := by decide +kernel
theorem d5_areTankNumbers_10 : decode cX5_areTankNumbers 10 = .ok (.getfield 222, 3) := by decide +kernel
theorem d5_areTankNumbers_13 : decode cX5_areTankNumbers 13 = .ok (.iload_n 3, 1) := by decide +kernel
theorem d5_areTankNumbers_14 : decode cX5_areTankNumbers 14 = .ok (.iaload, 1) := by decide +kernel
theorem d5_areTankNumbers_15 : decode cX5_areTankNumbers 15 = .ok (.ifCond .lt 14, 3) := by decide +kernel
theorem d5_areTankNumbers_18 : decode cX5_areTankNumbers 18 = .ok (.aload_n 0, 1) := by decide +kernel
theorem d5_areTankNumbers_19 : decode cX5_areTankNumbers 19 = .ok (.getfield 222, 3) := by decide +kernel
theorem d5_areTankNumbers_22 : decode cX5_areTankNumbers 22 = .ok (.iload_n 3, 1) := by decide +kernel
theorem d5_areTankNumbers_23 : decode cX5_areTankNumbers 23 = .ok (.iaload, 1) := by decide +kernel
theorem d5_areTankNumbers_24 : decode cX5_areTankNumbers 24 = .ok (.bipush 6, 2) := by decide +kernel
theorem d5_areTankNumbers_26 : decode cX5_areTankNumbers 26 = .ok (.if_icmp .lt 5, 3) := by decide +kernel
theorem d5_areTankNumbers_29 : decode cX5_areTankNumbers 29 = .ok (.iconst 0, 1) := by decide +kernel
theorem d5_areTankNumbers_30 : decode cX5_areTankNumbers 30 = .ok (.ireturn, 1) := by decide +kernel
theorem d5_areTankNumbers_31 : decode cX5_areTankNumbers 31 = .ok (.iinc 3 1, 3) := by decide +kernel
theorem d5_areTankNumbers_34 : decode cX5_areTankNumbers 34 = .ok (.goto (-32), 3) := by decide +kernel
theorem d5_areTankNumbers_37 : decode cX5_areTankNumbers 37 = .ok (.iconst 1, 1) := by decide +kernel
theorem d5_areTankNumbers_38 : decode cX5_areTankNumbers 38 = .ok (.ireturn, 1) := by decide +kernel
noncomputable def f5_areTankNumbers_L2 {α : Type} (kc0 : Nat) (c1 : Int32) (c2 : Int32) (K : Int32 → MS → Option α) (KX : Int32 → MS → Option α) : Nat → Int32 → MS → Option α
  | 0, _, _ => none
  | n + 1, v3, S => if (c1 + c2) ≤ v3 then (KX v3 S) else (ck v3 60 fun k1 => if (S.1 (20 + kc0) k1) < 0 then (K 0 S) else (ck v3 60 fun k2 => if (S.1 (20 + kc0) k2) < 6 then (nm (v3 + 1) fun x3_3 => f5_areTankNumbers_L2 kc0 c1 c2 K KX n x3_3 S) else (K 0 S)))
noncomputable def f5_areTankNumbers {α : Type} (k : Nat) (p1 : Int32) (p2 : Int32) (S : MS) (K : Int32 → MS → Option α) : Option α := f5_areTankNumbers_L2 k p1 p2 K (fun v3_5 S4 => K 1 S4) FU p1 S
set_option maxHeartbeats 4000000 in
set_option maxRecDepth 100000 in
theorem l5_areTankNumbers_2 {α : Type} {X : GX α} (O : OK 30 X RX5 cX5_areTankNumbers 4 (some .boolean) (rmG 0 0)) {K : Int32 → MS → Option α} (hQ : RtI 30 eX X K) {kc0 : Nat} {c1 : Int32} {c2 : Int32} (hkc0 : kc0 < 4) {KX : Int32 → MS → Option α} (hX : ∀ v3 S, GM 30 eX X (KX v3 S) S 37 [(0, .ref (aX X (16 + kc0))), (1, .int c1), (2, .int c2), (3, .int v3)] []) : ∀ n v3 S, GM 30 eX X (f5_areTankNumbers_L2 kc0 c1 c2 K KX n v3 S) S 2 [(0, .ref (aX X (16 + kc0))), (1, .int c1), (2, .int c2), (3, .int v3)] [] := by
  intro n
  induction n with
  | zero => intro v3 S; exact r_none
  | succ n ih =>
    intro v3 S
    rw [f5_areTankNumbers_L2]
    refine r_iload_n O d5_areTankNumbers_2 3 rfl ?_
    refine r_iload_n O d5_areTankNumbers_3 1 rfl ?_
    refine r_iload_n O d5_areTankNumbers_4 2 rfl ?_
    refine r_iadd O d5_areTankNumbers_5 ?_
    refine r_icmp_ge O 37 d5_areTankNumbers_6 (by decide) ?_ ?_
    · refine r_sub [0, 1, 2, 3] rfl ?_
      exact hX _ _
    · refine r_aload_n O d5_areTankNumbers_9 0 rfl ?_
      refine g_X5_222 O hkc0 d5_areTankNumbers_10 ?_
      refine r_iload_n O d5_areTankNumbers_13 3 rfl ?_
      refine r_iald O (j := (20 + kc0)) (by omega) (eX_cel hkc0) d5_areTankNumbers_14 (fun k1 hk1 => ?_)
      refine r_if_lt O 29 d5_areTankNumbers_15 (by decide) ?_ ?_
      · refine r_iconst O d5_areTankNumbers_29 (v := 0) (by decide) ?_
        exact r_zret O hQ (by decide) d5_areTankNumbers_30
      · refine r_aload_n O d5_areTankNumbers_18 0 rfl ?_
        refine g_X5_222 O hkc0 d5_areTankNumbers_19 ?_
        refine r_iload_n O d5_areTankNumbers_22 3 rfl ?_
        refine r_iald O (j := (20 + kc0)) (by omega) (eX_cel hkc0) d5_areTankNumbers_23 (fun k2 hk2 => ?_)
        refine r_bipush O d5_areTankNumbers_24 (v := 6) (by decide) ?_
        refine r_icmp_lt O 31 d5_areTankNumbers_26 (by decide) ?_ ?_
        · refine r_iinc O d5_areTankNumbers_31 3 (c0 := 1) rfl (by decide) (fun x3_3 => [(3, .int x3_3), (0, .ref (aX X (16 + kc0))), (1, .int c1), (2, .int c2)]) (by decide) (fun _ => rfl) (fun x3_3 => ?_)
          refine r_goto O 2 d5_areTankNumbers_34 (by decide) ?_
          refine r_sub [1, 2, 3, 0] rfl ?_
          exact ih _ _
        · refine r_iconst O d5_areTankNumbers_29 (v := 0) (by decide) ?_
          exact r_zret O hQ (by decide) d5_areTankNumbers_30
set_option maxHeartbeats 4000000 in
set_option maxRecDepth 100000 in
theorem c5_areTankNumbers (l : Launch) (k : Nat) (p1 : Int32) (p2 : Int32) (hk : k < 4) (S : MS) {α : Type} : CtI 30 eX l yX5_areTankNumbers cX5_areTankNumbers 4 (some .boolean) (rmG 0 0) S (fun ad => [.ref (ad (16 + k)), .int p1, .int p2]) (α := α) (f5_areTankNumbers k p1 p2 S) := by
  refine CtI.of (by decide) (fun _ => Nat.le_of_ble_eq_true rfl) (fun X K _ O hQ => ?_)
  have O : OK 30 X RX5 cX5_areTankNumbers 4 (some .boolean) (rmG 0 0) := O
  show GM 30 eX X (f5_areTankNumbers k p1 p2 S K) S 0 [(0, .ref (aX X (16 + k))), (1, .int p1), (2, .int p2)] []
  unfold f5_areTankNumbers
  refine r_iload_n O d5_areTankNumbers_0 1 rfl ?_
  refine r_istore_n O d5_areTankNumbers_1 [(3, .int p1), (0, .ref (aX X (16 + k))), (1, .int p1), (2, .int p2)] (by decide) rfl ?_
  refine r_sub [1, 2, 3, 0] rfl ?_
  refine l5_areTankNumbers_2 O hQ hk (fun v3_5 S4 => ?_) _ _ _
  refine r_iconst O d5_areTankNumbers_37 (v := 1) (by decide) ?_
  exact r_zret O hQ (by decide) d5_areTankNumbers_38
-- X5.firstWrong
theorem d5_firstWrong_0 : decode cX5_firstWrong 0 = .ok (.aload_n 0, 1) := by decide +kernel
theorem d5_firstWrong_1 : decode cX5_firstWrong 1 = .ok (.getfield 20, 3) := by decide +kernel
theorem d5_firstWrong_4 : decode cX5_firstWrong 4 = .ok (.getfield 103, 3) := by decide +kernel
theorem d5_firstWrong_7 : decode cX5_firstWrong 7 = .ok (.istore 4, 2) := by decide +kernel
theorem d5_firstWrong_9 : decode cX5_firstWrong 9 = .ok (.iconst 0, 1) := by decide +kernel
theorem d5_firstWrong_10 : decode cX5_firstWrong 10 = .ok (.istore 5, 2) := by decide +kernel
theorem d5_firstWrong_12 : decode cX5_firstWrong 12 = .ok (.iload 5, 2) := by decide +kernel
theorem d5_firstWrong_14 : decode cX5_firstWrong 14 = .ok (.iload_n 3, 1) := by decide +kernel
theorem d5_firstWrong_15 : decode cX5_firstWrong 15 = .ok (.if_icmp .ge 55, 3) := by decide +kernel
theorem d5_firstWrong_18 : decode cX5_firstWrong 18 = .ok (.aload_n 1, 1) := by decide +kernel
theorem d5_firstWrong_19 : decode cX5_firstWrong 19 = .ok (.getfield 222, 3) := by decide +kernel
theorem d5_firstWrong_22 : decode cX5_firstWrong 22 = .ok (.iload_n 2, 1) := by decide +kernel
theorem d5_firstWrong_23 : decode cX5_firstWrong 23 = .ok (.iload 5, 2) := by decide +kernel
theorem d5_firstWrong_25 : decode cX5_firstWrong 25 = .ok (.iadd, 1) := by decide +kernel
theorem d5_firstWrong_26 : decode cX5_firstWrong 26 = .ok (.iaload, 1) := by decide +kernel
theorem d5_firstWrong_27 : decode cX5_firstWrong 27 = .ok (.istore 6, 2) := by decide +kernel
theorem d5_firstWrong_29 : decode cX5_firstWrong 29 = .ok (.aload_n 0, 1) := by decide +kernel
theorem d5_firstWrong_30 : decode cX5_firstWrong 30 = .ok (.iload 6, 2) := by decide +kernel
theorem d5_firstWrong_32 : decode cX5_firstWrong 32 = .ok (.invokevirtual 78, 3) := by decide +kernel
theorem d5_firstWrong_35 : decode cX5_firstWrong 35 = .ok (.ifCond .eq 17, 3) := by decide +kernel
theorem d5_firstWrong_38 : decode cX5_firstWrong 38 = .ok (.aload_n 0, 1) := by decide +kernel
theorem d5_firstWrong_39 : decode cX5_firstWrong 39 = .ok (.getfield 20, 3) := by decide +kernel
theorem d5_firstWrong_42 : decode cX5_firstWrong 42 = .ok (.iload 4, 2) := by decide +kernel
theorem d5_firstWrong_44 : decode cX5_firstWrong 44 = .ok (.iload 6, 2) := by decide +kernel
theorem d5_firstWrong_46 : decode cX5_firstWrong 46 = .ok (.invokevirtual 120, 3) := by decide +kernel
theorem d5_firstWrong_49 : decode cX5_firstWrong 49 = .ok (.ifCond .ne 6, 3) := by decide +kernel
theorem d5_firstWrong_52 : decode cX5_firstWrong 52 = .ok (.iload 5, 2) := by decide +kernel
theorem d5_firstWrong_54 : decode cX5_firstWrong 54 = .ok (.ireturn, 1) := by decide +kernel
theorem d5_firstWrong_55 : decode cX5_firstWrong 55 = .ok (.iload 4, 2) := by decide +kernel
theorem d5_firstWrong_57 : decode cX5_firstWrong 57 = .ok (.iload 6, 2) := by decide +kernel
theorem d5_firstWrong_59 : decode cX5_firstWrong 59 = .ok (.invokestatic 158, 3) := by decide +kernel
theorem d5_firstWrong_62 : decode cX5_firstWrong 62 = .ok (.istore 4, 2) := by decide +kernel
theorem d5_firstWrong_64 : decode cX5_firstWrong 64 = .ok (.iinc 5 1, 3) := by decide +kernel
theorem d5_firstWrong_67 : decode cX5_firstWrong 67 = .ok (.goto (-55), 3) := by decide +kernel
theorem d5_firstWrong_70 : decode cX5_firstWrong 70 = .ok (.bipush (-9), 2) := by decide +kernel
theorem d5_firstWrong_72 : decode cX5_firstWrong 72 = .ok (.ireturn, 1) := by decide +kernel
noncomputable def f5_firstWrong_L12 {α : Type} (kc1 : Nat) (c2 : Int32) (c3 : Int32) (K : Int32 → MS → Option α) (KX : Int32 → Int32 → MS → Option α) : Nat → Int32 → Int32 → MS → Option α
  | 0, _, _, _ => none
  | n + 1, v4, v5, S => if c3 ≤ v5 then (KX v4 v5 S) else (ck (c2 + v5) 60 fun k2 => nm (S.1 (20 + kc1) k2) fun x6_3 => f5_isTank x6_3 S fun r5 S4 => if r5 = 0 then (K v5 S4) else (f3_canPump v4 x6_3 S4 fun r7 S6 => if r7 = 0 then (K v5 S6) else (f5_pumped v4 x6_3 S6 fun r9 S8 => nm (v5 + 1) fun x5_10 => f5_firstWrong_L12 kc1 c2 c3 K KX n r9 x5_10 S8)))
noncomputable def f5_firstWrong {α : Type} (k : Nat) (p2 : Int32) (p3 : Int32) (S : MS) (K : Int32 → MS → Option α) : Option α := nm (S.1 2 4) fun x4_1 => f5_firstWrong_L12 k p2 p3 K (fun v4_12 v5_13 S11 => K (-9) S11) FU x4_1 0 S
set_option maxHeartbeats 4000000 in
set_option maxRecDepth 100000 in
theorem l5_firstWrong_12 {α : Type} {X : GX α} (O : OK 30 X RX5 cX5_firstWrong 7 (some .int) (rmG 5 112)) {K : Int32 → MS → Option α} (hQ : RtI 30 eX X K) {kc1 : Nat} {c2 : Int32} {c3 : Int32} (hkc1 : kc1 < 4) {KX : Int32 → Int32 → MS → Option α} (hX : ∀ v4 v5 S, GM 30 eX X (KX v4 v5 S) S 70 [(0, .ref (aX X 0)), (1, .ref (aX X (16 + kc1))), (2, .int c2), (3, .int c3), (4, .int v4), (5, .int v5)] []) : ∀ n v4 v5 S, GM 30 eX X (f5_firstWrong_L12 kc1 c2 c3 K KX n v4 v5 S) S 12 [(0, .ref (aX X 0)), (1, .ref (aX X (16 + kc1))), (2, .int c2), (3, .int c3), (4, .int v4), (5, .int v5)] [] := by
  intro n
  induction n with
  | zero => intro v4 v5 S; exact r_none
  | succ n ih =>
    intro v4 v5 S
    rw [f5_firstWrong_L12]
    refine r_iload O d5_firstWrong_12 5 rfl ?_
    refine r_iload_n O d5_firstWrong_14 3 rfl ?_
    refine r_icmp_ge O 70 d5_firstWrong_15 (by decide) ?_ ?_
    · refine r_sub [0, 1, 2, 3, 4, 5] rfl ?_
      exact hX _ _ _
    · refine r_aload_n O d5_firstWrong_18 1 rfl ?_
      refine g_X5_222 O hkc1 d5_firstWrong_19 ?_
      refine r_iload_n O d5_firstWrong_22 2 rfl ?_
      refine r_iload O d5_firstWrong_23 5 rfl ?_
      refine r_iadd O d5_firstWrong_25 ?_
      refine r_iald O (j := (20 + kc1)) (by omega) (eX_cel hkc1) d5_firstWrong_26 (fun k2 hk2 => ?_)
      refine r_istore_nm O d5_firstWrong_27 (fun x6_3 => [(6, .int x6_3), (0, .ref (aX X 0)), (1, .ref (aX X (16 + kc1))), (2, .int c2), (3, .int c3), (4, .int v4), (5, .int v5)]) (by decide) (fun _ => rfl) (fun x6_3 => ?_)
      refine r_aload_n O d5_firstWrong_29 1 rfl ?_
      refine r_iload O d5_firstWrong_30 0 rfl ?_
      refine r_callVi O (b := 0) (bv := fun ad => [.int x6_3]) (rest := []) (c5_isTank (lX X) x6_3 S) (fun _ => rfl) (by decide) eX_0 rfl rfl w_304 w_306 w_1 w_45 w_307 hy_X5_isTank ⟨rfl, rfl, Nat.le_of_ble_eq_true rfl, Nat.le_of_ble_eq_true rfl⟩ rfl rfl (Nat.le_of_ble_eq_true rfl) d5_firstWrong_32 (fun r5 S4 => ?_)
      refine r_if_eq O 52 d5_firstWrong_35 (by decide) ?_ ?_
      · refine r_iload O d5_firstWrong_52 6 rfl ?_
        exact r_iret O hQ d5_firstWrong_54
      · refine r_aload_n O d5_firstWrong_38 1 rfl ?_
        refine g_X5_20 O d5_firstWrong_39 ?_
        refine r_iload O d5_firstWrong_42 5 rfl ?_
        refine r_iload O d5_firstWrong_44 0 rfl ?_
        refine r_callVi O (b := 2) (bv := fun ad => [.int v4, .int x6_3]) (rest := []) (c3_canPump (lX X) v4 x6_3 S4) (fun _ => rfl) (by decide) eX_2 rfl rfl w_322 w_323 w_324 w_46 w_325 hy_X3_canPump ⟨rfl, rfl, Nat.le_of_ble_eq_true rfl, Nat.le_of_ble_eq_true rfl⟩ rfl rfl (Nat.le_of_ble_eq_true rfl) d5_firstWrong_46 (fun r7 S6 => ?_)
        refine r_if_ne O 55 d5_firstWrong_49 (by decide) ?_ ?_
        · refine r_iload O d5_firstWrong_55 5 rfl ?_
          refine r_iload O d5_firstWrong_57 0 rfl ?_
          refine r_callSi O (rest := []) (c5_pumped (lX X) v4 x6_3 S6) w_407 w_408 w_45 w_409 hy_X5_pumped ⟨rfl, rfl, Nat.le_of_ble_eq_true rfl, Nat.le_of_ble_eq_true rfl⟩ rfl rfl (Nat.le_of_ble_eq_true rfl) d5_firstWrong_59 (fun r9 S8 => ?_)
          refine r_istore O d5_firstWrong_62 [(4, .int r9), (6, .int x6_3), (0, .ref (aX X 0)), (1, .ref (aX X (16 + kc1))), (2, .int c2), (3, .int c3), (5, .int v5)] (by decide) rfl ?_
          refine r_iinc O d5_firstWrong_64 6 (c0 := 1) rfl (by decide) (fun x5_10 => [(5, .int x5_10), (4, .int r9), (6, .int x6_3), (0, .ref (aX X 0)), (1, .ref (aX X (16 + kc1))), (2, .int c2), (3, .int c3)]) (by decide) (fun _ => rfl) (fun x5_10 => ?_)
          refine r_goto O 12 d5_firstWrong_67 (by decide) ?_
          refine r_sub [3, 4, 5, 6, 1, 0] rfl ?_
          exact ih _ _ _
        · refine r_iload O d5_firstWrong_52 6 rfl ?_
          exact r_iret O hQ d5_firstWrong_54
set_option maxHeartbeats 4000000 in
set_option maxRecDepth 100000 in
theorem c5_firstWrong (l : Launch) (k : Nat) (p2 : Int32) (p3 : Int32) (hk : k < 4) (S : MS) {α : Type} : CtI 30 eX l yX5_firstWrong cX5_firstWrong 7 (some .int) (rmG 5 112) S (fun ad => [.ref (ad 0), .ref (ad (16 + k)), .int p2, .int p3]) (α := α) (f5_firstWrong k p2 p3 S) := by
  refine CtI.of (by decide) (fun _ => Nat.le_of_ble_eq_true rfl) (fun X K _ O hQ => ?_)
  have O : OK 30 X RX5 cX5_firstWrong 7 (some .int) (rmG 5 112) := O
  show GM 30 eX X (f5_firstWrong k p2 p3 S K) S 0 [(0, .ref (aX X 0)), (1, .ref (aX X (16 + k))), (2, .int p2), (3, .int p3)] []
  unfold f5_firstWrong
  refine r_aload_n O d5_firstWrong_0 0 rfl ?_
  refine g_X5_20 O d5_firstWrong_1 ?_
  refine g_X5_103 O d5_firstWrong_4 ?_
  refine r_istore_nm O d5_firstWrong_7 (fun x4_1 => [(4, .int x4_1), (0, .ref (aX X 0)), (1, .ref (aX X (16 + k))), (2, .int p2), (3, .int p3)]) (by decide) (fun _ => rfl) (fun x4_1 => ?_)
  refine r_iconst O d5_firstWrong_9 (v := 0) (by decide) ?_
  refine r_istore O d5_firstWrong_10 [(5, .int 0), (4, .int x4_1), (0, .ref (aX X 0)), (1, .ref (aX X (16 + k))), (2, .int p2), (3, .int p3)] (by decide) rfl ?_
  refine r_sub [2, 3, 4, 5, 1, 0] rfl ?_
  refine l5_firstWrong_12 O hQ hk (fun v4_12 v5_13 S11 => ?_) _ _ _ _
  refine r_bipush O d5_firstWrong_70 (v := (-9)) (by decide) ?_
  exact r_iret O hQ d5_firstWrong_72
-- X5.watersBehind
theorem d5_watersBehind_0 : decode cX5_watersBehind 0 = .ok (.aload_n 0, 1) := by decide +kernel
theorem d5_watersBehind_1 : decode cX5_watersBehind 1 = .ok (.getfield 20, 3) := by decide +kernel
theorem d5_watersBehind_4 : decode cX5_watersBehind 4 = .ok (.getfield 103, 3) := by decide +kernel
theorem d5_watersBehind_7 : decode cX5_watersBehind 7 = .ok (.istore 4, 2) := by decide +kernel
theorem d5_watersBehind_9 : decode cX5_watersBehind 9 = .ok (.iload_n 2, 1) := by decide +kernel
theorem d5_watersBehind_10 : decode cX5_watersBehind 10 = .ok (.istore 5, 2) := by decide +kernel
theorem d5_watersBehind_12 : decode cX5_watersBehind 12 = .ok (.iload 5, 2) := by decide +kernel
theorem d5_watersBehind_14 : decode cX5_watersBehind 14 = .ok (.iload_n 2, 1) := by decide +kernel
theorem d5_watersBehind_15 : decode cX5_watersBehind 15 = .ok (.iload_n 3, 1) := by decide +kernel
theorem d5_watersBehind_16 : decode cX5_watersBehind 16 = .ok (.iadd, 1) := by decide +kernel
theorem d5_watersBehind_17 : decode cX5_watersBehind 17 = .ok (.if_icmp .ge 23, 3) := by decide +kernel
theorem d5_watersBehind_20 : decode cX5_watersBehind 20 = .ok (.iload 4, 2) := by decide +kernel
theorem d5_watersBehind_22 : decode cX5_watersBehind 22 = .ok (.aload_n 1, 1) := by decide +kernel
theorem d5_watersBehind_23 : decode cX5_watersBehind 23 = .ok (.getfield 222, 3) := by decide +kernel
theorem d5_watersBehind_26 : decode cX5_watersBehind 26 = .ok (.iload 5, 2) := by decide +kernel
theorem d5_watersBehind_28 : decode cX5_watersBehind 28 = .ok (.iaload, 1) := by decide +kernel
theorem d5_watersBehind_29 : decode cX5_watersBehind 29 = .ok (.invokestatic 158, 3) := by decide +kernel
theorem d5_watersBehind_32 : decode cX5_watersBehind 32 = .ok (.istore 4, 2) := by decide +kernel
theorem d5_watersBehind_34 : decode cX5_watersBehind 34 = .ok (.iinc 5 1, 3) := by decide +kernel
theorem d5_watersBehind_37 : decode cX5_watersBehind 37 = .ok (.goto (-25), 3) := by decide +kernel
theorem d5_watersBehind_40 : decode cX5_watersBehind 40 = .ok (.iload 4, 2) := by decide +kernel
theorem d5_watersBehind_42 : decode cX5_watersBehind 42 = .ok (.ireturn, 1) := by decide +kernel
noncomputable def f5_watersBehind_L12 {α : Type} (kc1 : Nat) (c2 : Int32) (c3 : Int32) (KX : Int32 → Int32 → MS → Option α) : Nat → Int32 → Int32 → MS → Option α
  | 0, _, _, _ => none
  | n + 1, v4, v5, S => if (c2 + c3) ≤ v5 then (KX v4 v5 S) else (ck v5 60 fun k2 => f5_pumped v4 (S.1 (20 + kc1) k2) S fun r4 S3 => nm (v5 + 1) fun x5_5 => f5_watersBehind_L12 kc1 c2 c3 KX n r4 x5_5 S3)
noncomputable def f5_watersBehind {α : Type} (k : Nat) (p2 : Int32) (p3 : Int32) (S : MS) (K : Int32 → MS → Option α) : Option α := nm (S.1 2 4) fun x4_1 => f5_watersBehind_L12 k p2 p3 (fun v4_7 v5_8 S6 => K v4_7 S6) FU x4_1 p2 S
set_option maxHeartbeats 4000000 in
set_option maxRecDepth 100000 in
theorem l5_watersBehind_12 {α : Type} {X : GX α} (O : OK 30 X RX5 cX5_watersBehind 6 (some .int) (rmG 2 44)) {kc1 : Nat} {c2 : Int32} {c3 : Int32} (hkc1 : kc1 < 4) {KX : Int32 → Int32 → MS → Option α} (hX : ∀ v4 v5 S, GM 30 eX X (KX v4 v5 S) S 40 [(1, .ref (aX X (16 + kc1))), (2, .int c2), (3, .int c3), (4, .int v4), (5, .int v5)] []) : ∀ n v4 v5 S, GM 30 eX X (f5_watersBehind_L12 kc1 c2 c3 KX n v4 v5 S) S 12 [(1, .ref (aX X (16 + kc1))), (2, .int c2), (3, .int c3), (4, .int v4), (5, .int v5)] [] := by
  intro n
  induction n with
  | zero => intro v4 v5 S; exact r_none
  | succ n ih =>
    intro v4 v5 S
    rw [f5_watersBehind_L12]
    refine r_iload O d5_watersBehind_12 4 rfl ?_
    refine r_iload_n O d5_watersBehind_14 1 rfl ?_
    refine r_iload_n O d5_watersBehind_15 2 rfl ?_
    refine r_iadd O d5_watersBehind_16 ?_
    refine r_icmp_ge O 40 d5_watersBehind_17 (by decide) ?_ ?_
    · refine r_sub [0, 1, 2, 3, 4] rfl ?_
      exact hX _ _ _
    · refine r_iload O d5_watersBehind_20 3 rfl ?_
      refine r_aload_n O d5_watersBehind_22 0 rfl ?_
      refine g_X5_222 O hkc1 d5_watersBehind_23 ?_
      refine r_iload O d5_watersBehind_26 4 rfl ?_
      refine r_iald O (j := (20 + kc1)) (by omega) (eX_cel hkc1) d5_watersBehind_28 (fun k2 hk2 => ?_)
      refine r_callSi O (rest := []) (c5_pumped (lX X) v4 (S.1 (20 + kc1) k2) S) w_407 w_408 w_45 w_409 hy_X5_pumped ⟨rfl, rfl, Nat.le_of_ble_eq_true rfl, Nat.le_of_ble_eq_true rfl⟩ rfl rfl (Nat.le_of_ble_eq_true rfl) d5_watersBehind_29 (fun r4 S3 => ?_)
      refine r_istore O d5_watersBehind_32 [(4, .int r4), (1, .ref (aX X (16 + kc1))), (2, .int c2), (3, .int c3), (5, .int v5)] (by decide) rfl ?_
      refine r_iinc O d5_watersBehind_34 4 (c0 := 1) rfl (by decide) (fun x5_5 => [(5, .int x5_5), (4, .int r4), (1, .ref (aX X (16 + kc1))), (2, .int c2), (3, .int c3)]) (by decide) (fun _ => rfl) (fun x5_5 => ?_)
      refine r_goto O 12 d5_watersBehind_37 (by decide) ?_
      refine r_sub [2, 3, 4, 1, 0] rfl ?_
      exact ih _ _ _
set_option maxHeartbeats 4000000 in
set_option maxRecDepth 100000 in
theorem c5_watersBehind (l : Launch) (k : Nat) (p2 : Int32) (p3 : Int32) (hk : k < 4) (S : MS) {α : Type} : CtI 30 eX l yX5_watersBehind cX5_watersBehind 6 (some .int) (rmG 2 44) S (fun ad => [.ref (ad 0), .ref (ad (16 + k)), .int p2, .int p3]) (α := α) (f5_watersBehind k p2 p3 S) := by
  refine CtI.of (by decide) (fun _ => Nat.le_of_ble_eq_true rfl) (fun X K _ O hQ => ?_)
  have O : OK 30 X RX5 cX5_watersBehind 6 (some .int) (rmG 2 44) := O
  show GM 30 eX X (f5_watersBehind k p2 p3 S K) S 0 [(0, .ref (aX X 0)), (1, .ref (aX X (16 + k))), (2, .int p2), (3, .int p3)] []
  unfold f5_watersBehind
  refine r_aload_n O d5_watersBehind_0 0 rfl ?_
  refine g_X5_20 O d5_watersBehind_1 ?_
  refine g_X5_103 O d5_watersBehind_4 ?_
  refine r_istore_nm O d5_watersBehind_7 (fun x4_1 => [(4, .int x4_1), (0, .ref (aX X 0)), (1, .ref (aX X (16 + k))), (2, .int p2), (3, .int p3)]) (by decide) (fun _ => rfl) (fun x4_1 => ?_)
  refine r_iload_n O d5_watersBehind_9 3 rfl ?_
  refine r_istore O d5_watersBehind_10 [(5, .int p2), (4, .int x4_1), (0, .ref (aX X 0)), (1, .ref (aX X (16 + k))), (2, .int p2), (3, .int p3)] (by decide) rfl ?_
  refine r_sub [3, 4, 5, 1, 0] rfl ?_
  refine l5_watersBehind_12 O hk (fun v4_7 v5_8 S6 => ?_) _ _ _ _
  refine r_iload O d5_watersBehind_40 3 rfl ?_
  exact r_iret O hQ d5_watersBehind_42
-- X5.newWaters
theorem d5_newWaters_0 : decode cX5_newWaters 0 = .ok (.iconst 0, 1) := by decide +kernel
theorem d5_newWaters_1 : decode cX5_newWaters 1 = .ok (.istore_n 2, 1) := by decide +kernel
theorem d5_newWaters_2 : decode cX5_newWaters 2 = .ok (.iconst 0, 1) := by decide +kernel
theorem d5_newWaters_3 : decode cX5_newWaters 3 = .ok (.istore_n 3, 1) := by decide +kernel
theorem d5_newWaters_4 : decode cX5_newWaters 4 = .ok (.iload_n 3, 1) := by decide +kernel
theorem d5_newWaters_5 : decode cX5_newWaters 5 = .ok (.aload_n 0, 1) := by decide +kernel
theorem d5_newWaters_6 : decode cX5_newWaters 6 = .ok (.getfield 20, 3) := by decide +kernel
theorem d5_newWaters_9 : decode cX5_newWaters 9 = .ok (.getfield 75, 3) := by decide +kernel
theorem d5_newWaters_12 : decode cX5_newWaters 12 = .ok (.if_icmp .ge 21, 3) := by decide +kernel
theorem d5_newWaters_15 : decode cX5_newWaters 15 = .ok (.iload_n 1, 1) := by decide +kernel
theorem d5_newWaters_16 : decode cX5_newWaters 16 = .ok (.iload_n 3, 1) := by decide +kernel
theorem d5_newWaters_17 : decode cX5_newWaters 17 = .ok (.invokestatic 106, 3) := by decide +kernel
theorem d5_newWaters_20 : decode cX5_newWaters 20 = .ok (.iconst 2, 1) := by decide +kernel
theorem d5_newWaters_21 : decode cX5_newWaters 21 = .ok (.if_icmp .ne 6, 3) := by decide +kernel
theorem d5_newWaters_24 : decode cX5_newWaters 24 = .ok (.iinc 2 1, 3) := by decide +kernel
theorem d5_newWaters_27 : decode cX5_newWaters 27 = .ok (.iinc 3 1, 3) := by decide +kernel
theorem d5_newWaters_30 : decode cX5_newWaters 30 = .ok (.goto (-26), 3) := by decide +kernel
theorem d5_newWaters_33 : decode cX5_newWaters 33 = .ok (.iload_n 2, 1) := by decide +kernel
theorem d5_newWaters_34 : decode cX5_newWaters 34 = .ok (.ireturn, 1) := by decide +kernel
noncomputable def f5_newWaters_L4 {α : Type} (c1 : Int32) (KX : Int32 → Int32 → MS → Option α) : Nat → Int32 → Int32 → MS → Option α
  | 0, _, _, _ => none
  | n + 1, v2, v3, S => if (S.1 2 3) ≤ v3 then (KX v2 v3 S) else (f5_waterIn c1 v3 S fun r2 S1 => if r2 = 2 then (nm (v2 + 1) fun x2_4 => nm (v3 + 1) fun x3_5 => f5_newWaters_L4 c1 KX n x2_4 x3_5 S1) else (nm (v3 + 1) fun x3_3 => f5_newWaters_L4 c1 KX n v2 x3_3 S1))
noncomputable def f5_newWaters {α : Type} (p1 : Int32) (S : MS) (K : Int32 → MS → Option α) : Option α := f5_newWaters_L4 p1 (fun v2_7 v3_8 S6 => K v2_7 S6) FU 0 0 S
set_option maxHeartbeats 4000000 in
set_option maxRecDepth 100000 in
theorem l5_newWaters_4 {α : Type} {X : GX α} (O : OK 30 X RX5 cX5_newWaters 4 (some .int) (rmG 1 21)) {c1 : Int32} {KX : Int32 → Int32 → MS → Option α} (hX : ∀ v2 v3 S, GM 30 eX X (KX v2 v3 S) S 33 [(0, .ref (aX X 0)), (1, .int c1), (2, .int v2), (3, .int v3)] []) : ∀ n v2 v3 S, GM 30 eX X (f5_newWaters_L4 c1 KX n v2 v3 S) S 4 [(0, .ref (aX X 0)), (1, .int c1), (2, .int v2), (3, .int v3)] [] := by
  intro n
  induction n with
  | zero => intro v2 v3 S; exact r_none
  | succ n ih =>
    intro v2 v3 S
    rw [f5_newWaters_L4]
    refine r_iload_n O d5_newWaters_4 3 rfl ?_
    refine r_aload_n O d5_newWaters_5 0 rfl ?_
    refine g_X5_20 O d5_newWaters_6 ?_
    refine g_X5_75 O d5_newWaters_9 ?_
    refine r_icmp_ge O 33 d5_newWaters_12 (by decide) ?_ ?_
    · refine r_sub [0, 1, 2, 3] rfl ?_
      exact hX _ _ _
    · refine r_iload_n O d5_newWaters_15 1 rfl ?_
      refine r_iload_n O d5_newWaters_16 3 rfl ?_
      refine r_callSi O (rest := []) (c5_waterIn (lX X) c1 v3 S) w_315 w_290 w_45 w_291 hy_X5_waterIn ⟨rfl, rfl, Nat.le_of_ble_eq_true rfl, Nat.le_of_ble_eq_true rfl⟩ rfl rfl (Nat.le_of_ble_eq_true rfl) d5_newWaters_17 (fun r2 S1 => ?_)
      refine r_iconst O d5_newWaters_20 (v := 2) (by decide) ?_
      refine r_icmp_ne O 27 d5_newWaters_21 (by decide) ?_ ?_
      · refine r_iinc O d5_newWaters_27 3 (c0 := 1) rfl (by decide) (fun x3_3 => [(3, .int x3_3), (0, .ref (aX X 0)), (1, .int c1), (2, .int v2)]) (by decide) (fun _ => rfl) (fun x3_3 => ?_)
        refine r_goto O 4 d5_newWaters_30 (by decide) ?_
        refine r_sub [1, 2, 3, 0] rfl ?_
        exact ih _ _ _
      · refine r_iinc O d5_newWaters_24 2 (c0 := 1) rfl (by decide) (fun x2_4 => [(2, .int x2_4), (0, .ref (aX X 0)), (1, .int c1), (3, .int v3)]) (by decide) (fun _ => rfl) (fun x2_4 => ?_)
        refine r_iinc O d5_newWaters_27 3 (c0 := 1) rfl (by decide) (fun x3_5 => [(3, .int x3_5), (2, .int x2_4), (0, .ref (aX X 0)), (1, .int c1)]) (by decide) (fun _ => rfl) (fun x3_5 => ?_)
        refine r_goto O 4 d5_newWaters_30 (by decide) ?_
        refine r_sub [2, 3, 1, 0] rfl ?_
        exact ih _ _ _
set_option maxHeartbeats 4000000 in
set_option maxRecDepth 100000 in
theorem c5_newWaters (l : Launch) (p1 : Int32) (S : MS) {α : Type} : CtI 30 eX l yX5_newWaters cX5_newWaters 4 (some .int) (rmG 1 21) S (fun ad => [.ref (ad 0), .int p1]) (α := α) (f5_newWaters p1 S) := by
  refine CtI.of (by decide) (fun _ => Nat.le_of_ble_eq_true rfl) (fun X K _ O hQ => ?_)
  have O : OK 30 X RX5 cX5_newWaters 4 (some .int) (rmG 1 21) := O
  show GM 30 eX X (f5_newWaters p1 S K) S 0 [(0, .ref (aX X 0)), (1, .int p1)] []
  unfold f5_newWaters
  refine r_iconst O d5_newWaters_0 (v := 0) (by decide) ?_
  refine r_istore_n O d5_newWaters_1 [(2, .int 0), (0, .ref (aX X 0)), (1, .int p1)] (by decide) rfl ?_
  refine r_iconst O d5_newWaters_2 (v := 0) (by decide) ?_
  refine r_istore_n O d5_newWaters_3 [(3, .int 0), (2, .int 0), (0, .ref (aX X 0)), (1, .int p1)] (by decide) rfl ?_
  refine r_sub [2, 3, 1, 0] rfl ?_
  refine l5_newWaters_4 O (fun v2_7 v3_8 S6 => ?_) _ _ _ _
  refine r_iload_n O d5_newWaters_33 2 rfl ?_
  exact r_iret O hQ d5_newWaters_34
-- J6.bitCount_0f7a4
theorem dJ6_bitCount_0 : decode cJ6_bitCount_0f7a4 0 = .ok (.iload_n 0, 1) := by decide +kernel
theorem dJ6_bitCount_1 : decode cJ6_bitCount_0f7a4 1 = .ok (.iload_n 0, 1) := by decide +kernel
theorem dJ6_bitCount_2 : decode cJ6_bitCount_0f7a4 2 = .ok (.iconst 1, 1) := by decide +kernel
theorem dJ6_bitCount_3 : decode cJ6_bitCount_0f7a4 3 = .ok (.iushr, 1) := by decide +kernel
theorem dJ6_bitCount_4 : decode cJ6_bitCount_0f7a4 4 = .ok (.ldc_w 265, 3) := by decide +kernel
theorem dJ6_bitCount_7 : decode cJ6_bitCount_0f7a4 7 = .ok (.iand, 1) := by decide +kernel
theorem dJ6_bitCount_8 : decode cJ6_bitCount_0f7a4 8 = .ok (.isub, 1) := by decide +kernel
theorem dJ6_bitCount_9 : decode cJ6_bitCount_0f7a4 9 = .ok (.istore_n 0, 1) := by decide +kernel
theorem dJ6_bitCount_10 : decode cJ6_bitCount_0f7a4 10 = .ok (.iload_n 0, 1) := by decide +kernel
theorem dJ6_bitCount_11 : decode cJ6_bitCount_0f7a4 11 = .ok (.ldc_w 266, 3) := by decide +kernel
theorem dJ6_bitCount_14 : decode cJ6_bitCount_0f7a4 14 = .ok (.iand, 1) := by decide +kernel
theorem dJ6_bitCount_15 : decode cJ6_bitCount_0f7a4 15 = .ok (.iload_n 0, 1) := by decide +kernel
theorem dJ6_bitCount_16 : decode cJ6_bitCount_0f7a4 16 = .ok (.iconst 2, 1) := by decide +kernel
theorem dJ6_bitCount_17 : decode cJ6_bitCount_0f7a4 17 = .ok (.iushr, 1) := by decide +kernel
theorem dJ6_bitCount_18 : decode cJ6_bitCount_0f7a4 18 = .ok (.ldc_w 266, 3) := by decide +kernel
theorem dJ6_bitCount_21 : decode cJ6_bitCount_0f7a4 21 = .ok (.iand, 1) := by decide +kernel
theorem dJ6_bitCount_22 : decode cJ6_bitCount_0f7a4 22 = .ok (.iadd, 1) := by decide +kernel
theorem dJ6_bitCount_23 : decode cJ6_bitCount_0f7a4 23 = .ok (.istore_n 0, 1) := by decide +kernel
theorem dJ6_bitCount_24 : decode cJ6_bitCount_0f7a4 24 = .ok (.iload_n 0, 1) := by decide +kernel
theorem dJ6_bitCount_25 : decode cJ6_bitCount_0f7a4 25 = .ok (.iload_n 0, 1) := by decide +kernel
theorem dJ6_bitCount_26 : decode cJ6_bitCount_0f7a4 26 = .ok (.iconst 4, 1) := by decide +kernel
theorem dJ6_bitCount_27 : decode cJ6_bitCount_0f7a4 27 = .ok (.iushr, 1) := by decide +kernel
theorem dJ6_bitCount_28 : decode cJ6_bitCount_0f7a4 28 = .ok (.iadd, 1) := by decide +kernel
theorem dJ6_bitCount_29 : decode cJ6_bitCount_0f7a4 29 = .ok (.ldc_w 267, 3) := by decide +kernel
theorem dJ6_bitCount_32 : decode cJ6_bitCount_0f7a4 32 = .ok (.iand, 1) := by decide +kernel
theorem dJ6_bitCount_33 : decode cJ6_bitCount_0f7a4 33 = .ok (.istore_n 0, 1) := by decide +kernel
theorem dJ6_bitCount_34 : decode cJ6_bitCount_0f7a4 34 = .ok (.iload_n 0, 1) := by decide +kernel
theorem dJ6_bitCount_35 : decode cJ6_bitCount_0f7a4 35 = .ok (.iload_n 0, 1) := by decide +kernel
theorem dJ6_bitCount_36 : decode cJ6_bitCount_0f7a4 36 = .ok (.bipush 8, 2) := by decide +kernel
theorem dJ6_bitCount_38 : decode cJ6_bitCount_0f7a4 38 = .ok (.iushr, 1) := by decide +kernel
theorem dJ6_bitCount_39 : decode cJ6_bitCount_0f7a4 39 = .ok (.iadd, 1) := by decide +kernel
theorem dJ6_bitCount_40 : decode cJ6_bitCount_0f7a4 40 = .ok (.istore_n 0, 1) := by decide +kernel
theorem dJ6_bitCount_41 : decode cJ6_bitCount_0f7a4 41 = .ok (.iload_n 0, 1) := by decide +kernel
theorem dJ6_bitCount_42 : decode cJ6_bitCount_0f7a4 42 = .ok (.iload_n 0, 1) := by decide +kernel
theorem dJ6_bitCount_43 : decode cJ6_bitCount_0f7a4 43 = .ok (.bipush 16, 2) := by decide +kernel
theorem dJ6_bitCount_45 : decode cJ6_bitCount_0f7a4 45 = .ok (.iushr, 1) := by decide +kernel
theorem dJ6_bitCount_46 : decode cJ6_bitCount_0f7a4 46 = .ok (.iadd, 1) := by decide +kernel
theorem dJ6_bitCount_47 : decode cJ6_bitCount_0f7a4 47 = .ok (.istore_n 0, 1) := by decide +kernel
theorem dJ6_bitCount_48 : decode cJ6_bitCount_0f7a4 48 = .ok (.iload_n 0, 1) := by decide +kernel
theorem dJ6_bitCount_49 : decode cJ6_bitCount_0f7a4 49 = .ok (.bipush 63, 2) := by decide +kernel
theorem dJ6_bitCount_51 : decode cJ6_bitCount_0f7a4 51 = .ok (.iand, 1) := by decide +kernel
theorem dJ6_bitCount_52 : decode cJ6_bitCount_0f7a4 52 = .ok (.ireturn, 1) := by decide +kernel
noncomputable def fJ6_bitCount {α : Type} (p0 : Int32) (S : MS) (K : Int32 → MS → Option α) : Option α := nm (p0 - (((p0.toUInt32 >>> ((1 : Int32).toUInt32 &&& Int32.toUInt32 31)).toInt32) &&& 1431655765)) fun x0_1 => nm ((x0_1 &&& 858993459) + (((x0_1.toUInt32 >>> ((2 : Int32).toUInt32 &&& Int32.toUInt32 31)).toInt32) &&& 858993459)) fun x0_2 => nm ((x0_2 + ((x0_2.toUInt32 >>> ((4 : Int32).toUInt32 &&& Int32.toUInt32 31)).toInt32)) &&& 252645135) fun x0_3 => nm (x0_3 + ((x0_3.toUInt32 >>> ((8 : Int32).toUInt32 &&& Int32.toUInt32 31)).toInt32)) fun x0_4 => nm (x0_4 + ((x0_4.toUInt32 >>> ((16 : Int32).toUInt32 &&& Int32.toUInt32 31)).toInt32)) fun x0_5 => K (x0_5 &&& 63) S
set_option maxHeartbeats 4000000 in
set_option maxRecDepth 100000 in
theorem cJ6_bitCount (l : Launch) (p0 : Int32) (S : MS) {α : Type} : CtI 30 eX l yJ6_bitCount_0f7a4 cJ6_bitCount_0f7a4 1 (some .int) (rmG 0 0) S (fun ad => [.int p0]) (α := α) (fJ6_bitCount p0 S) := by
  refine CtI.of (by decide) (fun _ => Nat.le_of_ble_eq_true rfl) (fun X K _ O hQ => ?_)
  have O : OK 30 X RJ6 cJ6_bitCount_0f7a4 1 (some .int) (rmG 0 0) := O
  show GM 30 eX X (fJ6_bitCount p0 S K) S 0 [(0, .int p0)] []
  unfold fJ6_bitCount
  refine r_iload_n O dJ6_bitCount_0 0 rfl ?_
  refine r_iload_n O dJ6_bitCount_1 0 rfl ?_
  refine r_iconst O dJ6_bitCount_2 (v := 1) (by decide) ?_
  refine r_iushr O dJ6_bitCount_3 ?_
  refine r_ldcw O (v := 1431655765) w_491 dJ6_bitCount_4 ?_
  refine r_iand O dJ6_bitCount_7 ?_
  refine r_isub O dJ6_bitCount_8 ?_
  refine r_istore_n_nm O dJ6_bitCount_9 (fun x0_1 => [(0, .int x0_1)]) (by decide) (fun _ => rfl) (fun x0_1 => ?_)
  refine r_iload_n O dJ6_bitCount_10 0 rfl ?_
  refine r_ldcw O (v := 858993459) w_492 dJ6_bitCount_11 ?_
  refine r_iand O dJ6_bitCount_14 ?_
  refine r_iload_n O dJ6_bitCount_15 0 rfl ?_
  refine r_iconst O dJ6_bitCount_16 (v := 2) (by decide) ?_
  refine r_iushr O dJ6_bitCount_17 ?_
  refine r_ldcw O (v := 858993459) w_492 dJ6_bitCount_18 ?_
  refine r_iand O dJ6_bitCount_21 ?_
  refine r_iadd O dJ6_bitCount_22 ?_
  refine r_istore_n_nm O dJ6_bitCount_23 (fun x0_2 => [(0, .int x0_2)]) (by decide) (fun _ => rfl) (fun x0_2 => ?_)
  refine r_iload_n O dJ6_bitCount_24 0 rfl ?_
  refine r_iload_n O dJ6_bitCount_25 0 rfl ?_
  refine r_iconst O dJ6_bitCount_26 (v := 4) (by decide) ?_
  refine r_iushr O dJ6_bitCount_27 ?_
  refine r_iadd O dJ6_bitCount_28 ?_
  refine r_ldcw O (v := 252645135) w_493 dJ6_bitCount_29 ?_
  refine r_iand O dJ6_bitCount_32 ?_
  refine r_istore_n_nm O dJ6_bitCount_33 (fun x0_3 => [(0, .int x0_3)]) (by decide) (fun _ => rfl) (fun x0_3 => ?_)
  refine r_iload_n O dJ6_bitCount_34 0 rfl ?_
  refine r_iload_n O dJ6_bitCount_35 0 rfl ?_
  refine r_bipush O dJ6_bitCount_36 (v := 8) (by decide) ?_
  refine r_iushr O dJ6_bitCount_38 ?_
  refine r_iadd O dJ6_bitCount_39 ?_
  refine r_istore_n_nm O dJ6_bitCount_40 (fun x0_4 => [(0, .int x0_4)]) (by decide) (fun _ => rfl) (fun x0_4 => ?_)
  refine r_iload_n O dJ6_bitCount_41 0 rfl ?_
  refine r_iload_n O dJ6_bitCount_42 0 rfl ?_
  refine r_bipush O dJ6_bitCount_43 (v := 16) (by decide) ?_
  refine r_iushr O dJ6_bitCount_45 ?_
  refine r_iadd O dJ6_bitCount_46 ?_
  refine r_istore_n_nm O dJ6_bitCount_47 (fun x0_5 => [(0, .int x0_5)]) (by decide) (fun _ => rfl) (fun x0_5 => ?_)
  refine r_iload_n O dJ6_bitCount_48 0 rfl ?_
  refine r_bipush O dJ6_bitCount_49 (v := 63) (by decide) ?_
  refine r_iand O dJ6_bitCount_51 ?_
  exact r_iret O hQ dJ6_bitCount_52
-- X5.ofWaters
theorem d5_ofWaters_0 : decode cX5_ofWaters 0 = .ok (.aload_n 0, 1) := by decide +kernel
theorem d5_ofWaters_1 : decode cX5_ofWaters 1 = .ok (.getfield 20, 3) := by decide +kernel
theorem d5_ofWaters_4 : decode cX5_ofWaters 4 = .ok (.iload_n 1, 1) := by decide +kernel
theorem d5_ofWaters_5 : decode cX5_ofWaters 5 = .ok (.invokevirtual 133, 3) := by decide +kernel
theorem d5_ofWaters_8 : decode cX5_ofWaters 8 = .ok (.istore_n 3, 1) := by decide +kernel
theorem d5_ofWaters_9 : decode cX5_ofWaters 9 = .ok (.iload_n 2, 1) := by decide +kernel
theorem d5_ofWaters_10 : decode cX5_ofWaters 10 = .ok (.tableswitch 73 0 4 #[34, 73, 40, 45, 61], 34) := by decide +kernel
theorem d5_ofWaters_44 : decode cX5_ofWaters 44 = .ok (.aload_n 0, 1) := by decide +kernel
theorem d5_ofWaters_45 : decode cX5_ofWaters 45 = .ok (.iload_n 1, 1) := by decide +kernel
theorem d5_ofWaters_46 : decode cX5_ofWaters 46 = .ok (.invokevirtual 255, 3) := by decide +kernel
theorem d5_ofWaters_49 : decode cX5_ofWaters 49 = .ok (.ireturn, 1) := by decide +kernel
theorem d5_ofWaters_50 : decode cX5_ofWaters 50 = .ok (.iload_n 3, 1) := by decide +kernel
theorem d5_ofWaters_51 : decode cX5_ofWaters 51 = .ok (.invokestatic 250, 3) := by decide +kernel
theorem d5_ofWaters_54 : decode cX5_ofWaters 54 = .ok (.ireturn, 1) := by decide +kernel
theorem d5_ofWaters_55 : decode cX5_ofWaters 55 = .ok (.sipush 1000, 3) := by decide +kernel
theorem d5_ofWaters_58 : decode cX5_ofWaters 58 = .ok (.aload_n 0, 1) := by decide +kernel
theorem d5_ofWaters_59 : decode cX5_ofWaters 59 = .ok (.getfield 20, 3) := by decide +kernel
theorem d5_ofWaters_62 : decode cX5_ofWaters 62 = .ok (.iload_n 3, 1) := by decide +kernel
theorem d5_ofWaters_63 : decode cX5_ofWaters 63 = .ok (.invokevirtual 136, 3) := by decide +kernel
theorem d5_ofWaters_66 : decode cX5_ofWaters 66 = .ok (.getfield 140, 3) := by decide +kernel
theorem d5_ofWaters_69 : decode cX5_ofWaters 69 = .ok (.iadd, 1) := by decide +kernel
theorem d5_ofWaters_70 : decode cX5_ofWaters 70 = .ok (.ireturn, 1) := by decide +kernel
theorem d5_ofWaters_71 : decode cX5_ofWaters 71 = .ok (.aload_n 0, 1) := by decide +kernel
theorem d5_ofWaters_72 : decode cX5_ofWaters 72 = .ok (.getfield 20, 3) := by decide +kernel
theorem d5_ofWaters_75 : decode cX5_ofWaters 75 = .ok (.iload_n 3, 1) := by decide +kernel
theorem d5_ofWaters_76 : decode cX5_ofWaters 76 = .ok (.invokevirtual 136, 3) := by decide +kernel
theorem d5_ofWaters_79 : decode cX5_ofWaters 79 = .ok (.invokevirtual 148, 3) := by decide +kernel
theorem d5_ofWaters_82 : decode cX5_ofWaters 82 = .ok (.ireturn, 1) := by decide +kernel
theorem d5_ofWaters_83 : decode cX5_ofWaters 83 = .ok (.aload_n 0, 1) := by decide +kernel
theorem d5_ofWaters_84 : decode cX5_ofWaters 84 = .ok (.iload_n 2, 1) := by decide +kernel
theorem d5_ofWaters_85 : decode cX5_ofWaters 85 = .ok (.bipush 10, 2) := by decide +kernel
theorem d5_ofWaters_87 : decode cX5_ofWaters 87 = .ok (.isub, 1) := by decide +kernel
theorem d5_ofWaters_88 : decode cX5_ofWaters 88 = .ok (.invokevirtual 78, 3) := by decide +kernel
theorem d5_ofWaters_91 : decode cX5_ofWaters 91 = .ok (.ifCond .eq 14, 3) := by decide +kernel
theorem d5_ofWaters_94 : decode cX5_ofWaters 94 = .ok (.iload_n 1, 1) := by decide +kernel
theorem d5_ofWaters_95 : decode cX5_ofWaters 95 = .ok (.iload_n 2, 1) := by decide +kernel
theorem d5_ofWaters_96 : decode cX5_ofWaters 96 = .ok (.bipush 10, 2) := by decide +kernel
theorem d5_ofWaters_98 : decode cX5_ofWaters 98 = .ok (.isub, 1) := by decide +kernel
theorem d5_ofWaters_99 : decode cX5_ofWaters 99 = .ok (.invokestatic 106, 3) := by decide +kernel
theorem d5_ofWaters_102 : decode cX5_ofWaters 102 = .ok (.goto 5, 3) := by decide +kernel
theorem d5_ofWaters_105 : decode cX5_ofWaters 105 = .ok (.bipush (-9), 2) := by decide +kernel
theorem d5_ofWaters_107 : decode cX5_ofWaters 107 = .ok (.ireturn, 1) := by decide +kernel
noncomputable def f5_ofWaters_J83 {α : Type} (c1 : Int32) (c2 : Int32) (S : MS) (K : Int32 → MS → Option α) : Option α := f5_isTank (c2 - 10) S fun r8 S7 => if r8 = 0 then (K (-9) S7) else (f5_waterIn c1 (c2 - 10) S7 fun r10 S9 => K r10 S9)
noncomputable def f5_ofWaters {α : Type} (p1 : Int32) (p2 : Int32) (S : MS) (K : Int32 → MS → Option α) : Option α := f3_fullSet p1 S fun r2 S1 => if p2 = 0 then (f5_newWaters p1 S1 fun r5 S4 => K r5 S4) else (if p2 = 1 then (f5_ofWaters_J83 p1 p2 S1 K) else (if p2 = 2 then (fJ6_bitCount r2 S1 fun r13 S12 => K r13 S12) else (if p2 = 3 then (f3_loadOf r2 S1 fun S15 => K ((1000 : Int32) + (S15.1 5 2)) S15) else (if p2 = 4 then (f3_loadOf r2 S1 fun S18 => f0_bending S18 fun r21 S20 => K r21 S20) else (f5_ofWaters_J83 p1 p2 S1 K)))))
set_option maxHeartbeats 4000000 in
set_option maxRecDepth 100000 in
theorem j5_ofWaters_83 {α : Type} {X : GX α} (O : OK 30 X RX5 cX5_ofWaters 4 (some .int) (rmG 3 65)) {K : Int32 → MS → Option α} (hQ : RtI 30 eX X K) {c1 : Int32} {c2 : Int32} {S : MS} : GM 30 eX X (f5_ofWaters_J83 c1 c2 S K) S 83 [(0, .ref (aX X 0)), (1, .int c1), (2, .int c2)] [] := by
  unfold f5_ofWaters_J83
  refine r_aload_n O d5_ofWaters_83 0 rfl ?_
  refine r_iload_n O d5_ofWaters_84 2 rfl ?_
  refine r_bipush O d5_ofWaters_85 (v := 10) (by decide) ?_
  refine r_isub O d5_ofWaters_87 ?_
  refine r_callVi O (b := 0) (bv := fun ad => [.int (c2 - 10)]) (rest := []) (c5_isTank (lX X) (c2 - 10) S) (fun _ => rfl) (by decide) eX_0 rfl rfl w_304 w_306 w_1 w_45 w_307 hy_X5_isTank ⟨rfl, rfl, Nat.le_of_ble_eq_true rfl, Nat.le_of_ble_eq_true rfl⟩ rfl rfl (Nat.le_of_ble_eq_true rfl) d5_ofWaters_88 (fun r8 S7 => ?_)
  refine r_if_eq O 105 d5_ofWaters_91 (by decide) ?_ ?_
  · refine r_bipush O d5_ofWaters_105 (v := (-9)) (by decide) ?_
    exact r_iret O hQ d5_ofWaters_107
  · refine r_iload_n O d5_ofWaters_94 1 rfl ?_
    refine r_iload_n O d5_ofWaters_95 2 rfl ?_
    refine r_bipush O d5_ofWaters_96 (v := 10) (by decide) ?_
    refine r_isub O d5_ofWaters_98 ?_
    refine r_callSi O (rest := []) (c5_waterIn (lX X) c1 (c2 - 10) S7) w_315 w_290 w_45 w_291 hy_X5_waterIn ⟨rfl, rfl, Nat.le_of_ble_eq_true rfl, Nat.le_of_ble_eq_true rfl⟩ rfl rfl (Nat.le_of_ble_eq_true rfl) d5_ofWaters_99 (fun r10 S9 => ?_)
    refine r_goto O 107 d5_ofWaters_102 (by decide) ?_
    exact r_iret O hQ d5_ofWaters_107
set_option maxHeartbeats 4000000 in
set_option maxRecDepth 100000 in
theorem c5_ofWaters (l : Launch) (p1 : Int32) (p2 : Int32) (S : MS) {α : Type} : CtI 30 eX l yX5_ofWaters cX5_ofWaters 4 (some .int) (rmG 3 65) S (fun ad => [.ref (ad 0), .int p1, .int p2]) (α := α) (f5_ofWaters p1 p2 S) := by
  refine CtI.of (by decide) (fun _ => Nat.le_of_ble_eq_true rfl) (fun X K _ O hQ => ?_)
  have O : OK 30 X RX5 cX5_ofWaters 4 (some .int) (rmG 3 65) := O
  show GM 30 eX X (f5_ofWaters p1 p2 S K) S 0 [(0, .ref (aX X 0)), (1, .int p1), (2, .int p2)] []
  unfold f5_ofWaters
  refine r_aload_n O d5_ofWaters_0 0 rfl ?_
  refine g_X5_20 O d5_ofWaters_1 ?_
  refine r_iload_n O d5_ofWaters_4 1 rfl ?_
  refine r_callVi O (b := 2) (bv := fun ad => [.int p1]) (rest := []) (c3_fullSet (lX X) p1 S) (fun _ => rfl) (by decide) eX_2 rfl rfl w_391 w_286 w_287 w_46 w_288 hy_X3_fullSet ⟨rfl, rfl, Nat.le_of_ble_eq_true rfl, Nat.le_of_ble_eq_true rfl⟩ rfl rfl (Nat.le_of_ble_eq_true rfl) d5_ofWaters_5 (fun r2 S1 => ?_)
  refine r_istore_n O d5_ofWaters_8 [(3, .int r2), (0, .ref (aX X 0)), (1, .int p1), (2, .int p2)] (by decide) rfl ?_
  refine r_iload_n O d5_ofWaters_9 3 rfl ?_
  refine r_ite (fun hs3 => ?_) (fun hs3 => ?_)
  · refine r_tin O 44 d5_ofWaters_10 (by rw [hs3]; decide) (by rw [hs3]; decide) (by rw [hs3]; rfl) (by decide) ?_
    refine r_aload_n O d5_ofWaters_44 1 rfl ?_
    refine r_iload_n O d5_ofWaters_45 2 rfl ?_
    refine r_callVi O (b := 0) (bv := fun ad => [.int p1]) (rest := []) (c5_newWaters (lX X) p1 S1) (fun _ => rfl) (by decide) eX_0 rfl rfl w_484 w_486 w_10 w_45 w_487 hy_X5_newWaters ⟨rfl, rfl, Nat.le_of_ble_eq_true rfl, Nat.le_of_ble_eq_true rfl⟩ rfl rfl (Nat.le_of_ble_eq_true rfl) d5_ofWaters_46 (fun r5 S4 => ?_)
    exact r_iret O hQ d5_ofWaters_49
  refine r_ite (fun hs6 => ?_) (fun hs6 => ?_)
  · refine r_tin O 83 d5_ofWaters_10 (by rw [hs6]; decide) (by rw [hs6]; decide) (by rw [hs6]; rfl) (by decide) ?_
    refine r_sub [1, 2, 3] rfl ?_
    exact j5_ofWaters_83 O hQ
  refine r_ite (fun hs11 => ?_) (fun hs11 => ?_)
  · refine r_tin O 50 d5_ofWaters_10 (by rw [hs11]; decide) (by rw [hs11]; decide) (by rw [hs11]; rfl) (by decide) ?_
    refine r_iload_n O d5_ofWaters_50 0 rfl ?_
    refine r_callSi O (rest := []) (cJ6_bitCount (lX X) r2 S1) w_488 w_489 w_54 w_490 hy_J6_bitCount_0f7a4 ⟨rfl, rfl, Nat.le_of_ble_eq_true rfl, Nat.le_of_ble_eq_true rfl⟩ rfl rfl (Nat.le_of_ble_eq_true rfl) d5_ofWaters_51 (fun r13 S12 => ?_)
    exact r_iret O hQ d5_ofWaters_54
  refine r_ite (fun hs14 => ?_) (fun hs14 => ?_)
  · refine r_tin O 55 d5_ofWaters_10 (by rw [hs14]; decide) (by rw [hs14]; decide) (by rw [hs14]; rfl) (by decide) ?_
    refine r_sipush O d5_ofWaters_55 (v := 1000) (by decide) ?_
    refine r_aload_n O d5_ofWaters_58 1 rfl ?_
    refine g_X5_20 O d5_ofWaters_59 ?_
    refine r_iload_n O d5_ofWaters_62 0 rfl ?_
    refine r_callVr O (b := 2) (bv := fun ad => [.int r2]) (rest := [.int 1000]) (c3_loadOf (lX X) r2 S1) (fun _ => rfl) (by decide) eX_2 rfl rfl w_392 w_364 w_365 w_46 w_366 hy_X3_loadOf ⟨rfl, rfl, Nat.le_of_ble_eq_true rfl, Nat.le_of_ble_eq_true rfl⟩ rfl rfl (Nat.le_of_ble_eq_true rfl) d5_ofWaters_63 (fun S15 => ?_)
    refine g_X5_140 O d5_ofWaters_66 ?_
    refine r_iadd O d5_ofWaters_69 ?_
    exact r_iret O hQ d5_ofWaters_70
  refine r_ite (fun hs17 => ?_) (fun hs17 => ?_)
  · refine r_tin O 71 d5_ofWaters_10 (by rw [hs17]; decide) (by rw [hs17]; decide) (by rw [hs17]; rfl) (by decide) ?_
    refine r_aload_n O d5_ofWaters_71 1 rfl ?_
    refine g_X5_20 O d5_ofWaters_72 ?_
    refine r_iload_n O d5_ofWaters_75 0 rfl ?_
    refine r_callVr O (b := 2) (bv := fun ad => [.int r2]) (rest := []) (c3_loadOf (lX X) r2 S1) (fun _ => rfl) (by decide) eX_2 rfl rfl w_392 w_364 w_365 w_46 w_366 hy_X3_loadOf ⟨rfl, rfl, Nat.le_of_ble_eq_true rfl, Nat.le_of_ble_eq_true rfl⟩ rfl rfl (Nat.le_of_ble_eq_true rfl) d5_ofWaters_76 (fun S18 => ?_)
    refine r_callVi O (b := 5) (bv := fun ad => []) (rest := []) (c0_bending (lX X) S18) (fun _ => rfl) (by decide) eX_5 rfl rfl w_393 w_353 w_354 w_47 w_355 hy_X0_bending ⟨rfl, rfl, Nat.le_of_ble_eq_true rfl, Nat.le_of_ble_eq_true rfl⟩ rfl rfl (Nat.le_of_ble_eq_true rfl) d5_ofWaters_79 (fun r21 S20 => ?_)
    exact r_iret O hQ d5_ofWaters_82
  have nhs3 := i32_ne (n := 0) 0 (by decide) hs3
  have nhs6 := i32_ne (n := 1) 1 (by decide) hs6
  have nhs11 := i32_ne (n := 2) 2 (by decide) hs11
  have nhs14 := i32_ne (n := 3) 3 (by decide) hs14
  have nhs17 := i32_ne (n := 4) 4 (by decide) hs17
  refine r_tout O 83 d5_ofWaters_10 (by omega) (by decide) ?_
  refine r_sub [1, 2, 3] rfl ?_
  exact j5_ofWaters_83 O hQ
-- X5.day
theorem d5_day_0 : decode cX5_day 0 = .ok (.aload_n 0, 1) := by decide +kernel
theorem d5_day_1 : decode cX5_day 1 = .ok (.iconst 0, 1) := by decide +kernel
theorem d5_day_2 : decode cX5_day 2 = .ok (.putfield 42, 3) := by decide +kernel
theorem d5_day_5 : decode cX5_day 5 = .ok (.iload_n 1, 1) := by decide +kernel
theorem d5_day_6 : decode cX5_day 6 = .ok (.invokestatic 46, 3) := by decide +kernel
theorem d5_day_9 : decode cX5_day 9 = .ok (.ifCond .ne 5, 3) := by decide +kernel
theorem d5_day_12 : decode cX5_day 12 = .ok (.iconst (-1), 1) := by decide +kernel
theorem d5_day_13 : decode cX5_day 13 = .ok (.ireturn, 1) := by decide +kernel
theorem d5_day_14 : decode cX5_day 14 = .ok (.iload_n 2, 1) := by decide +kernel
theorem d5_day_15 : decode cX5_day 15 = .ok (.invokestatic 50, 3) := by decide +kernel
theorem d5_day_18 : decode cX5_day 18 = .ok (.ifCond .eq 23, 3) := by decide +kernel
theorem d5_day_21 : decode cX5_day 21 = .ok (.iload 4, 2) := by decide +kernel
theorem d5_day_23 : decode cX5_day 23 = .ok (.ifCond .lt 18, 3) := by decide +kernel
theorem d5_day_26 : decode cX5_day 26 = .ok (.iload 4, 2) := by decide +kernel
theorem d5_day_28 : decode cX5_day 28 = .ok (.bipush 30, 2) := by decide +kernel
theorem d5_day_30 : decode cX5_day 30 = .ok (.if_icmp .gt 11, 3) := by decide +kernel
theorem d5_day_33 : decode cX5_day 33 = .ok (.iload 5, 2) := by decide +kernel
theorem d5_day_35 : decode cX5_day 35 = .ok (.invokestatic 177, 3) := by decide +kernel
theorem d5_day_38 : decode cX5_day 38 = .ok (.ifCond .ne 6, 3) := by decide +kernel
theorem d5_day_41 : decode cX5_day 41 = .ok (.bipush (-2), 2) := by decide +kernel
theorem d5_day_43 : decode cX5_day 43 = .ok (.ireturn, 1) := by decide +kernel
theorem d5_day_44 : decode cX5_day 44 = .ok (.aload_n 0, 1) := by decide +kernel
theorem d5_day_45 : decode cX5_day 45 = .ok (.getfield 13, 3) := by decide +kernel
theorem d5_day_48 : decode cX5_day 48 = .ok (.iload_n 1, 1) := by decide +kernel
theorem d5_day_49 : decode cX5_day 49 = .ok (.aaload, 1) := by decide +kernel
theorem d5_day_50 : decode cX5_day 50 = .ok (.astore 6, 2) := by decide +kernel
theorem d5_day_52 : decode cX5_day 52 = .ok (.aload 6, 2) := by decide +kernel
theorem d5_day_54 : decode cX5_day 54 = .ok (.iload_n 2, 1) := by decide +kernel
theorem d5_day_55 : decode cX5_day 55 = .ok (.invokevirtual 53, 3) := by decide +kernel
theorem d5_day_58 : decode cX5_day 58 = .ok (.istore 7, 2) := by decide +kernel
theorem d5_day_60 : decode cX5_day 60 = .ok (.iload 7, 2) := by decide +kernel
theorem d5_day_62 : decode cX5_day 62 = .ok (.ifCond .ne 17, 3) := by decide +kernel
theorem d5_day_65 : decode cX5_day 65 = .ok (.aload 6, 2) := by decide +kernel
theorem d5_day_67 : decode cX5_day 67 = .ok (.iload_n 3, 1) := by decide +kernel
theorem d5_day_68 : decode cX5_day 68 = .ok (.iload 4, 2) := by decide +kernel
theorem d5_day_70 : decode cX5_day 70 = .ok (.invokevirtual 57, 3) := by decide +kernel
theorem d5_day_73 : decode cX5_day 73 = .ok (.ifCond .ne 6, 3) := by decide +kernel
theorem d5_day_76 : decode cX5_day 76 = .ok (.iconst 3, 1) := by decide +kernel
theorem d5_day_77 : decode cX5_day 77 = .ok (.istore 7, 2) := by decide +kernel
theorem d5_day_79 : decode cX5_day 79 = .ok (.iload 7, 2) := by decide +kernel
theorem d5_day_81 : decode cX5_day 81 = .ok (.ifCond .eq 10, 3) := by decide +kernel
theorem d5_day_84 : decode cX5_day 84 = .ok (.aload_n 0, 1) := by decide +kernel
theorem d5_day_85 : decode cX5_day 85 = .ok (.iload 7, 2) := by decide +kernel
theorem d5_day_87 : decode cX5_day 87 = .ok (.invokevirtual 61, 3) := by decide +kernel
theorem d5_day_90 : decode cX5_day 90 = .ok (.ireturn, 1) := by decide +kernel
theorem d5_day_91 : decode cX5_day 91 = .ok (.aload_n 0, 1) := by decide +kernel
theorem d5_day_92 : decode cX5_day 92 = .ok (.invokevirtual 126, 3) := by decide +kernel
theorem d5_day_95 : decode cX5_day 95 = .ok (.ifCond .eq 6, 3) := by decide +kernel
theorem d5_day_98 : decode cX5_day 98 = .ok (.bipush (-3), 2) := by decide +kernel
theorem d5_day_100 : decode cX5_day 100 = .ok (.ireturn, 1) := by decide +kernel
theorem d5_day_101 : decode cX5_day 101 = .ok (.aload 6, 2) := by decide +kernel
theorem d5_day_103 : decode cX5_day 103 = .ok (.iload_n 3, 1) := by decide +kernel
theorem d5_day_104 : decode cX5_day 104 = .ok (.iload 4, 2) := by decide +kernel
theorem d5_day_106 : decode cX5_day 106 = .ok (.invokestatic 180, 3) := by decide +kernel
theorem d5_day_109 : decode cX5_day 109 = .ok (.ifCond .ne 6, 3) := by decide +kernel
theorem d5_day_112 : decode cX5_day 112 = .ok (.bipush (-2), 2) := by decide +kernel
theorem d5_day_114 : decode cX5_day 114 = .ok (.ireturn, 1) := by decide +kernel
theorem d5_day_115 : decode cX5_day 115 = .ok (.aload_n 0, 1) := by decide +kernel
theorem d5_day_116 : decode cX5_day 116 = .ok (.aload 6, 2) := by decide +kernel
theorem d5_day_118 : decode cX5_day 118 = .ok (.iload_n 3, 1) := by decide +kernel
theorem d5_day_119 : decode cX5_day 119 = .ok (.iload 4, 2) := by decide +kernel
theorem d5_day_121 : decode cX5_day 121 = .ok (.invokevirtual 184, 3) := by decide +kernel
theorem d5_day_124 : decode cX5_day 124 = .ok (.istore 8, 2) := by decide +kernel
theorem d5_day_126 : decode cX5_day 126 = .ok (.iload 5, 2) := by decide +kernel
theorem d5_day_128 : decode cX5_day 128 = .ok (.iconst 1, 1) := by decide +kernel
theorem d5_day_129 : decode cX5_day 129 = .ok (.if_icmp .ne 6, 3) := by decide +kernel
theorem d5_day_132 : decode cX5_day 132 = .ok (.iload 8, 2) := by decide +kernel
theorem d5_day_134 : decode cX5_day 134 = .ok (.ireturn, 1) := by decide +kernel
theorem d5_day_135 : decode cX5_day 135 = .ok (.iload 8, 2) := by decide +kernel
theorem d5_day_137 : decode cX5_day 137 = .ok (.bipush (-9), 2) := by decide +kernel
theorem d5_day_139 : decode cX5_day 139 = .ok (.if_icmp .eq 9, 3) := by decide +kernel
theorem d5_day_142 : decode cX5_day 142 = .ok (.bipush (-100), 2) := by decide +kernel
theorem d5_day_144 : decode cX5_day 144 = .ok (.iload 8, 2) := by decide +kernel
theorem d5_day_146 : decode cX5_day 146 = .ok (.isub, 1) := by decide +kernel
theorem d5_day_147 : decode cX5_day 147 = .ok (.ireturn, 1) := by decide +kernel
theorem d5_day_148 : decode cX5_day 148 = .ok (.aload_n 0, 1) := by decide +kernel
theorem d5_day_149 : decode cX5_day 149 = .ok (.aload_n 0, 1) := by decide +kernel
theorem d5_day_150 : decode cX5_day 150 = .ok (.aload 6, 2) := by decide +kernel
theorem d5_day_152 : decode cX5_day 152 = .ok (.iload_n 3, 1) := by decide +kernel
theorem d5_day_153 : decode cX5_day 153 = .ok (.iload 4, 2) := by decide +kernel
theorem d5_day_155 : decode cX5_day 155 = .ok (.invokevirtual 187, 3) := by decide +kernel
theorem d5_day_158 : decode cX5_day 158 = .ok (.iload 5, 2) := by decide +kernel
theorem d5_day_160 : decode cX5_day 160 = .ok (.invokevirtual 190, 3) := by decide +kernel
theorem d5_day_163 : decode cX5_day 163 = .ok (.ireturn, 1) := by decide +kernel
noncomputable def f5_day_J79 {α : Type} (kc6 : Nat) (c3 : Int32) (c4 : Int32) (c5 : Int32) (c7 : Int32) (S : MS) (K : Int32 → MS → Option α) : Option α := if c7 = 0 then (f5_hasNoShip S fun r12 S11 => if r12 = 0 then (f5_areTankNumbers kc6 c3 c4 S11 fun r14 S13 => if r14 = 0 then (K (-2) S13) else (f5_firstWrong kc6 c3 c4 S13 fun r16 S15 => if c5 = 1 then (K r16 S15) else (if r16 = (-9) then (f5_watersBehind kc6 c3 c4 S15 fun r18 S17 => f5_ofWaters r18 c5 S17 fun r20 S19 => K r20 S19) else (K ((-100) - r16) S15)))) else (K (-3) S11)) else (f5_faulted c7 S fun r22 S21 => K r22 S21)
noncomputable def f5_day {α : Type} (p1 : Int32) (p2 : Int32) (p3 : Int32) (p4 : Int32) (p5 : Int32) (S : MS) (K : Int32 → MS → Option α) : Option α := nm (sI S 0 6 0) fun S1 => f5_isSheet p1 S1 fun r3 S2 => if r3 = 0 then (K (-1) S2) else (f5_isLane p2 S2 fun r5 S4 => if r5 = 0 then (K (-2) S4) else (if p4 < 0 then (K (-2) S4) else (if 30 < p4 then (K (-2) S4) else (f5_isAskedOfDay p5 S4 fun r7 S6 => if r7 = 0 then (K (-2) S6) else (ck p1 4 fun k8 => f1_faultAs k8 p2 S6 fun r10 S9 => if r10 = 0 then (f1_hasCells k8 p3 p4 S9 fun r24 S23 => if r24 = 0 then (f5_day_J79 k8 p3 p4 p5 3 S23 K) else (f5_day_J79 k8 p3 p4 p5 r10 S23 K)) else (f5_day_J79 k8 p3 p4 p5 r10 S9 K))))))
set_option maxHeartbeats 4000000 in
set_option maxRecDepth 100000 in
theorem j5_day_79 {α : Type} {X : GX α} (O : OK 30 X RX5 cX5_day 9 (some .int) (rmG 6 138)) {K : Int32 → MS → Option α} (hQ : RtI 30 eX X K) {kc6 : Nat} {c3 : Int32} {c4 : Int32} {c5 : Int32} {c7 : Int32} {S : MS} (hkc6 : kc6 < 4) : GM 30 eX X (f5_day_J79 kc6 c3 c4 c5 c7 S K) S 79 [(0, .ref (aX X 0)), (3, .int c3), (4, .int c4), (5, .int c5), (6, .ref (aX X (16 + kc6))), (7, .int c7)] [] := by
  unfold f5_day_J79
  refine r_iload O d5_day_79 5 rfl ?_
  refine r_if_eq O 91 d5_day_81 (by decide) ?_ ?_
  · refine r_aload_n O d5_day_91 0 rfl ?_
    refine r_callVi O (b := 0) (bv := fun ad => []) (rest := []) (c5_hasNoShip (lX X) S) (fun _ => rfl) (by decide) eX_0 rfl rfl w_375 w_377 w_2 w_45 w_378 hy_X5_hasNoShip ⟨rfl, rfl, Nat.le_of_ble_eq_true rfl, Nat.le_of_ble_eq_true rfl⟩ rfl rfl (Nat.le_of_ble_eq_true rfl) d5_day_92 (fun r12 S11 => ?_)
    refine r_if_eq O 101 d5_day_95 (by decide) ?_ ?_
    · refine r_aload O d5_day_101 4 rfl ?_
      refine r_iload_n O d5_day_103 1 rfl ?_
      refine r_iload O d5_day_104 2 rfl ?_
      refine r_callSi O (rest := []) (c5_areTankNumbers (lX X) kc6 c3 c4 hkc6 S11) w_469 w_470 w_45 w_471 hy_X5_areTankNumbers ⟨rfl, rfl, Nat.le_of_ble_eq_true rfl, Nat.le_of_ble_eq_true rfl⟩ rfl rfl (Nat.le_of_ble_eq_true rfl) d5_day_106 (fun r14 S13 => ?_)
      refine r_if_ne O 115 d5_day_109 (by decide) ?_ ?_
      · refine r_aload_n O d5_day_115 0 rfl ?_
        refine r_aload O d5_day_116 4 rfl ?_
        refine r_iload_n O d5_day_118 1 rfl ?_
        refine r_iload O d5_day_119 2 rfl ?_
        refine r_callVi O (b := 0) (bv := fun ad => [.ref (ad (16 + kc6)), .int c3, .int c4]) (rest := []) (c5_firstWrong (lX X) kc6 c3 c4 hkc6 S13) (fun _ => rfl) (by decide) eX_0 rfl rfl w_472 w_474 w_7 w_45 w_475 hy_X5_firstWrong ⟨rfl, rfl, Nat.le_of_ble_eq_true rfl, Nat.le_of_ble_eq_true rfl⟩ rfl rfl (Nat.le_of_ble_eq_true rfl) d5_day_121 (fun r16 S15 => ?_)
        refine r_istore O d5_day_124 [(8, .int r16), (0, .ref (aX X 0)), (3, .int c3), (4, .int c4), (5, .int c5), (6, .ref (aX X (16 + kc6))), (7, .int c7)] (by decide) rfl ?_
        refine r_iload O d5_day_126 4 rfl ?_
        refine r_iconst O d5_day_128 (v := 1) (by decide) ?_
        refine r_icmp_ne O 135 d5_day_129 (by decide) ?_ ?_
        · refine r_iload O d5_day_135 0 rfl ?_
          refine r_bipush O d5_day_137 (v := (-9)) (by decide) ?_
          refine r_icmp_eq O 148 d5_day_139 (by decide) ?_ ?_
          · refine r_aload_n O d5_day_148 1 rfl ?_
            refine r_aload_n O d5_day_149 1 rfl ?_
            refine r_aload O d5_day_150 5 rfl ?_
            refine r_iload_n O d5_day_152 2 rfl ?_
            refine r_iload O d5_day_153 3 rfl ?_
            refine r_callVi O (b := 0) (bv := fun ad => [.ref (ad (16 + kc6)), .int c3, .int c4]) (rest := [.ref (aX X 0)]) (c5_watersBehind (lX X) kc6 c3 c4 hkc6 S15) (fun _ => rfl) (by decide) eX_0 rfl rfl w_476 w_478 w_8 w_45 w_479 hy_X5_watersBehind ⟨rfl, rfl, Nat.le_of_ble_eq_true rfl, Nat.le_of_ble_eq_true rfl⟩ rfl rfl (Nat.le_of_ble_eq_true rfl) d5_day_155 (fun r18 S17 => ?_)
            refine r_iload O d5_day_158 4 rfl ?_
            refine r_callVi O (b := 0) (bv := fun ad => [.int r18, .int c5]) (rest := []) (c5_ofWaters (lX X) r18 c5 S17) (fun _ => rfl) (by decide) eX_0 rfl rfl w_480 w_482 w_9 w_45 w_483 hy_X5_ofWaters ⟨rfl, rfl, Nat.le_of_ble_eq_true rfl, Nat.le_of_ble_eq_true rfl⟩ rfl rfl (Nat.le_of_ble_eq_true rfl) d5_day_160 (fun r20 S19 => ?_)
            exact r_iret O hQ d5_day_163
          · refine r_bipush O d5_day_142 (v := (-100)) (by decide) ?_
            refine r_iload O d5_day_144 0 rfl ?_
            refine r_isub O d5_day_146 ?_
            exact r_iret O hQ d5_day_147
        · refine r_iload O d5_day_132 0 rfl ?_
          exact r_iret O hQ d5_day_134
      · refine r_bipush O d5_day_112 (v := (-2)) (by decide) ?_
        exact r_iret O hQ d5_day_114
    · refine r_bipush O d5_day_98 (v := (-3)) (by decide) ?_
      exact r_iret O hQ d5_day_100
  · refine r_aload_n O d5_day_84 0 rfl ?_
    refine r_iload O d5_day_85 5 rfl ?_
    refine r_callVi O (b := 0) (bv := fun ad => [.int c7]) (rest := []) (c5_faulted (lX X) c7 S) (fun _ => rfl) (by decide) eX_0 rfl rfl w_258 w_260 w_0 w_45 w_261 hy_X5_faulted ⟨rfl, rfl, Nat.le_of_ble_eq_true rfl, Nat.le_of_ble_eq_true rfl⟩ rfl rfl (Nat.le_of_ble_eq_true rfl) d5_day_87 (fun r22 S21 => ?_)
    exact r_iret O hQ d5_day_90
set_option maxHeartbeats 4000000 in
set_option maxRecDepth 100000 in
theorem c5_day (l : Launch) (p1 : Int32) (p2 : Int32) (p3 : Int32) (p4 : Int32) (p5 : Int32) (S : MS) {α : Type} : CtI 30 eX l yX5_day cX5_day 9 (some .int) (rmG 6 138) S (fun ad => [.ref (ad 0), .int p1, .int p2, .int p3, .int p4, .int p5]) (α := α) (f5_day p1 p2 p3 p4 p5 S) := by
  refine CtI.of (by decide) (fun _ => Nat.le_of_ble_eq_true rfl) (fun X K _ O hQ => ?_)
  have O : OK 30 X RX5 cX5_day 9 (some .int) (rmG 6 138) := O
  show GM 30 eX X (f5_day p1 p2 p3 p4 p5 S K) S 0 [(0, .ref (aX X 0)), (1, .int p1), (2, .int p2), (3, .int p3), (4, .int p4), (5, .int p5)] []
  unfold f5_day
  refine r_aload_n O d5_day_0 0 rfl ?_
  refine r_iconst O d5_day_1 (v := 0) (by decide) ?_
  refine p_X5_42 O d5_day_2 (fun S1 => ?_)
  refine r_iload_n O d5_day_5 1 rfl ?_
  refine r_callSi O (rest := []) (c5_isSheet (lX X) p1 S1) w_240 w_241 w_45 w_242 hy_X5_isSheet ⟨rfl, rfl, Nat.le_of_ble_eq_true rfl, Nat.le_of_ble_eq_true rfl⟩ rfl rfl (Nat.le_of_ble_eq_true rfl) d5_day_6 (fun r3 S2 => ?_)
  refine r_if_ne O 14 d5_day_9 (by decide) ?_ ?_
  · refine r_iload_n O d5_day_14 2 rfl ?_
    refine r_callSi O (rest := []) (c5_isLane (lX X) p2 S2) w_243 w_244 w_45 w_245 hy_X5_isLane ⟨rfl, rfl, Nat.le_of_ble_eq_true rfl, Nat.le_of_ble_eq_true rfl⟩ rfl rfl (Nat.le_of_ble_eq_true rfl) d5_day_15 (fun r5 S4 => ?_)
    refine r_if_eq O 41 d5_day_18 (by decide) ?_ ?_
    · refine r_bipush O d5_day_41 (v := (-2)) (by decide) ?_
      exact r_iret O hQ d5_day_43
    · refine r_iload O d5_day_21 4 rfl ?_
      refine r_if_lt O 41 d5_day_23 (by decide) ?_ ?_
      · refine r_bipush O d5_day_41 (v := (-2)) (by decide) ?_
        exact r_iret O hQ d5_day_43
      · refine r_iload O d5_day_26 4 rfl ?_
        refine r_bipush O d5_day_28 (v := 30) (by decide) ?_
        refine r_icmp_gt O 41 d5_day_30 (by decide) ?_ ?_
        · refine r_bipush O d5_day_41 (v := (-2)) (by decide) ?_
          exact r_iret O hQ d5_day_43
        · refine r_iload O d5_day_33 5 rfl ?_
          refine r_callSi O (rest := []) (c5_isAskedOfDay (lX X) p5 S4) w_466 w_467 w_45 w_468 hy_X5_isAskedOfDay ⟨rfl, rfl, Nat.le_of_ble_eq_true rfl, Nat.le_of_ble_eq_true rfl⟩ rfl rfl (Nat.le_of_ble_eq_true rfl) d5_day_35 (fun r7 S6 => ?_)
          refine r_if_ne O 44 d5_day_38 (by decide) ?_ ?_
          · refine r_aload_n O d5_day_44 0 rfl ?_
            refine g_X5_13 O d5_day_45 ?_
            refine r_iload_n O d5_day_48 1 rfl ?_
            refine r_aald O (b := 16) (by decide) eX_1 rfl d5_day_49 (fun k8 hk8 => ?_)
            refine r_astore O d5_day_50 [(6, .ref (aX X (16 + k8))), (0, .ref (aX X 0)), (1, .int p1), (2, .int p2), (3, .int p3), (4, .int p4), (5, .int p5)] (by decide) rfl ?_
            refine r_aload O d5_day_52 0 rfl ?_
            refine r_iload_n O d5_day_54 3 rfl ?_
            refine r_callVi O (b := (16 + k8)) (bv := fun ad => [.int p2]) (rest := []) (c1_faultAs (lX X) k8 p2 hk8 S6) (fun _ => rfl) (by omega) (eX_row hk8) rfl rfl w_246 w_247 w_248 w_50 w_249 hy_X1_faultAs ⟨rfl, rfl, Nat.le_of_ble_eq_true rfl, Nat.le_of_ble_eq_true rfl⟩ rfl rfl (Nat.le_of_ble_eq_true rfl) d5_day_55 (fun r10 S9 => ?_)
            refine r_istore O d5_day_58 [(7, .int r10), (6, .ref (aX X (16 + k8))), (0, .ref (aX X 0)), (1, .int p1), (2, .int p2), (3, .int p3), (4, .int p4), (5, .int p5)] (by decide) rfl ?_
            refine r_iload O d5_day_60 0 rfl ?_
            refine r_if_ne O 79 d5_day_62 (by decide) ?_ ?_
            · refine r_sub [2, 5, 6, 7, 1, 0] rfl ?_
              exact j5_day_79 O hQ hk8
            · refine r_aload O d5_day_65 1 rfl ?_
              refine r_iload_n O d5_day_67 5 rfl ?_
              refine r_iload O d5_day_68 6 rfl ?_
              refine r_callVi O (b := (16 + k8)) (bv := fun ad => [.int p3, .int p4]) (rest := []) (c1_hasCells (lX X) k8 p3 p4 hk8 S9) (fun _ => rfl) (by omega) (eX_row hk8) rfl rfl w_254 w_255 w_256 w_50 w_257 hy_X1_hasCells ⟨rfl, rfl, Nat.le_of_ble_eq_true rfl, Nat.le_of_ble_eq_true rfl⟩ rfl rfl (Nat.le_of_ble_eq_true rfl) d5_day_70 (fun r24 S23 => ?_)
              refine r_if_ne O 79 d5_day_73 (by decide) ?_ ?_
              · refine r_sub [2, 5, 6, 7, 1, 0] rfl ?_
                exact j5_day_79 O hQ hk8
              · refine r_iconst O d5_day_76 (v := 3) (by decide) ?_
                refine r_istore O d5_day_77 [(7, .int 3), (6, .ref (aX X (16 + k8))), (0, .ref (aX X 0)), (1, .int p1), (2, .int p2), (3, .int p3), (4, .int p4), (5, .int p5)] (by decide) rfl ?_
                refine r_sub [2, 5, 6, 7, 1, 0] rfl ?_
                exact j5_day_79 O hQ hk8
          · refine r_bipush O d5_day_41 (v := (-2)) (by decide) ?_
            exact r_iret O hQ d5_day_43
  · refine r_iconst O d5_day_12 (v := (-1)) (by decide) ?_
    exact r_iret O hQ d5_day_13
-- X5.states
theorem d5_states_0 : decode cX5_states 0 = .ok (.aload_n 0, 1) := by decide +kernel
theorem d5_states_1 : decode cX5_states 1 = .ok (.invokevirtual 126, 3) := by decide +kernel
theorem d5_states_4 : decode cX5_states 4 = .ok (.ifCond .eq 6, 3) := by decide +kernel
theorem d5_states_7 : decode cX5_states 7 = .ok (.bipush (-3), 2) := by decide +kernel
theorem d5_states_9 : decode cX5_states 9 = .ok (.ireturn, 1) := by decide +kernel
theorem d5_states_10 : decode cX5_states 10 = .ok (.aload_n 0, 1) := by decide +kernel
theorem d5_states_11 : decode cX5_states 11 = .ok (.getfield 27, 3) := by decide +kernel
theorem d5_states_14 : decode cX5_states 14 = .ok (.aload_n 0, 1) := by decide +kernel
theorem d5_states_15 : decode cX5_states 15 = .ok (.getfield 20, 3) := by decide +kernel
theorem d5_states_18 : decode cX5_states 18 = .ok (.invokevirtual 161, 3) := by decide +kernel
theorem d5_states_21 : decode cX5_states 21 = .ok (.aload_n 0, 1) := by decide +kernel
theorem d5_states_22 : decode cX5_states 22 = .ok (.getfield 27, 3) := by decide +kernel
theorem d5_states_25 : decode cX5_states 25 = .ok (.getfield 193, 3) := by decide +kernel
theorem d5_states_28 : decode cX5_states 28 = .ok (.ireturn, 1) := by decide +kernel
noncomputable def f5_states {α : Type} (S : MS) (K : Int32 → MS → Option α) : Option α := f5_hasNoShip S fun r2 S1 => if r2 = 0 then (f2_refresh S1 fun S3 => K (S3.1 3 8) S3) else (K (-3) S1)
set_option maxHeartbeats 4000000 in
set_option maxRecDepth 100000 in
theorem c5_states (l : Launch) (S : MS) {α : Type} : CtI 30 eX l yX5_states cX5_states 1 (some .int) (rmG 6 134) S (fun ad => [.ref (ad 0)]) (α := α) (f5_states S) := by
  refine CtI.of (by decide) (fun _ => Nat.le_of_ble_eq_true rfl) (fun X K _ O hQ => ?_)
  have O : OK 30 X RX5 cX5_states 1 (some .int) (rmG 6 134) := O
  show GM 30 eX X (f5_states S K) S 0 [(0, .ref (aX X 0))] []
  unfold f5_states
  refine r_aload_n O d5_states_0 0 rfl ?_
  refine r_callVi O (b := 0) (bv := fun ad => []) (rest := []) (c5_hasNoShip (lX X) S) (fun _ => rfl) (by decide) eX_0 rfl rfl w_375 w_377 w_2 w_45 w_378 hy_X5_hasNoShip ⟨rfl, rfl, Nat.le_of_ble_eq_true rfl, Nat.le_of_ble_eq_true rfl⟩ rfl rfl (Nat.le_of_ble_eq_true rfl) d5_states_1 (fun r2 S1 => ?_)
  refine r_if_eq O 10 d5_states_4 (by decide) ?_ ?_
  · refine r_aload_n O d5_states_10 0 rfl ?_
    refine g_X5_27 O d5_states_11 ?_
    refine r_aload_n O d5_states_14 0 rfl ?_
    refine g_X5_20 O d5_states_15 ?_
    refine r_callVv O (b := 3) (bv := fun ad => [.ref (ad 2)]) (rest := []) (c2_refresh (lX X) S1) (fun _ => rfl) (by decide) eX_3 rfl rfl w_414 w_415 w_416 w_49 w_417 hy_X2_refresh ⟨rfl, rfl, Nat.le_of_ble_eq_true rfl, Nat.le_of_ble_eq_true rfl⟩ rfl rfl (Nat.le_of_ble_eq_true rfl) d5_states_18 (fun S3 => ?_)
    refine r_aload_n O d5_states_21 0 rfl ?_
    refine g_X5_27 O d5_states_22 ?_
    refine g_X5_193 O d5_states_25 ?_
    exact r_iret O hQ d5_states_28
  · refine r_bipush O d5_states_7 (v := (-3)) (by decide) ?_
    exact r_iret O hQ d5_states_9
-- X0.bounded
theorem d0_bounded_0 : decode cX0_bounded 0 = .ok (.iload_n 1, 1) := by decide +kernel
theorem d0_bounded_1 : decode cX0_bounded 1 = .ok (.ifCond .ne 11, 3) := by decide +kernel
theorem d0_bounded_4 : decode cX0_bounded 4 = .ok (.aload_n 0, 1) := by decide +kernel
theorem d0_bounded_5 : decode cX0_bounded 5 = .ok (.getfield 19, 3) := by decide +kernel
theorem d0_bounded_8 : decode cX0_bounded 8 = .ok (.invokestatic 39, 3) := by decide +kernel
theorem d0_bounded_11 : decode cX0_bounded 11 = .ok (.ireturn, 1) := by decide +kernel
theorem d0_bounded_12 : decode cX0_bounded 12 = .ok (.iload_n 1, 1) := by decide +kernel
theorem d0_bounded_13 : decode cX0_bounded 13 = .ok (.iconst 1, 1) := by decide +kernel
theorem d0_bounded_14 : decode cX0_bounded 14 = .ok (.if_icmp .ne 11, 3) := by decide +kernel
theorem d0_bounded_17 : decode cX0_bounded 17 = .ok (.aload_n 0, 1) := by decide +kernel
theorem d0_bounded_18 : decode cX0_bounded 18 = .ok (.getfield 22, 3) := by decide +kernel
theorem d0_bounded_21 : decode cX0_bounded 21 = .ok (.invokestatic 39, 3) := by decide +kernel
theorem d0_bounded_24 : decode cX0_bounded 24 = .ok (.ireturn, 1) := by decide +kernel
theorem d0_bounded_25 : decode cX0_bounded 25 = .ok (.aload_n 0, 1) := by decide +kernel
theorem d0_bounded_26 : decode cX0_bounded 26 = .ok (.invokevirtual 49, 3) := by decide +kernel
theorem d0_bounded_29 : decode cX0_bounded 29 = .ok (.ireturn, 1) := by decide +kernel
noncomputable def f0_bounded {α : Type} (p1 : Int32) (S : MS) (K : Int32 → MS → Option α) : Option α := if p1 = 0 then (K (if 0 ≤ (S.1 5 2) then (S.1 5 2) else 0 - (S.1 5 2)) S) else (if p1 = 1 then (K (if 0 ≤ (S.1 5 3) then (S.1 5 3) else 0 - (S.1 5 3)) S) else (f0_bending S fun r2 S1 => K r2 S1))
set_option maxHeartbeats 4000000 in
set_option maxRecDepth 100000 in
theorem c0_bounded (l : Launch) (p1 : Int32) (S : MS) {α : Type} : CtI 30 eX l yX0_bounded cX0_bounded 2 (some .int) (rmG 2 38) S (fun ad => [.ref (ad 5), .int p1]) (α := α) (f0_bounded p1 S) := by
  refine CtI.of (by decide) (fun _ => Nat.le_of_ble_eq_true rfl) (fun X K _ O hQ => ?_)
  have O : OK 30 X RX0 cX0_bounded 2 (some .int) (rmG 2 38) := O
  show GM 30 eX X (f0_bounded p1 S K) S 0 [(0, .ref (aX X 5)), (1, .int p1)] []
  unfold f0_bounded
  refine r_iload_n O d0_bounded_0 1 rfl ?_
  refine r_if_ne O 12 d0_bounded_1 (by decide) ?_ ?_
  · refine r_iload_n O d0_bounded_12 1 rfl ?_
    refine r_iconst O d0_bounded_13 (v := 1) (by decide) ?_
    refine r_icmp_ne O 25 d0_bounded_14 (by decide) ?_ ?_
    · refine r_aload_n O d0_bounded_25 0 rfl ?_
      refine r_callVi O (b := 5) (bv := fun ad => []) (rest := []) (c0_bending (lX X) S) (fun _ => rfl) (by decide) eX_5 rfl rfl w_352 w_353 w_354 w_47 w_355 hy_X0_bending ⟨rfl, rfl, Nat.le_of_ble_eq_true rfl, Nat.le_of_ble_eq_true rfl⟩ rfl rfl (Nat.le_of_ble_eq_true rfl) d0_bounded_26 (fun r2 S1 => ?_)
      exact r_iret O hQ d0_bounded_29
    · refine r_aload_n O d0_bounded_17 0 rfl ?_
      refine g_X0_22 O d0_bounded_18 ?_
      refine r_mabs O w_349 w_350 w_52 w_351 (Nat.le_of_ble_eq_true rfl) (Nat.le_of_ble_eq_true rfl) d0_bounded_21 ?_
      exact r_iret O hQ d0_bounded_24
  · refine r_aload_n O d0_bounded_4 0 rfl ?_
    refine g_X0_19 O d0_bounded_5 ?_
    refine r_mabs O w_349 w_350 w_52 w_351 (Nat.le_of_ble_eq_true rfl) (Nat.le_of_ble_eq_true rfl) d0_bounded_8 ?_
    exact r_iret O hQ d0_bounded_11
-- X2.worstOfPlan
theorem d2_worstOfPlan_0 : decode cX2_worstOfPlan 0 = .ok (.aload_n 0, 1) := by decide +kernel
theorem d2_worstOfPlan_1 : decode cX2_worstOfPlan 1 = .ok (.getfield 43, 3) := by decide +kernel
theorem d2_worstOfPlan_4 : decode cX2_worstOfPlan 4 = .ok (.bipush (-9), 2) := by decide +kernel
theorem d2_worstOfPlan_6 : decode cX2_worstOfPlan 6 = .ok (.if_icmp .ne 6, 3) := by decide +kernel
theorem d2_worstOfPlan_9 : decode cX2_worstOfPlan 9 = .ok (.bipush (-9), 2) := by decide +kernel
theorem d2_worstOfPlan_11 : decode cX2_worstOfPlan 11 = .ok (.ireturn, 1) := by decide +kernel
theorem d2_worstOfPlan_12 : decode cX2_worstOfPlan 12 = .ok (.aload_n 0, 1) := by decide +kernel
theorem d2_worstOfPlan_13 : decode cX2_worstOfPlan 13 = .ok (.getfield 43, 3) := by decide +kernel
theorem d2_worstOfPlan_16 : decode cX2_worstOfPlan 16 = .ok (.istore_n 3, 1) := by decide +kernel
theorem d2_worstOfPlan_17 : decode cX2_worstOfPlan 17 = .ok (.aload_n 1, 1) := by decide +kernel
theorem d2_worstOfPlan_18 : decode cX2_worstOfPlan 18 = .ok (.aload_n 1, 1) := by decide +kernel
theorem d2_worstOfPlan_19 : decode cX2_worstOfPlan 19 = .ok (.iload_n 3, 1) := by decide +kernel
theorem d2_worstOfPlan_20 : decode cX2_worstOfPlan 20 = .ok (.invokevirtual 85, 3) := by decide +kernel
theorem d2_worstOfPlan_23 : decode cX2_worstOfPlan 23 = .ok (.invokevirtual 104, 3) := by decide +kernel
theorem d2_worstOfPlan_26 : decode cX2_worstOfPlan 26 = .ok (.iload_n 2, 1) := by decide +kernel
theorem d2_worstOfPlan_27 : decode cX2_worstOfPlan 27 = .ok (.invokevirtual 108, 3) := by decide +kernel
theorem d2_worstOfPlan_30 : decode cX2_worstOfPlan 30 = .ok (.istore 4, 2) := by decide +kernel
theorem d2_worstOfPlan_32 : decode cX2_worstOfPlan 32 = .ok (.aload_n 0, 1) := by decide +kernel
theorem d2_worstOfPlan_33 : decode cX2_worstOfPlan 33 = .ok (.getfield 15, 3) := by decide +kernel
theorem d2_worstOfPlan_36 : decode cX2_worstOfPlan 36 = .ok (.aload_n 0, 1) := by decide +kernel
theorem d2_worstOfPlan_37 : decode cX2_worstOfPlan 37 = .ok (.getfield 43, 3) := by decide +kernel
theorem d2_worstOfPlan_40 : decode cX2_worstOfPlan 40 = .ok (.iaload, 1) := by decide +kernel
theorem d2_worstOfPlan_41 : decode cX2_worstOfPlan 41 = .ok (.istore 5, 2) := by decide +kernel
theorem d2_worstOfPlan_43 : decode cX2_worstOfPlan 43 = .ok (.iload 5, 2) := by decide +kernel
theorem d2_worstOfPlan_45 : decode cX2_worstOfPlan 45 = .ok (.ifCond .le 36, 3) := by decide +kernel
theorem d2_worstOfPlan_48 : decode cX2_worstOfPlan 48 = .ok (.aload_n 0, 1) := by decide +kernel
theorem d2_worstOfPlan_49 : decode cX2_worstOfPlan 49 = .ok (.getfield 18, 3) := by decide +kernel
theorem d2_worstOfPlan_52 : decode cX2_worstOfPlan 52 = .ok (.iload_n 3, 1) := by decide +kernel
theorem d2_worstOfPlan_53 : decode cX2_worstOfPlan 53 = .ok (.iaload, 1) := by decide +kernel
theorem d2_worstOfPlan_54 : decode cX2_worstOfPlan 54 = .ok (.istore_n 3, 1) := by decide +kernel
theorem d2_worstOfPlan_55 : decode cX2_worstOfPlan 55 = .ok (.iload 4, 2) := by decide +kernel
theorem d2_worstOfPlan_57 : decode cX2_worstOfPlan 57 = .ok (.aload_n 1, 1) := by decide +kernel
theorem d2_worstOfPlan_58 : decode cX2_worstOfPlan 58 = .ok (.aload_n 1, 1) := by decide +kernel
theorem d2_worstOfPlan_59 : decode cX2_worstOfPlan 59 = .ok (.iload_n 3, 1) := by decide +kernel
theorem d2_worstOfPlan_60 : decode cX2_worstOfPlan 60 = .ok (.invokevirtual 85, 3) := by decide +kernel
theorem d2_worstOfPlan_63 : decode cX2_worstOfPlan 63 = .ok (.invokevirtual 104, 3) := by decide +kernel
theorem d2_worstOfPlan_66 : decode cX2_worstOfPlan 66 = .ok (.iload_n 2, 1) := by decide +kernel
theorem d2_worstOfPlan_67 : decode cX2_worstOfPlan 67 = .ok (.invokevirtual 108, 3) := by decide +kernel
theorem d2_worstOfPlan_70 : decode cX2_worstOfPlan 70 = .ok (.invokestatic 113, 3) := by decide +kernel
theorem d2_worstOfPlan_73 : decode cX2_worstOfPlan 73 = .ok (.istore 4, 2) := by decide +kernel
theorem d2_worstOfPlan_75 : decode cX2_worstOfPlan 75 = .ok (.iinc 5 (-1), 3) := by decide +kernel
theorem d2_worstOfPlan_78 : decode cX2_worstOfPlan 78 = .ok (.goto (-35), 3) := by decide +kernel
theorem d2_worstOfPlan_81 : decode cX2_worstOfPlan 81 = .ok (.iload 4, 2) := by decide +kernel
theorem d2_worstOfPlan_83 : decode cX2_worstOfPlan 83 = .ok (.ireturn, 1) := by decide +kernel
noncomputable def f2_worstOfPlan_L43 {α : Type} (c2 : Int32) (KX : Int32 → Int32 → Int32 → MS → Option α) : Nat → Int32 → Int32 → Int32 → MS → Option α
  | 0, _, _, _, _ => none
  | n + 1, v3, v4, v5, S => if v5 ≤ 0 then (KX v3 v4 v5 S) else (ck v3 729 fun k10 => nm (S.1 11 k10) fun x3_11 => f3_fullSet x3_11 S fun r13 S12 => f3_loadOf r13 S12 fun S14 => f0_bounded c2 S14 fun r17 S16 => nm (if v4 < r17 then r17 else v4) fun x4_18 => nm (v5 + (-1)) fun x5_19 => f2_worstOfPlan_L43 c2 KX n x3_11 x4_18 x5_19 S16)
noncomputable def f2_worstOfPlan {α : Type} (p2 : Int32) (S : MS) (K : Int32 → MS → Option α) : Option α := if (S.1 3 9) = (-9) then (K (-9) S) else (nm (S.1 3 9) fun x3_1 => f3_fullSet x3_1 S fun r3 S2 => f3_loadOf r3 S2 fun S4 => f0_bounded p2 S4 fun r7 S6 => ck (S6.1 3 9) 729 fun k8 => nm (S6.1 10 k8) fun x5_9 => f2_worstOfPlan_L43 p2 (fun v3_21 v4_22 v5_23 S20 => K v4_22 S20) FU x3_1 r7 x5_9 S6)
set_option maxHeartbeats 4000000 in
set_option maxRecDepth 100000 in
theorem l2_worstOfPlan_43 {α : Type} {X : GX α} (O : OK 30 X RX2 cX2_worstOfPlan 6 (some .int) (rmG 3 65)) {c2 : Int32} {KX : Int32 → Int32 → Int32 → MS → Option α} (hX : ∀ v3 v4 v5 S, GM 30 eX X (KX v3 v4 v5 S) S 81 [(0, .ref (aX X 3)), (1, .ref (aX X 2)), (2, .int c2), (3, .int v3), (4, .int v4), (5, .int v5)] []) : ∀ n v3 v4 v5 S, GM 30 eX X (f2_worstOfPlan_L43 c2 KX n v3 v4 v5 S) S 43 [(0, .ref (aX X 3)), (1, .ref (aX X 2)), (2, .int c2), (3, .int v3), (4, .int v4), (5, .int v5)] [] := by
  intro n
  induction n with
  | zero => intro v3 v4 v5 S; exact r_none
  | succ n ih =>
    intro v3 v4 v5 S
    rw [f2_worstOfPlan_L43]
    refine r_iload O d2_worstOfPlan_43 5 rfl ?_
    refine r_if_le O 81 d2_worstOfPlan_45 (by decide) ?_ ?_
    · refine r_sub [0, 1, 2, 3, 4, 5] rfl ?_
      exact hX _ _ _ _
    · refine r_aload_n O d2_worstOfPlan_48 0 rfl ?_
      refine g_X2_18 O d2_worstOfPlan_49 ?_
      refine r_iload_n O d2_worstOfPlan_52 3 rfl ?_
      refine r_iald O (j := 11) (by decide) eX_11 d2_worstOfPlan_53 (fun k10 hk10 => ?_)
      refine r_istore_n_nm O d2_worstOfPlan_54 (fun x3_11 => [(3, .int x3_11), (0, .ref (aX X 3)), (1, .ref (aX X 2)), (2, .int c2), (4, .int v4), (5, .int v5)]) (by decide) (fun _ => rfl) (fun x3_11 => ?_)
      refine r_iload O d2_worstOfPlan_55 4 rfl ?_
      refine r_aload_n O d2_worstOfPlan_57 2 rfl ?_
      refine r_aload_n O d2_worstOfPlan_58 2 rfl ?_
      refine r_iload_n O d2_worstOfPlan_59 0 rfl ?_
      refine r_callVi O (b := 2) (bv := fun ad => [.int x3_11]) (rest := [.ref (aX X 2), .int v4]) (c3_fullSet (lX X) x3_11 S) (fun _ => rfl) (by decide) eX_2 rfl rfl w_430 w_286 w_287 w_46 w_288 hy_X3_fullSet ⟨rfl, rfl, Nat.le_of_ble_eq_true rfl, Nat.le_of_ble_eq_true rfl⟩ rfl rfl (Nat.le_of_ble_eq_true rfl) d2_worstOfPlan_60 (fun r13 S12 => ?_)
      refine r_callVr O (b := 2) (bv := fun ad => [.int r13]) (rest := [.int v4]) (c3_loadOf (lX X) r13 S12) (fun _ => rfl) (by decide) eX_2 rfl rfl w_506 w_364 w_365 w_46 w_366 hy_X3_loadOf ⟨rfl, rfl, Nat.le_of_ble_eq_true rfl, Nat.le_of_ble_eq_true rfl⟩ rfl rfl (Nat.le_of_ble_eq_true rfl) d2_worstOfPlan_63 (fun S14 => ?_)
      refine r_iload_n O d2_worstOfPlan_66 3 rfl ?_
      refine r_callVi O (b := 5) (bv := fun ad => [.int c2]) (rest := [.int v4]) (c0_bounded (lX X) c2 S14) (fun _ => rfl) (by decide) eX_5 rfl rfl w_507 w_508 w_509 w_47 w_510 hy_X0_bounded ⟨rfl, rfl, Nat.le_of_ble_eq_true rfl, Nat.le_of_ble_eq_true rfl⟩ rfl rfl (Nat.le_of_ble_eq_true rfl) d2_worstOfPlan_67 (fun r17 S16 => ?_)
      refine r_mmax O w_511 w_357 w_52 w_358 (Nat.le_of_ble_eq_true rfl) (Nat.le_of_ble_eq_true rfl) d2_worstOfPlan_70 ?_
      refine r_istore_nm O d2_worstOfPlan_73 (fun x4_18 => [(4, .int x4_18), (3, .int x3_11), (0, .ref (aX X 3)), (1, .ref (aX X 2)), (2, .int c2), (5, .int v5)]) (by decide) (fun _ => rfl) (fun x4_18 => ?_)
      refine r_iinc O d2_worstOfPlan_75 5 (c0 := (-1)) rfl (by decide) (fun x5_19 => [(5, .int x5_19), (4, .int x4_18), (3, .int x3_11), (0, .ref (aX X 3)), (1, .ref (aX X 2)), (2, .int c2)]) (by decide) (fun _ => rfl) (fun x5_19 => ?_)
      refine r_goto O 43 d2_worstOfPlan_78 (by decide) ?_
      refine r_sub [3, 4, 5, 2, 1, 0] rfl ?_
      exact ih _ _ _ _
set_option maxHeartbeats 4000000 in
set_option maxRecDepth 100000 in
theorem c2_worstOfPlan (l : Launch) (p2 : Int32) (S : MS) {α : Type} : CtI 30 eX l yX2_worstOfPlan cX2_worstOfPlan 6 (some .int) (rmG 3 65) S (fun ad => [.ref (ad 3), .ref (ad 2), .int p2]) (α := α) (f2_worstOfPlan p2 S) := by
  refine CtI.of (by decide) (fun _ => Nat.le_of_ble_eq_true rfl) (fun X K _ O hQ => ?_)
  have O : OK 30 X RX2 cX2_worstOfPlan 6 (some .int) (rmG 3 65) := O
  show GM 30 eX X (f2_worstOfPlan p2 S K) S 0 [(0, .ref (aX X 3)), (1, .ref (aX X 2)), (2, .int p2)] []
  unfold f2_worstOfPlan
  refine r_aload_n O d2_worstOfPlan_0 0 rfl ?_
  refine g_X2_43 O d2_worstOfPlan_1 ?_
  refine r_bipush O d2_worstOfPlan_4 (v := (-9)) (by decide) ?_
  refine r_icmp_ne O 12 d2_worstOfPlan_6 (by decide) ?_ ?_
  · refine r_aload_n O d2_worstOfPlan_12 0 rfl ?_
    refine g_X2_43 O d2_worstOfPlan_13 ?_
    refine r_istore_n_nm O d2_worstOfPlan_16 (fun x3_1 => [(3, .int x3_1), (0, .ref (aX X 3)), (1, .ref (aX X 2)), (2, .int p2)]) (by decide) (fun _ => rfl) (fun x3_1 => ?_)
    refine r_aload_n O d2_worstOfPlan_17 2 rfl ?_
    refine r_aload_n O d2_worstOfPlan_18 2 rfl ?_
    refine r_iload_n O d2_worstOfPlan_19 0 rfl ?_
    refine r_callVi O (b := 2) (bv := fun ad => [.int x3_1]) (rest := [.ref (aX X 2)]) (c3_fullSet (lX X) x3_1 S) (fun _ => rfl) (by decide) eX_2 rfl rfl w_430 w_286 w_287 w_46 w_288 hy_X3_fullSet ⟨rfl, rfl, Nat.le_of_ble_eq_true rfl, Nat.le_of_ble_eq_true rfl⟩ rfl rfl (Nat.le_of_ble_eq_true rfl) d2_worstOfPlan_20 (fun r3 S2 => ?_)
    refine r_callVr O (b := 2) (bv := fun ad => [.int r3]) (rest := []) (c3_loadOf (lX X) r3 S2) (fun _ => rfl) (by decide) eX_2 rfl rfl w_506 w_364 w_365 w_46 w_366 hy_X3_loadOf ⟨rfl, rfl, Nat.le_of_ble_eq_true rfl, Nat.le_of_ble_eq_true rfl⟩ rfl rfl (Nat.le_of_ble_eq_true rfl) d2_worstOfPlan_23 (fun S4 => ?_)
    refine r_iload_n O d2_worstOfPlan_26 3 rfl ?_
    refine r_callVi O (b := 5) (bv := fun ad => [.int p2]) (rest := []) (c0_bounded (lX X) p2 S4) (fun _ => rfl) (by decide) eX_5 rfl rfl w_507 w_508 w_509 w_47 w_510 hy_X0_bounded ⟨rfl, rfl, Nat.le_of_ble_eq_true rfl, Nat.le_of_ble_eq_true rfl⟩ rfl rfl (Nat.le_of_ble_eq_true rfl) d2_worstOfPlan_27 (fun r7 S6 => ?_)
    refine r_istore O d2_worstOfPlan_30 [(4, .int r7), (3, .int x3_1), (0, .ref (aX X 3)), (1, .ref (aX X 2)), (2, .int p2)] (by decide) rfl ?_
    refine r_aload_n O d2_worstOfPlan_32 2 rfl ?_
    refine g_X2_15 O d2_worstOfPlan_33 ?_
    refine r_aload_n O d2_worstOfPlan_36 2 rfl ?_
    refine g_X2_43 O d2_worstOfPlan_37 ?_
    refine r_iald O (j := 10) (by decide) eX_10 d2_worstOfPlan_40 (fun k8 hk8 => ?_)
    refine r_istore_nm O d2_worstOfPlan_41 (fun x5_9 => [(5, .int x5_9), (4, .int r7), (3, .int x3_1), (0, .ref (aX X 3)), (1, .ref (aX X 2)), (2, .int p2)]) (by decide) (fun _ => rfl) (fun x5_9 => ?_)
    refine r_sub [3, 4, 5, 2, 1, 0] rfl ?_
    refine l2_worstOfPlan_43 O (fun v3_21 v4_22 v5_23 S20 => ?_) _ _ _ _ _
    refine r_iload O d2_worstOfPlan_81 4 rfl ?_
    exact r_iret O hQ d2_worstOfPlan_83
  · refine r_bipush O d2_worstOfPlan_9 (v := (-9)) (by decide) ?_
    exact r_iret O hQ d2_worstOfPlan_11
-- X5.worst
theorem d5_worst_0 : decode cX5_worst 0 = .ok (.iload_n 1, 1) := by decide +kernel
theorem d5_worst_1 : decode cX5_worst 1 = .ok (.ifCond .lt 8, 3) := by decide +kernel
theorem d5_worst_4 : decode cX5_worst 4 = .ok (.iload_n 1, 1) := by decide +kernel
theorem d5_worst_5 : decode cX5_worst 5 = .ok (.iconst 3, 1) := by decide +kernel
theorem d5_worst_6 : decode cX5_worst 6 = .ok (.if_icmp .lt 6, 3) := by decide +kernel
theorem d5_worst_9 : decode cX5_worst 9 = .ok (.bipush (-2), 2) := by decide +kernel
theorem d5_worst_11 : decode cX5_worst 11 = .ok (.ireturn, 1) := by decide +kernel
theorem d5_worst_12 : decode cX5_worst 12 = .ok (.aload_n 0, 1) := by decide +kernel
theorem d5_worst_13 : decode cX5_worst 13 = .ok (.invokevirtual 126, 3) := by decide +kernel
theorem d5_worst_16 : decode cX5_worst 16 = .ok (.ifCond .eq 6, 3) := by decide +kernel
theorem d5_worst_19 : decode cX5_worst 19 = .ok (.bipush (-3), 2) := by decide +kernel
theorem d5_worst_21 : decode cX5_worst 21 = .ok (.ireturn, 1) := by decide +kernel
theorem d5_worst_22 : decode cX5_worst 22 = .ok (.aload_n 0, 1) := by decide +kernel
theorem d5_worst_23 : decode cX5_worst 23 = .ok (.getfield 27, 3) := by decide +kernel
theorem d5_worst_26 : decode cX5_worst 26 = .ok (.aload_n 0, 1) := by decide +kernel
theorem d5_worst_27 : decode cX5_worst 27 = .ok (.getfield 20, 3) := by decide +kernel
theorem d5_worst_30 : decode cX5_worst 30 = .ok (.invokevirtual 161, 3) := by decide +kernel
theorem d5_worst_33 : decode cX5_worst 33 = .ok (.aload_n 0, 1) := by decide +kernel
theorem d5_worst_34 : decode cX5_worst 34 = .ok (.getfield 27, 3) := by decide +kernel
theorem d5_worst_37 : decode cX5_worst 37 = .ok (.aload_n 0, 1) := by decide +kernel
theorem d5_worst_38 : decode cX5_worst 38 = .ok (.getfield 20, 3) := by decide +kernel
theorem d5_worst_41 : decode cX5_worst 41 = .ok (.iload_n 1, 1) := by decide +kernel
theorem d5_worst_42 : decode cX5_worst 42 = .ok (.invokevirtual 196, 3) := by decide +kernel
theorem d5_worst_45 : decode cX5_worst 45 = .ok (.ireturn, 1) := by decide +kernel
noncomputable def f5_worst {α : Type} (p1 : Int32) (S : MS) (K : Int32 → MS → Option α) : Option α := if p1 < 0 then (K (-2) S) else (if p1 < 3 then (f5_hasNoShip S fun r2 S1 => if r2 = 0 then (f2_refresh S1 fun S3 => f2_worstOfPlan p1 S3 fun r6 S5 => K r6 S5) else (K (-3) S1)) else (K (-2) S))
set_option maxHeartbeats 4000000 in
set_option maxRecDepth 100000 in
theorem c5_worst (l : Launch) (p1 : Int32) (S : MS) {α : Type} : CtI 30 eX l yX5_worst cX5_worst 2 (some .int) (rmG 6 134) S (fun ad => [.ref (ad 0), .int p1]) (α := α) (f5_worst p1 S) := by
  refine CtI.of (by decide) (fun _ => Nat.le_of_ble_eq_true rfl) (fun X K _ O hQ => ?_)
  have O : OK 30 X RX5 cX5_worst 2 (some .int) (rmG 6 134) := O
  show GM 30 eX X (f5_worst p1 S K) S 0 [(0, .ref (aX X 0)), (1, .int p1)] []
  unfold f5_worst
  refine r_iload_n O d5_worst_0 1 rfl ?_
  refine r_if_lt O 9 d5_worst_1 (by decide) ?_ ?_
  · refine r_bipush O d5_worst_9 (v := (-2)) (by decide) ?_
    exact r_iret O hQ d5_worst_11
  · refine r_iload_n O d5_worst_4 1 rfl ?_
    refine r_iconst O d5_worst_5 (v := 3) (by decide) ?_
    refine r_icmp_lt O 12 d5_worst_6 (by decide) ?_ ?_
    · refine r_aload_n O d5_worst_12 0 rfl ?_
      refine r_callVi O (b := 0) (bv := fun ad => []) (rest := []) (c5_hasNoShip (lX X) S) (fun _ => rfl) (by decide) eX_0 rfl rfl w_375 w_377 w_2 w_45 w_378 hy_X5_hasNoShip ⟨rfl, rfl, Nat.le_of_ble_eq_true rfl, Nat.le_of_ble_eq_true rfl⟩ rfl rfl (Nat.le_of_ble_eq_true rfl) d5_worst_13 (fun r2 S1 => ?_)
      refine r_if_eq O 22 d5_worst_16 (by decide) ?_ ?_
      · refine r_aload_n O d5_worst_22 0 rfl ?_
        refine g_X5_27 O d5_worst_23 ?_
        refine r_aload_n O d5_worst_26 0 rfl ?_
        refine g_X5_20 O d5_worst_27 ?_
        refine r_callVv O (b := 3) (bv := fun ad => [.ref (ad 2)]) (rest := []) (c2_refresh (lX X) S1) (fun _ => rfl) (by decide) eX_3 rfl rfl w_414 w_415 w_416 w_49 w_417 hy_X2_refresh ⟨rfl, rfl, Nat.le_of_ble_eq_true rfl, Nat.le_of_ble_eq_true rfl⟩ rfl rfl (Nat.le_of_ble_eq_true rfl) d5_worst_30 (fun S3 => ?_)
        refine r_aload_n O d5_worst_33 0 rfl ?_
        refine g_X5_27 O d5_worst_34 ?_
        refine r_aload_n O d5_worst_37 0 rfl ?_
        refine g_X5_20 O d5_worst_38 ?_
        refine r_iload_n O d5_worst_41 1 rfl ?_
        refine r_callVi O (b := 3) (bv := fun ad => [.ref (ad 2), .int p1]) (rest := []) (c2_worstOfPlan (lX X) p1 S3) (fun _ => rfl) (by decide) eX_3 rfl rfl w_502 w_503 w_504 w_49 w_505 hy_X2_worstOfPlan ⟨rfl, rfl, Nat.le_of_ble_eq_true rfl, Nat.le_of_ble_eq_true rfl⟩ rfl rfl (Nat.le_of_ble_eq_true rfl) d5_worst_42 (fun r6 S5 => ?_)
        exact r_iret O hQ d5_worst_45
      · refine r_bipush O d5_worst_19 (v := (-3)) (by decide) ?_
        exact r_iret O hQ d5_worst_21
    · refine r_bipush O d5_worst_9 (v := (-2)) (by decide) ?_
      exact r_iret O hQ d5_worst_11
-- X5.reading
theorem d5_reading_0 : decode cX5_reading 0 = .ok (.aload_n 0, 1) := by decide +kernel
theorem d5_reading_1 : decode cX5_reading 1 = .ok (.invokevirtual 126, 3) := by decide +kernel
theorem d5_reading_4 : decode cX5_reading 4 = .ok (.ifCond .eq 6, 3) := by decide +kernel
theorem d5_reading_7 : decode cX5_reading 7 = .ok (.bipush (-3), 2) := by decide +kernel
theorem d5_reading_9 : decode cX5_reading 9 = .ok (.ireturn, 1) := by decide +kernel
theorem d5_reading_10 : decode cX5_reading 10 = .ok (.iload_n 1, 1) := by decide +kernel
theorem d5_reading_11 : decode cX5_reading 11 = .ok (.sipush (-500), 3) := by decide +kernel
theorem d5_reading_14 : decode cX5_reading 14 = .ok (.if_icmp .lt 10, 3) := by decide +kernel
theorem d5_reading_17 : decode cX5_reading 17 = .ok (.iload_n 1, 1) := by decide +kernel
theorem d5_reading_18 : decode cX5_reading 18 = .ok (.sipush 500, 3) := by decide +kernel
theorem d5_reading_21 : decode cX5_reading 21 = .ok (.if_icmp .le 6, 3) := by decide +kernel
theorem d5_reading_24 : decode cX5_reading 24 = .ok (.bipush (-2), 2) := by decide +kernel
theorem d5_reading_26 : decode cX5_reading 26 = .ok (.ireturn, 1) := by decide +kernel
theorem d5_reading_27 : decode cX5_reading 27 = .ok (.aload_n 0, 1) := by decide +kernel
theorem d5_reading_28 : decode cX5_reading 28 = .ok (.getfield 35, 3) := by decide +kernel
theorem d5_reading_31 : decode cX5_reading 31 = .ok (.bipush 8, 2) := by decide +kernel
theorem d5_reading_33 : decode cX5_reading 33 = .ok (.if_icmp .lt 6, 3) := by decide +kernel
theorem d5_reading_36 : decode cX5_reading 36 = .ok (.bipush (-4), 2) := by decide +kernel
theorem d5_reading_38 : decode cX5_reading 38 = .ok (.ireturn, 1) := by decide +kernel
theorem d5_reading_39 : decode cX5_reading 39 = .ok (.aload_n 0, 1) := by decide +kernel
theorem d5_reading_40 : decode cX5_reading 40 = .ok (.getfield 31, 3) := by decide +kernel
theorem d5_reading_43 : decode cX5_reading 43 = .ok (.aload_n 0, 1) := by decide +kernel
theorem d5_reading_44 : decode cX5_reading 44 = .ok (.getfield 35, 3) := by decide +kernel
theorem d5_reading_47 : decode cX5_reading 47 = .ok (.iload_n 1, 1) := by decide +kernel
theorem d5_reading_48 : decode cX5_reading 48 = .ok (.iastore, 1) := by decide +kernel
theorem d5_reading_49 : decode cX5_reading 49 = .ok (.aload_n 0, 1) := by decide +kernel
theorem d5_reading_50 : decode cX5_reading 50 = .ok (.dup, 1) := by decide +kernel
theorem d5_reading_51 : decode cX5_reading 51 = .ok (.getfield 35, 3) := by decide +kernel
theorem d5_reading_54 : decode cX5_reading 54 = .ok (.iconst 1, 1) := by decide +kernel
theorem d5_reading_55 : decode cX5_reading 55 = .ok (.iadd, 1) := by decide +kernel
theorem d5_reading_56 : decode cX5_reading 56 = .ok (.putfield 35, 3) := by decide +kernel
theorem d5_reading_59 : decode cX5_reading 59 = .ok (.aload_n 0, 1) := by decide +kernel
theorem d5_reading_60 : decode cX5_reading 60 = .ok (.getfield 35, 3) := by decide +kernel
theorem d5_reading_63 : decode cX5_reading 63 = .ok (.iconst 1, 1) := by decide +kernel
theorem d5_reading_64 : decode cX5_reading 64 = .ok (.isub, 1) := by decide +kernel
theorem d5_reading_65 : decode cX5_reading 65 = .ok (.ireturn, 1) := by decide +kernel
noncomputable def f5_reading {α : Type} (p1 : Int32) (S : MS) (K : Int32 → MS → Option α) : Option α := f5_hasNoShip S fun r2 S1 => if r2 = 0 then (if p1 < (-500) then (K (-2) S1) else (if p1 ≤ 500 then (if (S1.1 0 4) < 8 then (ck (S1.1 0 4) 8 fun k3 => nm (sI S1 4 k3 p1) fun S4 => nm (sI S4 0 4 ((S4.1 0 4) + 1)) fun S5 => K ((S5.1 0 4) - 1) S5) else (K (-4) S1)) else (K (-2) S1))) else (K (-3) S1)
set_option maxHeartbeats 4000000 in
set_option maxRecDepth 100000 in
theorem c5_reading (l : Launch) (p1 : Int32) (S : MS) {α : Type} : CtI 30 eX l yX5_reading cX5_reading 2 (some .int) (rmG 1 20) S (fun ad => [.ref (ad 0), .int p1]) (α := α) (f5_reading p1 S) := by
  refine CtI.of (by decide) (fun _ => Nat.le_of_ble_eq_true rfl) (fun X K _ O hQ => ?_)
  have O : OK 30 X RX5 cX5_reading 2 (some .int) (rmG 1 20) := O
  show GM 30 eX X (f5_reading p1 S K) S 0 [(0, .ref (aX X 0)), (1, .int p1)] []
  unfold f5_reading
  refine r_aload_n O d5_reading_0 0 rfl ?_
  refine r_callVi O (b := 0) (bv := fun ad => []) (rest := []) (c5_hasNoShip (lX X) S) (fun _ => rfl) (by decide) eX_0 rfl rfl w_375 w_377 w_2 w_45 w_378 hy_X5_hasNoShip ⟨rfl, rfl, Nat.le_of_ble_eq_true rfl, Nat.le_of_ble_eq_true rfl⟩ rfl rfl (Nat.le_of_ble_eq_true rfl) d5_reading_1 (fun r2 S1 => ?_)
  refine r_if_eq O 10 d5_reading_4 (by decide) ?_ ?_
  · refine r_iload_n O d5_reading_10 1 rfl ?_
    refine r_sipush O d5_reading_11 (v := (-500)) (by decide) ?_
    refine r_icmp_lt O 24 d5_reading_14 (by decide) ?_ ?_
    · refine r_bipush O d5_reading_24 (v := (-2)) (by decide) ?_
      exact r_iret O hQ d5_reading_26
    · refine r_iload_n O d5_reading_17 1 rfl ?_
      refine r_sipush O d5_reading_18 (v := 500) (by decide) ?_
      refine r_icmp_le O 27 d5_reading_21 (by decide) ?_ ?_
      · refine r_aload_n O d5_reading_27 0 rfl ?_
        refine g_X5_35 O d5_reading_28 ?_
        refine r_bipush O d5_reading_31 (v := 8) (by decide) ?_
        refine r_icmp_lt O 39 d5_reading_33 (by decide) ?_ ?_
        · refine r_aload_n O d5_reading_39 0 rfl ?_
          refine g_X5_31 O d5_reading_40 ?_
          refine r_aload_n O d5_reading_43 0 rfl ?_
          refine g_X5_35 O d5_reading_44 ?_
          refine r_iload_n O d5_reading_47 1 rfl ?_
          refine r_iast O (j := 4) (by decide) (fun _ => eX_4) d5_reading_48 (fun S4 => ?_)
          refine r_aload_n O d5_reading_49 0 rfl ?_
          refine r_dup O d5_reading_50 rfl ?_
          refine g_X5_35 O d5_reading_51 ?_
          refine r_iconst O d5_reading_54 (v := 1) (by decide) ?_
          refine r_iadd O d5_reading_55 ?_
          refine p_X5_35 O d5_reading_56 (fun S5 => ?_)
          refine r_aload_n O d5_reading_59 0 rfl ?_
          refine g_X5_35 O d5_reading_60 ?_
          refine r_iconst O d5_reading_63 (v := 1) (by decide) ?_
          refine r_isub O d5_reading_64 ?_
          exact r_iret O hQ d5_reading_65
        · refine r_bipush O d5_reading_36 (v := (-4)) (by decide) ?_
          exact r_iret O hQ d5_reading_38
      · refine r_bipush O d5_reading_24 (v := (-2)) (by decide) ?_
        exact r_iret O hQ d5_reading_26
  · refine r_bipush O d5_reading_7 (v := (-3)) (by decide) ?_
    exact r_iret O hQ d5_reading_9
-- X5.back
theorem d5_back_0 : decode cX5_back 0 = .ok (.iload_n 1, 1) := by decide +kernel
theorem d5_back_1 : decode cX5_back 1 = .ok (.ifCond .lt 11, 3) := by decide +kernel
theorem d5_back_4 : decode cX5_back 4 = .ok (.iload_n 1, 1) := by decide +kernel
theorem d5_back_5 : decode cX5_back 5 = .ok (.aload_n 0, 1) := by decide +kernel
theorem d5_back_6 : decode cX5_back 6 = .ok (.getfield 35, 3) := by decide +kernel
theorem d5_back_9 : decode cX5_back 9 = .ok (.if_icmp .le 6, 3) := by decide +kernel
theorem d5_back_12 : decode cX5_back 12 = .ok (.bipush (-2), 2) := by decide +kernel
theorem d5_back_14 : decode cX5_back 14 = .ok (.ireturn, 1) := by decide +kernel
theorem d5_back_15 : decode cX5_back 15 = .ok (.aload_n 0, 1) := by decide +kernel
theorem d5_back_16 : decode cX5_back 16 = .ok (.dup, 1) := by decide +kernel
theorem d5_back_17 : decode cX5_back 17 = .ok (.getfield 35, 3) := by decide +kernel
theorem d5_back_20 : decode cX5_back 20 = .ok (.iload_n 1, 1) := by decide +kernel
theorem d5_back_21 : decode cX5_back 21 = .ok (.isub, 1) := by decide +kernel
theorem d5_back_22 : decode cX5_back 22 = .ok (.putfield 35, 3) := by decide +kernel
theorem d5_back_25 : decode cX5_back 25 = .ok (.aload_n 0, 1) := by decide +kernel
theorem d5_back_26 : decode cX5_back 26 = .ok (.getfield 35, 3) := by decide +kernel
theorem d5_back_29 : decode cX5_back 29 = .ok (.ireturn, 1) := by decide +kernel
noncomputable def f5_back {α : Type} (p1 : Int32) (S : MS) (K : Int32 → MS → Option α) : Option α := if p1 < 0 then (K (-2) S) else (if p1 ≤ (S.1 0 4) then (nm (sI S 0 4 ((S.1 0 4) - p1)) fun S1 => K (S1.1 0 4) S1) else (K (-2) S))
set_option maxHeartbeats 4000000 in
set_option maxRecDepth 100000 in
theorem c5_back (l : Launch) (p1 : Int32) (S : MS) {α : Type} : CtI 30 eX l yX5_back cX5_back 2 (some .int) (rmG 0 0) S (fun ad => [.ref (ad 0), .int p1]) (α := α) (f5_back p1 S) := by
  refine CtI.of (by decide) (fun _ => Nat.le_of_ble_eq_true rfl) (fun X K _ O hQ => ?_)
  have O : OK 30 X RX5 cX5_back 2 (some .int) (rmG 0 0) := O
  show GM 30 eX X (f5_back p1 S K) S 0 [(0, .ref (aX X 0)), (1, .int p1)] []
  unfold f5_back
  refine r_iload_n O d5_back_0 1 rfl ?_
  refine r_if_lt O 12 d5_back_1 (by decide) ?_ ?_
  · refine r_bipush O d5_back_12 (v := (-2)) (by decide) ?_
    exact r_iret O hQ d5_back_14
  · refine r_iload_n O d5_back_4 1 rfl ?_
    refine r_aload_n O d5_back_5 0 rfl ?_
    refine g_X5_35 O d5_back_6 ?_
    refine r_icmp_le O 15 d5_back_9 (by decide) ?_ ?_
    · refine r_aload_n O d5_back_15 0 rfl ?_
      refine r_dup O d5_back_16 rfl ?_
      refine g_X5_35 O d5_back_17 ?_
      refine r_iload_n O d5_back_20 1 rfl ?_
      refine r_isub O d5_back_21 ?_
      refine p_X5_35 O d5_back_22 (fun S1 => ?_)
      refine r_aload_n O d5_back_25 0 rfl ?_
      refine g_X5_35 O d5_back_26 ?_
      exact r_iret O hQ d5_back_29
    · refine r_bipush O d5_back_12 (v := (-2)) (by decide) ?_
      exact r_iret O hQ d5_back_14
-- X3.trimWith
theorem d3_trimWith_0 : decode cX3_trimWith 0 = .ok (.aload_n 0, 1) := by decide +kernel
theorem d3_trimWith_1 : decode cX3_trimWith 1 = .ok (.aload_n 0, 1) := by decide +kernel
theorem d3_trimWith_2 : decode cX3_trimWith 2 = .ok (.aload_n 0, 1) := by decide +kernel
theorem d3_trimWith_3 : decode cX3_trimWith 3 = .ok (.getfield 32, 3) := by decide +kernel
theorem d3_trimWith_6 : decode cX3_trimWith 6 = .ok (.invokevirtual 75, 3) := by decide +kernel
theorem d3_trimWith_9 : decode cX3_trimWith 9 = .ok (.invokevirtual 102, 3) := by decide +kernel
theorem d3_trimWith_12 : decode cX3_trimWith 12 = .ok (.getfield 121, 3) := by decide +kernel
theorem d3_trimWith_15 : decode cX3_trimWith 15 = .ok (.istore_n 3, 1) := by decide +kernel
theorem d3_trimWith_16 : decode cX3_trimWith 16 = .ok (.aload_n 0, 1) := by decide +kernel
theorem d3_trimWith_17 : decode cX3_trimWith 17 = .ok (.getfield 32, 3) := by decide +kernel
theorem d3_trimWith_20 : decode cX3_trimWith 20 = .ok (.iload_n 1, 1) := by decide +kernel
theorem d3_trimWith_21 : decode cX3_trimWith 21 = .ok (.invokestatic 84, 3) := by decide +kernel
theorem d3_trimWith_24 : decode cX3_trimWith 24 = .ok (.ifCond .ne 5, 3) := by decide +kernel
theorem d3_trimWith_27 : decode cX3_trimWith 27 = .ok (.iload_n 3, 1) := by decide +kernel
theorem d3_trimWith_28 : decode cX3_trimWith 28 = .ok (.ireturn, 1) := by decide +kernel
theorem d3_trimWith_29 : decode cX3_trimWith 29 = .ok (.iload_n 3, 1) := by decide +kernel
theorem d3_trimWith_30 : decode cX3_trimWith 30 = .ok (.iload_n 2, 1) := by decide +kernel
theorem d3_trimWith_31 : decode cX3_trimWith 31 = .ok (.aload_n 0, 1) := by decide +kernel
theorem d3_trimWith_32 : decode cX3_trimWith 32 = .ok (.getfield 11, 3) := by decide +kernel
theorem d3_trimWith_35 : decode cX3_trimWith 35 = .ok (.iload_n 1, 1) := by decide +kernel
theorem d3_trimWith_36 : decode cX3_trimWith 36 = .ok (.aaload, 1) := by decide +kernel
theorem d3_trimWith_37 : decode cX3_trimWith 37 = .ok (.invokevirtual 94, 3) := by decide +kernel
theorem d3_trimWith_40 : decode cX3_trimWith 40 = .ok (.isub, 1) := by decide +kernel
theorem d3_trimWith_41 : decode cX3_trimWith 41 = .ok (.aload_n 0, 1) := by decide +kernel
theorem d3_trimWith_42 : decode cX3_trimWith 42 = .ok (.getfield 11, 3) := by decide +kernel
theorem d3_trimWith_45 : decode cX3_trimWith 45 = .ok (.iload_n 1, 1) := by decide +kernel
theorem d3_trimWith_46 : decode cX3_trimWith 46 = .ok (.aaload, 1) := by decide +kernel
theorem d3_trimWith_47 : decode cX3_trimWith 47 = .ok (.getfield 60, 3) := by decide +kernel
theorem d3_trimWith_50 : decode cX3_trimWith 50 = .ok (.iconst 3, 1) := by decide +kernel
theorem d3_trimWith_51 : decode cX3_trimWith 51 = .ok (.isub, 1) := by decide +kernel
theorem d3_trimWith_52 : decode cX3_trimWith 52 = .ok (.imul, 1) := by decide +kernel
theorem d3_trimWith_53 : decode cX3_trimWith 53 = .ok (.iadd, 1) := by decide +kernel
theorem d3_trimWith_54 : decode cX3_trimWith 54 = .ok (.ireturn, 1) := by decide +kernel
noncomputable def f3_trimWith {α : Type} (p1 : Int32) (p2 : Int32) (S : MS) (K : Int32 → MS → Option α) : Option α := f3_fullSet (S.1 2 4) S fun r2 S1 => f3_loadOf r2 S1 fun S3 => nm (S3.1 5 2) fun x3_5 => f5_waterIn (S3.1 2 4) p1 S3 fun r7 S6 => if r7 = 0 then (K x3_5 S6) else (ck p1 6 fun k8 => f4_weight k8 S6 fun r10 S9 => ck p1 6 fun k11 => K (x3_5 + ((p2 - r10) * ((S9.1 (24 + k11) 1) - 3))) S9)
set_option maxHeartbeats 4000000 in
set_option maxRecDepth 100000 in
theorem c3_trimWith (l : Launch) (p1 : Int32) (p2 : Int32) (S : MS) {α : Type} : CtI 30 eX l yX3_trimWith cX3_trimWith 4 (some .int) (rmG 3 65) S (fun ad => [.ref (ad 2), .int p1, .int p2]) (α := α) (f3_trimWith p1 p2 S) := by
  refine CtI.of (by decide) (fun _ => Nat.le_of_ble_eq_true rfl) (fun X K _ O hQ => ?_)
  have O : OK 30 X RX3 cX3_trimWith 4 (some .int) (rmG 3 65) := O
  show GM 30 eX X (f3_trimWith p1 p2 S K) S 0 [(0, .ref (aX X 2)), (1, .int p1), (2, .int p2)] []
  unfold f3_trimWith
  refine r_aload_n O d3_trimWith_0 0 rfl ?_
  refine r_aload_n O d3_trimWith_1 0 rfl ?_
  refine r_aload_n O d3_trimWith_2 0 rfl ?_
  refine g_X3_32 O d3_trimWith_3 ?_
  refine r_callVi O (b := 2) (bv := fun ad => [.int (S.1 2 4)]) (rest := [.ref (aX X 2)]) (c3_fullSet (lX X) (S.1 2 4) S) (fun _ => rfl) (by decide) eX_2 rfl rfl w_285 w_286 w_287 w_46 w_288 hy_X3_fullSet ⟨rfl, rfl, Nat.le_of_ble_eq_true rfl, Nat.le_of_ble_eq_true rfl⟩ rfl rfl (Nat.le_of_ble_eq_true rfl) d3_trimWith_6 (fun r2 S1 => ?_)
  refine r_callVr O (b := 2) (bv := fun ad => [.int r2]) (rest := []) (c3_loadOf (lX X) r2 S1) (fun _ => rfl) (by decide) eX_2 rfl rfl w_363 w_364 w_365 w_46 w_366 hy_X3_loadOf ⟨rfl, rfl, Nat.le_of_ble_eq_true rfl, Nat.le_of_ble_eq_true rfl⟩ rfl rfl (Nat.le_of_ble_eq_true rfl) d3_trimWith_9 (fun S3 => ?_)
  refine g_X3_121 O d3_trimWith_12 ?_
  refine r_istore_n_nm O d3_trimWith_15 (fun x3_5 => [(3, .int x3_5), (0, .ref (aX X 2)), (1, .int p1), (2, .int p2)]) (by decide) (fun _ => rfl) (fun x3_5 => ?_)
  refine r_aload_n O d3_trimWith_16 1 rfl ?_
  refine g_X3_32 O d3_trimWith_17 ?_
  refine r_iload_n O d3_trimWith_20 2 rfl ?_
  refine r_callSNi O (rest := []) (c5_waterIn (lX X) (S3.1 2 4) p1 S3) w_289 w_290 w_45 w_291 hy_X5_waterIn ⟨rfl, rfl, Nat.le_of_ble_eq_true rfl, Nat.le_of_ble_eq_true rfl⟩ rfl rfl (Nat.le_of_ble_eq_true rfl) d3_trimWith_21 (fun r7 S6 => ?_)
  refine r_if_ne O 29 d3_trimWith_24 (by decide) ?_ ?_
  · refine r_iload_n O d3_trimWith_29 0 rfl ?_
    refine r_iload_n O d3_trimWith_30 3 rfl ?_
    refine r_aload_n O d3_trimWith_31 1 rfl ?_
    refine g_X3_11 O d3_trimWith_32 ?_
    refine r_iload_n O d3_trimWith_35 2 rfl ?_
    refine r_aald O (b := 24) (by decide) eX_7 rfl d3_trimWith_36 (fun k8 hk8 => ?_)
    refine r_callVi O (b := (24 + k8)) (bv := fun ad => []) (rest := [.int p2, .int x3_5]) (c4_weight (lX X) k8 hk8 S6) (fun _ => rfl) (by omega) (eX_tnk hk8) rfl rfl w_340 w_309 w_310 w_48 w_311 hy_X4_weight ⟨rfl, rfl, Nat.le_of_ble_eq_true rfl, Nat.le_of_ble_eq_true rfl⟩ rfl rfl (Nat.le_of_ble_eq_true rfl) d3_trimWith_37 (fun r10 S9 => ?_)
    refine r_isub O d3_trimWith_40 ?_
    refine r_aload_n O d3_trimWith_41 1 rfl ?_
    refine g_X3_11 O d3_trimWith_42 ?_
    refine r_iload_n O d3_trimWith_45 2 rfl ?_
    refine r_aald O (b := 24) (by decide) eX_7 rfl d3_trimWith_46 (fun k11 hk11 => ?_)
    refine g_X3_60 O hk11 d3_trimWith_47 ?_
    refine r_iconst O d3_trimWith_50 (v := 3) (by decide) ?_
    refine r_isub O d3_trimWith_51 ?_
    refine r_imul O d3_trimWith_52 ?_
    refine r_iadd O d3_trimWith_53 ?_
    exact r_iret O hQ d3_trimWith_54
  · refine r_iload_n O d3_trimWith_27 0 rfl ?_
    exact r_iret O hQ d3_trimWith_28
-- X5.readingsHoldWith
theorem d5_readingsHoldWith_0 : decode cX5_readingsHoldWith 0 = .ok (.aload_n 0, 1) := by decide +kernel
theorem d5_readingsHoldWith_1 : decode cX5_readingsHoldWith 1 = .ok (.getfield 20, 3) := by decide +kernel
theorem d5_readingsHoldWith_4 : decode cX5_readingsHoldWith 4 = .ok (.iload_n 1, 1) := by decide +kernel
theorem d5_readingsHoldWith_5 : decode cX5_readingsHoldWith 5 = .ok (.iload_n 2, 1) := by decide +kernel
theorem d5_readingsHoldWith_6 : decode cX5_readingsHoldWith 6 = .ok (.invokevirtual 270, 3) := by decide +kernel
theorem d5_readingsHoldWith_9 : decode cX5_readingsHoldWith 9 = .ok (.istore_n 3, 1) := by decide +kernel
theorem d5_readingsHoldWith_10 : decode cX5_readingsHoldWith 10 = .ok (.iconst 0, 1) := by decide +kernel
theorem d5_readingsHoldWith_11 : decode cX5_readingsHoldWith 11 = .ok (.istore 4, 2) := by decide +kernel
theorem d5_readingsHoldWith_13 : decode cX5_readingsHoldWith 13 = .ok (.iload 4, 2) := by decide +kernel
theorem d5_readingsHoldWith_15 : decode cX5_readingsHoldWith 15 = .ok (.aload_n 0, 1) := by decide +kernel
theorem d5_readingsHoldWith_16 : decode cX5_readingsHoldWith 16 = .ok (.getfield 35, 3) := by decide +kernel
theorem d5_readingsHoldWith_19 : decode cX5_readingsHoldWith 19 = .ok (.if_icmp .ge 22, 3) := by decide +kernel
theorem d5_readingsHoldWith_22 : decode cX5_readingsHoldWith 22 = .ok (.aload_n 0, 1) := by decide +kernel
theorem d5_readingsHoldWith_23 : decode cX5_readingsHoldWith 23 = .ok (.getfield 31, 3) := by decide +kernel
theorem d5_readingsHoldWith_26 : decode cX5_readingsHoldWith 26 = .ok (.iload 4, 2) := by decide +kernel
theorem d5_readingsHoldWith_28 : decode cX5_readingsHoldWith 28 = .ok (.iaload, 1) := by decide +kernel
theorem d5_readingsHoldWith_29 : decode cX5_readingsHoldWith 29 = .ok (.iload_n 3, 1) := by decide +kernel
theorem d5_readingsHoldWith_30 : decode cX5_readingsHoldWith 30 = .ok (.if_icmp .eq 5, 3) := by decide +kernel
theorem d5_readingsHoldWith_33 : decode cX5_readingsHoldWith 33 = .ok (.iconst 0, 1) := by decide +kernel
theorem d5_readingsHoldWith_34 : decode cX5_readingsHoldWith 34 = .ok (.ireturn, 1) := by decide +kernel
theorem d5_readingsHoldWith_35 : decode cX5_readingsHoldWith 35 = .ok (.iinc 4 1, 3) := by decide +kernel
theorem d5_readingsHoldWith_38 : decode cX5_readingsHoldWith 38 = .ok (.goto (-25), 3) := by decide +kernel
theorem d5_readingsHoldWith_41 : decode cX5_readingsHoldWith 41 = .ok (.iconst 1, 1) := by decide +kernel
theorem d5_readingsHoldWith_42 : decode cX5_readingsHoldWith 42 = .ok (.ireturn, 1) := by decide +kernel
noncomputable def f5_readingsHoldWith_L13 {α : Type} (c3 : Int32) (K : Int32 → MS → Option α) (KX : Int32 → MS → Option α) : Nat → Int32 → MS → Option α
  | 0, _, _ => none
  | n + 1, v4, S => if (S.1 0 4) ≤ v4 then (KX v4 S) else (ck v4 8 fun k3 => if (S.1 4 k3) = c3 then (nm (v4 + 1) fun x4_4 => f5_readingsHoldWith_L13 c3 K KX n x4_4 S) else (K 0 S))
noncomputable def f5_readingsHoldWith {α : Type} (p1 : Int32) (p2 : Int32) (S : MS) (K : Int32 → MS → Option α) : Option α := f3_trimWith p1 p2 S fun r2 S1 => f5_readingsHoldWith_L13 r2 K (fun v4_6 S5 => K 1 S5) FU 0 S1
set_option maxHeartbeats 4000000 in
set_option maxRecDepth 100000 in
theorem l5_readingsHoldWith_13 {α : Type} {X : GX α} (O : OK 30 X RX5 cX5_readingsHoldWith 5 (some .boolean) (rmG 4 88)) {K : Int32 → MS → Option α} (hQ : RtI 30 eX X K) {c3 : Int32} {KX : Int32 → MS → Option α} (hX : ∀ v4 S, GM 30 eX X (KX v4 S) S 41 [(0, .ref (aX X 0)), (3, .int c3), (4, .int v4)] []) : ∀ n v4 S, GM 30 eX X (f5_readingsHoldWith_L13 c3 K KX n v4 S) S 13 [(0, .ref (aX X 0)), (3, .int c3), (4, .int v4)] [] := by
  intro n
  induction n with
  | zero => intro v4 S; exact r_none
  | succ n ih =>
    intro v4 S
    rw [f5_readingsHoldWith_L13]
    refine r_iload O d5_readingsHoldWith_13 2 rfl ?_
    refine r_aload_n O d5_readingsHoldWith_15 0 rfl ?_
    refine g_X5_35 O d5_readingsHoldWith_16 ?_
    refine r_icmp_ge O 41 d5_readingsHoldWith_19 (by decide) ?_ ?_
    · refine r_sub [0, 1, 2] rfl ?_
      exact hX _ _
    · refine r_aload_n O d5_readingsHoldWith_22 0 rfl ?_
      refine g_X5_31 O d5_readingsHoldWith_23 ?_
      refine r_iload O d5_readingsHoldWith_26 2 rfl ?_
      refine r_iald O (j := 4) (by decide) eX_4 d5_readingsHoldWith_28 (fun k3 hk3 => ?_)
      refine r_iload_n O d5_readingsHoldWith_29 1 rfl ?_
      refine r_icmp_eq O 35 d5_readingsHoldWith_30 (by decide) ?_ ?_
      · refine r_iinc O d5_readingsHoldWith_35 2 (c0 := 1) rfl (by decide) (fun x4_4 => [(4, .int x4_4), (0, .ref (aX X 0)), (3, .int c3)]) (by decide) (fun _ => rfl) (fun x4_4 => ?_)
        refine r_goto O 13 d5_readingsHoldWith_38 (by decide) ?_
        refine r_sub [1, 2, 0] rfl ?_
        exact ih _ _
      · refine r_iconst O d5_readingsHoldWith_33 (v := 0) (by decide) ?_
        exact r_zret O hQ (by decide) d5_readingsHoldWith_34
set_option maxHeartbeats 4000000 in
set_option maxRecDepth 100000 in
theorem c5_readingsHoldWith (l : Launch) (p1 : Int32) (p2 : Int32) (S : MS) {α : Type} : CtI 30 eX l yX5_readingsHoldWith cX5_readingsHoldWith 5 (some .boolean) (rmG 4 88) S (fun ad => [.ref (ad 0), .int p1, .int p2]) (α := α) (f5_readingsHoldWith p1 p2 S) := by
  refine CtI.of (by decide) (fun _ => Nat.le_of_ble_eq_true rfl) (fun X K _ O hQ => ?_)
  have O : OK 30 X RX5 cX5_readingsHoldWith 5 (some .boolean) (rmG 4 88) := O
  show GM 30 eX X (f5_readingsHoldWith p1 p2 S K) S 0 [(0, .ref (aX X 0)), (1, .int p1), (2, .int p2)] []
  unfold f5_readingsHoldWith
  refine r_aload_n O d5_readingsHoldWith_0 0 rfl ?_
  refine g_X5_20 O d5_readingsHoldWith_1 ?_
  refine r_iload_n O d5_readingsHoldWith_4 1 rfl ?_
  refine r_iload_n O d5_readingsHoldWith_5 2 rfl ?_
  refine r_callVi O (b := 2) (bv := fun ad => [.int p1, .int p2]) (rest := []) (c3_trimWith (lX X) p1 p2 S) (fun _ => rfl) (by decide) eX_2 rfl rfl w_529 w_530 w_531 w_46 w_532 hy_X3_trimWith ⟨rfl, rfl, Nat.le_of_ble_eq_true rfl, Nat.le_of_ble_eq_true rfl⟩ rfl rfl (Nat.le_of_ble_eq_true rfl) d5_readingsHoldWith_6 (fun r2 S1 => ?_)
  refine r_istore_n O d5_readingsHoldWith_9 [(3, .int r2), (0, .ref (aX X 0)), (1, .int p1), (2, .int p2)] (by decide) rfl ?_
  refine r_iconst O d5_readingsHoldWith_10 (v := 0) (by decide) ?_
  refine r_istore O d5_readingsHoldWith_11 [(4, .int 0), (3, .int r2), (0, .ref (aX X 0)), (1, .int p1), (2, .int p2)] (by decide) rfl ?_
  refine r_sub [2, 1, 0] rfl ?_
  refine l5_readingsHoldWith_13 O hQ (fun v4_6 S5 => ?_) _ _ _
  refine r_iconst O d5_readingsHoldWith_41 (v := 1) (by decide) ?_
  exact r_zret O hQ (by decide) d5_readingsHoldWith_42
-- X5.kinds
theorem d5_kinds_0 : decode cX5_kinds 0 = .ok (.aload_n 0, 1) := by decide +kernel
theorem d5_kinds_1 : decode cX5_kinds 1 = .ok (.iload_n 1, 1) := by decide +kernel
theorem d5_kinds_2 : decode cX5_kinds 2 = .ok (.invokevirtual 78, 3) := by decide +kernel
theorem d5_kinds_5 : decode cX5_kinds 5 = .ok (.ifCond .ne 5, 3) := by decide +kernel
theorem d5_kinds_8 : decode cX5_kinds 8 = .ok (.iconst (-1), 1) := by decide +kernel
theorem d5_kinds_9 : decode cX5_kinds 9 = .ok (.ireturn, 1) := by decide +kernel
theorem d5_kinds_10 : decode cX5_kinds 10 = .ok (.iconst 0, 1) := by decide +kernel
theorem d5_kinds_11 : decode cX5_kinds 11 = .ok (.istore_n 2, 1) := by decide +kernel
theorem d5_kinds_12 : decode cX5_kinds 12 = .ok (.iconst 0, 1) := by decide +kernel
theorem d5_kinds_13 : decode cX5_kinds 13 = .ok (.istore_n 3, 1) := by decide +kernel
theorem d5_kinds_14 : decode cX5_kinds 14 = .ok (.iload_n 3, 1) := by decide +kernel
theorem d5_kinds_15 : decode cX5_kinds 15 = .ok (.iconst 2, 1) := by decide +kernel
theorem d5_kinds_16 : decode cX5_kinds 16 = .ok (.if_icmp .gt 39, 3) := by decide +kernel
theorem d5_kinds_19 : decode cX5_kinds 19 = .ok (.aload_n 0, 1) := by decide +kernel
theorem d5_kinds_20 : decode cX5_kinds 20 = .ok (.iload_n 1, 1) := by decide +kernel
theorem d5_kinds_21 : decode cX5_kinds 21 = .ok (.iload_n 3, 1) := by decide +kernel
theorem d5_kinds_22 : decode cX5_kinds 22 = .ok (.aload_n 0, 1) := by decide +kernel
theorem d5_kinds_23 : decode cX5_kinds 23 = .ok (.getfield 20, 3) := by decide +kernel
theorem d5_kinds_26 : decode cX5_kinds 26 = .ok (.getfield 81, 3) := by decide +kernel
theorem d5_kinds_29 : decode cX5_kinds 29 = .ok (.iload_n 1, 1) := by decide +kernel
theorem d5_kinds_30 : decode cX5_kinds 30 = .ok (.aaload, 1) := by decide +kernel
theorem d5_kinds_31 : decode cX5_kinds 31 = .ok (.getfield 96, 3) := by decide +kernel
theorem d5_kinds_34 : decode cX5_kinds 34 = .ok (.invokestatic 200, 3) := by decide +kernel
theorem d5_kinds_37 : decode cX5_kinds 37 = .ok (.invokevirtual 203, 3) := by decide +kernel
theorem d5_kinds_40 : decode cX5_kinds 40 = .ok (.ifCond .eq 9, 3) := by decide +kernel
theorem d5_kinds_43 : decode cX5_kinds 43 = .ok (.iload_n 2, 1) := by decide +kernel
theorem d5_kinds_44 : decode cX5_kinds 44 = .ok (.iconst 1, 1) := by decide +kernel
theorem d5_kinds_45 : decode cX5_kinds 45 = .ok (.iload_n 3, 1) := by decide +kernel
theorem d5_kinds_46 : decode cX5_kinds 46 = .ok (.ishl, 1) := by decide +kernel
theorem d5_kinds_47 : decode cX5_kinds 47 = .ok (.ior, 1) := by decide +kernel
theorem d5_kinds_48 : decode cX5_kinds 48 = .ok (.istore_n 2, 1) := by decide +kernel
theorem d5_kinds_49 : decode cX5_kinds 49 = .ok (.iinc 3 1, 3) := by decide +kernel
theorem d5_kinds_52 : decode cX5_kinds 52 = .ok (.goto (-38), 3) := by decide +kernel
theorem d5_kinds_55 : decode cX5_kinds 55 = .ok (.iload_n 2, 1) := by decide +kernel
theorem d5_kinds_56 : decode cX5_kinds 56 = .ok (.ireturn, 1) := by decide +kernel
noncomputable def f5_kinds_L14 {α : Type} (c1 : Int32) (KX : Int32 → Int32 → MS → Option α) : Nat → Int32 → Int32 → MS → Option α
  | 0, _, _, _ => none
  | n + 1, v2, v3, S => if 2 < v3 then (KX v2 v3 S) else (ck c1 6 fun k3 => f5_weightOf v3 (S.1 (24 + k3) 3) S fun r5 S4 => f5_readingsHoldWith c1 r5 S4 fun r7 S6 => if r7 = 0 then (nm (v3 + 1) fun x3_8 => f5_kinds_L14 c1 KX n v2 x3_8 S6) else (nm (v2 ||| ((1 : Int32) <<< (v3 &&& 31))) fun x2_9 => nm (v3 + 1) fun x3_10 => f5_kinds_L14 c1 KX n x2_9 x3_10 S6))
noncomputable def f5_kinds {α : Type} (p1 : Int32) (S : MS) (K : Int32 → MS → Option α) : Option α := f5_isTank p1 S fun r2 S1 => if r2 = 0 then (K (-1) S1) else (f5_kinds_L14 p1 (fun v2_12 v3_13 S11 => K v2_12 S11) FU 0 0 S1)
set_option maxHeartbeats 4000000 in
set_option maxRecDepth 100000 in
theorem l5_kinds_14 {α : Type} {X : GX α} (O : OK 30 X RX5 cX5_kinds 4 (some .int) (rmG 5 112)) {c1 : Int32} {KX : Int32 → Int32 → MS → Option α} (hX : ∀ v2 v3 S, GM 30 eX X (KX v2 v3 S) S 55 [(0, .ref (aX X 0)), (1, .int c1), (2, .int v2), (3, .int v3)] []) : ∀ n v2 v3 S, GM 30 eX X (f5_kinds_L14 c1 KX n v2 v3 S) S 14 [(0, .ref (aX X 0)), (1, .int c1), (2, .int v2), (3, .int v3)] [] := by
  intro n
  induction n with
  | zero => intro v2 v3 S; exact r_none
  | succ n ih =>
    intro v2 v3 S
    rw [f5_kinds_L14]
    refine r_iload_n O d5_kinds_14 3 rfl ?_
    refine r_iconst O d5_kinds_15 (v := 2) (by decide) ?_
    refine r_icmp_gt O 55 d5_kinds_16 (by decide) ?_ ?_
    · refine r_sub [0, 1, 2, 3] rfl ?_
      exact hX _ _ _
    · refine r_aload_n O d5_kinds_19 0 rfl ?_
      refine r_iload_n O d5_kinds_20 1 rfl ?_
      refine r_iload_n O d5_kinds_21 3 rfl ?_
      refine r_aload_n O d5_kinds_22 0 rfl ?_
      refine g_X5_20 O d5_kinds_23 ?_
      refine g_X5_81 O d5_kinds_26 ?_
      refine r_iload_n O d5_kinds_29 1 rfl ?_
      refine r_aald O (b := 24) (by decide) eX_7 rfl d5_kinds_30 (fun k3 hk3 => ?_)
      refine g_X5_96 O hk3 d5_kinds_31 ?_
      refine r_callSi O (rest := [.int c1, .ref (aX X 0)]) (c5_weightOf (lX X) v3 (S.1 (24 + k3) 3) S) w_524 w_313 w_45 w_314 hy_X5_weightOf ⟨rfl, rfl, Nat.le_of_ble_eq_true rfl, Nat.le_of_ble_eq_true rfl⟩ rfl rfl (Nat.le_of_ble_eq_true rfl) d5_kinds_34 (fun r5 S4 => ?_)
      refine r_callVi O (b := 0) (bv := fun ad => [.int c1, .int r5]) (rest := []) (c5_readingsHoldWith (lX X) c1 r5 S4) (fun _ => rfl) (by decide) eX_0 rfl rfl w_525 w_527 w_11 w_45 w_528 hy_X5_readingsHoldWith ⟨rfl, rfl, Nat.le_of_ble_eq_true rfl, Nat.le_of_ble_eq_true rfl⟩ rfl rfl (Nat.le_of_ble_eq_true rfl) d5_kinds_37 (fun r7 S6 => ?_)
      refine r_if_eq O 49 d5_kinds_40 (by decide) ?_ ?_
      · refine r_iinc O d5_kinds_49 3 (c0 := 1) rfl (by decide) (fun x3_8 => [(3, .int x3_8), (0, .ref (aX X 0)), (1, .int c1), (2, .int v2)]) (by decide) (fun _ => rfl) (fun x3_8 => ?_)
        refine r_goto O 14 d5_kinds_52 (by decide) ?_
        refine r_sub [1, 2, 3, 0] rfl ?_
        exact ih _ _ _
      · refine r_iload_n O d5_kinds_43 2 rfl ?_
        refine r_iconst O d5_kinds_44 (v := 1) (by decide) ?_
        refine r_iload_n O d5_kinds_45 3 rfl ?_
        refine r_ishl O d5_kinds_46 ?_
        refine r_ior O d5_kinds_47 ?_
        refine r_istore_n_nm O d5_kinds_48 (fun x2_9 => [(2, .int x2_9), (0, .ref (aX X 0)), (1, .int c1), (3, .int v3)]) (by decide) (fun _ => rfl) (fun x2_9 => ?_)
        refine r_iinc O d5_kinds_49 3 (c0 := 1) rfl (by decide) (fun x3_10 => [(3, .int x3_10), (2, .int x2_9), (0, .ref (aX X 0)), (1, .int c1)]) (by decide) (fun _ => rfl) (fun x3_10 => ?_)
        refine r_goto O 14 d5_kinds_52 (by decide) ?_
        refine r_sub [2, 3, 1, 0] rfl ?_
        exact ih _ _ _
set_option maxHeartbeats 4000000 in
set_option maxRecDepth 100000 in
theorem c5_kinds (l : Launch) (p1 : Int32) (S : MS) {α : Type} : CtI 30 eX l yX5_kinds cX5_kinds 4 (some .int) (rmG 5 112) S (fun ad => [.ref (ad 0), .int p1]) (α := α) (f5_kinds p1 S) := by
  refine CtI.of (by decide) (fun _ => Nat.le_of_ble_eq_true rfl) (fun X K _ O hQ => ?_)
  have O : OK 30 X RX5 cX5_kinds 4 (some .int) (rmG 5 112) := O
  show GM 30 eX X (f5_kinds p1 S K) S 0 [(0, .ref (aX X 0)), (1, .int p1)] []
  unfold f5_kinds
  refine r_aload_n O d5_kinds_0 0 rfl ?_
  refine r_iload_n O d5_kinds_1 1 rfl ?_
  refine r_callVi O (b := 0) (bv := fun ad => [.int p1]) (rest := []) (c5_isTank (lX X) p1 S) (fun _ => rfl) (by decide) eX_0 rfl rfl w_304 w_306 w_1 w_45 w_307 hy_X5_isTank ⟨rfl, rfl, Nat.le_of_ble_eq_true rfl, Nat.le_of_ble_eq_true rfl⟩ rfl rfl (Nat.le_of_ble_eq_true rfl) d5_kinds_2 (fun r2 S1 => ?_)
  refine r_if_ne O 10 d5_kinds_5 (by decide) ?_ ?_
  · refine r_iconst O d5_kinds_10 (v := 0) (by decide) ?_
    refine r_istore_n O d5_kinds_11 [(2, .int 0), (0, .ref (aX X 0)), (1, .int p1)] (by decide) rfl ?_
    refine r_iconst O d5_kinds_12 (v := 0) (by decide) ?_
    refine r_istore_n O d5_kinds_13 [(3, .int 0), (2, .int 0), (0, .ref (aX X 0)), (1, .int p1)] (by decide) rfl ?_
    refine r_sub [2, 3, 1, 0] rfl ?_
    refine l5_kinds_14 O (fun v2_12 v3_13 S11 => ?_) _ _ _ _
    refine r_iload_n O d5_kinds_55 2 rfl ?_
    exact r_iret O hQ d5_kinds_56
  · refine r_iconst O d5_kinds_8 (v := (-1)) (by decide) ?_
    exact r_iret O hQ d5_kinds_9
-- X5.masses
theorem d5_masses_0 : decode cX5_masses 0 = .ok (.aload_n 0, 1) := by decide +kernel
theorem d5_masses_1 : decode cX5_masses 1 = .ok (.iload_n 1, 1) := by decide +kernel
theorem d5_masses_2 : decode cX5_masses 2 = .ok (.invokevirtual 78, 3) := by decide +kernel
theorem d5_masses_5 : decode cX5_masses 5 = .ok (.ifCond .ne 5, 3) := by decide +kernel
theorem d5_masses_8 : decode cX5_masses 8 = .ok (.iconst (-1), 1) := by decide +kernel
theorem d5_masses_9 : decode cX5_masses 9 = .ok (.ireturn, 1) := by decide +kernel
theorem d5_masses_10 : decode cX5_masses 10 = .ok (.iconst 0, 1) := by decide +kernel
theorem d5_masses_11 : decode cX5_masses 11 = .ok (.istore_n 2, 1) := by decide +kernel
theorem d5_masses_12 : decode cX5_masses 12 = .ok (.iconst 1, 1) := by decide +kernel
theorem d5_masses_13 : decode cX5_masses 13 = .ok (.istore_n 3, 1) := by decide +kernel
theorem d5_masses_14 : decode cX5_masses 14 = .ok (.iload_n 3, 1) := by decide +kernel
theorem d5_masses_15 : decode cX5_masses 15 = .ok (.bipush 9, 2) := by decide +kernel
theorem d5_masses_17 : decode cX5_masses 17 = .ok (.if_icmp .gt 39, 3) := by decide +kernel
theorem d5_masses_20 : decode cX5_masses 20 = .ok (.aload_n 0, 1) := by decide +kernel
theorem d5_masses_21 : decode cX5_masses 21 = .ok (.iload_n 1, 1) := by decide +kernel
theorem d5_masses_22 : decode cX5_masses 22 = .ok (.aload_n 0, 1) := by decide +kernel
theorem d5_masses_23 : decode cX5_masses 23 = .ok (.getfield 20, 3) := by decide +kernel
theorem d5_masses_26 : decode cX5_masses 26 = .ok (.getfield 81, 3) := by decide +kernel
theorem d5_masses_29 : decode cX5_masses 29 = .ok (.iload_n 1, 1) := by decide +kernel
theorem d5_masses_30 : decode cX5_masses 30 = .ok (.aaload, 1) := by decide +kernel
theorem d5_masses_31 : decode cX5_masses 31 = .ok (.getfield 85, 3) := by decide +kernel
theorem d5_masses_34 : decode cX5_masses 34 = .ok (.iload_n 3, 1) := by decide +kernel
theorem d5_masses_35 : decode cX5_masses 35 = .ok (.invokestatic 200, 3) := by decide +kernel
theorem d5_masses_38 : decode cX5_masses 38 = .ok (.invokevirtual 203, 3) := by decide +kernel
theorem d5_masses_41 : decode cX5_masses 41 = .ok (.ifCond .eq 9, 3) := by decide +kernel
theorem d5_masses_44 : decode cX5_masses 44 = .ok (.iload_n 2, 1) := by decide +kernel
theorem d5_masses_45 : decode cX5_masses 45 = .ok (.iconst 1, 1) := by decide +kernel
theorem d5_masses_46 : decode cX5_masses 46 = .ok (.iload_n 3, 1) := by decide +kernel
theorem d5_masses_47 : decode cX5_masses 47 = .ok (.ishl, 1) := by decide +kernel
theorem d5_masses_48 : decode cX5_masses 48 = .ok (.ior, 1) := by decide +kernel
theorem d5_masses_49 : decode cX5_masses 49 = .ok (.istore_n 2, 1) := by decide +kernel
theorem d5_masses_50 : decode cX5_masses 50 = .ok (.iinc 3 1, 3) := by decide +kernel
theorem d5_masses_53 : decode cX5_masses 53 = .ok (.goto (-39), 3) := by decide +kernel
theorem d5_masses_56 : decode cX5_masses 56 = .ok (.iload_n 2, 1) := by decide +kernel
theorem d5_masses_57 : decode cX5_masses 57 = .ok (.ireturn, 1) := by decide +kernel
noncomputable def f5_masses_L14 {α : Type} (c1 : Int32) (KX : Int32 → Int32 → MS → Option α) : Nat → Int32 → Int32 → MS → Option α
  | 0, _, _, _ => none
  | n + 1, v2, v3, S => if 9 < v3 then (KX v2 v3 S) else (ck c1 6 fun k3 => f5_weightOf (S.1 (24 + k3) 0) v3 S fun r5 S4 => f5_readingsHoldWith c1 r5 S4 fun r7 S6 => if r7 = 0 then (nm (v3 + 1) fun x3_8 => f5_masses_L14 c1 KX n v2 x3_8 S6) else (nm (v2 ||| ((1 : Int32) <<< (v3 &&& 31))) fun x2_9 => nm (v3 + 1) fun x3_10 => f5_masses_L14 c1 KX n x2_9 x3_10 S6))
noncomputable def f5_masses {α : Type} (p1 : Int32) (S : MS) (K : Int32 → MS → Option α) : Option α := f5_isTank p1 S fun r2 S1 => if r2 = 0 then (K (-1) S1) else (f5_masses_L14 p1 (fun v2_12 v3_13 S11 => K v2_12 S11) FU 0 1 S1)
set_option maxHeartbeats 4000000 in
set_option maxRecDepth 100000 in
theorem l5_masses_14 {α : Type} {X : GX α} (O : OK 30 X RX5 cX5_masses 4 (some .int) (rmG 5 112)) {c1 : Int32} {KX : Int32 → Int32 → MS → Option α} (hX : ∀ v2 v3 S, GM 30 eX X (KX v2 v3 S) S 56 [(0, .ref (aX X 0)), (1, .int c1), (2, .int v2), (3, .int v3)] []) : ∀ n v2 v3 S, GM 30 eX X (f5_masses_L14 c1 KX n v2 v3 S) S 14 [(0, .ref (aX X 0)), (1, .int c1), (2, .int v2), (3, .int v3)] [] := by
  intro n
  induction n with
  | zero => intro v2 v3 S; exact r_none
  | succ n ih =>
    intro v2 v3 S
    rw [f5_masses_L14]
    refine r_iload_n O d5_masses_14 3 rfl ?_
    refine r_bipush O d5_masses_15 (v := 9) (by decide) ?_
    refine r_icmp_gt O 56 d5_masses_17 (by decide) ?_ ?_
    · refine r_sub [0, 1, 2, 3] rfl ?_
      exact hX _ _ _
    · refine r_aload_n O d5_masses_20 0 rfl ?_
      refine r_iload_n O d5_masses_21 1 rfl ?_
      refine r_aload_n O d5_masses_22 0 rfl ?_
      refine g_X5_20 O d5_masses_23 ?_
      refine g_X5_81 O d5_masses_26 ?_
      refine r_iload_n O d5_masses_29 1 rfl ?_
      refine r_aald O (b := 24) (by decide) eX_7 rfl d5_masses_30 (fun k3 hk3 => ?_)
      refine g_X5_85 O hk3 d5_masses_31 ?_
      refine r_iload_n O d5_masses_34 3 rfl ?_
      refine r_callSi O (rest := [.int c1, .ref (aX X 0)]) (c5_weightOf (lX X) (S.1 (24 + k3) 0) v3 S) w_524 w_313 w_45 w_314 hy_X5_weightOf ⟨rfl, rfl, Nat.le_of_ble_eq_true rfl, Nat.le_of_ble_eq_true rfl⟩ rfl rfl (Nat.le_of_ble_eq_true rfl) d5_masses_35 (fun r5 S4 => ?_)
      refine r_callVi O (b := 0) (bv := fun ad => [.int c1, .int r5]) (rest := []) (c5_readingsHoldWith (lX X) c1 r5 S4) (fun _ => rfl) (by decide) eX_0 rfl rfl w_525 w_527 w_11 w_45 w_528 hy_X5_readingsHoldWith ⟨rfl, rfl, Nat.le_of_ble_eq_true rfl, Nat.le_of_ble_eq_true rfl⟩ rfl rfl (Nat.le_of_ble_eq_true rfl) d5_masses_38 (fun r7 S6 => ?_)
      refine r_if_eq O 50 d5_masses_41 (by decide) ?_ ?_
      · refine r_iinc O d5_masses_50 3 (c0 := 1) rfl (by decide) (fun x3_8 => [(3, .int x3_8), (0, .ref (aX X 0)), (1, .int c1), (2, .int v2)]) (by decide) (fun _ => rfl) (fun x3_8 => ?_)
        refine r_goto O 14 d5_masses_53 (by decide) ?_
        refine r_sub [1, 2, 3, 0] rfl ?_
        exact ih _ _ _
      · refine r_iload_n O d5_masses_44 2 rfl ?_
        refine r_iconst O d5_masses_45 (v := 1) (by decide) ?_
        refine r_iload_n O d5_masses_46 3 rfl ?_
        refine r_ishl O d5_masses_47 ?_
        refine r_ior O d5_masses_48 ?_
        refine r_istore_n_nm O d5_masses_49 (fun x2_9 => [(2, .int x2_9), (0, .ref (aX X 0)), (1, .int c1), (3, .int v3)]) (by decide) (fun _ => rfl) (fun x2_9 => ?_)
        refine r_iinc O d5_masses_50 3 (c0 := 1) rfl (by decide) (fun x3_10 => [(3, .int x3_10), (2, .int x2_9), (0, .ref (aX X 0)), (1, .int c1)]) (by decide) (fun _ => rfl) (fun x3_10 => ?_)
        refine r_goto O 14 d5_masses_53 (by decide) ?_
        refine r_sub [2, 3, 1, 0] rfl ?_
        exact ih _ _ _
set_option maxHeartbeats 4000000 in
set_option maxRecDepth 100000 in
theorem c5_masses (l : Launch) (p1 : Int32) (S : MS) {α : Type} : CtI 30 eX l yX5_masses cX5_masses 4 (some .int) (rmG 5 112) S (fun ad => [.ref (ad 0), .int p1]) (α := α) (f5_masses p1 S) := by
  refine CtI.of (by decide) (fun _ => Nat.le_of_ble_eq_true rfl) (fun X K _ O hQ => ?_)
  have O : OK 30 X RX5 cX5_masses 4 (some .int) (rmG 5 112) := O
  show GM 30 eX X (f5_masses p1 S K) S 0 [(0, .ref (aX X 0)), (1, .int p1)] []
  unfold f5_masses
  refine r_aload_n O d5_masses_0 0 rfl ?_
  refine r_iload_n O d5_masses_1 1 rfl ?_
  refine r_callVi O (b := 0) (bv := fun ad => [.int p1]) (rest := []) (c5_isTank (lX X) p1 S) (fun _ => rfl) (by decide) eX_0 rfl rfl w_304 w_306 w_1 w_45 w_307 hy_X5_isTank ⟨rfl, rfl, Nat.le_of_ble_eq_true rfl, Nat.le_of_ble_eq_true rfl⟩ rfl rfl (Nat.le_of_ble_eq_true rfl) d5_masses_2 (fun r2 S1 => ?_)
  refine r_if_ne O 10 d5_masses_5 (by decide) ?_ ?_
  · refine r_iconst O d5_masses_10 (v := 0) (by decide) ?_
    refine r_istore_n O d5_masses_11 [(2, .int 0), (0, .ref (aX X 0)), (1, .int p1)] (by decide) rfl ?_
    refine r_iconst O d5_masses_12 (v := 1) (by decide) ?_
    refine r_istore_n O d5_masses_13 [(3, .int 1), (2, .int 0), (0, .ref (aX X 0)), (1, .int p1)] (by decide) rfl ?_
    refine r_sub [2, 3, 1, 0] rfl ?_
    refine l5_masses_14 O (fun v2_12 v3_13 S11 => ?_) _ _ _ _
    refine r_iload_n O d5_masses_56 2 rfl ?_
    exact r_iret O hQ d5_masses_57
  · refine r_iconst O d5_masses_8 (v := (-1)) (by decide) ?_
    exact r_iret O hQ d5_masses_9
-- X3.safeLoads
theorem d3_safeLoads_0 : decode cX3_safeLoads 0 = .ok (.iconst 0, 1) := by decide +kernel
theorem d3_safeLoads_1 : decode cX3_safeLoads 1 = .ok (.istore_n 1, 1) := by decide +kernel
theorem d3_safeLoads_2 : decode cX3_safeLoads 2 = .ok (.iconst 0, 1) := by decide +kernel
theorem d3_safeLoads_3 : decode cX3_safeLoads 3 = .ok (.istore_n 2, 1) := by decide +kernel
theorem d3_safeLoads_4 : decode cX3_safeLoads 4 = .ok (.iload_n 2, 1) := by decide +kernel
theorem d3_safeLoads_5 : decode cX3_safeLoads 5 = .ok (.iconst 1, 1) := by decide +kernel
theorem d3_safeLoads_6 : decode cX3_safeLoads 6 = .ok (.aload_n 0, 1) := by decide +kernel
theorem d3_safeLoads_7 : decode cX3_safeLoads 7 = .ok (.getfield 28, 3) := by decide +kernel
theorem d3_safeLoads_10 : decode cX3_safeLoads 10 = .ok (.ishl, 1) := by decide +kernel
theorem d3_safeLoads_11 : decode cX3_safeLoads 11 = .ok (.if_icmp .ge 20, 3) := by decide +kernel
theorem d3_safeLoads_14 : decode cX3_safeLoads 14 = .ok (.aload_n 0, 1) := by decide +kernel
theorem d3_safeLoads_15 : decode cX3_safeLoads 15 = .ok (.iload_n 2, 1) := by decide +kernel
theorem d3_safeLoads_16 : decode cX3_safeLoads 16 = .ok (.invokevirtual 117, 3) := by decide +kernel
theorem d3_safeLoads_19 : decode cX3_safeLoads 19 = .ok (.ifCond .eq 6, 3) := by decide +kernel
theorem d3_safeLoads_22 : decode cX3_safeLoads 22 = .ok (.iinc 1 1, 3) := by decide +kernel
theorem d3_safeLoads_25 : decode cX3_safeLoads 25 = .ok (.iinc 2 1, 3) := by decide +kernel
theorem d3_safeLoads_28 : decode cX3_safeLoads 28 = .ok (.goto (-24), 3) := by decide +kernel
theorem d3_safeLoads_31 : decode cX3_safeLoads 31 = .ok (.iload_n 1, 1) := by decide +kernel
theorem d3_safeLoads_32 : decode cX3_safeLoads 32 = .ok (.ireturn, 1) := by decide +kernel
noncomputable def f3_safeLoads_L4 {α : Type} (KX : Int32 → Int32 → MS → Option α) : Nat → Int32 → Int32 → MS → Option α
  | 0, _, _, _ => none
  | n + 1, v1, v2, S => if ((1 : Int32) <<< ((S.1 2 3) &&& 31)) ≤ v2 then (KX v1 v2 S) else (f3_isSafe v2 S fun r2 S1 => if r2 = 0 then (nm (v2 + 1) fun x2_3 => f3_safeLoads_L4 KX n v1 x2_3 S1) else (nm (v1 + 1) fun x1_4 => nm (v2 + 1) fun x2_5 => f3_safeLoads_L4 KX n x1_4 x2_5 S1))
noncomputable def f3_safeLoads {α : Type} (S : MS) (K : Int32 → MS → Option α) : Option α := f3_safeLoads_L4 (fun v1_7 v2_8 S6 => K v1_7 S6) FU 0 0 S
set_option maxHeartbeats 4000000 in
set_option maxRecDepth 100000 in
theorem l3_safeLoads_4 {α : Type} {X : GX α} (O : OK 30 X RX3 cX3_safeLoads 3 (some .int) (rmG 4 86)) {KX : Int32 → Int32 → MS → Option α} (hX : ∀ v1 v2 S, GM 30 eX X (KX v1 v2 S) S 31 [(0, .ref (aX X 2)), (1, .int v1), (2, .int v2)] []) : ∀ n v1 v2 S, GM 30 eX X (f3_safeLoads_L4 KX n v1 v2 S) S 4 [(0, .ref (aX X 2)), (1, .int v1), (2, .int v2)] [] := by
  intro n
  induction n with
  | zero => intro v1 v2 S; exact r_none
  | succ n ih =>
    intro v1 v2 S
    rw [f3_safeLoads_L4]
    refine r_iload_n O d3_safeLoads_4 2 rfl ?_
    refine r_iconst O d3_safeLoads_5 (v := 1) (by decide) ?_
    refine r_aload_n O d3_safeLoads_6 0 rfl ?_
    refine g_X3_28 O d3_safeLoads_7 ?_
    refine r_ishl O d3_safeLoads_10 ?_
    refine r_icmp_ge O 31 d3_safeLoads_11 (by decide) ?_ ?_
    · refine r_sub [0, 1, 2] rfl ?_
      exact hX _ _ _
    · refine r_aload_n O d3_safeLoads_14 0 rfl ?_
      refine r_iload_n O d3_safeLoads_15 2 rfl ?_
      refine r_callVi O (b := 2) (bv := fun ad => [.int v2]) (rest := []) (c3_isSafe (lX X) v2 S) (fun _ => rfl) (by decide) eX_2 rfl rfl w_359 w_360 w_361 w_46 w_362 hy_X3_isSafe ⟨rfl, rfl, Nat.le_of_ble_eq_true rfl, Nat.le_of_ble_eq_true rfl⟩ rfl rfl (Nat.le_of_ble_eq_true rfl) d3_safeLoads_16 (fun r2 S1 => ?_)
      refine r_if_eq O 25 d3_safeLoads_19 (by decide) ?_ ?_
      · refine r_iinc O d3_safeLoads_25 2 (c0 := 1) rfl (by decide) (fun x2_3 => [(2, .int x2_3), (0, .ref (aX X 2)), (1, .int v1)]) (by decide) (fun _ => rfl) (fun x2_3 => ?_)
        refine r_goto O 4 d3_safeLoads_28 (by decide) ?_
        refine r_sub [1, 2, 0] rfl ?_
        exact ih _ _ _
      · refine r_iinc O d3_safeLoads_22 1 (c0 := 1) rfl (by decide) (fun x1_4 => [(1, .int x1_4), (0, .ref (aX X 2)), (2, .int v2)]) (by decide) (fun _ => rfl) (fun x1_4 => ?_)
        refine r_iinc O d3_safeLoads_25 2 (c0 := 1) rfl (by decide) (fun x2_5 => [(2, .int x2_5), (1, .int x1_4), (0, .ref (aX X 2))]) (by decide) (fun _ => rfl) (fun x2_5 => ?_)
        refine r_goto O 4 d3_safeLoads_28 (by decide) ?_
        refine r_sub [2, 1, 0] rfl ?_
        exact ih _ _ _
set_option maxHeartbeats 4000000 in
set_option maxRecDepth 100000 in
theorem c3_safeLoads (l : Launch) (S : MS) {α : Type} : CtI 30 eX l yX3_safeLoads cX3_safeLoads 3 (some .int) (rmG 4 86) S (fun ad => [.ref (ad 2)]) (α := α) (f3_safeLoads S) := by
  refine CtI.of (by decide) (fun _ => Nat.le_of_ble_eq_true rfl) (fun X K _ O hQ => ?_)
  have O : OK 30 X RX3 cX3_safeLoads 3 (some .int) (rmG 4 86) := O
  show GM 30 eX X (f3_safeLoads S K) S 0 [(0, .ref (aX X 2))] []
  unfold f3_safeLoads
  refine r_iconst O d3_safeLoads_0 (v := 0) (by decide) ?_
  refine r_istore_n O d3_safeLoads_1 [(1, .int 0), (0, .ref (aX X 2))] (by decide) rfl ?_
  refine r_iconst O d3_safeLoads_2 (v := 0) (by decide) ?_
  refine r_istore_n O d3_safeLoads_3 [(2, .int 0), (1, .int 0), (0, .ref (aX X 2))] (by decide) rfl ?_
  refine r_sub [2, 1, 0] rfl ?_
  refine l3_safeLoads_4 O (fun v1_7 v2_8 S6 => ?_) _ _ _ _
  refine r_iload_n O d3_safeLoads_31 1 rfl ?_
  exact r_iret O hQ d3_safeLoads_32
