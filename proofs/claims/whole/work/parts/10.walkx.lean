-- X5.odds
theorem d5_odds_0 : decode cX5_odds 0 = .ok (.iload_n 1, 1) := by decide +kernel
theorem d5_odds_1 : decode cX5_odds 1 = .ok (.ifCond .lt 15, 3) := by decide +kernel
theorem d5_odds_4 : decode cX5_odds 4 = .ok (.iload_n 1, 1) := by decide +kernel
theorem d5_odds_5 : decode cX5_odds 5 = .ok (.iconst 1, 1) := by decide +kernel
theorem d5_odds_6 : decode cX5_odds 6 = .ok (.if_icmp .gt 10, 3) := by decide +kernel
theorem d5_odds_9 : decode cX5_odds 9 = .ok (.aload_n 0, 1) := by decide +kernel
theorem d5_odds_10 : decode cX5_odds 10 = .ok (.invokevirtual 126, 3) := by decide +kernel
theorem d5_odds_13 : decode cX5_odds 13 = .ok (.ifCond .eq 7, 3) := by decide +kernel
theorem d5_odds_16 : decode cX5_odds 16 = .ok (.ldc2_w 171, 3) := by decide +kernel
theorem d5_odds_19 : decode cX5_odds 19 = .ok (.lreturn, 1) := by decide +kernel
theorem d5_odds_20 : decode cX5_odds 20 = .ok (.aload_n 0, 1) := by decide +kernel
theorem d5_odds_21 : decode cX5_odds 21 = .ok (.getfield 20, 3) := by decide +kernel
theorem d5_odds_24 : decode cX5_odds 24 = .ok (.invokevirtual 206, 3) := by decide +kernel
theorem d5_odds_27 : decode cX5_odds 27 = .ok (.istore_n 2, 1) := by decide +kernel
theorem d5_odds_28 : decode cX5_odds 28 = .ok (.iconst 1, 1) := by decide +kernel
theorem d5_odds_29 : decode cX5_odds 29 = .ok (.aload_n 0, 1) := by decide +kernel
theorem d5_odds_30 : decode cX5_odds 30 = .ok (.getfield 20, 3) := by decide +kernel
theorem d5_odds_33 : decode cX5_odds 33 = .ok (.getfield 75, 3) := by decide +kernel
theorem d5_odds_36 : decode cX5_odds 36 = .ok (.ishl, 1) := by decide +kernel
theorem d5_odds_37 : decode cX5_odds 37 = .ok (.istore_n 3, 1) := by decide +kernel
theorem d5_odds_38 : decode cX5_odds 38 = .ok (.iload_n 3, 1) := by decide +kernel
theorem d5_odds_39 : decode cX5_odds 39 = .ok (.iconst 1, 1) := by decide +kernel
theorem d5_odds_40 : decode cX5_odds 40 = .ok (.if_icmp .le 20, 3) := by decide +kernel
theorem d5_odds_43 : decode cX5_odds 43 = .ok (.iload_n 2, 1) := by decide +kernel
theorem d5_odds_44 : decode cX5_odds 44 = .ok (.iconst 2, 1) := by decide +kernel
theorem d5_odds_45 : decode cX5_odds 45 = .ok (.irem, 1) := by decide +kernel
theorem d5_odds_46 : decode cX5_odds 46 = .ok (.ifCond .ne 14, 3) := by decide +kernel
theorem d5_odds_49 : decode cX5_odds 49 = .ok (.iload_n 2, 1) := by decide +kernel
theorem d5_odds_50 : decode cX5_odds 50 = .ok (.iconst 2, 1) := by decide +kernel
theorem d5_odds_51 : decode cX5_odds 51 = .ok (.idiv, 1) := by decide +kernel
theorem d5_odds_52 : decode cX5_odds 52 = .ok (.istore_n 2, 1) := by decide +kernel
theorem d5_odds_53 : decode cX5_odds 53 = .ok (.iload_n 3, 1) := by decide +kernel
theorem d5_odds_54 : decode cX5_odds 54 = .ok (.iconst 2, 1) := by decide +kernel
theorem d5_odds_55 : decode cX5_odds 55 = .ok (.idiv, 1) := by decide +kernel
theorem d5_odds_56 : decode cX5_odds 56 = .ok (.istore_n 3, 1) := by decide +kernel
theorem d5_odds_57 : decode cX5_odds 57 = .ok (.goto (-19), 3) := by decide +kernel
theorem d5_odds_60 : decode cX5_odds 60 = .ok (.iload_n 1, 1) := by decide +kernel
theorem d5_odds_61 : decode cX5_odds 61 = .ok (.ifCond .ne 8, 3) := by decide +kernel
theorem d5_odds_64 : decode cX5_odds 64 = .ok (.iload_n 2, 1) := by decide +kernel
theorem d5_odds_65 : decode cX5_odds 65 = .ok (.i2l, 1) := by decide +kernel
theorem d5_odds_66 : decode cX5_odds 66 = .ok (.goto 5, 3) := by decide +kernel
theorem d5_odds_69 : decode cX5_odds 69 = .ok (.iload_n 3, 1) := by decide +kernel
theorem d5_odds_70 : decode cX5_odds 70 = .ok (.i2l, 1) := by decide +kernel
theorem d5_odds_71 : decode cX5_odds 71 = .ok (.lreturn, 1) := by decide +kernel
noncomputable def f5_odds_L38 {α : Type} (c1 : Int32) (KX : Int32 → Int32 → MS → Option α) : Nat → Int32 → Int32 → MS → Option α
  | 0, _, _, _ => none
  | n + 1, v2, v3, S => if v3 ≤ 1 then (KX v2 v3 S) else (if (v2 - v2 / 2 * 2) = 0 then (nm (v2 / 2) fun x2_6 => nm (v3 / 2) fun x3_7 => f5_odds_L38 c1 KX n x2_6 x3_7 S) else (KX v2 v3 S))
noncomputable def f5_odds {α : Type} (p1 : Int32) (S : MS) (K : Int64 → MS → Option α) : Option α := if p1 < 0 then (K (-9223372036854775808) S) else (if 1 < p1 then (K (-9223372036854775808) S) else (f5_hasNoShip S fun r2 S1 => if r2 = 0 then (f3_safeLoads S1 fun r4 S3 => nm ((1 : Int32) <<< ((S3.1 2 3) &&& 31)) fun x3_5 => f5_odds_L38 p1 (fun v2_9 v3_10 S8 => if p1 = 0 then (K (Int32.toInt64 v2_9) S8) else (K (Int32.toInt64 v3_10) S8)) FU r4 x3_5 S3) else (K (-9223372036854775808) S1)))
set_option maxHeartbeats 4000000 in
set_option maxRecDepth 100000 in
theorem l5_odds_38 {α : Type} {X : GX α} (O : OK 30 X RX5 cX5_odds 4 (some .long) (rmG 5 108)) {c1 : Int32} {KX : Int32 → Int32 → MS → Option α} (hX : ∀ v2 v3 S, GM 30 eX X (KX v2 v3 S) S 60 [(1, .int c1), (2, .int v2), (3, .int v3)] []) : ∀ n v2 v3 S, GM 30 eX X (f5_odds_L38 c1 KX n v2 v3 S) S 38 [(1, .int c1), (2, .int v2), (3, .int v3)] [] := by
  intro n
  induction n with
  | zero => intro v2 v3 S; exact r_none
  | succ n ih =>
    intro v2 v3 S
    rw [f5_odds_L38]
    refine r_iload_n O d5_odds_38 2 rfl ?_
    refine r_iconst O d5_odds_39 (v := 1) (by decide) ?_
    refine r_icmp_le O 60 d5_odds_40 (by decide) ?_ ?_
    · refine r_sub [0, 1, 2] rfl ?_
      exact hX _ _ _
    · refine r_iload_n O d5_odds_43 1 rfl ?_
      refine r_iconst O d5_odds_44 (v := 2) (by decide) ?_
      refine r_irem_c O (by decide) d5_odds_45 ?_
      refine r_if_ne O 60 d5_odds_46 (by decide) ?_ ?_
      · refine r_sub [0, 1, 2] rfl ?_
        exact hX _ _ _
      · refine r_iload_n O d5_odds_49 1 rfl ?_
        refine r_iconst O d5_odds_50 (v := 2) (by decide) ?_
        refine r_idiv_c O (by decide) d5_odds_51 ?_
        refine r_istore_n_nm O d5_odds_52 (fun x2_6 => [(2, .int x2_6), (1, .int c1), (3, .int v3)]) (by decide) (fun _ => rfl) (fun x2_6 => ?_)
        refine r_iload_n O d5_odds_53 2 rfl ?_
        refine r_iconst O d5_odds_54 (v := 2) (by decide) ?_
        refine r_idiv_c O (by decide) d5_odds_55 ?_
        refine r_istore_n_nm O d5_odds_56 (fun x3_7 => [(3, .int x3_7), (2, .int x2_6), (1, .int c1)]) (by decide) (fun _ => rfl) (fun x3_7 => ?_)
        refine r_goto O 38 d5_odds_57 (by decide) ?_
        refine r_sub [2, 1, 0] rfl ?_
        exact ih _ _ _
set_option maxHeartbeats 4000000 in
set_option maxRecDepth 100000 in
theorem c5_odds (l : Launch) (p1 : Int32) (S : MS) {α : Type} : CtL 30 eX l yX5_odds cX5_odds 4 (some .long) (rmG 5 108) S (fun ad => [.ref (ad 0), .int p1]) (α := α) (f5_odds p1 S) := by
  refine CtL.of (by decide) (fun _ => Nat.le_of_ble_eq_true rfl) (fun X K _ O hQ => ?_)
  have O : OK 30 X RX5 cX5_odds 4 (some .long) (rmG 5 108) := O
  show GM 30 eX X (f5_odds p1 S K) S 0 [(0, .ref (aX X 0)), (1, .int p1)] []
  unfold f5_odds
  refine r_iload_n O d5_odds_0 1 rfl ?_
  refine r_if_lt O 16 d5_odds_1 (by decide) ?_ ?_
  · refine r_ldc2 O (v := (-9223372036854775808)) w_457 d5_odds_16 ?_
    exact r_lret O hQ d5_odds_19
  · refine r_iload_n O d5_odds_4 1 rfl ?_
    refine r_iconst O d5_odds_5 (v := 1) (by decide) ?_
    refine r_icmp_gt O 16 d5_odds_6 (by decide) ?_ ?_
    · refine r_ldc2 O (v := (-9223372036854775808)) w_457 d5_odds_16 ?_
      exact r_lret O hQ d5_odds_19
    · refine r_aload_n O d5_odds_9 0 rfl ?_
      refine r_callVi O (b := 0) (bv := fun ad => []) (rest := []) (c5_hasNoShip (lX X) S) (fun _ => rfl) (by decide) eX_0 rfl rfl w_375 w_377 w_2 w_45 w_378 hy_X5_hasNoShip ⟨rfl, rfl, Nat.le_of_ble_eq_true rfl, Nat.le_of_ble_eq_true rfl⟩ rfl rfl (Nat.le_of_ble_eq_true rfl) d5_odds_10 (fun r2 S1 => ?_)
      refine r_if_eq O 20 d5_odds_13 (by decide) ?_ ?_
      · refine r_aload_n O d5_odds_20 0 rfl ?_
        refine g_X5_20 O d5_odds_21 ?_
        refine r_callVi O (b := 2) (bv := fun ad => []) (rest := []) (c3_safeLoads (lX X) S1) (fun _ => rfl) (by decide) eX_2 rfl rfl w_541 w_542 w_543 w_46 w_544 hy_X3_safeLoads ⟨rfl, rfl, Nat.le_of_ble_eq_true rfl, Nat.le_of_ble_eq_true rfl⟩ rfl rfl (Nat.le_of_ble_eq_true rfl) d5_odds_24 (fun r4 S3 => ?_)
        refine r_istore_n O d5_odds_27 [(2, .int r4), (0, .ref (aX X 0)), (1, .int p1)] (by decide) rfl ?_
        refine r_iconst O d5_odds_28 (v := 1) (by decide) ?_
        refine r_aload_n O d5_odds_29 1 rfl ?_
        refine g_X5_20 O d5_odds_30 ?_
        refine g_X5_75 O d5_odds_33 ?_
        refine r_ishl O d5_odds_36 ?_
        refine r_istore_n_nm O d5_odds_37 (fun x3_5 => [(3, .int x3_5), (2, .int r4), (0, .ref (aX X 0)), (1, .int p1)]) (by decide) (fun _ => rfl) (fun x3_5 => ?_)
        refine r_sub [3, 1, 0] rfl ?_
        refine l5_odds_38 O (fun v2_9 v3_10 S8 => ?_) _ _ _ _
        refine r_iload_n O d5_odds_60 0 rfl ?_
        refine r_if_ne O 69 d5_odds_61 (by decide) ?_ ?_
        · refine r_iload_n O d5_odds_69 2 rfl ?_
          refine r_i2l O d5_odds_70 ?_
          exact r_lret O hQ d5_odds_71
        · refine r_iload_n O d5_odds_64 1 rfl ?_
          refine r_i2l O d5_odds_65 ?_
          refine r_goto O 71 d5_odds_66 (by decide) ?_
          exact r_lret O hQ d5_odds_71
      · refine r_ldc2 O (v := (-9223372036854775808)) w_457 d5_odds_16 ?_
        exact r_lret O hQ d5_odds_19
-- X1.renew
theorem d1_renew_0 : decode cX1_renew 0 = .ok (.aload_n 0, 1) := by decide +kernel
theorem d1_renew_1 : decode cX1_renew 1 = .ok (.iload_n 1, 1) := by decide +kernel
theorem d1_renew_2 : decode cX1_renew 2 = .ok (.putfield 15, 3) := by decide +kernel
theorem d1_renew_5 : decode cX1_renew 5 = .ok (.aload_n 0, 1) := by decide +kernel
theorem d1_renew_6 : decode cX1_renew 6 = .ok (.iload_n 2, 1) := by decide +kernel
theorem d1_renew_7 : decode cX1_renew 7 = .ok (.putfield 19, 3) := by decide +kernel
theorem d1_renew_10 : decode cX1_renew 10 = .ok (.aload_n 0, 1) := by decide +kernel
theorem d1_renew_11 : decode cX1_renew 11 = .ok (.getfield 9, 3) := by decide +kernel
theorem d1_renew_14 : decode cX1_renew 14 = .ok (.iconst 0, 1) := by decide +kernel
theorem d1_renew_15 : decode cX1_renew 15 = .ok (.invokestatic 22, 3) := by decide +kernel
theorem d1_renew_18 : decode cX1_renew 18 = .ok (.return_, 1) := by decide +kernel
noncomputable def f1_renew {α : Type} (k : Nat) (p1 : Int32) (p2 : Int32) (S : MS) (K : MS → Option α) : Option α := nm (sI S (16 + k) 1 p1) fun S1 => nm (sI S1 (16 + k) 2 p2) fun S2 => fJ7_fill (20 + k) 60 0 S2 fun S3 => K S3
set_option maxHeartbeats 4000000 in
set_option maxRecDepth 100000 in
theorem c1_renew (l : Launch) (k : Nat) (p1 : Int32) (p2 : Int32) (hk : k < 4) (S : MS) {α : Type} : CtV 30 eX l yX1_renew cX1_renew 3 none (rmG 1 23) S (fun ad => [.ref (ad (16 + k)), .int p1, .int p2]) (α := α) (f1_renew k p1 p2 S) := by
  refine CtV.of (by decide) (fun _ => Nat.le_of_ble_eq_true rfl) (fun X K _ O hQ => ?_)
  have O : OK 30 X RX1 cX1_renew 3 none (rmG 1 23) := O
  show GM 30 eX X (f1_renew k p1 p2 S K) S 0 [(0, .ref (aX X (16 + k))), (1, .int p1), (2, .int p2)] []
  unfold f1_renew
  refine r_aload_n O d1_renew_0 0 rfl ?_
  refine r_iload_n O d1_renew_1 1 rfl ?_
  refine p_X1_15 O hk d1_renew_2 (fun S1 => ?_)
  refine r_aload_n O d1_renew_5 0 rfl ?_
  refine r_iload_n O d1_renew_6 2 rfl ?_
  refine p_X1_19 O hk d1_renew_7 (fun S2 => ?_)
  refine r_aload_n O d1_renew_10 0 rfl ?_
  refine g_X1_9 O hk d1_renew_11 ?_
  refine r_iconst O d1_renew_14 (v := 0) (by decide) ?_
  refine r_callSv O (rest := []) (cJ7_fill (lX X) (20 + k) 60 0 S2 (by omega) (fun _ _ _ _ => (eX_cel hk)) (Nat.le_of_ble_eq_true rfl)) w_553 w_294 w_53 w_295 hy_J7_fill_53178 ⟨rfl, rfl, Nat.le_of_ble_eq_true rfl, Nat.le_of_ble_eq_true rfl⟩ rfl rfl (Nat.le_of_ble_eq_true rfl) d1_renew_15 (fun S3 => ?_)
  exact r_vret O hQ d1_renew_18
-- X5.sheet
theorem d5_sheet_0 : decode cX5_sheet 0 = .ok (.aload_n 0, 1) := by decide +kernel
theorem d5_sheet_1 : decode cX5_sheet 1 = .ok (.iconst 0, 1) := by decide +kernel
theorem d5_sheet_2 : decode cX5_sheet 2 = .ok (.putfield 42, 3) := by decide +kernel
theorem d5_sheet_5 : decode cX5_sheet 5 = .ok (.iload_n 1, 1) := by decide +kernel
theorem d5_sheet_6 : decode cX5_sheet 6 = .ok (.invokestatic 46, 3) := by decide +kernel
theorem d5_sheet_9 : decode cX5_sheet 9 = .ok (.ifCond .ne 5, 3) := by decide +kernel
theorem d5_sheet_12 : decode cX5_sheet 12 = .ok (.iconst (-1), 1) := by decide +kernel
theorem d5_sheet_13 : decode cX5_sheet 13 = .ok (.ireturn, 1) := by decide +kernel
theorem d5_sheet_14 : decode cX5_sheet 14 = .ok (.iload_n 2, 1) := by decide +kernel
theorem d5_sheet_15 : decode cX5_sheet 15 = .ok (.invokestatic 50, 3) := by decide +kernel
theorem d5_sheet_18 : decode cX5_sheet 18 = .ok (.ifCond .eq 9, 3) := by decide +kernel
theorem d5_sheet_21 : decode cX5_sheet 21 = .ok (.iload_n 3, 1) := by decide +kernel
theorem d5_sheet_22 : decode cX5_sheet 22 = .ok (.bipush 60, 2) := by decide +kernel
theorem d5_sheet_24 : decode cX5_sheet 24 = .ok (.if_icmp .le 6, 3) := by decide +kernel
theorem d5_sheet_27 : decode cX5_sheet 27 = .ok (.bipush (-2), 2) := by decide +kernel
theorem d5_sheet_29 : decode cX5_sheet 29 = .ok (.ireturn, 1) := by decide +kernel
theorem d5_sheet_30 : decode cX5_sheet 30 = .ok (.iload_n 3, 1) := by decide +kernel
theorem d5_sheet_31 : decode cX5_sheet 31 = .ok (.ifCond .ge 9, 3) := by decide +kernel
theorem d5_sheet_34 : decode cX5_sheet 34 = .ok (.aload_n 0, 1) := by decide +kernel
theorem d5_sheet_35 : decode cX5_sheet 35 = .ok (.iconst 4, 1) := by decide +kernel
theorem d5_sheet_36 : decode cX5_sheet 36 = .ok (.invokevirtual 61, 3) := by decide +kernel
theorem d5_sheet_39 : decode cX5_sheet 39 = .ok (.ireturn, 1) := by decide +kernel
theorem d5_sheet_40 : decode cX5_sheet 40 = .ok (.aload_n 0, 1) := by decide +kernel
theorem d5_sheet_41 : decode cX5_sheet 41 = .ok (.getfield 13, 3) := by decide +kernel
theorem d5_sheet_44 : decode cX5_sheet 44 = .ok (.iload_n 1, 1) := by decide +kernel
theorem d5_sheet_45 : decode cX5_sheet 45 = .ok (.aaload, 1) := by decide +kernel
theorem d5_sheet_46 : decode cX5_sheet 46 = .ok (.iload_n 2, 1) := by decide +kernel
theorem d5_sheet_47 : decode cX5_sheet 47 = .ok (.iload_n 3, 1) := by decide +kernel
theorem d5_sheet_48 : decode cX5_sheet 48 = .ok (.invokevirtual 209, 3) := by decide +kernel
theorem d5_sheet_51 : decode cX5_sheet 51 = .ok (.iconst 1, 1) := by decide +kernel
theorem d5_sheet_52 : decode cX5_sheet 52 = .ok (.ireturn, 1) := by decide +kernel
noncomputable def f5_sheet {α : Type} (p1 : Int32) (p2 : Int32) (p3 : Int32) (S : MS) (K : Int32 → MS → Option α) : Option α := nm (sI S 0 6 0) fun S1 => f5_isSheet p1 S1 fun r3 S2 => if r3 = 0 then (K (-1) S2) else (f5_isLane p2 S2 fun r5 S4 => if r5 = 0 then (K (-2) S4) else (if p3 ≤ 60 then (if 0 ≤ p3 then (ck p1 4 fun k6 => f1_renew k6 p2 p3 S4 fun S7 => K 1 S7) else (f5_faulted 4 S4 fun r10 S9 => K r10 S9)) else (K (-2) S4)))
set_option maxHeartbeats 4000000 in
set_option maxRecDepth 100000 in
theorem c5_sheet (l : Launch) (p1 : Int32) (p2 : Int32) (p3 : Int32) (S : MS) {α : Type} : CtI 30 eX l yX5_sheet cX5_sheet 4 (some .int) (rmG 2 45) S (fun ad => [.ref (ad 0), .int p1, .int p2, .int p3]) (α := α) (f5_sheet p1 p2 p3 S) := by
  refine CtI.of (by decide) (fun _ => Nat.le_of_ble_eq_true rfl) (fun X K _ O hQ => ?_)
  have O : OK 30 X RX5 cX5_sheet 4 (some .int) (rmG 2 45) := O
  show GM 30 eX X (f5_sheet p1 p2 p3 S K) S 0 [(0, .ref (aX X 0)), (1, .int p1), (2, .int p2), (3, .int p3)] []
  unfold f5_sheet
  refine r_aload_n O d5_sheet_0 0 rfl ?_
  refine r_iconst O d5_sheet_1 (v := 0) (by decide) ?_
  refine p_X5_42 O d5_sheet_2 (fun S1 => ?_)
  refine r_iload_n O d5_sheet_5 1 rfl ?_
  refine r_callSi O (rest := []) (c5_isSheet (lX X) p1 S1) w_240 w_241 w_45 w_242 hy_X5_isSheet ⟨rfl, rfl, Nat.le_of_ble_eq_true rfl, Nat.le_of_ble_eq_true rfl⟩ rfl rfl (Nat.le_of_ble_eq_true rfl) d5_sheet_6 (fun r3 S2 => ?_)
  refine r_if_ne O 14 d5_sheet_9 (by decide) ?_ ?_
  · refine r_iload_n O d5_sheet_14 2 rfl ?_
    refine r_callSi O (rest := []) (c5_isLane (lX X) p2 S2) w_243 w_244 w_45 w_245 hy_X5_isLane ⟨rfl, rfl, Nat.le_of_ble_eq_true rfl, Nat.le_of_ble_eq_true rfl⟩ rfl rfl (Nat.le_of_ble_eq_true rfl) d5_sheet_15 (fun r5 S4 => ?_)
    refine r_if_eq O 27 d5_sheet_18 (by decide) ?_ ?_
    · refine r_bipush O d5_sheet_27 (v := (-2)) (by decide) ?_
      exact r_iret O hQ d5_sheet_29
    · refine r_iload_n O d5_sheet_21 3 rfl ?_
      refine r_bipush O d5_sheet_22 (v := 60) (by decide) ?_
      refine r_icmp_le O 30 d5_sheet_24 (by decide) ?_ ?_
      · refine r_iload_n O d5_sheet_30 3 rfl ?_
        refine r_if_ge O 40 d5_sheet_31 (by decide) ?_ ?_
        · refine r_aload_n O d5_sheet_40 0 rfl ?_
          refine g_X5_13 O d5_sheet_41 ?_
          refine r_iload_n O d5_sheet_44 1 rfl ?_
          refine r_aald O (b := 16) (by decide) eX_1 rfl d5_sheet_45 (fun k6 hk6 => ?_)
          refine r_iload_n O d5_sheet_46 2 rfl ?_
          refine r_iload_n O d5_sheet_47 3 rfl ?_
          refine r_callVv O (b := (16 + k6)) (bv := fun ad => [.int p2, .int p3]) (rest := []) (c1_renew (lX X) k6 p2 p3 hk6 S4) (fun _ => rfl) (by omega) (eX_row hk6) rfl rfl w_549 w_550 w_551 w_50 w_552 hy_X1_renew ⟨rfl, rfl, Nat.le_of_ble_eq_true rfl, Nat.le_of_ble_eq_true rfl⟩ rfl rfl (Nat.le_of_ble_eq_true rfl) d5_sheet_48 (fun S7 => ?_)
          refine r_iconst O d5_sheet_51 (v := 1) (by decide) ?_
          exact r_iret O hQ d5_sheet_52
        · refine r_aload_n O d5_sheet_34 0 rfl ?_
          refine r_iconst O d5_sheet_35 (v := 4) (by decide) ?_
          refine r_callVi O (b := 0) (bv := fun ad => [.int 4]) (rest := []) (c5_faulted (lX X) 4 S4) (fun _ => rfl) (by decide) eX_0 rfl rfl w_258 w_260 w_0 w_45 w_261 hy_X5_faulted ⟨rfl, rfl, Nat.le_of_ble_eq_true rfl, Nat.le_of_ble_eq_true rfl⟩ rfl rfl (Nat.le_of_ble_eq_true rfl) d5_sheet_36 (fun r10 S9 => ?_)
          exact r_iret O hQ d5_sheet_39
      · refine r_bipush O d5_sheet_27 (v := (-2)) (by decide) ?_
        exact r_iret O hQ d5_sheet_29
  · refine r_iconst O d5_sheet_12 (v := (-1)) (by decide) ?_
    exact r_iret O hQ d5_sheet_13
-- X1.drop
theorem d1_drop_0 : decode cX1_drop 0 = .ok (.aload_n 0, 1) := by decide +kernel
theorem d1_drop_1 : decode cX1_drop 1 = .ok (.iconst (-1), 1) := by decide +kernel
theorem d1_drop_2 : decode cX1_drop 2 = .ok (.putfield 15, 3) := by decide +kernel
theorem d1_drop_5 : decode cX1_drop 5 = .ok (.aload_n 0, 1) := by decide +kernel
theorem d1_drop_6 : decode cX1_drop 6 = .ok (.iconst 0, 1) := by decide +kernel
theorem d1_drop_7 : decode cX1_drop 7 = .ok (.putfield 19, 3) := by decide +kernel
theorem d1_drop_10 : decode cX1_drop 10 = .ok (.return_, 1) := by decide +kernel
noncomputable def f1_drop {α : Type} (k : Nat) (S : MS) (K : MS → Option α) : Option α := nm (sI S (16 + k) 1 (-1)) fun S1 => nm (sI S1 (16 + k) 2 0) fun S2 => K S2
set_option maxHeartbeats 4000000 in
set_option maxRecDepth 100000 in
theorem c1_drop (l : Launch) (k : Nat) (hk : k < 4) (S : MS) {α : Type} : CtV 30 eX l yX1_drop cX1_drop 1 none (rmG 0 0) S (fun ad => [.ref (ad (16 + k))]) (α := α) (f1_drop k S) := by
  refine CtV.of (by decide) (fun _ => Nat.le_of_ble_eq_true rfl) (fun X K _ O hQ => ?_)
  have O : OK 30 X RX1 cX1_drop 1 none (rmG 0 0) := O
  show GM 30 eX X (f1_drop k S K) S 0 [(0, .ref (aX X (16 + k)))] []
  unfold f1_drop
  refine r_aload_n O d1_drop_0 0 rfl ?_
  refine r_iconst O d1_drop_1 (v := (-1)) (by decide) ?_
  refine p_X1_15 O hk d1_drop_2 (fun S1 => ?_)
  refine r_aload_n O d1_drop_5 0 rfl ?_
  refine r_iconst O d1_drop_6 (v := 0) (by decide) ?_
  refine p_X1_19 O hk d1_drop_7 (fun S2 => ?_)
  exact r_vret O hQ d1_drop_10
-- X5.lose
theorem d5_lose_0 : decode cX5_lose 0 = .ok (.iload_n 1, 1) := by decide +kernel
theorem d5_lose_1 : decode cX5_lose 1 = .ok (.invokestatic 46, 3) := by decide +kernel
theorem d5_lose_4 : decode cX5_lose 4 = .ok (.ifCond .ne 5, 3) := by decide +kernel
theorem d5_lose_7 : decode cX5_lose 7 = .ok (.iconst (-1), 1) := by decide +kernel
theorem d5_lose_8 : decode cX5_lose 8 = .ok (.ireturn, 1) := by decide +kernel
theorem d5_lose_9 : decode cX5_lose 9 = .ok (.aload_n 0, 1) := by decide +kernel
theorem d5_lose_10 : decode cX5_lose 10 = .ok (.getfield 13, 3) := by decide +kernel
theorem d5_lose_13 : decode cX5_lose 13 = .ok (.iload_n 1, 1) := by decide +kernel
theorem d5_lose_14 : decode cX5_lose 14 = .ok (.aaload, 1) := by decide +kernel
theorem d5_lose_15 : decode cX5_lose 15 = .ok (.invokevirtual 213, 3) := by decide +kernel
theorem d5_lose_18 : decode cX5_lose 18 = .ok (.ifCond .eq 5, 3) := by decide +kernel
theorem d5_lose_21 : decode cX5_lose 21 = .ok (.iconst 0, 1) := by decide +kernel
theorem d5_lose_22 : decode cX5_lose 22 = .ok (.ireturn, 1) := by decide +kernel
theorem d5_lose_23 : decode cX5_lose 23 = .ok (.aload_n 0, 1) := by decide +kernel
theorem d5_lose_24 : decode cX5_lose 24 = .ok (.getfield 13, 3) := by decide +kernel
theorem d5_lose_27 : decode cX5_lose 27 = .ok (.iload_n 1, 1) := by decide +kernel
theorem d5_lose_28 : decode cX5_lose 28 = .ok (.aaload, 1) := by decide +kernel
theorem d5_lose_29 : decode cX5_lose 29 = .ok (.invokevirtual 216, 3) := by decide +kernel
theorem d5_lose_32 : decode cX5_lose 32 = .ok (.iconst 1, 1) := by decide +kernel
theorem d5_lose_33 : decode cX5_lose 33 = .ok (.ireturn, 1) := by decide +kernel
noncomputable def f5_lose {α : Type} (p1 : Int32) (S : MS) (K : Int32 → MS → Option α) : Option α := f5_isSheet p1 S fun r2 S1 => if r2 = 0 then (K (-1) S1) else (ck p1 4 fun k3 => f1_isNothing k3 S1 fun r5 S4 => if r5 = 0 then (ck p1 4 fun k6 => f1_drop k6 S4 fun S7 => K 1 S7) else (K 0 S4))
set_option maxHeartbeats 4000000 in
set_option maxRecDepth 100000 in
theorem c5_lose (l : Launch) (p1 : Int32) (S : MS) {α : Type} : CtI 30 eX l yX5_lose cX5_lose 2 (some .int) (rmG 1 20) S (fun ad => [.ref (ad 0), .int p1]) (α := α) (f5_lose p1 S) := by
  refine CtI.of (by decide) (fun _ => Nat.le_of_ble_eq_true rfl) (fun X K _ O hQ => ?_)
  have O : OK 30 X RX5 cX5_lose 2 (some .int) (rmG 1 20) := O
  show GM 30 eX X (f5_lose p1 S K) S 0 [(0, .ref (aX X 0)), (1, .int p1)] []
  unfold f5_lose
  refine r_iload_n O d5_lose_0 1 rfl ?_
  refine r_callSi O (rest := []) (c5_isSheet (lX X) p1 S) w_240 w_241 w_45 w_242 hy_X5_isSheet ⟨rfl, rfl, Nat.le_of_ble_eq_true rfl, Nat.le_of_ble_eq_true rfl⟩ rfl rfl (Nat.le_of_ble_eq_true rfl) d5_lose_1 (fun r2 S1 => ?_)
  refine r_if_ne O 9 d5_lose_4 (by decide) ?_ ?_
  · refine r_aload_n O d5_lose_9 0 rfl ?_
    refine g_X5_13 O d5_lose_10 ?_
    refine r_iload_n O d5_lose_13 1 rfl ?_
    refine r_aald O (b := 16) (by decide) eX_1 rfl d5_lose_14 (fun k3 hk3 => ?_)
    refine r_callVi O (b := (16 + k3)) (bv := fun ad => []) (rest := []) (c1_isNothing (lX X) k3 hk3 S1) (fun _ => rfl) (by omega) (eX_row hk3) rfl rfl w_558 w_251 w_252 w_50 w_253 hy_X1_isNothing ⟨rfl, rfl, Nat.le_of_ble_eq_true rfl, Nat.le_of_ble_eq_true rfl⟩ rfl rfl (Nat.le_of_ble_eq_true rfl) d5_lose_15 (fun r5 S4 => ?_)
    refine r_if_eq O 23 d5_lose_18 (by decide) ?_ ?_
    · refine r_aload_n O d5_lose_23 0 rfl ?_
      refine g_X5_13 O d5_lose_24 ?_
      refine r_iload_n O d5_lose_27 1 rfl ?_
      refine r_aald O (b := 16) (by decide) eX_1 rfl d5_lose_28 (fun k6 hk6 => ?_)
      refine r_callVv O (b := (16 + k6)) (bv := fun ad => []) (rest := []) (c1_drop (lX X) k6 hk6 S4) (fun _ => rfl) (by omega) (eX_row hk6) rfl rfl w_559 w_560 w_561 w_50 w_562 hy_X1_drop ⟨rfl, rfl, Nat.le_of_ble_eq_true rfl, Nat.le_of_ble_eq_true rfl⟩ rfl rfl (Nat.le_of_ble_eq_true rfl) d5_lose_29 (fun S7 => ?_)
      refine r_iconst O d5_lose_32 (v := 1) (by decide) ?_
      exact r_iret O hQ d5_lose_33
    · refine r_iconst O d5_lose_21 (v := 0) (by decide) ?_
      exact r_iret O hQ d5_lose_22
  · refine r_iconst O d5_lose_7 (v := (-1)) (by decide) ?_
    exact r_iret O hQ d5_lose_8
-- X1.write
theorem d1_write_0 : decode cX1_write 0 = .ok (.aload_n 0, 1) := by decide +kernel
theorem d1_write_1 : decode cX1_write 1 = .ok (.getfield 15, 3) := by decide +kernel
theorem d1_write_4 : decode cX1_write 4 = .ok (.ifCond .ne 14, 3) := by decide +kernel
theorem d1_write_7 : decode cX1_write 7 = .ok (.aload_n 0, 1) := by decide +kernel
theorem d1_write_8 : decode cX1_write 8 = .ok (.getfield 9, 3) := by decide +kernel
theorem d1_write_11 : decode cX1_write 11 = .ok (.iload_n 1, 1) := by decide +kernel
theorem d1_write_12 : decode cX1_write 12 = .ok (.iload_n 2, 1) := by decide +kernel
theorem d1_write_13 : decode cX1_write 13 = .ok (.i2b, 1) := by decide +kernel
theorem d1_write_14 : decode cX1_write 14 = .ok (.iastore, 1) := by decide +kernel
theorem d1_write_15 : decode cX1_write 15 = .ok (.goto 29, 3) := by decide +kernel
theorem d1_write_18 : decode cX1_write 18 = .ok (.aload_n 0, 1) := by decide +kernel
theorem d1_write_19 : decode cX1_write 19 = .ok (.getfield 15, 3) := by decide +kernel
theorem d1_write_22 : decode cX1_write 22 = .ok (.iconst 1, 1) := by decide +kernel
theorem d1_write_23 : decode cX1_write 23 = .ok (.if_icmp .ne 14, 3) := by decide +kernel
theorem d1_write_26 : decode cX1_write 26 = .ok (.aload_n 0, 1) := by decide +kernel
theorem d1_write_27 : decode cX1_write 27 = .ok (.getfield 9, 3) := by decide +kernel
theorem d1_write_30 : decode cX1_write 30 = .ok (.iload_n 1, 1) := by decide +kernel
theorem d1_write_31 : decode cX1_write 31 = .ok (.iload_n 2, 1) := by decide +kernel
theorem d1_write_32 : decode cX1_write 32 = .ok (.i2s, 1) := by decide +kernel
theorem d1_write_33 : decode cX1_write 33 = .ok (.iastore, 1) := by decide +kernel
theorem d1_write_34 : decode cX1_write 34 = .ok (.goto 10, 3) := by decide +kernel
theorem d1_write_37 : decode cX1_write 37 = .ok (.aload_n 0, 1) := by decide +kernel
theorem d1_write_38 : decode cX1_write 38 = .ok (.getfield 9, 3) := by decide +kernel
theorem d1_write_41 : decode cX1_write 41 = .ok (.iload_n 1, 1) := by decide +kernel
theorem d1_write_42 : decode cX1_write 42 = .ok (.iload_n 2, 1) := by decide +kernel
theorem d1_write_43 : decode cX1_write 43 = .ok (.iastore, 1) := by decide +kernel
theorem d1_write_44 : decode cX1_write 44 = .ok (.return_, 1) := by decide +kernel
noncomputable def f1_write {α : Type} (k : Nat) (p1 : Int32) (p2 : Int32) (S : MS) (K : MS → Option α) : Option α := if (S.1 (16 + k) 1) = 0 then (ck p1 60 fun k5 => nm (sI S (20 + k) k5 p2.toInt8.toInt32) fun S6 => K S6) else (if (S.1 (16 + k) 1) = 1 then (ck p1 60 fun k3 => nm (sI S (20 + k) k3 p2.toInt16.toInt32) fun S4 => K S4) else (ck p1 60 fun k1 => nm (sI S (20 + k) k1 p2) fun S2 => K S2))
set_option maxHeartbeats 4000000 in
set_option maxRecDepth 100000 in
theorem c1_write (l : Launch) (k : Nat) (p1 : Int32) (p2 : Int32) (hk : k < 4) (S : MS) {α : Type} : CtV 30 eX l yX1_write cX1_write 3 none (rmG 0 0) S (fun ad => [.ref (ad (16 + k)), .int p1, .int p2]) (α := α) (f1_write k p1 p2 S) := by
  refine CtV.of (by decide) (fun _ => Nat.le_of_ble_eq_true rfl) (fun X K _ O hQ => ?_)
  have O : OK 30 X RX1 cX1_write 3 none (rmG 0 0) := O
  show GM 30 eX X (f1_write k p1 p2 S K) S 0 [(0, .ref (aX X (16 + k))), (1, .int p1), (2, .int p2)] []
  unfold f1_write
  refine r_aload_n O d1_write_0 0 rfl ?_
  refine g_X1_15 O hk d1_write_1 ?_
  refine r_if_ne O 18 d1_write_4 (by decide) ?_ ?_
  · refine r_aload_n O d1_write_18 0 rfl ?_
    refine g_X1_15 O hk d1_write_19 ?_
    refine r_iconst O d1_write_22 (v := 1) (by decide) ?_
    refine r_icmp_ne O 37 d1_write_23 (by decide) ?_ ?_
    · refine r_aload_n O d1_write_37 0 rfl ?_
      refine g_X1_9 O hk d1_write_38 ?_
      refine r_iload_n O d1_write_41 1 rfl ?_
      refine r_iload_n O d1_write_42 2 rfl ?_
      refine r_iast O (j := (20 + k)) (by omega) (fun _ => (eX_cel hk)) d1_write_43 (fun S2 => ?_)
      exact r_vret O hQ d1_write_44
    · refine r_aload_n O d1_write_26 0 rfl ?_
      refine g_X1_9 O hk d1_write_27 ?_
      refine r_iload_n O d1_write_30 1 rfl ?_
      refine r_iload_n O d1_write_31 2 rfl ?_
      refine r_i2s O d1_write_32 ?_
      refine r_iast O (j := (20 + k)) (by omega) (fun _ => (eX_cel hk)) d1_write_33 (fun S4 => ?_)
      refine r_goto O 44 d1_write_34 (by decide) ?_
      exact r_vret O hQ d1_write_44
  · refine r_aload_n O d1_write_7 0 rfl ?_
    refine g_X1_9 O hk d1_write_8 ?_
    refine r_iload_n O d1_write_11 1 rfl ?_
    refine r_iload_n O d1_write_12 2 rfl ?_
    refine r_i2b O d1_write_13 ?_
    refine r_iast O (j := (20 + k)) (by omega) (fun _ => (eX_cel hk)) d1_write_14 (fun S6 => ?_)
    refine r_goto O 44 d1_write_15 (by decide) ?_
    exact r_vret O hQ d1_write_44
-- X5.put
theorem d5_put_0 : decode cX5_put 0 = .ok (.aload_n 0, 1) := by decide +kernel
theorem d5_put_1 : decode cX5_put 1 = .ok (.iconst 0, 1) := by decide +kernel
theorem d5_put_2 : decode cX5_put 2 = .ok (.putfield 42, 3) := by decide +kernel
theorem d5_put_5 : decode cX5_put 5 = .ok (.iload_n 1, 1) := by decide +kernel
theorem d5_put_6 : decode cX5_put 6 = .ok (.invokestatic 46, 3) := by decide +kernel
theorem d5_put_9 : decode cX5_put 9 = .ok (.ifCond .ne 5, 3) := by decide +kernel
theorem d5_put_12 : decode cX5_put 12 = .ok (.iconst (-1), 1) := by decide +kernel
theorem d5_put_13 : decode cX5_put 13 = .ok (.ireturn, 1) := by decide +kernel
theorem d5_put_14 : decode cX5_put 14 = .ok (.aload_n 0, 1) := by decide +kernel
theorem d5_put_15 : decode cX5_put 15 = .ok (.getfield 13, 3) := by decide +kernel
theorem d5_put_18 : decode cX5_put 18 = .ok (.iload_n 1, 1) := by decide +kernel
theorem d5_put_19 : decode cX5_put 19 = .ok (.aaload, 1) := by decide +kernel
theorem d5_put_20 : decode cX5_put 20 = .ok (.invokevirtual 213, 3) := by decide +kernel
theorem d5_put_23 : decode cX5_put 23 = .ok (.ifCond .eq 9, 3) := by decide +kernel
theorem d5_put_26 : decode cX5_put 26 = .ok (.aload_n 0, 1) := by decide +kernel
theorem d5_put_27 : decode cX5_put 27 = .ok (.iconst 1, 1) := by decide +kernel
theorem d5_put_28 : decode cX5_put 28 = .ok (.invokevirtual 61, 3) := by decide +kernel
theorem d5_put_31 : decode cX5_put 31 = .ok (.ireturn, 1) := by decide +kernel
theorem d5_put_32 : decode cX5_put 32 = .ok (.aload_n 0, 1) := by decide +kernel
theorem d5_put_33 : decode cX5_put 33 = .ok (.getfield 13, 3) := by decide +kernel
theorem d5_put_36 : decode cX5_put 36 = .ok (.iload_n 1, 1) := by decide +kernel
theorem d5_put_37 : decode cX5_put 37 = .ok (.aaload, 1) := by decide +kernel
theorem d5_put_38 : decode cX5_put 38 = .ok (.iload_n 2, 1) := by decide +kernel
theorem d5_put_39 : decode cX5_put 39 = .ok (.iconst 1, 1) := by decide +kernel
theorem d5_put_40 : decode cX5_put 40 = .ok (.invokevirtual 57, 3) := by decide +kernel
theorem d5_put_43 : decode cX5_put 43 = .ok (.ifCond .ne 9, 3) := by decide +kernel
theorem d5_put_46 : decode cX5_put 46 = .ok (.aload_n 0, 1) := by decide +kernel
theorem d5_put_47 : decode cX5_put 47 = .ok (.iconst 3, 1) := by decide +kernel
theorem d5_put_48 : decode cX5_put 48 = .ok (.invokevirtual 61, 3) := by decide +kernel
theorem d5_put_51 : decode cX5_put 51 = .ok (.ireturn, 1) := by decide +kernel
theorem d5_put_52 : decode cX5_put 52 = .ok (.aload_n 0, 1) := by decide +kernel
theorem d5_put_53 : decode cX5_put 53 = .ok (.getfield 13, 3) := by decide +kernel
theorem d5_put_56 : decode cX5_put 56 = .ok (.iload_n 1, 1) := by decide +kernel
theorem d5_put_57 : decode cX5_put 57 = .ok (.aaload, 1) := by decide +kernel
theorem d5_put_58 : decode cX5_put 58 = .ok (.iload_n 2, 1) := by decide +kernel
theorem d5_put_59 : decode cX5_put 59 = .ok (.iload_n 3, 1) := by decide +kernel
theorem d5_put_60 : decode cX5_put 60 = .ok (.invokevirtual 219, 3) := by decide +kernel
theorem d5_put_63 : decode cX5_put 63 = .ok (.iconst 1, 1) := by decide +kernel
theorem d5_put_64 : decode cX5_put 64 = .ok (.ireturn, 1) := by decide +kernel
noncomputable def f5_put {α : Type} (p1 : Int32) (p2 : Int32) (p3 : Int32) (S : MS) (K : Int32 → MS → Option α) : Option α := nm (sI S 0 6 0) fun S1 => f5_isSheet p1 S1 fun r3 S2 => if r3 = 0 then (K (-1) S2) else (ck p1 4 fun k4 => f1_isNothing k4 S2 fun r6 S5 => if r6 = 0 then (ck p1 4 fun k7 => f1_hasCells k7 p2 1 S5 fun r9 S8 => if r9 = 0 then (f5_faulted 3 S8 fun r14 S13 => K r14 S13) else (ck p1 4 fun k10 => f1_write k10 p2 p3 S8 fun S11 => K 1 S11)) else (f5_faulted 1 S5 fun r16 S15 => K r16 S15))
set_option maxHeartbeats 4000000 in
set_option maxRecDepth 100000 in
theorem c5_put (l : Launch) (p1 : Int32) (p2 : Int32) (p3 : Int32) (S : MS) {α : Type} : CtI 30 eX l yX5_put cX5_put 4 (some .int) (rmG 1 22) S (fun ad => [.ref (ad 0), .int p1, .int p2, .int p3]) (α := α) (f5_put p1 p2 p3 S) := by
  refine CtI.of (by decide) (fun _ => Nat.le_of_ble_eq_true rfl) (fun X K _ O hQ => ?_)
  have O : OK 30 X RX5 cX5_put 4 (some .int) (rmG 1 22) := O
  show GM 30 eX X (f5_put p1 p2 p3 S K) S 0 [(0, .ref (aX X 0)), (1, .int p1), (2, .int p2), (3, .int p3)] []
  unfold f5_put
  refine r_aload_n O d5_put_0 0 rfl ?_
  refine r_iconst O d5_put_1 (v := 0) (by decide) ?_
  refine p_X5_42 O d5_put_2 (fun S1 => ?_)
  refine r_iload_n O d5_put_5 1 rfl ?_
  refine r_callSi O (rest := []) (c5_isSheet (lX X) p1 S1) w_240 w_241 w_45 w_242 hy_X5_isSheet ⟨rfl, rfl, Nat.le_of_ble_eq_true rfl, Nat.le_of_ble_eq_true rfl⟩ rfl rfl (Nat.le_of_ble_eq_true rfl) d5_put_6 (fun r3 S2 => ?_)
  refine r_if_ne O 14 d5_put_9 (by decide) ?_ ?_
  · refine r_aload_n O d5_put_14 0 rfl ?_
    refine g_X5_13 O d5_put_15 ?_
    refine r_iload_n O d5_put_18 1 rfl ?_
    refine r_aald O (b := 16) (by decide) eX_1 rfl d5_put_19 (fun k4 hk4 => ?_)
    refine r_callVi O (b := (16 + k4)) (bv := fun ad => []) (rest := []) (c1_isNothing (lX X) k4 hk4 S2) (fun _ => rfl) (by omega) (eX_row hk4) rfl rfl w_558 w_251 w_252 w_50 w_253 hy_X1_isNothing ⟨rfl, rfl, Nat.le_of_ble_eq_true rfl, Nat.le_of_ble_eq_true rfl⟩ rfl rfl (Nat.le_of_ble_eq_true rfl) d5_put_20 (fun r6 S5 => ?_)
    refine r_if_eq O 32 d5_put_23 (by decide) ?_ ?_
    · refine r_aload_n O d5_put_32 0 rfl ?_
      refine g_X5_13 O d5_put_33 ?_
      refine r_iload_n O d5_put_36 1 rfl ?_
      refine r_aald O (b := 16) (by decide) eX_1 rfl d5_put_37 (fun k7 hk7 => ?_)
      refine r_iload_n O d5_put_38 2 rfl ?_
      refine r_iconst O d5_put_39 (v := 1) (by decide) ?_
      refine r_callVi O (b := (16 + k7)) (bv := fun ad => [.int p2, .int 1]) (rest := []) (c1_hasCells (lX X) k7 p2 1 hk7 S5) (fun _ => rfl) (by omega) (eX_row hk7) rfl rfl w_254 w_255 w_256 w_50 w_257 hy_X1_hasCells ⟨rfl, rfl, Nat.le_of_ble_eq_true rfl, Nat.le_of_ble_eq_true rfl⟩ rfl rfl (Nat.le_of_ble_eq_true rfl) d5_put_40 (fun r9 S8 => ?_)
      refine r_if_ne O 52 d5_put_43 (by decide) ?_ ?_
      · refine r_aload_n O d5_put_52 0 rfl ?_
        refine g_X5_13 O d5_put_53 ?_
        refine r_iload_n O d5_put_56 1 rfl ?_
        refine r_aald O (b := 16) (by decide) eX_1 rfl d5_put_57 (fun k10 hk10 => ?_)
        refine r_iload_n O d5_put_58 2 rfl ?_
        refine r_iload_n O d5_put_59 3 rfl ?_
        refine r_callVv O (b := (16 + k10)) (bv := fun ad => [.int p2, .int p3]) (rest := []) (c1_write (lX X) k10 p2 p3 hk10 S8) (fun _ => rfl) (by omega) (eX_row hk10) rfl rfl w_567 w_568 w_569 w_50 w_570 hy_X1_write ⟨rfl, rfl, Nat.le_of_ble_eq_true rfl, Nat.le_of_ble_eq_true rfl⟩ rfl rfl (Nat.le_of_ble_eq_true rfl) d5_put_60 (fun S11 => ?_)
        refine r_iconst O d5_put_63 (v := 1) (by decide) ?_
        exact r_iret O hQ d5_put_64
      · refine r_aload_n O d5_put_46 0 rfl ?_
        refine r_iconst O d5_put_47 (v := 3) (by decide) ?_
        refine r_callVi O (b := 0) (bv := fun ad => [.int 3]) (rest := []) (c5_faulted (lX X) 3 S8) (fun _ => rfl) (by decide) eX_0 rfl rfl w_258 w_260 w_0 w_45 w_261 hy_X5_faulted ⟨rfl, rfl, Nat.le_of_ble_eq_true rfl, Nat.le_of_ble_eq_true rfl⟩ rfl rfl (Nat.le_of_ble_eq_true rfl) d5_put_48 (fun r14 S13 => ?_)
        exact r_iret O hQ d5_put_51
    · refine r_aload_n O d5_put_26 0 rfl ?_
      refine r_iconst O d5_put_27 (v := 1) (by decide) ?_
      refine r_callVi O (b := 0) (bv := fun ad => [.int 1]) (rest := []) (c5_faulted (lX X) 1 S5) (fun _ => rfl) (by decide) eX_0 rfl rfl w_258 w_260 w_0 w_45 w_261 hy_X5_faulted ⟨rfl, rfl, Nat.le_of_ble_eq_true rfl, Nat.le_of_ble_eq_true rfl⟩ rfl rfl (Nat.le_of_ble_eq_true rfl) d5_put_28 (fun r16 S15 => ?_)
      exact r_iret O hQ d5_put_31
  · refine r_iconst O d5_put_12 (v := (-1)) (by decide) ?_
    exact r_iret O hQ d5_put_13
-- X5.cell
theorem d5_cell_0 : decode cX5_cell 0 = .ok (.aload_n 0, 1) := by decide +kernel
theorem d5_cell_1 : decode cX5_cell 1 = .ok (.iconst 0, 1) := by decide +kernel
theorem d5_cell_2 : decode cX5_cell 2 = .ok (.putfield 42, 3) := by decide +kernel
theorem d5_cell_5 : decode cX5_cell 5 = .ok (.iload_n 1, 1) := by decide +kernel
theorem d5_cell_6 : decode cX5_cell 6 = .ok (.invokestatic 46, 3) := by decide +kernel
theorem d5_cell_9 : decode cX5_cell 9 = .ok (.ifCond .eq 10, 3) := by decide +kernel
theorem d5_cell_12 : decode cX5_cell 12 = .ok (.iload_n 3, 1) := by decide +kernel
theorem d5_cell_13 : decode cX5_cell 13 = .ok (.invokestatic 50, 3) := by decide +kernel
theorem d5_cell_16 : decode cX5_cell 16 = .ok (.ifCond .ne 7, 3) := by decide +kernel
theorem d5_cell_19 : decode cX5_cell 19 = .ok (.ldc2_w 171, 3) := by decide +kernel
theorem d5_cell_22 : decode cX5_cell 22 = .ok (.lreturn, 1) := by decide +kernel
theorem d5_cell_23 : decode cX5_cell 23 = .ok (.aload_n 0, 1) := by decide +kernel
theorem d5_cell_24 : decode cX5_cell 24 = .ok (.aload_n 0, 1) := by decide +kernel
theorem d5_cell_25 : decode cX5_cell 25 = .ok (.getfield 13, 3) := by decide +kernel
theorem d5_cell_28 : decode cX5_cell 28 = .ok (.iload_n 1, 1) := by decide +kernel
theorem d5_cell_29 : decode cX5_cell 29 = .ok (.aaload, 1) := by decide +kernel
theorem d5_cell_30 : decode cX5_cell 30 = .ok (.iload_n 3, 1) := by decide +kernel
theorem d5_cell_31 : decode cX5_cell 31 = .ok (.invokevirtual 53, 3) := by decide +kernel
theorem d5_cell_34 : decode cX5_cell 34 = .ok (.putfield 42, 3) := by decide +kernel
theorem d5_cell_37 : decode cX5_cell 37 = .ok (.aload_n 0, 1) := by decide +kernel
theorem d5_cell_38 : decode cX5_cell 38 = .ok (.getfield 42, 3) := by decide +kernel
theorem d5_cell_41 : decode cX5_cell 41 = .ok (.ifCond .ne 22, 3) := by decide +kernel
theorem d5_cell_44 : decode cX5_cell 44 = .ok (.aload_n 0, 1) := by decide +kernel
theorem d5_cell_45 : decode cX5_cell 45 = .ok (.getfield 13, 3) := by decide +kernel
theorem d5_cell_48 : decode cX5_cell 48 = .ok (.iload_n 1, 1) := by decide +kernel
theorem d5_cell_49 : decode cX5_cell 49 = .ok (.aaload, 1) := by decide +kernel
theorem d5_cell_50 : decode cX5_cell 50 = .ok (.iload_n 2, 1) := by decide +kernel
theorem d5_cell_51 : decode cX5_cell 51 = .ok (.iconst 1, 1) := by decide +kernel
theorem d5_cell_52 : decode cX5_cell 52 = .ok (.invokevirtual 57, 3) := by decide +kernel
theorem d5_cell_55 : decode cX5_cell 55 = .ok (.ifCond .ne 8, 3) := by decide +kernel
theorem d5_cell_58 : decode cX5_cell 58 = .ok (.aload_n 0, 1) := by decide +kernel
theorem d5_cell_59 : decode cX5_cell 59 = .ok (.iconst 3, 1) := by decide +kernel
theorem d5_cell_60 : decode cX5_cell 60 = .ok (.putfield 42, 3) := by decide +kernel
theorem d5_cell_63 : decode cX5_cell 63 = .ok (.aload_n 0, 1) := by decide +kernel
theorem d5_cell_64 : decode cX5_cell 64 = .ok (.getfield 42, 3) := by decide +kernel
theorem d5_cell_67 : decode cX5_cell 67 = .ok (.ifCond .eq 7, 3) := by decide +kernel
theorem d5_cell_70 : decode cX5_cell 70 = .ok (.ldc2_w 171, 3) := by decide +kernel
theorem d5_cell_73 : decode cX5_cell 73 = .ok (.lreturn, 1) := by decide +kernel
theorem d5_cell_74 : decode cX5_cell 74 = .ok (.aload_n 0, 1) := by decide +kernel
theorem d5_cell_75 : decode cX5_cell 75 = .ok (.getfield 13, 3) := by decide +kernel
theorem d5_cell_78 : decode cX5_cell 78 = .ok (.iload_n 1, 1) := by decide +kernel
theorem d5_cell_79 : decode cX5_cell 79 = .ok (.aaload, 1) := by decide +kernel
theorem d5_cell_80 : decode cX5_cell 80 = .ok (.getfield 222, 3) := by decide +kernel
theorem d5_cell_83 : decode cX5_cell 83 = .ok (.iload_n 2, 1) := by decide +kernel
theorem d5_cell_84 : decode cX5_cell 84 = .ok (.iaload, 1) := by decide +kernel
theorem d5_cell_85 : decode cX5_cell 85 = .ok (.i2l, 1) := by decide +kernel
theorem d5_cell_86 : decode cX5_cell 86 = .ok (.lreturn, 1) := by decide +kernel
noncomputable def f5_cell {α : Type} (p1 : Int32) (p2 : Int32) (p3 : Int32) (S : MS) (K : Int64 → MS → Option α) : Option α := nm (sI S 0 6 0) fun S1 => f5_isSheet p1 S1 fun r3 S2 => if r3 = 0 then (K (-9223372036854775808) S2) else (f5_isLane p3 S2 fun r5 S4 => if r5 = 0 then (K (-9223372036854775808) S4) else (ck p1 4 fun k6 => f1_faultAs k6 p3 S4 fun r8 S7 => nm (sI S7 0 6 r8) fun S9 => if (S9.1 0 6) = 0 then (ck p1 4 fun k12 => f1_hasCells k12 p2 1 S9 fun r14 S13 => if r14 = 0 then (nm (sI S13 0 6 3) fun S17 => if (S17.1 0 6) = 0 then (ck p1 4 fun k18 => ck p2 60 fun k19 => K (Int32.toInt64 (S17.1 (20 + k18) k19)) S17) else (K (-9223372036854775808) S17)) else (if (S13.1 0 6) = 0 then (ck p1 4 fun k15 => ck p2 60 fun k16 => K (Int32.toInt64 (S13.1 (20 + k15) k16)) S13) else (K (-9223372036854775808) S13))) else (if (S9.1 0 6) = 0 then (ck p1 4 fun k10 => ck p2 60 fun k11 => K (Int32.toInt64 (S9.1 (20 + k10) k11)) S9) else (K (-9223372036854775808) S9))))
set_option maxHeartbeats 4000000 in
set_option maxRecDepth 100000 in
theorem c5_cell (l : Launch) (p1 : Int32) (p2 : Int32) (p3 : Int32) (S : MS) {α : Type} : CtL 30 eX l yX5_cell cX5_cell 4 (some .long) (rmG 2 41) S (fun ad => [.ref (ad 0), .int p1, .int p2, .int p3]) (α := α) (f5_cell p1 p2 p3 S) := by
  refine CtL.of (by decide) (fun _ => Nat.le_of_ble_eq_true rfl) (fun X K _ O hQ => ?_)
  have O : OK 30 X RX5 cX5_cell 4 (some .long) (rmG 2 41) := O
  show GM 30 eX X (f5_cell p1 p2 p3 S K) S 0 [(0, .ref (aX X 0)), (1, .int p1), (2, .int p2), (3, .int p3)] []
  unfold f5_cell
  refine r_aload_n O d5_cell_0 0 rfl ?_
  refine r_iconst O d5_cell_1 (v := 0) (by decide) ?_
  refine p_X5_42 O d5_cell_2 (fun S1 => ?_)
  refine r_iload_n O d5_cell_5 1 rfl ?_
  refine r_callSi O (rest := []) (c5_isSheet (lX X) p1 S1) w_240 w_241 w_45 w_242 hy_X5_isSheet ⟨rfl, rfl, Nat.le_of_ble_eq_true rfl, Nat.le_of_ble_eq_true rfl⟩ rfl rfl (Nat.le_of_ble_eq_true rfl) d5_cell_6 (fun r3 S2 => ?_)
  refine r_if_eq O 19 d5_cell_9 (by decide) ?_ ?_
  · refine r_ldc2 O (v := (-9223372036854775808)) w_457 d5_cell_19 ?_
    exact r_lret O hQ d5_cell_22
  · refine r_iload_n O d5_cell_12 3 rfl ?_
    refine r_callSi O (rest := []) (c5_isLane (lX X) p3 S2) w_243 w_244 w_45 w_245 hy_X5_isLane ⟨rfl, rfl, Nat.le_of_ble_eq_true rfl, Nat.le_of_ble_eq_true rfl⟩ rfl rfl (Nat.le_of_ble_eq_true rfl) d5_cell_13 (fun r5 S4 => ?_)
    refine r_if_ne O 23 d5_cell_16 (by decide) ?_ ?_
    · refine r_aload_n O d5_cell_23 0 rfl ?_
      refine r_aload_n O d5_cell_24 0 rfl ?_
      refine g_X5_13 O d5_cell_25 ?_
      refine r_iload_n O d5_cell_28 1 rfl ?_
      refine r_aald O (b := 16) (by decide) eX_1 rfl d5_cell_29 (fun k6 hk6 => ?_)
      refine r_iload_n O d5_cell_30 3 rfl ?_
      refine r_callVi O (b := (16 + k6)) (bv := fun ad => [.int p3]) (rest := [.ref (aX X 0)]) (c1_faultAs (lX X) k6 p3 hk6 S4) (fun _ => rfl) (by omega) (eX_row hk6) rfl rfl w_246 w_247 w_248 w_50 w_249 hy_X1_faultAs ⟨rfl, rfl, Nat.le_of_ble_eq_true rfl, Nat.le_of_ble_eq_true rfl⟩ rfl rfl (Nat.le_of_ble_eq_true rfl) d5_cell_31 (fun r8 S7 => ?_)
      refine p_X5_42 O d5_cell_34 (fun S9 => ?_)
      refine r_aload_n O d5_cell_37 0 rfl ?_
      refine g_X5_42 O d5_cell_38 ?_
      refine r_if_ne O 63 d5_cell_41 (by decide) ?_ ?_
      · refine r_aload_n O d5_cell_63 0 rfl ?_
        refine g_X5_42 O d5_cell_64 ?_
        refine r_if_eq O 74 d5_cell_67 (by decide) ?_ ?_
        · refine r_aload_n O d5_cell_74 0 rfl ?_
          refine g_X5_13 O d5_cell_75 ?_
          refine r_iload_n O d5_cell_78 1 rfl ?_
          refine r_aald O (b := 16) (by decide) eX_1 rfl d5_cell_79 (fun k10 hk10 => ?_)
          refine g_X5_222 O hk10 d5_cell_80 ?_
          refine r_iload_n O d5_cell_83 2 rfl ?_
          refine r_iald O (j := (20 + k10)) (by omega) (eX_cel hk10) d5_cell_84 (fun k11 hk11 => ?_)
          refine r_i2l O d5_cell_85 ?_
          exact r_lret O hQ d5_cell_86
        · refine r_ldc2 O (v := (-9223372036854775808)) w_457 d5_cell_70 ?_
          exact r_lret O hQ d5_cell_73
      · refine r_aload_n O d5_cell_44 0 rfl ?_
        refine g_X5_13 O d5_cell_45 ?_
        refine r_iload_n O d5_cell_48 1 rfl ?_
        refine r_aald O (b := 16) (by decide) eX_1 rfl d5_cell_49 (fun k12 hk12 => ?_)
        refine r_iload_n O d5_cell_50 2 rfl ?_
        refine r_iconst O d5_cell_51 (v := 1) (by decide) ?_
        refine r_callVi O (b := (16 + k12)) (bv := fun ad => [.int p2, .int 1]) (rest := []) (c1_hasCells (lX X) k12 p2 1 hk12 S9) (fun _ => rfl) (by omega) (eX_row hk12) rfl rfl w_254 w_255 w_256 w_50 w_257 hy_X1_hasCells ⟨rfl, rfl, Nat.le_of_ble_eq_true rfl, Nat.le_of_ble_eq_true rfl⟩ rfl rfl (Nat.le_of_ble_eq_true rfl) d5_cell_52 (fun r14 S13 => ?_)
        refine r_if_ne O 63 d5_cell_55 (by decide) ?_ ?_
        · refine r_aload_n O d5_cell_63 0 rfl ?_
          refine g_X5_42 O d5_cell_64 ?_
          refine r_if_eq O 74 d5_cell_67 (by decide) ?_ ?_
          · refine r_aload_n O d5_cell_74 0 rfl ?_
            refine g_X5_13 O d5_cell_75 ?_
            refine r_iload_n O d5_cell_78 1 rfl ?_
            refine r_aald O (b := 16) (by decide) eX_1 rfl d5_cell_79 (fun k15 hk15 => ?_)
            refine g_X5_222 O hk15 d5_cell_80 ?_
            refine r_iload_n O d5_cell_83 2 rfl ?_
            refine r_iald O (j := (20 + k15)) (by omega) (eX_cel hk15) d5_cell_84 (fun k16 hk16 => ?_)
            refine r_i2l O d5_cell_85 ?_
            exact r_lret O hQ d5_cell_86
          · refine r_ldc2 O (v := (-9223372036854775808)) w_457 d5_cell_70 ?_
            exact r_lret O hQ d5_cell_73
        · refine r_aload_n O d5_cell_58 0 rfl ?_
          refine r_iconst O d5_cell_59 (v := 3) (by decide) ?_
          refine p_X5_42 O d5_cell_60 (fun S17 => ?_)
          refine r_aload_n O d5_cell_63 0 rfl ?_
          refine g_X5_42 O d5_cell_64 ?_
          refine r_if_eq O 74 d5_cell_67 (by decide) ?_ ?_
          · refine r_aload_n O d5_cell_74 0 rfl ?_
            refine g_X5_13 O d5_cell_75 ?_
            refine r_iload_n O d5_cell_78 1 rfl ?_
            refine r_aald O (b := 16) (by decide) eX_1 rfl d5_cell_79 (fun k18 hk18 => ?_)
            refine g_X5_222 O hk18 d5_cell_80 ?_
            refine r_iload_n O d5_cell_83 2 rfl ?_
            refine r_iald O (j := (20 + k18)) (by omega) (eX_cel hk18) d5_cell_84 (fun k19 hk19 => ?_)
            refine r_i2l O d5_cell_85 ?_
            exact r_lret O hQ d5_cell_86
          · refine r_ldc2 O (v := (-9223372036854775808)) w_457 d5_cell_70 ?_
            exact r_lret O hQ d5_cell_73
    · refine r_ldc2 O (v := (-9223372036854775808)) w_457 d5_cell_19 ?_
      exact r_lret O hQ d5_cell_22
-- X5.copy
theorem d5_copy_0 : decode cX5_copy 0 = .ok (.aload_n 0, 1) := by decide +kernel
theorem d5_copy_1 : decode cX5_copy 1 = .ok (.iconst 0, 1) := by decide +kernel
theorem d5_copy_2 : decode cX5_copy 2 = .ok (.putfield 42, 3) := by decide +kernel
theorem d5_copy_5 : decode cX5_copy 5 = .ok (.iload_n 1, 1) := by decide +kernel
theorem d5_copy_6 : decode cX5_copy 6 = .ok (.invokestatic 46, 3) := by decide +kernel
theorem d5_copy_9 : decode cX5_copy 9 = .ok (.ifCond .eq 10, 3) := by decide +kernel
theorem d5_copy_12 : decode cX5_copy 12 = .ok (.iload_n 3, 1) := by decide +kernel
theorem d5_copy_13 : decode cX5_copy 13 = .ok (.invokestatic 46, 3) := by decide +kernel
theorem d5_copy_16 : decode cX5_copy 16 = .ok (.ifCond .ne 5, 3) := by decide +kernel
theorem d5_copy_19 : decode cX5_copy 19 = .ok (.iconst (-1), 1) := by decide +kernel
theorem d5_copy_20 : decode cX5_copy 20 = .ok (.ireturn, 1) := by decide +kernel
theorem d5_copy_21 : decode cX5_copy 21 = .ok (.aload_n 0, 1) := by decide +kernel
theorem d5_copy_22 : decode cX5_copy 22 = .ok (.getfield 13, 3) := by decide +kernel
theorem d5_copy_25 : decode cX5_copy 25 = .ok (.iload_n 1, 1) := by decide +kernel
theorem d5_copy_26 : decode cX5_copy 26 = .ok (.aaload, 1) := by decide +kernel
theorem d5_copy_27 : decode cX5_copy 27 = .ok (.astore 6, 2) := by decide +kernel
theorem d5_copy_29 : decode cX5_copy 29 = .ok (.aload_n 0, 1) := by decide +kernel
theorem d5_copy_30 : decode cX5_copy 30 = .ok (.getfield 13, 3) := by decide +kernel
theorem d5_copy_33 : decode cX5_copy 33 = .ok (.iload_n 3, 1) := by decide +kernel
theorem d5_copy_34 : decode cX5_copy 34 = .ok (.aaload, 1) := by decide +kernel
theorem d5_copy_35 : decode cX5_copy 35 = .ok (.astore 7, 2) := by decide +kernel
theorem d5_copy_37 : decode cX5_copy 37 = .ok (.aload 6, 2) := by decide +kernel
theorem d5_copy_39 : decode cX5_copy 39 = .ok (.invokevirtual 213, 3) := by decide +kernel
theorem d5_copy_42 : decode cX5_copy 42 = .ok (.ifCond .ne 11, 3) := by decide +kernel
theorem d5_copy_45 : decode cX5_copy 45 = .ok (.aload 7, 2) := by decide +kernel
theorem d5_copy_47 : decode cX5_copy 47 = .ok (.invokevirtual 213, 3) := by decide +kernel
theorem d5_copy_50 : decode cX5_copy 50 = .ok (.ifCond .eq 9, 3) := by decide +kernel
theorem d5_copy_53 : decode cX5_copy 53 = .ok (.aload_n 0, 1) := by decide +kernel
theorem d5_copy_54 : decode cX5_copy 54 = .ok (.iconst 1, 1) := by decide +kernel
theorem d5_copy_55 : decode cX5_copy 55 = .ok (.invokevirtual 61, 3) := by decide +kernel
theorem d5_copy_58 : decode cX5_copy 58 = .ok (.ireturn, 1) := by decide +kernel
theorem d5_copy_59 : decode cX5_copy 59 = .ok (.aload 6, 2) := by decide +kernel
theorem d5_copy_61 : decode cX5_copy 61 = .ok (.getfield 225, 3) := by decide +kernel
theorem d5_copy_64 : decode cX5_copy 64 = .ok (.aload 7, 2) := by decide +kernel
theorem d5_copy_66 : decode cX5_copy 66 = .ok (.getfield 225, 3) := by decide +kernel
theorem d5_copy_69 : decode cX5_copy 69 = .ok (.if_icmp .eq 9, 3) := by decide +kernel
theorem d5_copy_72 : decode cX5_copy 72 = .ok (.aload_n 0, 1) := by decide +kernel
theorem d5_copy_73 : decode cX5_copy 73 = .ok (.iconst 2, 1) := by decide +kernel
theorem d5_copy_74 : decode cX5_copy 74 = .ok (.invokevirtual 61, 3) := by decide +kernel
theorem d5_copy_77 : decode cX5_copy 77 = .ok (.ireturn, 1) := by decide +kernel
theorem d5_copy_78 : decode cX5_copy 78 = .ok (.aload 6, 2) := by decide +kernel
theorem d5_copy_80 : decode cX5_copy 80 = .ok (.iload_n 2, 1) := by decide +kernel
theorem d5_copy_81 : decode cX5_copy 81 = .ok (.iload 5, 2) := by decide +kernel
theorem d5_copy_83 : decode cX5_copy 83 = .ok (.invokevirtual 57, 3) := by decide +kernel
theorem d5_copy_86 : decode cX5_copy 86 = .ok (.ifCond .eq 15, 3) := by decide +kernel
theorem d5_copy_89 : decode cX5_copy 89 = .ok (.aload 7, 2) := by decide +kernel
theorem d5_copy_91 : decode cX5_copy 91 = .ok (.iload 4, 2) := by decide +kernel
theorem d5_copy_93 : decode cX5_copy 93 = .ok (.iload 5, 2) := by decide +kernel
theorem d5_copy_95 : decode cX5_copy 95 = .ok (.invokevirtual 57, 3) := by decide +kernel
theorem d5_copy_98 : decode cX5_copy 98 = .ok (.ifCond .ne 9, 3) := by decide +kernel
theorem d5_copy_101 : decode cX5_copy 101 = .ok (.aload_n 0, 1) := by decide +kernel
theorem d5_copy_102 : decode cX5_copy 102 = .ok (.iconst 3, 1) := by decide +kernel
theorem d5_copy_103 : decode cX5_copy 103 = .ok (.invokevirtual 61, 3) := by decide +kernel
theorem d5_copy_106 : decode cX5_copy 106 = .ok (.ireturn, 1) := by decide +kernel
theorem d5_copy_107 : decode cX5_copy 107 = .ok (.aload 6, 2) := by decide +kernel
theorem d5_copy_109 : decode cX5_copy 109 = .ok (.getfield 222, 3) := by decide +kernel
theorem d5_copy_112 : decode cX5_copy 112 = .ok (.iload_n 2, 1) := by decide +kernel
theorem d5_copy_113 : decode cX5_copy 113 = .ok (.aload 7, 2) := by decide +kernel
theorem d5_copy_115 : decode cX5_copy 115 = .ok (.getfield 222, 3) := by decide +kernel
theorem d5_copy_118 : decode cX5_copy 118 = .ok (.iload 4, 2) := by decide +kernel
theorem d5_copy_120 : decode cX5_copy 120 = .ok (.iload 5, 2) := by decide +kernel
theorem d5_copy_122 : decode cX5_copy 122 = .ok (.invokestatic 228, 3) := by decide +kernel
theorem d5_copy_125 : decode cX5_copy 125 = .ok (.iload 5, 2) := by decide +kernel
theorem d5_copy_127 : decode cX5_copy 127 = .ok (.ireturn, 1) := by decide +kernel
noncomputable def f5_copy {α : Type} (p1 : Int32) (p2 : Int32) (p3 : Int32) (p4 : Int32) (p5 : Int32) (S : MS) (K : Int32 → MS → Option α) : Option α := nm (sI S 0 6 0) fun S1 => f5_isSheet p1 S1 fun r3 S2 => if r3 = 0 then (K (-1) S2) else (f5_isSheet p3 S2 fun r5 S4 => if r5 = 0 then (K (-1) S4) else (ck p1 4 fun k6 => ck p3 4 fun k7 => f1_isNothing k6 S4 fun r9 S8 => if r9 = 0 then (f1_isNothing k7 S8 fun r13 S12 => if r13 = 0 then (if (S12.1 (16 + k6) 1) = (S12.1 (16 + k7) 1) then (f1_hasCells k6 p2 p5 S12 fun r15 S14 => if r15 = 0 then (f5_faulted 3 S14 fun r17 S16 => K r17 S16) else (f1_hasCells k7 p4 p5 S14 fun r19 S18 => if r19 = 0 then (f5_faulted 3 S18 fun r22 S21 => K r22 S21) else (cp S18 (20 + k6) (20 + k7) p2 p4 p5 fun S20 => K p5 S20))) else (f5_faulted 2 S12 fun r24 S23 => K r24 S23)) else (f5_faulted 1 S12 fun r26 S25 => K r26 S25)) else (f5_faulted 1 S8 fun r11 S10 => K r11 S10)))
set_option maxHeartbeats 4000000 in
set_option maxRecDepth 100000 in
theorem c5_copy (l : Launch) (p1 : Int32) (p2 : Int32) (p3 : Int32) (p4 : Int32) (p5 : Int32) (S : MS) {α : Type} : CtI 30 eX l yX5_copy cX5_copy 8 (some .int) (rmG 1 40) S (fun ad => [.ref (ad 0), .int p1, .int p2, .int p3, .int p4, .int p5]) (α := α) (f5_copy p1 p2 p3 p4 p5 S) := by
  refine CtI.of (by decide) (fun _ => Nat.le_of_ble_eq_true rfl) (fun X K _ O hQ => ?_)
  have O : OK 30 X RX5 cX5_copy 8 (some .int) (rmG 1 40) := O
  show GM 30 eX X (f5_copy p1 p2 p3 p4 p5 S K) S 0 [(0, .ref (aX X 0)), (1, .int p1), (2, .int p2), (3, .int p3), (4, .int p4), (5, .int p5)] []
  unfold f5_copy
  refine r_aload_n O d5_copy_0 0 rfl ?_
  refine r_iconst O d5_copy_1 (v := 0) (by decide) ?_
  refine p_X5_42 O d5_copy_2 (fun S1 => ?_)
  refine r_iload_n O d5_copy_5 1 rfl ?_
  refine r_callSi O (rest := []) (c5_isSheet (lX X) p1 S1) w_240 w_241 w_45 w_242 hy_X5_isSheet ⟨rfl, rfl, Nat.le_of_ble_eq_true rfl, Nat.le_of_ble_eq_true rfl⟩ rfl rfl (Nat.le_of_ble_eq_true rfl) d5_copy_6 (fun r3 S2 => ?_)
  refine r_if_eq O 19 d5_copy_9 (by decide) ?_ ?_
  · refine r_iconst O d5_copy_19 (v := (-1)) (by decide) ?_
    exact r_iret O hQ d5_copy_20
  · refine r_iload_n O d5_copy_12 3 rfl ?_
    refine r_callSi O (rest := []) (c5_isSheet (lX X) p3 S2) w_240 w_241 w_45 w_242 hy_X5_isSheet ⟨rfl, rfl, Nat.le_of_ble_eq_true rfl, Nat.le_of_ble_eq_true rfl⟩ rfl rfl (Nat.le_of_ble_eq_true rfl) d5_copy_13 (fun r5 S4 => ?_)
    refine r_if_ne O 21 d5_copy_16 (by decide) ?_ ?_
    · refine r_aload_n O d5_copy_21 0 rfl ?_
      refine g_X5_13 O d5_copy_22 ?_
      refine r_iload_n O d5_copy_25 1 rfl ?_
      refine r_aald O (b := 16) (by decide) eX_1 rfl d5_copy_26 (fun k6 hk6 => ?_)
      refine r_astore O d5_copy_27 [(6, .ref (aX X (16 + k6))), (0, .ref (aX X 0)), (1, .int p1), (2, .int p2), (3, .int p3), (4, .int p4), (5, .int p5)] (by decide) rfl ?_
      refine r_aload_n O d5_copy_29 1 rfl ?_
      refine g_X5_13 O d5_copy_30 ?_
      refine r_iload_n O d5_copy_33 4 rfl ?_
      refine r_aald O (b := 16) (by decide) eX_1 rfl d5_copy_34 (fun k7 hk7 => ?_)
      refine r_astore O d5_copy_35 [(7, .ref (aX X (16 + k7))), (6, .ref (aX X (16 + k6))), (0, .ref (aX X 0)), (1, .int p1), (2, .int p2), (3, .int p3), (4, .int p4), (5, .int p5)] (by decide) rfl ?_
      refine r_aload O d5_copy_37 1 rfl ?_
      refine r_callVi O (b := (16 + k6)) (bv := fun ad => []) (rest := []) (c1_isNothing (lX X) k6 hk6 S4) (fun _ => rfl) (by omega) (eX_row hk6) rfl rfl w_558 w_251 w_252 w_50 w_253 hy_X1_isNothing ⟨rfl, rfl, Nat.le_of_ble_eq_true rfl, Nat.le_of_ble_eq_true rfl⟩ rfl rfl (Nat.le_of_ble_eq_true rfl) d5_copy_39 (fun r9 S8 => ?_)
      refine r_if_ne O 53 d5_copy_42 (by decide) ?_ ?_
      · refine r_aload_n O d5_copy_53 2 rfl ?_
        refine r_iconst O d5_copy_54 (v := 1) (by decide) ?_
        refine r_callVi O (b := 0) (bv := fun ad => [.int 1]) (rest := []) (c5_faulted (lX X) 1 S8) (fun _ => rfl) (by decide) eX_0 rfl rfl w_258 w_260 w_0 w_45 w_261 hy_X5_faulted ⟨rfl, rfl, Nat.le_of_ble_eq_true rfl, Nat.le_of_ble_eq_true rfl⟩ rfl rfl (Nat.le_of_ble_eq_true rfl) d5_copy_55 (fun r11 S10 => ?_)
        exact r_iret O hQ d5_copy_58
      · refine r_aload O d5_copy_45 0 rfl ?_
        refine r_callVi O (b := (16 + k7)) (bv := fun ad => []) (rest := []) (c1_isNothing (lX X) k7 hk7 S8) (fun _ => rfl) (by omega) (eX_row hk7) rfl rfl w_558 w_251 w_252 w_50 w_253 hy_X1_isNothing ⟨rfl, rfl, Nat.le_of_ble_eq_true rfl, Nat.le_of_ble_eq_true rfl⟩ rfl rfl (Nat.le_of_ble_eq_true rfl) d5_copy_47 (fun r13 S12 => ?_)
        refine r_if_eq O 59 d5_copy_50 (by decide) ?_ ?_
        · refine r_aload O d5_copy_59 1 rfl ?_
          refine g_X5_225 O hk6 d5_copy_61 ?_
          refine r_aload O d5_copy_64 0 rfl ?_
          refine g_X5_225 O hk7 d5_copy_66 ?_
          refine r_icmp_eq O 78 d5_copy_69 (by decide) ?_ ?_
          · refine r_aload O d5_copy_78 1 rfl ?_
            refine r_iload_n O d5_copy_80 4 rfl ?_
            refine r_iload O d5_copy_81 7 rfl ?_
            refine r_callVi O (b := (16 + k6)) (bv := fun ad => [.int p2, .int p5]) (rest := []) (c1_hasCells (lX X) k6 p2 p5 hk6 S12) (fun _ => rfl) (by omega) (eX_row hk6) rfl rfl w_254 w_255 w_256 w_50 w_257 hy_X1_hasCells ⟨rfl, rfl, Nat.le_of_ble_eq_true rfl, Nat.le_of_ble_eq_true rfl⟩ rfl rfl (Nat.le_of_ble_eq_true rfl) d5_copy_83 (fun r15 S14 => ?_)
            refine r_if_eq O 101 d5_copy_86 (by decide) ?_ ?_
            · refine r_aload_n O d5_copy_101 2 rfl ?_
              refine r_iconst O d5_copy_102 (v := 3) (by decide) ?_
              refine r_callVi O (b := 0) (bv := fun ad => [.int 3]) (rest := []) (c5_faulted (lX X) 3 S14) (fun _ => rfl) (by decide) eX_0 rfl rfl w_258 w_260 w_0 w_45 w_261 hy_X5_faulted ⟨rfl, rfl, Nat.le_of_ble_eq_true rfl, Nat.le_of_ble_eq_true rfl⟩ rfl rfl (Nat.le_of_ble_eq_true rfl) d5_copy_103 (fun r17 S16 => ?_)
              exact r_iret O hQ d5_copy_106
            · refine r_aload O d5_copy_89 0 rfl ?_
              refine r_iload O d5_copy_91 6 rfl ?_
              refine r_iload O d5_copy_93 7 rfl ?_
              refine r_callVi O (b := (16 + k7)) (bv := fun ad => [.int p4, .int p5]) (rest := []) (c1_hasCells (lX X) k7 p4 p5 hk7 S14) (fun _ => rfl) (by omega) (eX_row hk7) rfl rfl w_254 w_255 w_256 w_50 w_257 hy_X1_hasCells ⟨rfl, rfl, Nat.le_of_ble_eq_true rfl, Nat.le_of_ble_eq_true rfl⟩ rfl rfl (Nat.le_of_ble_eq_true rfl) d5_copy_95 (fun r19 S18 => ?_)
              refine r_if_ne O 107 d5_copy_98 (by decide) ?_ ?_
              · refine r_aload O d5_copy_107 1 rfl ?_
                refine g_X5_222 O hk6 d5_copy_109 ?_
                refine r_iload_n O d5_copy_112 4 rfl ?_
                refine r_aload O d5_copy_113 0 rfl ?_
                refine g_X5_222 O hk7 d5_copy_115 ?_
                refine r_iload O d5_copy_118 6 rfl ?_
                refine r_iload O d5_copy_120 7 rfl ?_
                refine r_copy O hk6 hk7 w_579 w_581 w_580 w_55 ⟨Nat.le_of_ble_eq_true rfl, Nat.le_of_ble_eq_true rfl⟩ d5_copy_122 (fun S20 => ?_)
                refine r_iload O d5_copy_125 7 rfl ?_
                exact r_iret O hQ d5_copy_127
              · refine r_aload_n O d5_copy_101 2 rfl ?_
                refine r_iconst O d5_copy_102 (v := 3) (by decide) ?_
                refine r_callVi O (b := 0) (bv := fun ad => [.int 3]) (rest := []) (c5_faulted (lX X) 3 S18) (fun _ => rfl) (by decide) eX_0 rfl rfl w_258 w_260 w_0 w_45 w_261 hy_X5_faulted ⟨rfl, rfl, Nat.le_of_ble_eq_true rfl, Nat.le_of_ble_eq_true rfl⟩ rfl rfl (Nat.le_of_ble_eq_true rfl) d5_copy_103 (fun r22 S21 => ?_)
                exact r_iret O hQ d5_copy_106
          · refine r_aload_n O d5_copy_72 2 rfl ?_
            refine r_iconst O d5_copy_73 (v := 2) (by decide) ?_
            refine r_callVi O (b := 0) (bv := fun ad => [.int 2]) (rest := []) (c5_faulted (lX X) 2 S12) (fun _ => rfl) (by decide) eX_0 rfl rfl w_258 w_260 w_0 w_45 w_261 hy_X5_faulted ⟨rfl, rfl, Nat.le_of_ble_eq_true rfl, Nat.le_of_ble_eq_true rfl⟩ rfl rfl (Nat.le_of_ble_eq_true rfl) d5_copy_74 (fun r24 S23 => ?_)
            exact r_iret O hQ d5_copy_77
        · refine r_aload_n O d5_copy_53 2 rfl ?_
          refine r_iconst O d5_copy_54 (v := 1) (by decide) ?_
          refine r_callVi O (b := 0) (bv := fun ad => [.int 1]) (rest := []) (c5_faulted (lX X) 1 S12) (fun _ => rfl) (by decide) eX_0 rfl rfl w_258 w_260 w_0 w_45 w_261 hy_X5_faulted ⟨rfl, rfl, Nat.le_of_ble_eq_true rfl, Nat.le_of_ble_eq_true rfl⟩ rfl rfl (Nat.le_of_ble_eq_true rfl) d5_copy_55 (fun r26 S25 => ?_)
          exact r_iret O hQ d5_copy_58
    · refine r_iconst O d5_copy_19 (v := (-1)) (by decide) ?_
      exact r_iret O hQ d5_copy_20
-- X5.leave
theorem d5_leave_0 : decode cX5_leave 0 = .ok (.aload_n 0, 1) := by decide +kernel
theorem d5_leave_1 : decode cX5_leave 1 = .ok (.bipush 31, 2) := by decide +kernel
theorem d5_leave_3 : decode cX5_leave 3 = .ok (.aload_n 0, 1) := by decide +kernel
theorem d5_leave_4 : decode cX5_leave 4 = .ok (.getfield 39, 3) := by decide +kernel
theorem d5_leave_7 : decode cX5_leave 7 = .ok (.imul, 1) := by decide +kernel
theorem d5_leave_8 : decode cX5_leave 8 = .ok (.iload_n 1, 1) := by decide +kernel
theorem d5_leave_9 : decode cX5_leave 9 = .ok (.iadd, 1) := by decide +kernel
theorem d5_leave_10 : decode cX5_leave 10 = .ok (.putfield 39, 3) := by decide +kernel
theorem d5_leave_13 : decode cX5_leave 13 = .ok (.return_, 1) := by decide +kernel
noncomputable def f5_leave {α : Type} (p1 : Int32) (S : MS) (K : MS → Option α) : Option α := nm (sI S 0 5 (((31 : Int32) * (S.1 0 5)) + p1)) fun S1 => K S1
set_option maxHeartbeats 4000000 in
set_option maxRecDepth 100000 in
theorem c5_leave (l : Launch) (p1 : Int32) (S : MS) {α : Type} : CtV 30 eX l yX5_leave cX5_leave 2 none (rmG 0 0) S (fun ad => [.ref (ad 0), .int p1]) (α := α) (f5_leave p1 S) := by
  refine CtV.of (by decide) (fun _ => Nat.le_of_ble_eq_true rfl) (fun X K _ O hQ => ?_)
  have O : OK 30 X RX5 cX5_leave 2 none (rmG 0 0) := O
  show GM 30 eX X (f5_leave p1 S K) S 0 [(0, .ref (aX X 0)), (1, .int p1)] []
  unfold f5_leave
  refine r_aload_n O d5_leave_0 0 rfl ?_
  refine r_bipush O d5_leave_1 (v := 31) (by decide) ?_
  refine r_aload_n O d5_leave_3 0 rfl ?_
  refine g_X5_39 O d5_leave_4 ?_
  refine r_imul O d5_leave_7 ?_
  refine r_iload_n O d5_leave_8 1 rfl ?_
  refine r_iadd O d5_leave_9 ?_
  refine p_X5_39 O d5_leave_10 (fun S1 => ?_)
  exact r_vret O hQ d5_leave_13
-- X5.plainTelling
theorem d5_plainTelling_0 : decode cX5_plainTelling 0 = .ok (.aload_n 0, 1) := by decide +kernel
theorem d5_plainTelling_1 : decode cX5_plainTelling 1 = .ok (.iconst 1, 1) := by decide +kernel
theorem d5_plainTelling_2 : decode cX5_plainTelling 2 = .ok (.invokevirtual 273, 3) := by decide +kernel
theorem d5_plainTelling_5 : decode cX5_plainTelling 5 = .ok (.iload_n 1, 1) := by decide +kernel
theorem d5_plainTelling_6 : decode cX5_plainTelling 6 = .ok (.ireturn, 1) := by decide +kernel
noncomputable def f5_plainTelling {α : Type} (p1 : Int32) (S : MS) (K : Int32 → MS → Option α) : Option α := f5_leave 1 S fun S1 => K p1 S1
set_option maxHeartbeats 4000000 in
set_option maxRecDepth 100000 in
theorem c5_plainTelling (l : Launch) (p1 : Int32) (S : MS) {α : Type} : CtI 30 eX l yX5_plainTelling cX5_plainTelling 2 (some .int) (rmG 1 21) S (fun ad => [.ref (ad 0), .int p1]) (α := α) (f5_plainTelling p1 S) := by
  refine CtI.of (by decide) (fun _ => Nat.le_of_ble_eq_true rfl) (fun X K _ O hQ => ?_)
  have O : OK 30 X RX5 cX5_plainTelling 2 (some .int) (rmG 1 21) := O
  show GM 30 eX X (f5_plainTelling p1 S K) S 0 [(0, .ref (aX X 0)), (1, .int p1)] []
  unfold f5_plainTelling
  refine r_aload_n O d5_plainTelling_0 0 rfl ?_
  refine r_iconst O d5_plainTelling_1 (v := 1) (by decide) ?_
  refine r_callVv O (b := 0) (bv := fun ad => [.int 1]) (rest := []) (c5_leave (lX X) 1 S) (fun _ => rfl) (by decide) eX_0 rfl rfl w_590 w_592 w_13 w_45 w_593 hy_X5_leave ⟨rfl, rfl, Nat.le_of_ble_eq_true rfl, Nat.le_of_ble_eq_true rfl⟩ rfl rfl (Nat.le_of_ble_eq_true rfl) d5_plainTelling_2 (fun S1 => ?_)
  refine r_iload_n O d5_plainTelling_5 1 rfl ?_
  exact r_iret O hQ d5_plainTelling_6
-- X5.wideTelling
theorem d5_wideTelling_0 : decode cX5_wideTelling 0 = .ok (.aload_n 0, 1) := by decide +kernel
theorem d5_wideTelling_1 : decode cX5_wideTelling 1 = .ok (.iconst 2, 1) := by decide +kernel
theorem d5_wideTelling_2 : decode cX5_wideTelling 2 = .ok (.invokevirtual 273, 3) := by decide +kernel
theorem d5_wideTelling_5 : decode cX5_wideTelling 5 = .ok (.aload_n 0, 1) := by decide +kernel
theorem d5_wideTelling_6 : decode cX5_wideTelling 6 = .ok (.iload_n 1, 1) := by decide +kernel
theorem d5_wideTelling_7 : decode cX5_wideTelling 7 = .ok (.invokevirtual 240, 3) := by decide +kernel
theorem d5_wideTelling_10 : decode cX5_wideTelling 10 = .ok (.bipush 100, 2) := by decide +kernel
theorem d5_wideTelling_12 : decode cX5_wideTelling 12 = .ok (.iadd, 1) := by decide +kernel
theorem d5_wideTelling_13 : decode cX5_wideTelling 13 = .ok (.ireturn, 1) := by decide +kernel
noncomputable def f5_wideTelling {α : Type} (p1 : Int32) (S : MS) (K : Int32 → MS → Option α) : Option α := f5_leave 2 S fun S1 => f5_plainTelling p1 S1 fun r4 S3 => K (r4 + 100) S3
set_option maxHeartbeats 4000000 in
set_option maxRecDepth 100000 in
theorem c5_wideTelling (l : Launch) (p1 : Int32) (S : MS) {α : Type} : CtI 30 eX l yX5_wideTelling cX5_wideTelling 2 (some .int) (rmG 2 42) S (fun ad => [.ref (ad 0), .int p1]) (α := α) (f5_wideTelling p1 S) := by
  refine CtI.of (by decide) (fun _ => Nat.le_of_ble_eq_true rfl) (fun X K _ O hQ => ?_)
  have O : OK 30 X RX5 cX5_wideTelling 2 (some .int) (rmG 2 42) := O
  show GM 30 eX X (f5_wideTelling p1 S K) S 0 [(0, .ref (aX X 0)), (1, .int p1)] []
  unfold f5_wideTelling
  refine r_aload_n O d5_wideTelling_0 0 rfl ?_
  refine r_iconst O d5_wideTelling_1 (v := 2) (by decide) ?_
  refine r_callVv O (b := 0) (bv := fun ad => [.int 2]) (rest := []) (c5_leave (lX X) 2 S) (fun _ => rfl) (by decide) eX_0 rfl rfl w_590 w_592 w_13 w_45 w_593 hy_X5_leave ⟨rfl, rfl, Nat.le_of_ble_eq_true rfl, Nat.le_of_ble_eq_true rfl⟩ rfl rfl (Nat.le_of_ble_eq_true rfl) d5_wideTelling_2 (fun S1 => ?_)
  refine r_aload_n O d5_wideTelling_5 0 rfl ?_
  refine r_iload_n O d5_wideTelling_6 1 rfl ?_
  refine r_callVi O (b := 0) (bv := fun ad => [.int p1]) (rest := []) (c5_plainTelling (lX X) p1 S1) (fun _ => rfl) (by decide) eX_0 rfl rfl w_594 w_596 w_14 w_45 w_597 hy_X5_plainTelling ⟨rfl, rfl, Nat.le_of_ble_eq_true rfl, Nat.le_of_ble_eq_true rfl⟩ rfl rfl (Nat.le_of_ble_eq_true rfl) d5_wideTelling_7 (fun r4 S3 => ?_)
  refine r_bipush O d5_wideTelling_10 (v := 100) (by decide) ?_
  refine r_iadd O d5_wideTelling_12 ?_
  exact r_iret O hQ d5_wideTelling_13
-- X5.doubleTelling
theorem d5_doubleTelling_0 : decode cX5_doubleTelling 0 = .ok (.aload_n 0, 1) := by decide +kernel
theorem d5_doubleTelling_1 : decode cX5_doubleTelling 1 = .ok (.iconst 3, 1) := by decide +kernel
theorem d5_doubleTelling_2 : decode cX5_doubleTelling 2 = .ok (.invokevirtual 273, 3) := by decide +kernel
theorem d5_doubleTelling_5 : decode cX5_doubleTelling 5 = .ok (.aload_n 0, 1) := by decide +kernel
theorem d5_doubleTelling_6 : decode cX5_doubleTelling 6 = .ok (.iload_n 1, 1) := by decide +kernel
theorem d5_doubleTelling_7 : decode cX5_doubleTelling 7 = .ok (.invokevirtual 234, 3) := by decide +kernel
theorem d5_doubleTelling_10 : decode cX5_doubleTelling 10 = .ok (.aload_n 0, 1) := by decide +kernel
theorem d5_doubleTelling_11 : decode cX5_doubleTelling 11 = .ok (.iload_n 1, 1) := by decide +kernel
theorem d5_doubleTelling_12 : decode cX5_doubleTelling 12 = .ok (.invokevirtual 240, 3) := by decide +kernel
theorem d5_doubleTelling_15 : decode cX5_doubleTelling 15 = .ok (.iadd, 1) := by decide +kernel
theorem d5_doubleTelling_16 : decode cX5_doubleTelling 16 = .ok (.ireturn, 1) := by decide +kernel
noncomputable def f5_doubleTelling {α : Type} (p1 : Int32) (S : MS) (K : Int32 → MS → Option α) : Option α := f5_leave 3 S fun S1 => f5_wideTelling p1 S1 fun r4 S3 => f5_plainTelling p1 S3 fun r6 S5 => K (r4 + r6) S5
set_option maxHeartbeats 4000000 in
set_option maxRecDepth 100000 in
theorem c5_doubleTelling (l : Launch) (p1 : Int32) (S : MS) {α : Type} : CtI 30 eX l yX5_doubleTelling cX5_doubleTelling 2 (some .int) (rmG 3 63) S (fun ad => [.ref (ad 0), .int p1]) (α := α) (f5_doubleTelling p1 S) := by
  refine CtI.of (by decide) (fun _ => Nat.le_of_ble_eq_true rfl) (fun X K _ O hQ => ?_)
  have O : OK 30 X RX5 cX5_doubleTelling 2 (some .int) (rmG 3 63) := O
  show GM 30 eX X (f5_doubleTelling p1 S K) S 0 [(0, .ref (aX X 0)), (1, .int p1)] []
  unfold f5_doubleTelling
  refine r_aload_n O d5_doubleTelling_0 0 rfl ?_
  refine r_iconst O d5_doubleTelling_1 (v := 3) (by decide) ?_
  refine r_callVv O (b := 0) (bv := fun ad => [.int 3]) (rest := []) (c5_leave (lX X) 3 S) (fun _ => rfl) (by decide) eX_0 rfl rfl w_590 w_592 w_13 w_45 w_593 hy_X5_leave ⟨rfl, rfl, Nat.le_of_ble_eq_true rfl, Nat.le_of_ble_eq_true rfl⟩ rfl rfl (Nat.le_of_ble_eq_true rfl) d5_doubleTelling_2 (fun S1 => ?_)
  refine r_aload_n O d5_doubleTelling_5 0 rfl ?_
  refine r_iload_n O d5_doubleTelling_6 1 rfl ?_
  refine r_callVi O (b := 0) (bv := fun ad => [.int p1]) (rest := []) (c5_wideTelling (lX X) p1 S1) (fun _ => rfl) (by decide) eX_0 rfl rfl w_586 w_588 w_12 w_45 w_589 hy_X5_wideTelling ⟨rfl, rfl, Nat.le_of_ble_eq_true rfl, Nat.le_of_ble_eq_true rfl⟩ rfl rfl (Nat.le_of_ble_eq_true rfl) d5_doubleTelling_7 (fun r4 S3 => ?_)
  refine r_aload_n O d5_doubleTelling_10 0 rfl ?_
  refine r_iload_n O d5_doubleTelling_11 1 rfl ?_
  refine r_callVi O (b := 0) (bv := fun ad => [.int p1]) (rest := [.int r4]) (c5_plainTelling (lX X) p1 S3) (fun _ => rfl) (by decide) eX_0 rfl rfl w_594 w_596 w_14 w_45 w_597 hy_X5_plainTelling ⟨rfl, rfl, Nat.le_of_ble_eq_true rfl, Nat.le_of_ble_eq_true rfl⟩ rfl rfl (Nat.le_of_ble_eq_true rfl) d5_doubleTelling_12 (fun r6 S5 => ?_)
  refine r_iadd O d5_doubleTelling_15 ?_
  exact r_iret O hQ d5_doubleTelling_16
-- X5.tell
theorem d5_tell_0 : decode cX5_tell 0 = .ok (.aload_n 0, 1) := by decide +kernel
theorem d5_tell_1 : decode cX5_tell 1 = .ok (.iload_n 1, 1) := by decide +kernel
theorem d5_tell_2 : decode cX5_tell 2 = .ok (.invokevirtual 78, 3) := by decide +kernel
theorem d5_tell_5 : decode cX5_tell 5 = .ok (.ifCond .ne 5, 3) := by decide +kernel
theorem d5_tell_8 : decode cX5_tell 8 = .ok (.iconst (-1), 1) := by decide +kernel
theorem d5_tell_9 : decode cX5_tell 9 = .ok (.ireturn, 1) := by decide +kernel
theorem d5_tell_10 : decode cX5_tell 10 = .ok (.aload_n 0, 1) := by decide +kernel
theorem d5_tell_11 : decode cX5_tell 11 = .ok (.getfield 20, 3) := by decide +kernel
theorem d5_tell_14 : decode cX5_tell 14 = .ok (.getfield 81, 3) := by decide +kernel
theorem d5_tell_17 : decode cX5_tell 17 = .ok (.iload_n 1, 1) := by decide +kernel
theorem d5_tell_18 : decode cX5_tell 18 = .ok (.aaload, 1) := by decide +kernel
theorem d5_tell_19 : decode cX5_tell 19 = .ok (.astore_n 2, 1) := by decide +kernel
theorem d5_tell_20 : decode cX5_tell 20 = .ok (.aload_n 2, 1) := by decide +kernel
theorem d5_tell_21 : decode cX5_tell 21 = .ok (.getfield 85, 3) := by decide +kernel
theorem d5_tell_24 : decode cX5_tell 24 = .ok (.iconst 1, 1) := by decide +kernel
theorem d5_tell_25 : decode cX5_tell 25 = .ok (.if_icmp .ne 12, 3) := by decide +kernel
theorem d5_tell_28 : decode cX5_tell 28 = .ok (.aload_n 0, 1) := by decide +kernel
theorem d5_tell_29 : decode cX5_tell 29 = .ok (.aload_n 2, 1) := by decide +kernel
theorem d5_tell_30 : decode cX5_tell 30 = .ok (.getfield 96, 3) := by decide +kernel
theorem d5_tell_33 : decode cX5_tell 33 = .ok (.invokevirtual 234, 3) := by decide +kernel
theorem d5_tell_36 : decode cX5_tell 36 = .ok (.ireturn, 1) := by decide +kernel
theorem d5_tell_37 : decode cX5_tell 37 = .ok (.aload_n 2, 1) := by decide +kernel
theorem d5_tell_38 : decode cX5_tell 38 = .ok (.getfield 85, 3) := by decide +kernel
theorem d5_tell_41 : decode cX5_tell 41 = .ok (.iconst 2, 1) := by decide +kernel
theorem d5_tell_42 : decode cX5_tell 42 = .ok (.if_icmp .ne 12, 3) := by decide +kernel
theorem d5_tell_45 : decode cX5_tell 45 = .ok (.aload_n 0, 1) := by decide +kernel
theorem d5_tell_46 : decode cX5_tell 46 = .ok (.aload_n 2, 1) := by decide +kernel
theorem d5_tell_47 : decode cX5_tell 47 = .ok (.getfield 96, 3) := by decide +kernel
theorem d5_tell_50 : decode cX5_tell 50 = .ok (.invokevirtual 237, 3) := by decide +kernel
theorem d5_tell_53 : decode cX5_tell 53 = .ok (.ireturn, 1) := by decide +kernel
theorem d5_tell_54 : decode cX5_tell 54 = .ok (.aload_n 0, 1) := by decide +kernel
theorem d5_tell_55 : decode cX5_tell 55 = .ok (.aload_n 2, 1) := by decide +kernel
theorem d5_tell_56 : decode cX5_tell 56 = .ok (.getfield 96, 3) := by decide +kernel
theorem d5_tell_59 : decode cX5_tell 59 = .ok (.invokevirtual 240, 3) := by decide +kernel
theorem d5_tell_62 : decode cX5_tell 62 = .ok (.ireturn, 1) := by decide +kernel
noncomputable def f5_tell {α : Type} (p1 : Int32) (S : MS) (K : Int32 → MS → Option α) : Option α := f5_isTank p1 S fun r2 S1 => if r2 = 0 then (K (-1) S1) else (ck p1 6 fun k3 => if (S1.1 (24 + k3) 0) = 1 then (f5_wideTelling (S1.1 (24 + k3) 3) S1 fun r9 S8 => K r9 S8) else (if (S1.1 (24 + k3) 0) = 2 then (f5_doubleTelling (S1.1 (24 + k3) 3) S1 fun r7 S6 => K r7 S6) else (f5_plainTelling (S1.1 (24 + k3) 3) S1 fun r5 S4 => K r5 S4)))
set_option maxHeartbeats 4000000 in
set_option maxRecDepth 100000 in
theorem c5_tell (l : Launch) (p1 : Int32) (S : MS) {α : Type} : CtI 30 eX l yX5_tell cX5_tell 3 (some .int) (rmG 4 84) S (fun ad => [.ref (ad 0), .int p1]) (α := α) (f5_tell p1 S) := by
  refine CtI.of (by decide) (fun _ => Nat.le_of_ble_eq_true rfl) (fun X K _ O hQ => ?_)
  have O : OK 30 X RX5 cX5_tell 3 (some .int) (rmG 4 84) := O
  show GM 30 eX X (f5_tell p1 S K) S 0 [(0, .ref (aX X 0)), (1, .int p1)] []
  unfold f5_tell
  refine r_aload_n O d5_tell_0 0 rfl ?_
  refine r_iload_n O d5_tell_1 1 rfl ?_
  refine r_callVi O (b := 0) (bv := fun ad => [.int p1]) (rest := []) (c5_isTank (lX X) p1 S) (fun _ => rfl) (by decide) eX_0 rfl rfl w_304 w_306 w_1 w_45 w_307 hy_X5_isTank ⟨rfl, rfl, Nat.le_of_ble_eq_true rfl, Nat.le_of_ble_eq_true rfl⟩ rfl rfl (Nat.le_of_ble_eq_true rfl) d5_tell_2 (fun r2 S1 => ?_)
  refine r_if_ne O 10 d5_tell_5 (by decide) ?_ ?_
  · refine r_aload_n O d5_tell_10 0 rfl ?_
    refine g_X5_20 O d5_tell_11 ?_
    refine g_X5_81 O d5_tell_14 ?_
    refine r_iload_n O d5_tell_17 1 rfl ?_
    refine r_aald O (b := 24) (by decide) eX_7 rfl d5_tell_18 (fun k3 hk3 => ?_)
    refine r_astore_n O d5_tell_19 [(2, .ref (aX X (24 + k3))), (0, .ref (aX X 0)), (1, .int p1)] (by decide) rfl ?_
    refine r_aload_n O d5_tell_20 0 rfl ?_
    refine g_X5_85 O hk3 d5_tell_21 ?_
    refine r_iconst O d5_tell_24 (v := 1) (by decide) ?_
    refine r_icmp_ne O 37 d5_tell_25 (by decide) ?_ ?_
    · refine r_aload_n O d5_tell_37 0 rfl ?_
      refine g_X5_85 O hk3 d5_tell_38 ?_
      refine r_iconst O d5_tell_41 (v := 2) (by decide) ?_
      refine r_icmp_ne O 54 d5_tell_42 (by decide) ?_ ?_
      · refine r_aload_n O d5_tell_54 1 rfl ?_
        refine r_aload_n O d5_tell_55 0 rfl ?_
        refine g_X5_96 O hk3 d5_tell_56 ?_
        refine r_callVi O (b := 0) (bv := fun ad => [.int (S1.1 (24 + k3) 3)]) (rest := []) (c5_plainTelling (lX X) (S1.1 (24 + k3) 3) S1) (fun _ => rfl) (by decide) eX_0 rfl rfl w_594 w_596 w_14 w_45 w_597 hy_X5_plainTelling ⟨rfl, rfl, Nat.le_of_ble_eq_true rfl, Nat.le_of_ble_eq_true rfl⟩ rfl rfl (Nat.le_of_ble_eq_true rfl) d5_tell_59 (fun r5 S4 => ?_)
        exact r_iret O hQ d5_tell_62
      · refine r_aload_n O d5_tell_45 1 rfl ?_
        refine r_aload_n O d5_tell_46 0 rfl ?_
        refine g_X5_96 O hk3 d5_tell_47 ?_
        refine r_callVi O (b := 0) (bv := fun ad => [.int (S1.1 (24 + k3) 3)]) (rest := []) (c5_doubleTelling (lX X) (S1.1 (24 + k3) 3) S1) (fun _ => rfl) (by decide) eX_0 rfl rfl w_598 w_600 w_15 w_45 w_601 hy_X5_doubleTelling ⟨rfl, rfl, Nat.le_of_ble_eq_true rfl, Nat.le_of_ble_eq_true rfl⟩ rfl rfl (Nat.le_of_ble_eq_true rfl) d5_tell_50 (fun r7 S6 => ?_)
        exact r_iret O hQ d5_tell_53
    · refine r_aload_n O d5_tell_28 1 rfl ?_
      refine r_aload_n O d5_tell_29 0 rfl ?_
      refine g_X5_96 O hk3 d5_tell_30 ?_
      refine r_callVi O (b := 0) (bv := fun ad => [.int (S1.1 (24 + k3) 3)]) (rest := []) (c5_wideTelling (lX X) (S1.1 (24 + k3) 3) S1) (fun _ => rfl) (by decide) eX_0 rfl rfl w_586 w_588 w_12 w_45 w_589 hy_X5_wideTelling ⟨rfl, rfl, Nat.le_of_ble_eq_true rfl, Nat.le_of_ble_eq_true rfl⟩ rfl rfl (Nat.le_of_ble_eq_true rfl) d5_tell_33 (fun r9 S8 => ?_)
      exact r_iret O hQ d5_tell_36
  · refine r_iconst O d5_tell_8 (v := (-1)) (by decide) ?_
    exact r_iret O hQ d5_tell_9
-- X5.lentSounding
theorem d5_lentSounding_0 : decode cX5_lentSounding 0 = .ok (.aload_n 0, 1) := by decide +kernel
theorem d5_lentSounding_1 : decode cX5_lentSounding 1 = .ok (.iconst 4, 1) := by decide +kernel
theorem d5_lentSounding_2 : decode cX5_lentSounding 2 = .ok (.invokevirtual 273, 3) := by decide +kernel
theorem d5_lentSounding_5 : decode cX5_lentSounding 5 = .ok (.aload_n 1, 1) := by decide +kernel
theorem d5_lentSounding_6 : decode cX5_lentSounding 6 = .ok (.getfield 90, 3) := by decide +kernel
theorem d5_lentSounding_9 : decode cX5_lentSounding 9 = .ok (.ireturn, 1) := by decide +kernel
noncomputable def f5_lentSounding {α : Type} (k : Nat) (S : MS) (K : Int32 → MS → Option α) : Option α := f5_leave 4 S fun S1 => K (S1.1 (24 + k) 1) S1
set_option maxHeartbeats 4000000 in
set_option maxRecDepth 100000 in
theorem c5_lentSounding (l : Launch) (k : Nat) (hk : k < 6) (S : MS) {α : Type} : CtI 30 eX l yX5_lentSounding cX5_lentSounding 2 (some .int) (rmG 1 21) S (fun ad => [.ref (ad 0), .ref (ad (24 + k))]) (α := α) (f5_lentSounding k S) := by
  refine CtI.of (by decide) (fun _ => Nat.le_of_ble_eq_true rfl) (fun X K _ O hQ => ?_)
  have O : OK 30 X RX5 cX5_lentSounding 2 (some .int) (rmG 1 21) := O
  show GM 30 eX X (f5_lentSounding k S K) S 0 [(0, .ref (aX X 0)), (1, .ref (aX X (24 + k)))] []
  unfold f5_lentSounding
  refine r_aload_n O d5_lentSounding_0 0 rfl ?_
  refine r_iconst O d5_lentSounding_1 (v := 4) (by decide) ?_
  refine r_callVv O (b := 0) (bv := fun ad => [.int 4]) (rest := []) (c5_leave (lX X) 4 S) (fun _ => rfl) (by decide) eX_0 rfl rfl w_590 w_592 w_13 w_45 w_593 hy_X5_leave ⟨rfl, rfl, Nat.le_of_ble_eq_true rfl, Nat.le_of_ble_eq_true rfl⟩ rfl rfl (Nat.le_of_ble_eq_true rfl) d5_lentSounding_2 (fun S1 => ?_)
  refine r_aload_n O d5_lentSounding_5 1 rfl ?_
  refine g_X5_90 O hk d5_lentSounding_6 ?_
  exact r_iret O hQ d5_lentSounding_9
-- X5.soundingOfDouble
theorem d5_soundingOfDouble_0 : decode cX5_soundingOfDouble 0 = .ok (.aload_n 0, 1) := by decide +kernel
theorem d5_soundingOfDouble_1 : decode cX5_soundingOfDouble 1 = .ok (.iconst 5, 1) := by decide +kernel
theorem d5_soundingOfDouble_2 : decode cX5_soundingOfDouble 2 = .ok (.invokevirtual 273, 3) := by decide +kernel
theorem d5_soundingOfDouble_5 : decode cX5_soundingOfDouble 5 = .ok (.aload_n 0, 1) := by decide +kernel
theorem d5_soundingOfDouble_6 : decode cX5_soundingOfDouble 6 = .ok (.aload_n 1, 1) := by decide +kernel
theorem d5_soundingOfDouble_7 : decode cX5_soundingOfDouble 7 = .ok (.invokevirtual 247, 3) := by decide +kernel
theorem d5_soundingOfDouble_10 : decode cX5_soundingOfDouble 10 = .ok (.bipush 20, 2) := by decide +kernel
theorem d5_soundingOfDouble_12 : decode cX5_soundingOfDouble 12 = .ok (.iadd, 1) := by decide +kernel
theorem d5_soundingOfDouble_13 : decode cX5_soundingOfDouble 13 = .ok (.ireturn, 1) := by decide +kernel
noncomputable def f5_soundingOfDouble {α : Type} (k : Nat) (S : MS) (K : Int32 → MS → Option α) : Option α := f5_leave 5 S fun S1 => f5_lentSounding k S1 fun r4 S3 => K (r4 + 20) S3
set_option maxHeartbeats 4000000 in
set_option maxRecDepth 100000 in
theorem c5_soundingOfDouble (l : Launch) (k : Nat) (hk : k < 6) (S : MS) {α : Type} : CtI 30 eX l yX5_soundingOfDouble cX5_soundingOfDouble 2 (some .int) (rmG 2 42) S (fun ad => [.ref (ad 0), .ref (ad (24 + k))]) (α := α) (f5_soundingOfDouble k S) := by
  refine CtI.of (by decide) (fun _ => Nat.le_of_ble_eq_true rfl) (fun X K _ O hQ => ?_)
  have O : OK 30 X RX5 cX5_soundingOfDouble 2 (some .int) (rmG 2 42) := O
  show GM 30 eX X (f5_soundingOfDouble k S K) S 0 [(0, .ref (aX X 0)), (1, .ref (aX X (24 + k)))] []
  unfold f5_soundingOfDouble
  refine r_aload_n O d5_soundingOfDouble_0 0 rfl ?_
  refine r_iconst O d5_soundingOfDouble_1 (v := 5) (by decide) ?_
  refine r_callVv O (b := 0) (bv := fun ad => [.int 5]) (rest := []) (c5_leave (lX X) 5 S) (fun _ => rfl) (by decide) eX_0 rfl rfl w_590 w_592 w_13 w_45 w_593 hy_X5_leave ⟨rfl, rfl, Nat.le_of_ble_eq_true rfl, Nat.le_of_ble_eq_true rfl⟩ rfl rfl (Nat.le_of_ble_eq_true rfl) d5_soundingOfDouble_2 (fun S1 => ?_)
  refine r_aload_n O d5_soundingOfDouble_5 0 rfl ?_
  refine r_aload_n O d5_soundingOfDouble_6 1 rfl ?_
  refine r_callVi O (b := 0) (bv := fun ad => [.ref (ad (24 + k))]) (rest := []) (c5_lentSounding (lX X) k hk S1) (fun _ => rfl) (by decide) eX_0 rfl rfl w_610 w_612 w_17 w_45 w_613 hy_X5_lentSounding ⟨rfl, rfl, Nat.le_of_ble_eq_true rfl, Nat.le_of_ble_eq_true rfl⟩ rfl rfl (Nat.le_of_ble_eq_true rfl) d5_soundingOfDouble_7 (fun r4 S3 => ?_)
  refine r_bipush O d5_soundingOfDouble_10 (v := 20) (by decide) ?_
  refine r_iadd O d5_soundingOfDouble_12 ?_
  exact r_iret O hQ d5_soundingOfDouble_13
-- X5.sound
theorem d5_sound_0 : decode cX5_sound 0 = .ok (.aload_n 0, 1) := by decide +kernel
theorem d5_sound_1 : decode cX5_sound 1 = .ok (.iload_n 1, 1) := by decide +kernel
theorem d5_sound_2 : decode cX5_sound 2 = .ok (.invokevirtual 78, 3) := by decide +kernel
theorem d5_sound_5 : decode cX5_sound 5 = .ok (.ifCond .ne 5, 3) := by decide +kernel
theorem d5_sound_8 : decode cX5_sound 8 = .ok (.iconst (-1), 1) := by decide +kernel
theorem d5_sound_9 : decode cX5_sound 9 = .ok (.ireturn, 1) := by decide +kernel
theorem d5_sound_10 : decode cX5_sound 10 = .ok (.aload_n 0, 1) := by decide +kernel
theorem d5_sound_11 : decode cX5_sound 11 = .ok (.getfield 20, 3) := by decide +kernel
theorem d5_sound_14 : decode cX5_sound 14 = .ok (.getfield 81, 3) := by decide +kernel
theorem d5_sound_17 : decode cX5_sound 17 = .ok (.iload_n 1, 1) := by decide +kernel
theorem d5_sound_18 : decode cX5_sound 18 = .ok (.aaload, 1) := by decide +kernel
theorem d5_sound_19 : decode cX5_sound 19 = .ok (.astore_n 2, 1) := by decide +kernel
theorem d5_sound_20 : decode cX5_sound 20 = .ok (.aload_n 2, 1) := by decide +kernel
theorem d5_sound_21 : decode cX5_sound 21 = .ok (.getfield 85, 3) := by decide +kernel
theorem d5_sound_24 : decode cX5_sound 24 = .ok (.iconst 2, 1) := by decide +kernel
theorem d5_sound_25 : decode cX5_sound 25 = .ok (.if_icmp .ne 11, 3) := by decide +kernel
theorem d5_sound_28 : decode cX5_sound 28 = .ok (.aload_n 0, 1) := by decide +kernel
theorem d5_sound_29 : decode cX5_sound 29 = .ok (.aload_n 2, 1) := by decide +kernel
theorem d5_sound_30 : decode cX5_sound 30 = .ok (.invokevirtual 243, 3) := by decide +kernel
theorem d5_sound_33 : decode cX5_sound 33 = .ok (.goto 8, 3) := by decide +kernel
theorem d5_sound_36 : decode cX5_sound 36 = .ok (.aload_n 0, 1) := by decide +kernel
theorem d5_sound_37 : decode cX5_sound 37 = .ok (.aload_n 2, 1) := by decide +kernel
theorem d5_sound_38 : decode cX5_sound 38 = .ok (.invokevirtual 247, 3) := by decide +kernel
theorem d5_sound_41 : decode cX5_sound 41 = .ok (.ireturn, 1) := by decide +kernel
noncomputable def f5_sound {α : Type} (p1 : Int32) (S : MS) (K : Int32 → MS → Option α) : Option α := f5_isTank p1 S fun r2 S1 => if r2 = 0 then (K (-1) S1) else (ck p1 6 fun k3 => if (S1.1 (24 + k3) 0) = 2 then (f5_soundingOfDouble k3 S1 fun r7 S6 => K r7 S6) else (f5_lentSounding k3 S1 fun r5 S4 => K r5 S4))
set_option maxHeartbeats 4000000 in
set_option maxRecDepth 100000 in
theorem c5_sound (l : Launch) (p1 : Int32) (S : MS) {α : Type} : CtI 30 eX l yX5_sound cX5_sound 3 (some .int) (rmG 3 63) S (fun ad => [.ref (ad 0), .int p1]) (α := α) (f5_sound p1 S) := by
  refine CtI.of (by decide) (fun _ => Nat.le_of_ble_eq_true rfl) (fun X K _ O hQ => ?_)
  have O : OK 30 X RX5 cX5_sound 3 (some .int) (rmG 3 63) := O
  show GM 30 eX X (f5_sound p1 S K) S 0 [(0, .ref (aX X 0)), (1, .int p1)] []
  unfold f5_sound
  refine r_aload_n O d5_sound_0 0 rfl ?_
  refine r_iload_n O d5_sound_1 1 rfl ?_
  refine r_callVi O (b := 0) (bv := fun ad => [.int p1]) (rest := []) (c5_isTank (lX X) p1 S) (fun _ => rfl) (by decide) eX_0 rfl rfl w_304 w_306 w_1 w_45 w_307 hy_X5_isTank ⟨rfl, rfl, Nat.le_of_ble_eq_true rfl, Nat.le_of_ble_eq_true rfl⟩ rfl rfl (Nat.le_of_ble_eq_true rfl) d5_sound_2 (fun r2 S1 => ?_)
  refine r_if_ne O 10 d5_sound_5 (by decide) ?_ ?_
  · refine r_aload_n O d5_sound_10 0 rfl ?_
    refine g_X5_20 O d5_sound_11 ?_
    refine g_X5_81 O d5_sound_14 ?_
    refine r_iload_n O d5_sound_17 1 rfl ?_
    refine r_aald O (b := 24) (by decide) eX_7 rfl d5_sound_18 (fun k3 hk3 => ?_)
    refine r_astore_n O d5_sound_19 [(2, .ref (aX X (24 + k3))), (0, .ref (aX X 0)), (1, .int p1)] (by decide) rfl ?_
    refine r_aload_n O d5_sound_20 0 rfl ?_
    refine g_X5_85 O hk3 d5_sound_21 ?_
    refine r_iconst O d5_sound_24 (v := 2) (by decide) ?_
    refine r_icmp_ne O 36 d5_sound_25 (by decide) ?_ ?_
    · refine r_aload_n O d5_sound_36 1 rfl ?_
      refine r_aload_n O d5_sound_37 0 rfl ?_
      refine r_callVi O (b := 0) (bv := fun ad => [.ref (ad (24 + k3))]) (rest := []) (c5_lentSounding (lX X) k3 hk3 S1) (fun _ => rfl) (by decide) eX_0 rfl rfl w_610 w_612 w_17 w_45 w_613 hy_X5_lentSounding ⟨rfl, rfl, Nat.le_of_ble_eq_true rfl, Nat.le_of_ble_eq_true rfl⟩ rfl rfl (Nat.le_of_ble_eq_true rfl) d5_sound_38 (fun r5 S4 => ?_)
      exact r_iret O hQ d5_sound_41
    · refine r_aload_n O d5_sound_28 1 rfl ?_
      refine r_aload_n O d5_sound_29 0 rfl ?_
      refine r_callVi O (b := 0) (bv := fun ad => [.ref (ad (24 + k3))]) (rest := []) (c5_soundingOfDouble (lX X) k3 hk3 S1) (fun _ => rfl) (by decide) eX_0 rfl rfl w_606 w_608 w_16 w_45 w_609 hy_X5_soundingOfDouble ⟨rfl, rfl, Nat.le_of_ble_eq_true rfl, Nat.le_of_ble_eq_true rfl⟩ rfl rfl (Nat.le_of_ble_eq_true rfl) d5_sound_30 (fun r7 S6 => ?_)
      refine r_goto O 41 d5_sound_33 (by decide) ?_
      exact r_iret O hQ d5_sound_41
  · refine r_iconst O d5_sound_8 (v := (-1)) (by decide) ?_
    exact r_iret O hQ d5_sound_9
-- X5.as
theorem d5_as_0 : decode cX5_as 0 = .ok (.aload_n 0, 1) := by decide +kernel
theorem d5_as_1 : decode cX5_as 1 = .ok (.iconst 0, 1) := by decide +kernel
theorem d5_as_2 : decode cX5_as 2 = .ok (.putfield 42, 3) := by decide +kernel
theorem d5_as_5 : decode cX5_as 5 = .ok (.aload_n 0, 1) := by decide +kernel
theorem d5_as_6 : decode cX5_as 6 = .ok (.iload_n 1, 1) := by decide +kernel
theorem d5_as_7 : decode cX5_as 7 = .ok (.invokevirtual 78, 3) := by decide +kernel
theorem d5_as_10 : decode cX5_as 10 = .ok (.ifCond .ne 5, 3) := by decide +kernel
theorem d5_as_13 : decode cX5_as 13 = .ok (.iconst (-1), 1) := by decide +kernel
theorem d5_as_14 : decode cX5_as 14 = .ok (.ireturn, 1) := by decide +kernel
theorem d5_as_15 : decode cX5_as 15 = .ok (.iload_n 2, 1) := by decide +kernel
theorem d5_as_16 : decode cX5_as 16 = .ok (.ifCond .lt 8, 3) := by decide +kernel
theorem d5_as_19 : decode cX5_as 19 = .ok (.iload_n 2, 1) := by decide +kernel
theorem d5_as_20 : decode cX5_as 20 = .ok (.iconst 2, 1) := by decide +kernel
theorem d5_as_21 : decode cX5_as 21 = .ok (.if_icmp .le 6, 3) := by decide +kernel
theorem d5_as_24 : decode cX5_as 24 = .ok (.bipush (-2), 2) := by decide +kernel
theorem d5_as_26 : decode cX5_as 26 = .ok (.ireturn, 1) := by decide +kernel
theorem d5_as_27 : decode cX5_as 27 = .ok (.aload_n 0, 1) := by decide +kernel
theorem d5_as_28 : decode cX5_as 28 = .ok (.getfield 20, 3) := by decide +kernel
theorem d5_as_31 : decode cX5_as 31 = .ok (.getfield 81, 3) := by decide +kernel
theorem d5_as_34 : decode cX5_as 34 = .ok (.iload_n 1, 1) := by decide +kernel
theorem d5_as_35 : decode cX5_as 35 = .ok (.aaload, 1) := by decide +kernel
theorem d5_as_36 : decode cX5_as 36 = .ok (.getfield 85, 3) := by decide +kernel
theorem d5_as_39 : decode cX5_as 39 = .ok (.iload_n 2, 1) := by decide +kernel
theorem d5_as_40 : decode cX5_as 40 = .ok (.if_icmp .ge 9, 3) := by decide +kernel
theorem d5_as_43 : decode cX5_as 43 = .ok (.aload_n 0, 1) := by decide +kernel
theorem d5_as_44 : decode cX5_as 44 = .ok (.iconst 2, 1) := by decide +kernel
theorem d5_as_45 : decode cX5_as 45 = .ok (.invokevirtual 61, 3) := by decide +kernel
theorem d5_as_48 : decode cX5_as 48 = .ok (.ireturn, 1) := by decide +kernel
theorem d5_as_49 : decode cX5_as 49 = .ok (.iconst 1, 1) := by decide +kernel
theorem d5_as_50 : decode cX5_as 50 = .ok (.ireturn, 1) := by decide +kernel
noncomputable def f5_as {α : Type} (p1 : Int32) (p2 : Int32) (S : MS) (K : Int32 → MS → Option α) : Option α := nm (sI S 0 6 0) fun S1 => f5_isTank p1 S1 fun r3 S2 => if r3 = 0 then (K (-1) S2) else (if p2 < 0 then (K (-2) S2) else (if p2 ≤ 2 then (ck p1 6 fun k4 => if p2 ≤ (S2.1 (24 + k4) 0) then (K 1 S2) else (f5_faulted 2 S2 fun r6 S5 => K r6 S5)) else (K (-2) S2)))
set_option maxHeartbeats 4000000 in
set_option maxRecDepth 100000 in
theorem c5_as (l : Launch) (p1 : Int32) (p2 : Int32) (S : MS) {α : Type} : CtI 30 eX l yX5_as cX5_as 3 (some .int) (rmG 1 21) S (fun ad => [.ref (ad 0), .int p1, .int p2]) (α := α) (f5_as p1 p2 S) := by
  refine CtI.of (by decide) (fun _ => Nat.le_of_ble_eq_true rfl) (fun X K _ O hQ => ?_)
  have O : OK 30 X RX5 cX5_as 3 (some .int) (rmG 1 21) := O
  show GM 30 eX X (f5_as p1 p2 S K) S 0 [(0, .ref (aX X 0)), (1, .int p1), (2, .int p2)] []
  unfold f5_as
  refine r_aload_n O d5_as_0 0 rfl ?_
  refine r_iconst O d5_as_1 (v := 0) (by decide) ?_
  refine p_X5_42 O d5_as_2 (fun S1 => ?_)
  refine r_aload_n O d5_as_5 0 rfl ?_
  refine r_iload_n O d5_as_6 1 rfl ?_
  refine r_callVi O (b := 0) (bv := fun ad => [.int p1]) (rest := []) (c5_isTank (lX X) p1 S1) (fun _ => rfl) (by decide) eX_0 rfl rfl w_304 w_306 w_1 w_45 w_307 hy_X5_isTank ⟨rfl, rfl, Nat.le_of_ble_eq_true rfl, Nat.le_of_ble_eq_true rfl⟩ rfl rfl (Nat.le_of_ble_eq_true rfl) d5_as_7 (fun r3 S2 => ?_)
  refine r_if_ne O 15 d5_as_10 (by decide) ?_ ?_
  · refine r_iload_n O d5_as_15 2 rfl ?_
    refine r_if_lt O 24 d5_as_16 (by decide) ?_ ?_
    · refine r_bipush O d5_as_24 (v := (-2)) (by decide) ?_
      exact r_iret O hQ d5_as_26
    · refine r_iload_n O d5_as_19 2 rfl ?_
      refine r_iconst O d5_as_20 (v := 2) (by decide) ?_
      refine r_icmp_le O 27 d5_as_21 (by decide) ?_ ?_
      · refine r_aload_n O d5_as_27 0 rfl ?_
        refine g_X5_20 O d5_as_28 ?_
        refine g_X5_81 O d5_as_31 ?_
        refine r_iload_n O d5_as_34 1 rfl ?_
        refine r_aald O (b := 24) (by decide) eX_7 rfl d5_as_35 (fun k4 hk4 => ?_)
        refine g_X5_85 O hk4 d5_as_36 ?_
        refine r_iload_n O d5_as_39 2 rfl ?_
        refine r_icmp_ge O 49 d5_as_40 (by decide) ?_ ?_
        · refine r_iconst O d5_as_49 (v := 1) (by decide) ?_
          exact r_iret O hQ d5_as_50
        · refine r_aload_n O d5_as_43 0 rfl ?_
          refine r_iconst O d5_as_44 (v := 2) (by decide) ?_
          refine r_callVi O (b := 0) (bv := fun ad => [.int 2]) (rest := []) (c5_faulted (lX X) 2 S2) (fun _ => rfl) (by decide) eX_0 rfl rfl w_258 w_260 w_0 w_45 w_261 hy_X5_faulted ⟨rfl, rfl, Nat.le_of_ble_eq_true rfl, Nat.le_of_ble_eq_true rfl⟩ rfl rfl (Nat.le_of_ble_eq_true rfl) d5_as_45 (fun r6 S5 => ?_)
          exact r_iret O hQ d5_as_48
      · refine r_bipush O d5_as_24 (v := (-2)) (by decide) ?_
        exact r_iret O hQ d5_as_26
  · refine r_iconst O d5_as_13 (v := (-1)) (by decide) ?_
    exact r_iret O hQ d5_as_14
-- X5.trace
theorem d5_trace_0 : decode cX5_trace 0 = .ok (.aload_n 0, 1) := by decide +kernel
theorem d5_trace_1 : decode cX5_trace 1 = .ok (.getfield 39, 3) := by decide +kernel
theorem d5_trace_4 : decode cX5_trace 4 = .ok (.ireturn, 1) := by decide +kernel
noncomputable def f5_trace {α : Type} (S : MS) (K : Int32 → MS → Option α) : Option α := K (S.1 0 5) S
set_option maxHeartbeats 4000000 in
set_option maxRecDepth 100000 in
theorem c5_trace (l : Launch) (S : MS) {α : Type} : CtI 30 eX l yX5_trace cX5_trace 1 (some .int) (rmG 0 0) S (fun ad => [.ref (ad 0)]) (α := α) (f5_trace S) := by
  refine CtI.of (by decide) (fun _ => Nat.le_of_ble_eq_true rfl) (fun X K _ O hQ => ?_)
  have O : OK 30 X RX5 cX5_trace 1 (some .int) (rmG 0 0) := O
  show GM 30 eX X (f5_trace S K) S 0 [(0, .ref (aX X 0))] []
  unfold f5_trace
  refine r_aload_n O d5_trace_0 0 rfl ?_
  refine g_X5_39 O d5_trace_1 ?_
  exact r_iret O hQ d5_trace_4
-- X5.fault
theorem d5_fault_0 : decode cX5_fault 0 = .ok (.aload_n 0, 1) := by decide +kernel
theorem d5_fault_1 : decode cX5_fault 1 = .ok (.getfield 42, 3) := by decide +kernel
theorem d5_fault_4 : decode cX5_fault 4 = .ok (.ireturn, 1) := by decide +kernel
noncomputable def f5_fault {α : Type} (S : MS) (K : Int32 → MS → Option α) : Option α := K (S.1 0 6) S
set_option maxHeartbeats 4000000 in
set_option maxRecDepth 100000 in
theorem c5_fault (l : Launch) (S : MS) {α : Type} : CtI 30 eX l yX5_fault cX5_fault 1 (some .int) (rmG 0 0) S (fun ad => [.ref (ad 0)]) (α := α) (f5_fault S) := by
  refine CtI.of (by decide) (fun _ => Nat.le_of_ble_eq_true rfl) (fun X K _ O hQ => ?_)
  have O : OK 30 X RX5 cX5_fault 1 (some .int) (rmG 0 0) := O
  show GM 30 eX X (f5_fault S K) S 0 [(0, .ref (aX X 0))] []
  unfold f5_fault
  refine r_aload_n O d5_fault_0 0 rfl ?_
  refine g_X5_42 O d5_fault_1 ?_
  exact r_iret O hQ d5_fault_4
-- X5.many
theorem d5_many_0 : decode cX5_many 0 = .ok (.iload_n 1, 1) := by decide +kernel
theorem d5_many_1 : decode cX5_many 1 = .ok (.tableswitch 89 0 4 #[35, 43, 61, 73, 84], 35) := by decide +kernel
theorem d5_many_36 : decode cX5_many 36 = .ok (.aload_n 0, 1) := by decide +kernel
theorem d5_many_37 : decode cX5_many 37 = .ok (.getfield 20, 3) := by decide +kernel
theorem d5_many_40 : decode cX5_many 40 = .ok (.getfield 75, 3) := by decide +kernel
theorem d5_many_43 : decode cX5_many 43 = .ok (.ireturn, 1) := by decide +kernel
theorem d5_many_44 : decode cX5_many 44 = .ok (.aload_n 0, 1) := by decide +kernel
theorem d5_many_45 : decode cX5_many 45 = .ok (.getfield 20, 3) := by decide +kernel
theorem d5_many_48 : decode cX5_many 48 = .ok (.aload_n 0, 1) := by decide +kernel
theorem d5_many_49 : decode cX5_many 49 = .ok (.getfield 20, 3) := by decide +kernel
theorem d5_many_52 : decode cX5_many 52 = .ok (.getfield 103, 3) := by decide +kernel
theorem d5_many_55 : decode cX5_many 55 = .ok (.invokevirtual 133, 3) := by decide +kernel
theorem d5_many_58 : decode cX5_many 58 = .ok (.invokestatic 250, 3) := by decide +kernel
theorem d5_many_61 : decode cX5_many 61 = .ok (.ireturn, 1) := by decide +kernel
theorem d5_many_62 : decode cX5_many 62 = .ok (.aload_n 0, 1) := by decide +kernel
theorem d5_many_63 : decode cX5_many 63 = .ok (.aload_n 0, 1) := by decide +kernel
theorem d5_many_64 : decode cX5_many 64 = .ok (.getfield 20, 3) := by decide +kernel
theorem d5_many_67 : decode cX5_many 67 = .ok (.getfield 103, 3) := by decide +kernel
theorem d5_many_70 : decode cX5_many 70 = .ok (.invokevirtual 255, 3) := by decide +kernel
theorem d5_many_73 : decode cX5_many 73 = .ok (.ireturn, 1) := by decide +kernel
theorem d5_many_74 : decode cX5_many 74 = .ok (.aload_n 0, 1) := by decide +kernel
theorem d5_many_75 : decode cX5_many 75 = .ok (.getfield 20, 3) := by decide +kernel
theorem d5_many_78 : decode cX5_many 78 = .ok (.getfield 123, 3) := by decide +kernel
theorem d5_many_81 : decode cX5_many 81 = .ok (.invokestatic 250, 3) := by decide +kernel
theorem d5_many_84 : decode cX5_many 84 = .ok (.ireturn, 1) := by decide +kernel
theorem d5_many_85 : decode cX5_many 85 = .ok (.aload_n 0, 1) := by decide +kernel
theorem d5_many_86 : decode cX5_many 86 = .ok (.getfield 35, 3) := by decide +kernel
theorem d5_many_89 : decode cX5_many 89 = .ok (.ireturn, 1) := by decide +kernel
theorem d5_many_90 : decode cX5_many 90 = .ok (.bipush (-2), 2) := by decide +kernel
theorem d5_many_92 : decode cX5_many 92 = .ok (.ireturn, 1) := by decide +kernel
noncomputable def f5_many {α : Type} (p1 : Int32) (S : MS) (K : Int32 → MS → Option α) : Option α := if p1 = 0 then (K (S.1 2 3) S) else (if p1 = 1 then (f3_fullSet (S.1 2 4) S fun r4 S3 => fJ6_bitCount r4 S3 fun r6 S5 => K r6 S5) else (if p1 = 2 then (f5_newWaters (S.1 2 4) S fun r9 S8 => K r9 S8) else (if p1 = 3 then (fJ6_bitCount (S.1 2 6) S fun r12 S11 => K r12 S11) else (if p1 = 4 then (K (S.1 0 4) S) else (K (-2) S)))))
set_option maxHeartbeats 4000000 in
set_option maxRecDepth 100000 in
theorem c5_many (l : Launch) (p1 : Int32) (S : MS) {α : Type} : CtI 30 eX l yX5_many cX5_many 2 (some .int) (rmG 2 44) S (fun ad => [.ref (ad 0), .int p1]) (α := α) (f5_many p1 S) := by
  refine CtI.of (by decide) (fun _ => Nat.le_of_ble_eq_true rfl) (fun X K _ O hQ => ?_)
  have O : OK 30 X RX5 cX5_many 2 (some .int) (rmG 2 44) := O
  show GM 30 eX X (f5_many p1 S K) S 0 [(0, .ref (aX X 0)), (1, .int p1)] []
  unfold f5_many
  refine r_iload_n O d5_many_0 1 rfl ?_
  refine r_ite (fun hs1 => ?_) (fun hs1 => ?_)
  · refine r_tin O 36 d5_many_1 (by rw [hs1]; decide) (by rw [hs1]; decide) (by rw [hs1]; rfl) (by decide) ?_
    refine r_aload_n O d5_many_36 0 rfl ?_
    refine g_X5_20 O d5_many_37 ?_
    refine g_X5_75 O d5_many_40 ?_
    exact r_iret O hQ d5_many_43
  refine r_ite (fun hs2 => ?_) (fun hs2 => ?_)
  · refine r_tin O 44 d5_many_1 (by rw [hs2]; decide) (by rw [hs2]; decide) (by rw [hs2]; rfl) (by decide) ?_
    refine r_aload_n O d5_many_44 0 rfl ?_
    refine g_X5_20 O d5_many_45 ?_
    refine r_aload_n O d5_many_48 0 rfl ?_
    refine g_X5_20 O d5_many_49 ?_
    refine g_X5_103 O d5_many_52 ?_
    refine r_callVi O (b := 2) (bv := fun ad => [.int (S.1 2 4)]) (rest := []) (c3_fullSet (lX X) (S.1 2 4) S) (fun _ => rfl) (by decide) eX_2 rfl rfl w_391 w_286 w_287 w_46 w_288 hy_X3_fullSet ⟨rfl, rfl, Nat.le_of_ble_eq_true rfl, Nat.le_of_ble_eq_true rfl⟩ rfl rfl (Nat.le_of_ble_eq_true rfl) d5_many_55 (fun r4 S3 => ?_)
    refine r_callSi O (rest := []) (cJ6_bitCount (lX X) r4 S3) w_488 w_489 w_54 w_490 hy_J6_bitCount_0f7a4 ⟨rfl, rfl, Nat.le_of_ble_eq_true rfl, Nat.le_of_ble_eq_true rfl⟩ rfl rfl (Nat.le_of_ble_eq_true rfl) d5_many_58 (fun r6 S5 => ?_)
    exact r_iret O hQ d5_many_61
  refine r_ite (fun hs7 => ?_) (fun hs7 => ?_)
  · refine r_tin O 62 d5_many_1 (by rw [hs7]; decide) (by rw [hs7]; decide) (by rw [hs7]; rfl) (by decide) ?_
    refine r_aload_n O d5_many_62 0 rfl ?_
    refine r_aload_n O d5_many_63 0 rfl ?_
    refine g_X5_20 O d5_many_64 ?_
    refine g_X5_103 O d5_many_67 ?_
    refine r_callVi O (b := 0) (bv := fun ad => [.int (S.1 2 4)]) (rest := []) (c5_newWaters (lX X) (S.1 2 4) S) (fun _ => rfl) (by decide) eX_0 rfl rfl w_484 w_486 w_10 w_45 w_487 hy_X5_newWaters ⟨rfl, rfl, Nat.le_of_ble_eq_true rfl, Nat.le_of_ble_eq_true rfl⟩ rfl rfl (Nat.le_of_ble_eq_true rfl) d5_many_70 (fun r9 S8 => ?_)
    exact r_iret O hQ d5_many_73
  refine r_ite (fun hs10 => ?_) (fun hs10 => ?_)
  · refine r_tin O 74 d5_many_1 (by rw [hs10]; decide) (by rw [hs10]; decide) (by rw [hs10]; rfl) (by decide) ?_
    refine r_aload_n O d5_many_74 0 rfl ?_
    refine g_X5_20 O d5_many_75 ?_
    refine g_X5_123 O d5_many_78 ?_
    refine r_callSi O (rest := []) (cJ6_bitCount (lX X) (S.1 2 6) S) w_488 w_489 w_54 w_490 hy_J6_bitCount_0f7a4 ⟨rfl, rfl, Nat.le_of_ble_eq_true rfl, Nat.le_of_ble_eq_true rfl⟩ rfl rfl (Nat.le_of_ble_eq_true rfl) d5_many_81 (fun r12 S11 => ?_)
    exact r_iret O hQ d5_many_84
  refine r_ite (fun hs13 => ?_) (fun hs13 => ?_)
  · refine r_tin O 85 d5_many_1 (by rw [hs13]; decide) (by rw [hs13]; decide) (by rw [hs13]; rfl) (by decide) ?_
    refine r_aload_n O d5_many_85 0 rfl ?_
    refine g_X5_35 O d5_many_86 ?_
    exact r_iret O hQ d5_many_89
  have nhs1 := i32_ne (n := 0) 0 (by decide) hs1
  have nhs2 := i32_ne (n := 1) 1 (by decide) hs2
  have nhs7 := i32_ne (n := 2) 2 (by decide) hs7
  have nhs10 := i32_ne (n := 3) 3 (by decide) hs10
  have nhs13 := i32_ne (n := 4) 4 (by decide) hs13
  refine r_tout O 90 d5_many_1 (by omega) (by decide) ?_
  refine r_bipush O d5_many_90 (v := (-2)) (by decide) ?_
  exact r_iret O hQ d5_many_92
