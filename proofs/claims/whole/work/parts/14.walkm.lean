-- X6.odds
theorem d6_odds_0 : decode cX6_odds 0 = .ok (.iload_n 1, 1) := by decide +kernel
theorem d6_odds_1 : decode cX6_odds 1 = .ok (.i2l, 1) := by decide +kernel
theorem d6_odds_2 : decode cX6_odds 2 = .ok (.lconst 0, 1) := by decide +kernel
theorem d6_odds_3 : decode cX6_odds 3 = .ok (.lconst 1, 1) := by decide +kernel
theorem d6_odds_4 : decode cX6_odds 4 = .ok (.invokestatic 83, 3) := by decide +kernel
theorem d6_odds_7 : decode cX6_odds 7 = .ok (.ifCond .eq 10, 3) := by decide +kernel
theorem d6_odds_10 : decode cX6_odds 10 = .ok (.aload_n 0, 1) := by decide +kernel
theorem d6_odds_11 : decode cX6_odds 11 = .ok (.getfield 89, 3) := by decide +kernel
theorem d6_odds_14 : decode cX6_odds 14 = .ok (.ifCond .ne 7, 3) := by decide +kernel
theorem d6_odds_17 : decode cX6_odds 17 = .ok (.ldc2_w 79, 3) := by decide +kernel
theorem d6_odds_20 : decode cX6_odds 20 = .ok (.lreturn, 1) := by decide +kernel
theorem d6_odds_21 : decode cX6_odds 21 = .ok (.iconst 0, 1) := by decide +kernel
theorem d6_odds_22 : decode cX6_odds 22 = .ok (.istore_n 2, 1) := by decide +kernel
theorem d6_odds_23 : decode cX6_odds 23 = .ok (.iconst 0, 1) := by decide +kernel
theorem d6_odds_24 : decode cX6_odds 24 = .ok (.istore_n 3, 1) := by decide +kernel
theorem d6_odds_25 : decode cX6_odds 25 = .ok (.iload_n 3, 1) := by decide +kernel
theorem d6_odds_26 : decode cX6_odds 26 = .ok (.iconst 1, 1) := by decide +kernel
theorem d6_odds_27 : decode cX6_odds 27 = .ok (.aload_n 0, 1) := by decide +kernel
theorem d6_odds_28 : decode cX6_odds 28 = .ok (.getfield 89, 3) := by decide +kernel
theorem d6_odds_31 : decode cX6_odds 31 = .ok (.ishl, 1) := by decide +kernel
theorem d6_odds_32 : decode cX6_odds 32 = .ok (.if_icmp .ge 68, 3) := by decide +kernel
theorem d6_odds_35 : decode cX6_odds 35 = .ok (.iconst 0, 1) := by decide +kernel
theorem d6_odds_36 : decode cX6_odds 36 = .ok (.istore 4, 2) := by decide +kernel
theorem d6_odds_38 : decode cX6_odds 38 = .ok (.iconst 0, 1) := by decide +kernel
theorem d6_odds_39 : decode cX6_odds 39 = .ok (.istore 5, 2) := by decide +kernel
theorem d6_odds_41 : decode cX6_odds 41 = .ok (.iload 5, 2) := by decide +kernel
theorem d6_odds_43 : decode cX6_odds 43 = .ok (.aload_n 0, 1) := by decide +kernel
theorem d6_odds_44 : decode cX6_odds 44 = .ok (.getfield 89, 3) := by decide +kernel
theorem d6_odds_47 : decode cX6_odds 47 = .ok (.if_icmp .ge 28, 3) := by decide +kernel
theorem d6_odds_50 : decode cX6_odds 50 = .ok (.iload 4, 2) := by decide +kernel
theorem d6_odds_52 : decode cX6_odds 52 = .ok (.iload_n 3, 1) := by decide +kernel
theorem d6_odds_53 : decode cX6_odds 53 = .ok (.iload 5, 2) := by decide +kernel
theorem d6_odds_55 : decode cX6_odds 55 = .ok (.ishr, 1) := by decide +kernel
theorem d6_odds_56 : decode cX6_odds 56 = .ok (.iconst 1, 1) := by decide +kernel
theorem d6_odds_57 : decode cX6_odds 57 = .ok (.iand, 1) := by decide +kernel
theorem d6_odds_58 : decode cX6_odds 58 = .ok (.aload_n 0, 1) := by decide +kernel
theorem d6_odds_59 : decode cX6_odds 59 = .ok (.getfield 19, 3) := by decide +kernel
theorem d6_odds_62 : decode cX6_odds 62 = .ok (.iload 5, 2) := by decide +kernel
theorem d6_odds_64 : decode cX6_odds 64 = .ok (.iaload, 1) := by decide +kernel
theorem d6_odds_65 : decode cX6_odds 65 = .ok (.imul, 1) := by decide +kernel
theorem d6_odds_66 : decode cX6_odds 66 = .ok (.iadd, 1) := by decide +kernel
theorem d6_odds_67 : decode cX6_odds 67 = .ok (.istore 4, 2) := by decide +kernel
theorem d6_odds_69 : decode cX6_odds 69 = .ok (.iinc 5 1, 3) := by decide +kernel
theorem d6_odds_72 : decode cX6_odds 72 = .ok (.goto (-31), 3) := by decide +kernel
theorem d6_odds_75 : decode cX6_odds 75 = .ok (.iload_n 2, 1) := by decide +kernel
theorem d6_odds_76 : decode cX6_odds 76 = .ok (.aload_n 0, 1) := by decide +kernel
theorem d6_odds_77 : decode cX6_odds 77 = .ok (.iload 4, 2) := by decide +kernel
theorem d6_odds_79 : decode cX6_odds 79 = .ok (.bipush (-9), 2) := by decide +kernel
theorem d6_odds_81 : decode cX6_odds 81 = .ok (.invokevirtual 188, 3) := by decide +kernel
theorem d6_odds_84 : decode cX6_odds 84 = .ok (.ifCond .eq 7, 3) := by decide +kernel
theorem d6_odds_87 : decode cX6_odds 87 = .ok (.iconst 1, 1) := by decide +kernel
theorem d6_odds_88 : decode cX6_odds 88 = .ok (.goto 4, 3) := by decide +kernel
theorem d6_odds_91 : decode cX6_odds 91 = .ok (.iconst 0, 1) := by decide +kernel
theorem d6_odds_92 : decode cX6_odds 92 = .ok (.iadd, 1) := by decide +kernel
theorem d6_odds_93 : decode cX6_odds 93 = .ok (.istore_n 2, 1) := by decide +kernel
theorem d6_odds_94 : decode cX6_odds 94 = .ok (.iinc 3 1, 3) := by decide +kernel
theorem d6_odds_97 : decode cX6_odds 97 = .ok (.goto (-72), 3) := by decide +kernel
theorem d6_odds_100 : decode cX6_odds 100 = .ok (.iload_n 2, 1) := by decide +kernel
theorem d6_odds_101 : decode cX6_odds 101 = .ok (.iconst 1, 1) := by decide +kernel
theorem d6_odds_102 : decode cX6_odds 102 = .ok (.aload_n 0, 1) := by decide +kernel
theorem d6_odds_103 : decode cX6_odds 103 = .ok (.getfield 89, 3) := by decide +kernel
theorem d6_odds_106 : decode cX6_odds 106 = .ok (.ishl, 1) := by decide +kernel
theorem d6_odds_107 : decode cX6_odds 107 = .ok (.iload_n 1, 1) := by decide +kernel
theorem d6_odds_108 : decode cX6_odds 108 = .ok (.invokestatic 252, 3) := by decide +kernel
theorem d6_odds_111 : decode cX6_odds 111 = .ok (.lreturn, 1) := by decide +kernel
noncomputable def f6_odds_L41 {α : Type} (c1 : Int32) (c2 : Int32) (c3 : Int32) (KX : Int32 → Int32 → MS → Option α) : Nat → Int32 → Int32 → MS → Option α
  | 0, _, _, _ => none
  | n + 1, v4, v5, S => if (S.1 0 6) ≤ v5 then (KX v4 v5 S) else (ck v5 7 fun k3 => nm (v4 + (((c3 >>> (v5 &&& 31)) &&& 1) * (S.1 4 k3))) fun x4_4 => nm (v5 + 1) fun x5_5 => f6_odds_L41 c1 c2 c3 KX n x4_4 x5_5 S)
noncomputable def f6_odds_L25 {α : Type} (c1 : Int32) (KX : Int32 → Int32 → MS → Option α) : Nat → Int32 → Int32 → MS → Option α
  | 0, _, _, _ => none
  | n + 1, v2, v3, S => if ((1 : Int32) <<< ((S.1 0 6) &&& 31)) ≤ v3 then (KX v2 v3 S) else (f6_odds_L41 c1 v2 v3 (fun v4_7 v5_8 S6 => f6_isSafe v4_7 (-9) S6 fun r10 S9 => if r10 = 0 then (nm (v2 + 0) fun x2_11 => nm (v3 + 1) fun x3_12 => f6_odds_L25 c1 KX n x2_11 x3_12 S9) else (nm (v2 + 1) fun x2_13 => nm (v3 + 1) fun x3_14 => f6_odds_L25 c1 KX n x2_13 x3_14 S9)) FU 0 0 S)
noncomputable def f6_odds {α : Type} (p1 : Int32) (S : MS) (K : Int64 → MS → Option α) : Option α := f6_within (Int32.toInt64 p1) 0 1 S fun r2 S1 => if r2 = 0 then (K (-9223372036854775808) S1) else (if (S1.1 0 6) = 0 then (K (-9223372036854775808) S1) else (f6_odds_L25 p1 (fun v2_16 v3_17 S15 => f6_inLeastTerms v2_16 ((1 : Int32) <<< ((S15.1 0 6) &&& 31)) p1 S15 fun r19 S18 => K r19 S18) FU 0 0 S1))
set_option maxHeartbeats 4000000 in
set_option maxRecDepth 100000 in
theorem l6_odds_41 {α : Type} {X : GX α} (O : OK 22 X RX6 cX6_odds 6 (some .long) (rmG 3 70)) {c1 : Int32} {c2 : Int32} {c3 : Int32} {KX : Int32 → Int32 → MS → Option α} (hX : ∀ v4 v5 S, GM 22 eM X (KX v4 v5 S) S 75 [(0, .ref (aX X 0)), (1, .int c1), (2, .int c2), (3, .int c3), (4, .int v4), (5, .int v5)] []) : ∀ n v4 v5 S, GM 22 eM X (f6_odds_L41 c1 c2 c3 KX n v4 v5 S) S 41 [(0, .ref (aX X 0)), (1, .int c1), (2, .int c2), (3, .int c3), (4, .int v4), (5, .int v5)] [] := by
  intro n
  induction n with
  | zero => intro v4 v5 S; exact r_none
  | succ n ih =>
    intro v4 v5 S
    rw [f6_odds_L41]
    refine r_iload O d6_odds_41 5 rfl ?_
    refine r_aload_n O d6_odds_43 0 rfl ?_
    refine g_X6_89 O d6_odds_44 ?_
    refine r_icmp_ge O 75 d6_odds_47 (by decide) ?_ ?_
    · refine r_sub [0, 1, 2, 3, 4, 5] rfl ?_
      exact hX _ _ _
    · refine r_iload O d6_odds_50 4 rfl ?_
      refine r_iload_n O d6_odds_52 3 rfl ?_
      refine r_iload O d6_odds_53 5 rfl ?_
      refine r_ishr O d6_odds_55 ?_
      refine r_iconst O d6_odds_56 (v := 1) (by decide) ?_
      refine r_iand O d6_odds_57 ?_
      refine r_aload_n O d6_odds_58 0 rfl ?_
      refine g_X6_19 O d6_odds_59 ?_
      refine r_iload O d6_odds_62 5 rfl ?_
      refine r_iald O (j := 4) (by decide) eM_4 d6_odds_64 (fun k3 hk3 => ?_)
      refine r_imul O d6_odds_65 ?_
      refine r_iadd O d6_odds_66 ?_
      refine r_istore_nm O d6_odds_67 (fun x4_4 => [(4, .int x4_4), (0, .ref (aX X 0)), (1, .int c1), (2, .int c2), (3, .int c3), (5, .int v5)]) (by decide) (fun _ => rfl) (fun x4_4 => ?_)
      refine r_iinc O d6_odds_69 5 (c0 := 1) rfl (by decide) (fun x5_5 => [(5, .int x5_5), (4, .int x4_4), (0, .ref (aX X 0)), (1, .int c1), (2, .int c2), (3, .int c3)]) (by decide) (fun _ => rfl) (fun x5_5 => ?_)
      refine r_goto O 41 d6_odds_72 (by decide) ?_
      refine r_sub [2, 3, 4, 5, 1, 0] rfl ?_
      exact ih _ _ _
set_option maxHeartbeats 4000000 in
set_option maxRecDepth 100000 in
theorem l6_odds_25 {α : Type} {X : GX α} (O : OK 22 X RX6 cX6_odds 6 (some .long) (rmG 3 70)) {c1 : Int32} {KX : Int32 → Int32 → MS → Option α} (hX : ∀ v2 v3 S, GM 22 eM X (KX v2 v3 S) S 100 [(0, .ref (aX X 0)), (1, .int c1), (2, .int v2), (3, .int v3)] []) : ∀ n v2 v3 S, GM 22 eM X (f6_odds_L25 c1 KX n v2 v3 S) S 25 [(0, .ref (aX X 0)), (1, .int c1), (2, .int v2), (3, .int v3)] [] := by
  intro n
  induction n with
  | zero => intro v2 v3 S; exact r_none
  | succ n ih =>
    intro v2 v3 S
    rw [f6_odds_L25]
    refine r_iload_n O d6_odds_25 3 rfl ?_
    refine r_iconst O d6_odds_26 (v := 1) (by decide) ?_
    refine r_aload_n O d6_odds_27 0 rfl ?_
    refine g_X6_89 O d6_odds_28 ?_
    refine r_ishl O d6_odds_31 ?_
    refine r_icmp_ge O 100 d6_odds_32 (by decide) ?_ ?_
    · refine r_sub [0, 1, 2, 3] rfl ?_
      exact hX _ _ _
    · refine r_iconst O d6_odds_35 (v := 0) (by decide) ?_
      refine r_istore O d6_odds_36 [(4, .int 0), (0, .ref (aX X 0)), (1, .int c1), (2, .int v2), (3, .int v3)] (by decide) rfl ?_
      refine r_iconst O d6_odds_38 (v := 0) (by decide) ?_
      refine r_istore O d6_odds_39 [(5, .int 0), (4, .int 0), (0, .ref (aX X 0)), (1, .int c1), (2, .int v2), (3, .int v3)] (by decide) rfl ?_
      refine r_sub [2, 3, 4, 5, 1, 0] rfl ?_
      refine l6_odds_41 O (fun v4_7 v5_8 S6 => ?_) _ _ _ _
      refine r_iload_n O d6_odds_75 2 rfl ?_
      refine r_aload_n O d6_odds_76 0 rfl ?_
      refine r_iload O d6_odds_77 4 rfl ?_
      refine r_bipush O d6_odds_79 (v := (-9)) (by decide) ?_
      refine r_callVi O (b := 0) (bv := fun ad => [.int v4_7, .int (-9)]) (rest := [.int v2]) (c6_isSafe (lX X) v4_7 (-9) S6) (fun _ => rfl) (by decide) eM_0 rfl rfl w_813 w_815 w_28 w_51 w_816 hy_X6_isSafe ⟨rfl, rfl, Nat.le_of_ble_eq_true rfl, Nat.le_of_ble_eq_true rfl⟩ rfl rfl (Nat.le_of_ble_eq_true rfl) d6_odds_81 (fun r10 S9 => ?_)
      refine r_if_eq O 91 d6_odds_84 (by decide) ?_ ?_
      · refine r_iconst O d6_odds_91 (v := 0) (by decide) ?_
        refine r_iadd O d6_odds_92 ?_
        refine r_istore_n_nm O d6_odds_93 (fun x2_11 => [(2, .int x2_11), (0, .ref (aX X 0)), (1, .int c1), (3, .int v3), (4, .int v4_7), (5, .int v5_8)]) (by decide) (fun _ => rfl) (fun x2_11 => ?_)
        refine r_iinc O d6_odds_94 3 (c0 := 1) rfl (by decide) (fun x3_12 => [(3, .int x3_12), (2, .int x2_11), (0, .ref (aX X 0)), (1, .int c1), (4, .int v4_7), (5, .int v5_8)]) (by decide) (fun _ => rfl) (fun x3_12 => ?_)
        refine r_goto O 25 d6_odds_97 (by decide) ?_
        refine r_sub [2, 3, 1, 0] rfl ?_
        exact ih _ _ _
      · refine r_iconst O d6_odds_87 (v := 1) (by decide) ?_
        refine r_goto O 92 d6_odds_88 (by decide) ?_
        refine r_iadd O d6_odds_92 ?_
        refine r_istore_n_nm O d6_odds_93 (fun x2_13 => [(2, .int x2_13), (0, .ref (aX X 0)), (1, .int c1), (3, .int v3), (4, .int v4_7), (5, .int v5_8)]) (by decide) (fun _ => rfl) (fun x2_13 => ?_)
        refine r_iinc O d6_odds_94 3 (c0 := 1) rfl (by decide) (fun x3_14 => [(3, .int x3_14), (2, .int x2_13), (0, .ref (aX X 0)), (1, .int c1), (4, .int v4_7), (5, .int v5_8)]) (by decide) (fun _ => rfl) (fun x3_14 => ?_)
        refine r_goto O 25 d6_odds_97 (by decide) ?_
        refine r_sub [2, 3, 1, 0] rfl ?_
        exact ih _ _ _
set_option maxHeartbeats 4000000 in
set_option maxRecDepth 100000 in
theorem c6_odds (l : Launch) (p1 : Int32) (S : MS) {α : Type} : CtL 22 eM l yX6_odds cX6_odds 6 (some .long) (rmG 3 70) S (fun ad => [.ref (ad 0), .int p1]) (α := α) (f6_odds p1 S) := by
  refine CtL.of (by decide) (fun _ => Nat.le_of_ble_eq_true rfl) (fun X K _ O hQ => ?_)
  have O : OK 22 X RX6 cX6_odds 6 (some .long) (rmG 3 70) := O
  show GM 22 eM X (f6_odds p1 S K) S 0 [(0, .ref (aX X 0)), (1, .int p1)] []
  unfold f6_odds
  refine r_iload_n O d6_odds_0 1 rfl ?_
  refine r_i2l O d6_odds_1 ?_
  refine r_lconst O d6_odds_2 (v := 0) (by decide) ?_
  refine r_lconst O d6_odds_3 (v := 1) (by decide) ?_
  refine r_callSi O (rest := []) (c6_within (lX X) (Int32.toInt64 p1) 0 1 S) w_753 w_754 w_51 w_755 hy_X6_within ⟨rfl, rfl, Nat.le_of_ble_eq_true rfl, Nat.le_of_ble_eq_true rfl⟩ rfl rfl (Nat.le_of_ble_eq_true rfl) d6_odds_4 (fun r2 S1 => ?_)
  refine r_if_eq O 17 d6_odds_7 (by decide) ?_ ?_
  · refine r_ldc2 O (v := (-9223372036854775808)) w_893 d6_odds_17 ?_
    exact r_lret O hQ d6_odds_20
  · refine r_aload_n O d6_odds_10 0 rfl ?_
    refine g_X6_89 O d6_odds_11 ?_
    refine r_if_ne O 21 d6_odds_14 (by decide) ?_ ?_
    · refine r_iconst O d6_odds_21 (v := 0) (by decide) ?_
      refine r_istore_n O d6_odds_22 [(2, .int 0), (0, .ref (aX X 0)), (1, .int p1)] (by decide) rfl ?_
      refine r_iconst O d6_odds_23 (v := 0) (by decide) ?_
      refine r_istore_n O d6_odds_24 [(3, .int 0), (2, .int 0), (0, .ref (aX X 0)), (1, .int p1)] (by decide) rfl ?_
      refine r_sub [2, 3, 1, 0] rfl ?_
      refine l6_odds_25 O (fun v2_16 v3_17 S15 => ?_) _ _ _ _
      refine r_iload_n O d6_odds_100 2 rfl ?_
      refine r_iconst O d6_odds_101 (v := 1) (by decide) ?_
      refine r_aload_n O d6_odds_102 0 rfl ?_
      refine g_X6_89 O d6_odds_103 ?_
      refine r_ishl O d6_odds_106 ?_
      refine r_iload_n O d6_odds_107 1 rfl ?_
      refine r_callSl O (rest := []) (c6_inLeastTerms (lX X) v2_16 ((1 : Int32) <<< ((S15.1 0 6) &&& 31)) p1 S15) w_953 w_954 w_51 w_955 hy_X6_inLeastTerms ⟨rfl, rfl, Nat.le_of_ble_eq_true rfl, Nat.le_of_ble_eq_true rfl⟩ rfl rfl (Nat.le_of_ble_eq_true rfl) d6_odds_108 (fun r19 S18 => ?_)
      exact r_lret O hQ d6_odds_111
    · refine r_ldc2 O (v := (-9223372036854775808)) w_893 d6_odds_17 ?_
      exact r_lret O hQ d6_odds_20
-- X6.sheet
theorem d6_sheet_0 : decode cX6_sheet 0 = .ok (.aload_n 0, 1) := by decide +kernel
theorem d6_sheet_1 : decode cX6_sheet 1 = .ok (.iconst 0, 1) := by decide +kernel
theorem d6_sheet_2 : decode cX6_sheet 2 = .ok (.putfield 75, 3) := by decide +kernel
theorem d6_sheet_5 : decode cX6_sheet 5 = .ok (.iload_n 1, 1) := by decide +kernel
theorem d6_sheet_6 : decode cX6_sheet 6 = .ok (.invokestatic 125, 3) := by decide +kernel
theorem d6_sheet_9 : decode cX6_sheet 9 = .ok (.ifCond .ne 5, 3) := by decide +kernel
theorem d6_sheet_12 : decode cX6_sheet 12 = .ok (.iconst (-1), 1) := by decide +kernel
theorem d6_sheet_13 : decode cX6_sheet 13 = .ok (.ireturn, 1) := by decide +kernel
theorem d6_sheet_14 : decode cX6_sheet 14 = .ok (.iload_n 2, 1) := by decide +kernel
theorem d6_sheet_15 : decode cX6_sheet 15 = .ok (.invokestatic 128, 3) := by decide +kernel
theorem d6_sheet_18 : decode cX6_sheet 18 = .ok (.ifCond .eq 9, 3) := by decide +kernel
theorem d6_sheet_21 : decode cX6_sheet 21 = .ok (.iload_n 3, 1) := by decide +kernel
theorem d6_sheet_22 : decode cX6_sheet 22 = .ok (.bipush 60, 2) := by decide +kernel
theorem d6_sheet_24 : decode cX6_sheet 24 = .ok (.if_icmp .le 6, 3) := by decide +kernel
theorem d6_sheet_27 : decode cX6_sheet 27 = .ok (.bipush (-2), 2) := by decide +kernel
theorem d6_sheet_29 : decode cX6_sheet 29 = .ok (.ireturn, 1) := by decide +kernel
theorem d6_sheet_30 : decode cX6_sheet 30 = .ok (.iload_n 3, 1) := by decide +kernel
theorem d6_sheet_31 : decode cX6_sheet 31 = .ok (.ifCond .ge 9, 3) := by decide +kernel
theorem d6_sheet_34 : decode cX6_sheet 34 = .ok (.aload_n 0, 1) := by decide +kernel
theorem d6_sheet_35 : decode cX6_sheet 35 = .ok (.iconst 4, 1) := by decide +kernel
theorem d6_sheet_36 : decode cX6_sheet 36 = .ok (.invokevirtual 135, 3) := by decide +kernel
theorem d6_sheet_39 : decode cX6_sheet 39 = .ok (.ireturn, 1) := by decide +kernel
theorem d6_sheet_40 : decode cX6_sheet 40 = .ok (.aload_n 0, 1) := by decide +kernel
theorem d6_sheet_41 : decode cX6_sheet 41 = .ok (.getfield 9, 3) := by decide +kernel
theorem d6_sheet_44 : decode cX6_sheet 44 = .ok (.iload_n 1, 1) := by decide +kernel
theorem d6_sheet_45 : decode cX6_sheet 45 = .ok (.iload_n 2, 1) := by decide +kernel
theorem d6_sheet_46 : decode cX6_sheet 46 = .ok (.iastore, 1) := by decide +kernel
theorem d6_sheet_47 : decode cX6_sheet 47 = .ok (.aload_n 0, 1) := by decide +kernel
theorem d6_sheet_48 : decode cX6_sheet 48 = .ok (.getfield 13, 3) := by decide +kernel
theorem d6_sheet_51 : decode cX6_sheet 51 = .ok (.iload_n 1, 1) := by decide +kernel
theorem d6_sheet_52 : decode cX6_sheet 52 = .ok (.iload_n 3, 1) := by decide +kernel
theorem d6_sheet_53 : decode cX6_sheet 53 = .ok (.iastore, 1) := by decide +kernel
theorem d6_sheet_54 : decode cX6_sheet 54 = .ok (.iconst 0, 1) := by decide +kernel
theorem d6_sheet_55 : decode cX6_sheet 55 = .ok (.istore 4, 2) := by decide +kernel
theorem d6_sheet_57 : decode cX6_sheet 57 = .ok (.iload 4, 2) := by decide +kernel
theorem d6_sheet_59 : decode cX6_sheet 59 = .ok (.bipush 60, 2) := by decide +kernel
theorem d6_sheet_61 : decode cX6_sheet 61 = .ok (.if_icmp .ge 22, 3) := by decide +kernel
theorem d6_sheet_64 : decode cX6_sheet 64 = .ok (.aload_n 0, 1) := by decide +kernel
theorem d6_sheet_65 : decode cX6_sheet 65 = .ok (.getfield 16, 3) := by decide +kernel
theorem d6_sheet_68 : decode cX6_sheet 68 = .ok (.bipush 60, 2) := by decide +kernel
theorem d6_sheet_70 : decode cX6_sheet 70 = .ok (.iload_n 1, 1) := by decide +kernel
theorem d6_sheet_71 : decode cX6_sheet 71 = .ok (.imul, 1) := by decide +kernel
theorem d6_sheet_72 : decode cX6_sheet 72 = .ok (.iload 4, 2) := by decide +kernel
theorem d6_sheet_74 : decode cX6_sheet 74 = .ok (.iadd, 1) := by decide +kernel
theorem d6_sheet_75 : decode cX6_sheet 75 = .ok (.iconst 0, 1) := by decide +kernel
theorem d6_sheet_76 : decode cX6_sheet 76 = .ok (.iastore, 1) := by decide +kernel
theorem d6_sheet_77 : decode cX6_sheet 77 = .ok (.iinc 4 1, 3) := by decide +kernel
theorem d6_sheet_80 : decode cX6_sheet 80 = .ok (.goto (-23), 3) := by decide +kernel
theorem d6_sheet_83 : decode cX6_sheet 83 = .ok (.iconst 1, 1) := by decide +kernel
theorem d6_sheet_84 : decode cX6_sheet 84 = .ok (.ireturn, 1) := by decide +kernel
noncomputable def f6_sheet_L57 {α : Type} (c1 : Int32) (KX : Int32 → MS → Option α) : Nat → Int32 → MS → Option α
  | 0, _, _ => none
  | n + 1, v4, S => if 60 ≤ v4 then (KX v4 S) else (ck (((60 : Int32) * c1) + v4) 240 fun k10 => nm (sI S 3 k10 0) fun S11 => nm (v4 + 1) fun x4_12 => f6_sheet_L57 c1 KX n x4_12 S11)
noncomputable def f6_sheet {α : Type} (p1 : Int32) (p2 : Int32) (p3 : Int32) (S : MS) (K : Int32 → MS → Option α) : Option α := nm (sI S 0 0 0) fun S1 => f6_isSheet p1 S1 fun r3 S2 => if r3 = 0 then (K (-1) S2) else (f6_isSort p2 S2 fun r5 S4 => if r5 = 0 then (K (-2) S4) else (if p3 ≤ 60 then (if 0 ≤ p3 then (ck p1 4 fun k6 => nm (sI S4 1 k6 p2) fun S7 => ck p1 4 fun k8 => nm (sI S7 2 k8 p3) fun S9 => f6_sheet_L57 p1 (fun v4_14 S13 => K 1 S13) FU 0 S9) else (f6_fails 4 S4 fun r16 S15 => K r16 S15)) else (K (-2) S4)))
set_option maxHeartbeats 4000000 in
set_option maxRecDepth 100000 in
theorem l6_sheet_57 {α : Type} {X : GX α} (O : OK 22 X RX6 cX6_sheet 5 (some .int) (rmG 2 45)) {c1 : Int32} {KX : Int32 → MS → Option α} (hX : ∀ v4 S, GM 22 eM X (KX v4 S) S 83 [(0, .ref (aX X 0)), (1, .int c1), (4, .int v4)] []) : ∀ n v4 S, GM 22 eM X (f6_sheet_L57 c1 KX n v4 S) S 57 [(0, .ref (aX X 0)), (1, .int c1), (4, .int v4)] [] := by
  intro n
  induction n with
  | zero => intro v4 S; exact r_none
  | succ n ih =>
    intro v4 S
    rw [f6_sheet_L57]
    refine r_iload O d6_sheet_57 2 rfl ?_
    refine r_bipush O d6_sheet_59 (v := 60) (by decide) ?_
    refine r_icmp_ge O 83 d6_sheet_61 (by decide) ?_ ?_
    · refine r_sub [0, 1, 2] rfl ?_
      exact hX _ _
    · refine r_aload_n O d6_sheet_64 0 rfl ?_
      refine g_X6_16 O d6_sheet_65 ?_
      refine r_bipush O d6_sheet_68 (v := 60) (by decide) ?_
      refine r_iload_n O d6_sheet_70 1 rfl ?_
      refine r_imul O d6_sheet_71 ?_
      refine r_iload O d6_sheet_72 2 rfl ?_
      refine r_iadd O d6_sheet_74 ?_
      refine r_iconst O d6_sheet_75 (v := 0) (by decide) ?_
      refine r_iast O (j := 3) (by decide) (fun _ => eM_3) d6_sheet_76 (fun S11 => ?_)
      refine r_iinc O d6_sheet_77 2 (c0 := 1) rfl (by decide) (fun x4_12 => [(4, .int x4_12), (0, .ref (aX X 0)), (1, .int c1)]) (by decide) (fun _ => rfl) (fun x4_12 => ?_)
      refine r_goto O 57 d6_sheet_80 (by decide) ?_
      refine r_sub [1, 2, 0] rfl ?_
      exact ih _ _
set_option maxHeartbeats 4000000 in
set_option maxRecDepth 100000 in
theorem c6_sheet (l : Launch) (p1 : Int32) (p2 : Int32) (p3 : Int32) (S : MS) {α : Type} : CtI 22 eM l yX6_sheet cX6_sheet 5 (some .int) (rmG 2 45) S (fun ad => [.ref (ad 0), .int p1, .int p2, .int p3]) (α := α) (f6_sheet p1 p2 p3 S) := by
  refine CtI.of (by decide) (fun _ => Nat.le_of_ble_eq_true rfl) (fun X K _ O hQ => ?_)
  have O : OK 22 X RX6 cX6_sheet 5 (some .int) (rmG 2 45) := O
  show GM 22 eM X (f6_sheet p1 p2 p3 S K) S 0 [(0, .ref (aX X 0)), (1, .int p1), (2, .int p2), (3, .int p3)] []
  unfold f6_sheet
  refine r_aload_n O d6_sheet_0 0 rfl ?_
  refine r_iconst O d6_sheet_1 (v := 0) (by decide) ?_
  refine p_X6_75 O d6_sheet_2 (fun S1 => ?_)
  refine r_iload_n O d6_sheet_5 1 rfl ?_
  refine r_callSi O (rest := []) (c6_isSheet (lX X) p1 S1) w_749 w_750 w_51 w_751 hy_X6_isSheet ⟨rfl, rfl, Nat.le_of_ble_eq_true rfl, Nat.le_of_ble_eq_true rfl⟩ rfl rfl (Nat.le_of_ble_eq_true rfl) d6_sheet_6 (fun r3 S2 => ?_)
  refine r_if_ne O 14 d6_sheet_9 (by decide) ?_ ?_
  · refine r_iload_n O d6_sheet_14 2 rfl ?_
    refine r_callSi O (rest := []) (c6_isSort (lX X) p2 S2) w_756 w_757 w_51 w_758 hy_X6_isSort ⟨rfl, rfl, Nat.le_of_ble_eq_true rfl, Nat.le_of_ble_eq_true rfl⟩ rfl rfl (Nat.le_of_ble_eq_true rfl) d6_sheet_15 (fun r5 S4 => ?_)
    refine r_if_eq O 27 d6_sheet_18 (by decide) ?_ ?_
    · refine r_bipush O d6_sheet_27 (v := (-2)) (by decide) ?_
      exact r_iret O hQ d6_sheet_29
    · refine r_iload_n O d6_sheet_21 3 rfl ?_
      refine r_bipush O d6_sheet_22 (v := 60) (by decide) ?_
      refine r_icmp_le O 30 d6_sheet_24 (by decide) ?_ ?_
      · refine r_iload_n O d6_sheet_30 3 rfl ?_
        refine r_if_ge O 40 d6_sheet_31 (by decide) ?_ ?_
        · refine r_aload_n O d6_sheet_40 0 rfl ?_
          refine g_X6_9 O d6_sheet_41 ?_
          refine r_iload_n O d6_sheet_44 1 rfl ?_
          refine r_iload_n O d6_sheet_45 2 rfl ?_
          refine r_iast O (j := 1) (by decide) (fun _ => eM_1) d6_sheet_46 (fun S7 => ?_)
          refine r_aload_n O d6_sheet_47 0 rfl ?_
          refine g_X6_13 O d6_sheet_48 ?_
          refine r_iload_n O d6_sheet_51 1 rfl ?_
          refine r_iload_n O d6_sheet_52 3 rfl ?_
          refine r_iast O (j := 2) (by decide) (fun _ => eM_2) d6_sheet_53 (fun S9 => ?_)
          refine r_iconst O d6_sheet_54 (v := 0) (by decide) ?_
          refine r_istore O d6_sheet_55 [(4, .int 0), (0, .ref (aX X 0)), (1, .int p1), (2, .int p2), (3, .int p3)] (by decide) rfl ?_
          refine r_sub [1, 2, 0] rfl ?_
          refine l6_sheet_57 O (fun v4_14 S13 => ?_) _ _ _
          refine r_iconst O d6_sheet_83 (v := 1) (by decide) ?_
          exact r_iret O hQ d6_sheet_84
        · refine r_aload_n O d6_sheet_34 0 rfl ?_
          refine r_iconst O d6_sheet_35 (v := 4) (by decide) ?_
          refine r_callVi O (b := 0) (bv := fun ad => [.int 4]) (rest := []) (c6_fails (lX X) 4 S4) (fun _ => rfl) (by decide) eM_0 rfl rfl w_764 w_766 w_19 w_51 w_767 hy_X6_fails ⟨rfl, rfl, Nat.le_of_ble_eq_true rfl, Nat.le_of_ble_eq_true rfl⟩ rfl rfl (Nat.le_of_ble_eq_true rfl) d6_sheet_36 (fun r16 S15 => ?_)
          exact r_iret O hQ d6_sheet_39
      · refine r_bipush O d6_sheet_27 (v := (-2)) (by decide) ?_
        exact r_iret O hQ d6_sheet_29
  · refine r_iconst O d6_sheet_12 (v := (-1)) (by decide) ?_
    exact r_iret O hQ d6_sheet_13
-- X6.lose
theorem d6_lose_0 : decode cX6_lose 0 = .ok (.iload_n 1, 1) := by decide +kernel
theorem d6_lose_1 : decode cX6_lose 1 = .ok (.invokestatic 125, 3) := by decide +kernel
theorem d6_lose_4 : decode cX6_lose 4 = .ok (.ifCond .ne 5, 3) := by decide +kernel
theorem d6_lose_7 : decode cX6_lose 7 = .ok (.iconst (-1), 1) := by decide +kernel
theorem d6_lose_8 : decode cX6_lose 8 = .ok (.ireturn, 1) := by decide +kernel
theorem d6_lose_9 : decode cX6_lose 9 = .ok (.aload_n 0, 1) := by decide +kernel
theorem d6_lose_10 : decode cX6_lose 10 = .ok (.getfield 9, 3) := by decide +kernel
theorem d6_lose_13 : decode cX6_lose 13 = .ok (.iload_n 1, 1) := by decide +kernel
theorem d6_lose_14 : decode cX6_lose 14 = .ok (.iaload, 1) := by decide +kernel
theorem d6_lose_15 : decode cX6_lose 15 = .ok (.bipush (-9), 2) := by decide +kernel
theorem d6_lose_17 : decode cX6_lose 17 = .ok (.if_icmp .ne 7, 3) := by decide +kernel
theorem d6_lose_20 : decode cX6_lose 20 = .ok (.iconst 0, 1) := by decide +kernel
theorem d6_lose_21 : decode cX6_lose 21 = .ok (.goto 4, 3) := by decide +kernel
theorem d6_lose_24 : decode cX6_lose 24 = .ok (.iconst 1, 1) := by decide +kernel
theorem d6_lose_25 : decode cX6_lose 25 = .ok (.istore_n 2, 1) := by decide +kernel
theorem d6_lose_26 : decode cX6_lose 26 = .ok (.aload_n 0, 1) := by decide +kernel
theorem d6_lose_27 : decode cX6_lose 27 = .ok (.getfield 9, 3) := by decide +kernel
theorem d6_lose_30 : decode cX6_lose 30 = .ok (.iload_n 1, 1) := by decide +kernel
theorem d6_lose_31 : decode cX6_lose 31 = .ok (.bipush (-9), 2) := by decide +kernel
theorem d6_lose_33 : decode cX6_lose 33 = .ok (.iastore, 1) := by decide +kernel
theorem d6_lose_34 : decode cX6_lose 34 = .ok (.iload_n 2, 1) := by decide +kernel
theorem d6_lose_35 : decode cX6_lose 35 = .ok (.ireturn, 1) := by decide +kernel
noncomputable def f6_lose {α : Type} (p1 : Int32) (S : MS) (K : Int32 → MS → Option α) : Option α := f6_isSheet p1 S fun r2 S1 => if r2 = 0 then (K (-1) S1) else (ck p1 4 fun k3 => if (S1.1 1 k3) = (-9) then (ck p1 4 fun k6 => nm (sI S1 1 k6 (-9)) fun S7 => K 0 S7) else (ck p1 4 fun k4 => nm (sI S1 1 k4 (-9)) fun S5 => K 1 S5))
set_option maxHeartbeats 4000000 in
set_option maxRecDepth 100000 in
theorem c6_lose (l : Launch) (p1 : Int32) (S : MS) {α : Type} : CtI 22 eM l yX6_lose cX6_lose 3 (some .int) (rmG 2 45) S (fun ad => [.ref (ad 0), .int p1]) (α := α) (f6_lose p1 S) := by
  refine CtI.of (by decide) (fun _ => Nat.le_of_ble_eq_true rfl) (fun X K _ O hQ => ?_)
  have O : OK 22 X RX6 cX6_lose 3 (some .int) (rmG 2 45) := O
  show GM 22 eM X (f6_lose p1 S K) S 0 [(0, .ref (aX X 0)), (1, .int p1)] []
  unfold f6_lose
  refine r_iload_n O d6_lose_0 1 rfl ?_
  refine r_callSi O (rest := []) (c6_isSheet (lX X) p1 S) w_749 w_750 w_51 w_751 hy_X6_isSheet ⟨rfl, rfl, Nat.le_of_ble_eq_true rfl, Nat.le_of_ble_eq_true rfl⟩ rfl rfl (Nat.le_of_ble_eq_true rfl) d6_lose_1 (fun r2 S1 => ?_)
  refine r_if_ne O 9 d6_lose_4 (by decide) ?_ ?_
  · refine r_aload_n O d6_lose_9 0 rfl ?_
    refine g_X6_9 O d6_lose_10 ?_
    refine r_iload_n O d6_lose_13 1 rfl ?_
    refine r_iald O (j := 1) (by decide) eM_1 d6_lose_14 (fun k3 hk3 => ?_)
    refine r_bipush O d6_lose_15 (v := (-9)) (by decide) ?_
    refine r_icmp_ne O 24 d6_lose_17 (by decide) ?_ ?_
    · refine r_iconst O d6_lose_24 (v := 1) (by decide) ?_
      refine r_istore_n O d6_lose_25 [(2, .int 1), (0, .ref (aX X 0)), (1, .int p1)] (by decide) rfl ?_
      refine r_aload_n O d6_lose_26 1 rfl ?_
      refine g_X6_9 O d6_lose_27 ?_
      refine r_iload_n O d6_lose_30 2 rfl ?_
      refine r_bipush O d6_lose_31 (v := (-9)) (by decide) ?_
      refine r_iast O (j := 1) (by decide) (fun _ => eM_1) d6_lose_33 (fun S5 => ?_)
      refine r_iload_n O d6_lose_34 0 rfl ?_
      exact r_iret O hQ d6_lose_35
    · refine r_iconst O d6_lose_20 (v := 0) (by decide) ?_
      refine r_goto O 25 d6_lose_21 (by decide) ?_
      refine r_istore_n O d6_lose_25 [(2, .int 0), (0, .ref (aX X 0)), (1, .int p1)] (by decide) rfl ?_
      refine r_aload_n O d6_lose_26 1 rfl ?_
      refine g_X6_9 O d6_lose_27 ?_
      refine r_iload_n O d6_lose_30 2 rfl ?_
      refine r_bipush O d6_lose_31 (v := (-9)) (by decide) ?_
      refine r_iast O (j := 1) (by decide) (fun _ => eM_1) d6_lose_33 (fun S7 => ?_)
      refine r_iload_n O d6_lose_34 0 rfl ?_
      exact r_iret O hQ d6_lose_35
  · refine r_iconst O d6_lose_7 (v := (-1)) (by decide) ?_
    exact r_iret O hQ d6_lose_8
-- X6.put
theorem d6_put_0 : decode cX6_put 0 = .ok (.aload_n 0, 1) := by decide +kernel
theorem d6_put_1 : decode cX6_put 1 = .ok (.iconst 0, 1) := by decide +kernel
theorem d6_put_2 : decode cX6_put 2 = .ok (.putfield 75, 3) := by decide +kernel
theorem d6_put_5 : decode cX6_put 5 = .ok (.iload_n 1, 1) := by decide +kernel
theorem d6_put_6 : decode cX6_put 6 = .ok (.invokestatic 125, 3) := by decide +kernel
theorem d6_put_9 : decode cX6_put 9 = .ok (.ifCond .ne 5, 3) := by decide +kernel
theorem d6_put_12 : decode cX6_put 12 = .ok (.iconst (-1), 1) := by decide +kernel
theorem d6_put_13 : decode cX6_put 13 = .ok (.ireturn, 1) := by decide +kernel
theorem d6_put_14 : decode cX6_put 14 = .ok (.aload_n 0, 1) := by decide +kernel
theorem d6_put_15 : decode cX6_put 15 = .ok (.getfield 9, 3) := by decide +kernel
theorem d6_put_18 : decode cX6_put 18 = .ok (.iload_n 1, 1) := by decide +kernel
theorem d6_put_19 : decode cX6_put 19 = .ok (.iaload, 1) := by decide +kernel
theorem d6_put_20 : decode cX6_put 20 = .ok (.bipush (-9), 2) := by decide +kernel
theorem d6_put_22 : decode cX6_put 22 = .ok (.if_icmp .ne 9, 3) := by decide +kernel
theorem d6_put_25 : decode cX6_put 25 = .ok (.aload_n 0, 1) := by decide +kernel
theorem d6_put_26 : decode cX6_put 26 = .ok (.iconst 1, 1) := by decide +kernel
theorem d6_put_27 : decode cX6_put 27 = .ok (.invokevirtual 135, 3) := by decide +kernel
theorem d6_put_30 : decode cX6_put 30 = .ok (.ireturn, 1) := by decide +kernel
theorem d6_put_31 : decode cX6_put 31 = .ok (.iload_n 2, 1) := by decide +kernel
theorem d6_put_32 : decode cX6_put 32 = .ok (.i2l, 1) := by decide +kernel
theorem d6_put_33 : decode cX6_put 33 = .ok (.lconst 0, 1) := by decide +kernel
theorem d6_put_34 : decode cX6_put 34 = .ok (.aload_n 0, 1) := by decide +kernel
theorem d6_put_35 : decode cX6_put 35 = .ok (.getfield 13, 3) := by decide +kernel
theorem d6_put_38 : decode cX6_put 38 = .ok (.iload_n 1, 1) := by decide +kernel
theorem d6_put_39 : decode cX6_put 39 = .ok (.iaload, 1) := by decide +kernel
theorem d6_put_40 : decode cX6_put 40 = .ok (.iconst 1, 1) := by decide +kernel
theorem d6_put_41 : decode cX6_put 41 = .ok (.isub, 1) := by decide +kernel
theorem d6_put_42 : decode cX6_put 42 = .ok (.i2l, 1) := by decide +kernel
theorem d6_put_43 : decode cX6_put 43 = .ok (.invokestatic 83, 3) := by decide +kernel
theorem d6_put_46 : decode cX6_put 46 = .ok (.ifCond .ne 9, 3) := by decide +kernel
theorem d6_put_49 : decode cX6_put 49 = .ok (.aload_n 0, 1) := by decide +kernel
theorem d6_put_50 : decode cX6_put 50 = .ok (.iconst 3, 1) := by decide +kernel
theorem d6_put_51 : decode cX6_put 51 = .ok (.invokevirtual 135, 3) := by decide +kernel
theorem d6_put_54 : decode cX6_put 54 = .ok (.ireturn, 1) := by decide +kernel
theorem d6_put_55 : decode cX6_put 55 = .ok (.aload_n 0, 1) := by decide +kernel
theorem d6_put_56 : decode cX6_put 56 = .ok (.getfield 16, 3) := by decide +kernel
theorem d6_put_59 : decode cX6_put 59 = .ok (.bipush 60, 2) := by decide +kernel
theorem d6_put_61 : decode cX6_put 61 = .ok (.iload_n 1, 1) := by decide +kernel
theorem d6_put_62 : decode cX6_put 62 = .ok (.imul, 1) := by decide +kernel
theorem d6_put_63 : decode cX6_put 63 = .ok (.iload_n 2, 1) := by decide +kernel
theorem d6_put_64 : decode cX6_put 64 = .ok (.iadd, 1) := by decide +kernel
theorem d6_put_65 : decode cX6_put 65 = .ok (.aload_n 0, 1) := by decide +kernel
theorem d6_put_66 : decode cX6_put 66 = .ok (.getfield 9, 3) := by decide +kernel
theorem d6_put_69 : decode cX6_put 69 = .ok (.iload_n 1, 1) := by decide +kernel
theorem d6_put_70 : decode cX6_put 70 = .ok (.iaload, 1) := by decide +kernel
theorem d6_put_71 : decode cX6_put 71 = .ok (.ifCond .ne 8, 3) := by decide +kernel
theorem d6_put_74 : decode cX6_put 74 = .ok (.iload_n 3, 1) := by decide +kernel
theorem d6_put_75 : decode cX6_put 75 = .ok (.i2b, 1) := by decide +kernel
theorem d6_put_76 : decode cX6_put 76 = .ok (.goto 19, 3) := by decide +kernel
theorem d6_put_79 : decode cX6_put 79 = .ok (.aload_n 0, 1) := by decide +kernel
theorem d6_put_80 : decode cX6_put 80 = .ok (.getfield 9, 3) := by decide +kernel
theorem d6_put_83 : decode cX6_put 83 = .ok (.iload_n 1, 1) := by decide +kernel
theorem d6_put_84 : decode cX6_put 84 = .ok (.iaload, 1) := by decide +kernel
theorem d6_put_85 : decode cX6_put 85 = .ok (.iconst 1, 1) := by decide +kernel
theorem d6_put_86 : decode cX6_put 86 = .ok (.if_icmp .ne 8, 3) := by decide +kernel
theorem d6_put_89 : decode cX6_put 89 = .ok (.iload_n 3, 1) := by decide +kernel
theorem d6_put_90 : decode cX6_put 90 = .ok (.i2s, 1) := by decide +kernel
theorem d6_put_91 : decode cX6_put 91 = .ok (.goto 4, 3) := by decide +kernel
theorem d6_put_94 : decode cX6_put 94 = .ok (.iload_n 3, 1) := by decide +kernel
theorem d6_put_95 : decode cX6_put 95 = .ok (.iastore, 1) := by decide +kernel
theorem d6_put_96 : decode cX6_put 96 = .ok (.iconst 1, 1) := by decide +kernel
theorem d6_put_97 : decode cX6_put 97 = .ok (.ireturn, 1) := by decide +kernel
noncomputable def f6_put {α : Type} (p1 : Int32) (p2 : Int32) (p3 : Int32) (S : MS) (K : Int32 → MS → Option α) : Option α := nm (sI S 0 0 0) fun S1 => f6_isSheet p1 S1 fun r3 S2 => if r3 = 0 then (K (-1) S2) else (ck p1 4 fun k4 => if (S2.1 1 k4) = (-9) then (f6_fails 1 S2 fun r19 S18 => K r19 S18) else (ck p1 4 fun k5 => f6_within (Int32.toInt64 p2) 0 (Int32.toInt64 ((S2.1 2 k5) - 1)) S2 fun r7 S6 => if r7 = 0 then (f6_fails 3 S6 fun r17 S16 => K r17 S16) else (ck p1 4 fun k8 => if (S6.1 1 k8) = 0 then (ck (((60 : Int32) * p1) + p2) 240 fun k14 => nm (sI S6 3 k14 p3.toInt8.toInt32) fun S15 => K 1 S15) else (ck p1 4 fun k9 => if (S6.1 1 k9) = 1 then (ck (((60 : Int32) * p1) + p2) 240 fun k12 => nm (sI S6 3 k12 p3.toInt16.toInt32) fun S13 => K 1 S13) else (ck (((60 : Int32) * p1) + p2) 240 fun k10 => nm (sI S6 3 k10 p3) fun S11 => K 1 S11)))))
set_option maxHeartbeats 4000000 in
set_option maxRecDepth 100000 in
theorem c6_put (l : Launch) (p1 : Int32) (p2 : Int32) (p3 : Int32) (S : MS) {α : Type} : CtI 22 eM l yX6_put cX6_put 4 (some .int) (rmG 2 45) S (fun ad => [.ref (ad 0), .int p1, .int p2, .int p3]) (α := α) (f6_put p1 p2 p3 S) := by
  refine CtI.of (by decide) (fun _ => Nat.le_of_ble_eq_true rfl) (fun X K _ O hQ => ?_)
  have O : OK 22 X RX6 cX6_put 4 (some .int) (rmG 2 45) := O
  show GM 22 eM X (f6_put p1 p2 p3 S K) S 0 [(0, .ref (aX X 0)), (1, .int p1), (2, .int p2), (3, .int p3)] []
  unfold f6_put
  refine r_aload_n O d6_put_0 0 rfl ?_
  refine r_iconst O d6_put_1 (v := 0) (by decide) ?_
  refine p_X6_75 O d6_put_2 (fun S1 => ?_)
  refine r_iload_n O d6_put_5 1 rfl ?_
  refine r_callSi O (rest := []) (c6_isSheet (lX X) p1 S1) w_749 w_750 w_51 w_751 hy_X6_isSheet ⟨rfl, rfl, Nat.le_of_ble_eq_true rfl, Nat.le_of_ble_eq_true rfl⟩ rfl rfl (Nat.le_of_ble_eq_true rfl) d6_put_6 (fun r3 S2 => ?_)
  refine r_if_ne O 14 d6_put_9 (by decide) ?_ ?_
  · refine r_aload_n O d6_put_14 0 rfl ?_
    refine g_X6_9 O d6_put_15 ?_
    refine r_iload_n O d6_put_18 1 rfl ?_
    refine r_iald O (j := 1) (by decide) eM_1 d6_put_19 (fun k4 hk4 => ?_)
    refine r_bipush O d6_put_20 (v := (-9)) (by decide) ?_
    refine r_icmp_ne O 31 d6_put_22 (by decide) ?_ ?_
    · refine r_iload_n O d6_put_31 2 rfl ?_
      refine r_i2l O d6_put_32 ?_
      refine r_lconst O d6_put_33 (v := 0) (by decide) ?_
      refine r_aload_n O d6_put_34 0 rfl ?_
      refine g_X6_13 O d6_put_35 ?_
      refine r_iload_n O d6_put_38 1 rfl ?_
      refine r_iald O (j := 2) (by decide) eM_2 d6_put_39 (fun k5 hk5 => ?_)
      refine r_iconst O d6_put_40 (v := 1) (by decide) ?_
      refine r_isub O d6_put_41 ?_
      refine r_i2l O d6_put_42 ?_
      refine r_callSi O (rest := []) (c6_within (lX X) (Int32.toInt64 p2) 0 (Int32.toInt64 ((S2.1 2 k5) - 1)) S2) w_753 w_754 w_51 w_755 hy_X6_within ⟨rfl, rfl, Nat.le_of_ble_eq_true rfl, Nat.le_of_ble_eq_true rfl⟩ rfl rfl (Nat.le_of_ble_eq_true rfl) d6_put_43 (fun r7 S6 => ?_)
      refine r_if_ne O 55 d6_put_46 (by decide) ?_ ?_
      · refine r_aload_n O d6_put_55 0 rfl ?_
        refine g_X6_16 O d6_put_56 ?_
        refine r_bipush O d6_put_59 (v := 60) (by decide) ?_
        refine r_iload_n O d6_put_61 1 rfl ?_
        refine r_imul O d6_put_62 ?_
        refine r_iload_n O d6_put_63 2 rfl ?_
        refine r_iadd O d6_put_64 ?_
        refine r_aload_n O d6_put_65 0 rfl ?_
        refine g_X6_9 O d6_put_66 ?_
        refine r_iload_n O d6_put_69 1 rfl ?_
        refine r_iald O (j := 1) (by decide) eM_1 d6_put_70 (fun k8 hk8 => ?_)
        refine r_if_ne O 79 d6_put_71 (by decide) ?_ ?_
        · refine r_aload_n O d6_put_79 0 rfl ?_
          refine g_X6_9 O d6_put_80 ?_
          refine r_iload_n O d6_put_83 1 rfl ?_
          refine r_iald O (j := 1) (by decide) eM_1 d6_put_84 (fun k9 hk9 => ?_)
          refine r_iconst O d6_put_85 (v := 1) (by decide) ?_
          refine r_icmp_ne O 94 d6_put_86 (by decide) ?_ ?_
          · refine r_iload_n O d6_put_94 3 rfl ?_
            refine r_iast O (j := 3) (by decide) (fun _ => eM_3) d6_put_95 (fun S11 => ?_)
            refine r_iconst O d6_put_96 (v := 1) (by decide) ?_
            exact r_iret O hQ d6_put_97
          · refine r_iload_n O d6_put_89 3 rfl ?_
            refine r_i2s O d6_put_90 ?_
            refine r_goto O 95 d6_put_91 (by decide) ?_
            refine r_iast O (j := 3) (by decide) (fun _ => eM_3) d6_put_95 (fun S13 => ?_)
            refine r_iconst O d6_put_96 (v := 1) (by decide) ?_
            exact r_iret O hQ d6_put_97
        · refine r_iload_n O d6_put_74 3 rfl ?_
          refine r_i2b O d6_put_75 ?_
          refine r_goto O 95 d6_put_76 (by decide) ?_
          refine r_iast O (j := 3) (by decide) (fun _ => eM_3) d6_put_95 (fun S15 => ?_)
          refine r_iconst O d6_put_96 (v := 1) (by decide) ?_
          exact r_iret O hQ d6_put_97
      · refine r_aload_n O d6_put_49 0 rfl ?_
        refine r_iconst O d6_put_50 (v := 3) (by decide) ?_
        refine r_callVi O (b := 0) (bv := fun ad => [.int 3]) (rest := []) (c6_fails (lX X) 3 S6) (fun _ => rfl) (by decide) eM_0 rfl rfl w_764 w_766 w_19 w_51 w_767 hy_X6_fails ⟨rfl, rfl, Nat.le_of_ble_eq_true rfl, Nat.le_of_ble_eq_true rfl⟩ rfl rfl (Nat.le_of_ble_eq_true rfl) d6_put_51 (fun r17 S16 => ?_)
        exact r_iret O hQ d6_put_54
    · refine r_aload_n O d6_put_25 0 rfl ?_
      refine r_iconst O d6_put_26 (v := 1) (by decide) ?_
      refine r_callVi O (b := 0) (bv := fun ad => [.int 1]) (rest := []) (c6_fails (lX X) 1 S2) (fun _ => rfl) (by decide) eM_0 rfl rfl w_764 w_766 w_19 w_51 w_767 hy_X6_fails ⟨rfl, rfl, Nat.le_of_ble_eq_true rfl, Nat.le_of_ble_eq_true rfl⟩ rfl rfl (Nat.le_of_ble_eq_true rfl) d6_put_27 (fun r19 S18 => ?_)
      exact r_iret O hQ d6_put_30
  · refine r_iconst O d6_put_12 (v := (-1)) (by decide) ?_
    exact r_iret O hQ d6_put_13
-- X6.lost
theorem d6_lost_0 : decode cX6_lost 0 = .ok (.aload_n 0, 1) := by decide +kernel
theorem d6_lost_1 : decode cX6_lost 1 = .ok (.iload_n 1, 1) := by decide +kernel
theorem d6_lost_2 : decode cX6_lost 2 = .ok (.putfield 75, 3) := by decide +kernel
theorem d6_lost_5 : decode cX6_lost 5 = .ok (.ldc2_w 79, 3) := by decide +kernel
theorem d6_lost_8 : decode cX6_lost 8 = .ok (.lreturn, 1) := by decide +kernel
noncomputable def f6_lost {α : Type} (p1 : Int32) (S : MS) (K : Int64 → MS → Option α) : Option α := nm (sI S 0 0 p1) fun S1 => K (-9223372036854775808) S1
set_option maxHeartbeats 4000000 in
set_option maxRecDepth 100000 in
theorem c6_lost (l : Launch) (p1 : Int32) (S : MS) {α : Type} : CtL 22 eM l yX6_lost cX6_lost 2 (some .long) (rmG 0 0) S (fun ad => [.ref (ad 0), .int p1]) (α := α) (f6_lost p1 S) := by
  refine CtL.of (by decide) (fun _ => Nat.le_of_ble_eq_true rfl) (fun X K _ O hQ => ?_)
  have O : OK 22 X RX6 cX6_lost 2 (some .long) (rmG 0 0) := O
  show GM 22 eM X (f6_lost p1 S K) S 0 [(0, .ref (aX X 0)), (1, .int p1)] []
  unfold f6_lost
  refine r_aload_n O d6_lost_0 0 rfl ?_
  refine r_iload_n O d6_lost_1 1 rfl ?_
  refine p_X6_75 O d6_lost_2 (fun S1 => ?_)
  refine r_ldc2 O (v := (-9223372036854775808)) w_893 d6_lost_5 ?_
  exact r_lret O hQ d6_lost_8
-- X6.cell
theorem d6_cell_0 : decode cX6_cell 0 = .ok (.aload_n 0, 1) := by decide +kernel
theorem d6_cell_1 : decode cX6_cell 1 = .ok (.iconst 0, 1) := by decide +kernel
theorem d6_cell_2 : decode cX6_cell 2 = .ok (.putfield 75, 3) := by decide +kernel
theorem d6_cell_5 : decode cX6_cell 5 = .ok (.iload_n 1, 1) := by decide +kernel
theorem d6_cell_6 : decode cX6_cell 6 = .ok (.invokestatic 125, 3) := by decide +kernel
theorem d6_cell_9 : decode cX6_cell 9 = .ok (.ifCond .eq 10, 3) := by decide +kernel
theorem d6_cell_12 : decode cX6_cell 12 = .ok (.iload_n 3, 1) := by decide +kernel
theorem d6_cell_13 : decode cX6_cell 13 = .ok (.invokestatic 128, 3) := by decide +kernel
theorem d6_cell_16 : decode cX6_cell 16 = .ok (.ifCond .ne 7, 3) := by decide +kernel
theorem d6_cell_19 : decode cX6_cell 19 = .ok (.ldc2_w 79, 3) := by decide +kernel
theorem d6_cell_22 : decode cX6_cell 22 = .ok (.lreturn, 1) := by decide +kernel
theorem d6_cell_23 : decode cX6_cell 23 = .ok (.aload_n 0, 1) := by decide +kernel
theorem d6_cell_24 : decode cX6_cell 24 = .ok (.getfield 9, 3) := by decide +kernel
theorem d6_cell_27 : decode cX6_cell 27 = .ok (.iload_n 1, 1) := by decide +kernel
theorem d6_cell_28 : decode cX6_cell 28 = .ok (.iaload, 1) := by decide +kernel
theorem d6_cell_29 : decode cX6_cell 29 = .ok (.bipush (-9), 2) := by decide +kernel
theorem d6_cell_31 : decode cX6_cell 31 = .ok (.if_icmp .eq 19, 3) := by decide +kernel
theorem d6_cell_34 : decode cX6_cell 34 = .ok (.aload_n 0, 1) := by decide +kernel
theorem d6_cell_35 : decode cX6_cell 35 = .ok (.getfield 9, 3) := by decide +kernel
theorem d6_cell_38 : decode cX6_cell 38 = .ok (.iload_n 1, 1) := by decide +kernel
theorem d6_cell_39 : decode cX6_cell 39 = .ok (.iaload, 1) := by decide +kernel
theorem d6_cell_40 : decode cX6_cell 40 = .ok (.iload_n 3, 1) := by decide +kernel
theorem d6_cell_41 : decode cX6_cell 41 = .ok (.if_icmp .eq 9, 3) := by decide +kernel
theorem d6_cell_44 : decode cX6_cell 44 = .ok (.aload_n 0, 1) := by decide +kernel
theorem d6_cell_45 : decode cX6_cell 45 = .ok (.iconst 2, 1) := by decide +kernel
theorem d6_cell_46 : decode cX6_cell 46 = .ok (.invokevirtual 256, 3) := by decide +kernel
theorem d6_cell_49 : decode cX6_cell 49 = .ok (.lreturn, 1) := by decide +kernel
theorem d6_cell_50 : decode cX6_cell 50 = .ok (.aload_n 0, 1) := by decide +kernel
theorem d6_cell_51 : decode cX6_cell 51 = .ok (.getfield 9, 3) := by decide +kernel
theorem d6_cell_54 : decode cX6_cell 54 = .ok (.iload_n 1, 1) := by decide +kernel
theorem d6_cell_55 : decode cX6_cell 55 = .ok (.iaload, 1) := by decide +kernel
theorem d6_cell_56 : decode cX6_cell 56 = .ok (.bipush (-9), 2) := by decide +kernel
theorem d6_cell_58 : decode cX6_cell 58 = .ok (.if_icmp .ne 9, 3) := by decide +kernel
theorem d6_cell_61 : decode cX6_cell 61 = .ok (.aload_n 0, 1) := by decide +kernel
theorem d6_cell_62 : decode cX6_cell 62 = .ok (.iconst 1, 1) := by decide +kernel
theorem d6_cell_63 : decode cX6_cell 63 = .ok (.invokevirtual 256, 3) := by decide +kernel
theorem d6_cell_66 : decode cX6_cell 66 = .ok (.lreturn, 1) := by decide +kernel
theorem d6_cell_67 : decode cX6_cell 67 = .ok (.iload_n 2, 1) := by decide +kernel
theorem d6_cell_68 : decode cX6_cell 68 = .ok (.i2l, 1) := by decide +kernel
theorem d6_cell_69 : decode cX6_cell 69 = .ok (.lconst 0, 1) := by decide +kernel
theorem d6_cell_70 : decode cX6_cell 70 = .ok (.aload_n 0, 1) := by decide +kernel
theorem d6_cell_71 : decode cX6_cell 71 = .ok (.getfield 13, 3) := by decide +kernel
theorem d6_cell_74 : decode cX6_cell 74 = .ok (.iload_n 1, 1) := by decide +kernel
theorem d6_cell_75 : decode cX6_cell 75 = .ok (.iaload, 1) := by decide +kernel
theorem d6_cell_76 : decode cX6_cell 76 = .ok (.iconst 1, 1) := by decide +kernel
theorem d6_cell_77 : decode cX6_cell 77 = .ok (.isub, 1) := by decide +kernel
theorem d6_cell_78 : decode cX6_cell 78 = .ok (.i2l, 1) := by decide +kernel
theorem d6_cell_79 : decode cX6_cell 79 = .ok (.invokestatic 83, 3) := by decide +kernel
theorem d6_cell_82 : decode cX6_cell 82 = .ok (.ifCond .ne 9, 3) := by decide +kernel
theorem d6_cell_85 : decode cX6_cell 85 = .ok (.aload_n 0, 1) := by decide +kernel
theorem d6_cell_86 : decode cX6_cell 86 = .ok (.iconst 3, 1) := by decide +kernel
theorem d6_cell_87 : decode cX6_cell 87 = .ok (.invokevirtual 256, 3) := by decide +kernel
theorem d6_cell_90 : decode cX6_cell 90 = .ok (.lreturn, 1) := by decide +kernel
theorem d6_cell_91 : decode cX6_cell 91 = .ok (.aload_n 0, 1) := by decide +kernel
theorem d6_cell_92 : decode cX6_cell 92 = .ok (.getfield 16, 3) := by decide +kernel
theorem d6_cell_95 : decode cX6_cell 95 = .ok (.bipush 60, 2) := by decide +kernel
theorem d6_cell_97 : decode cX6_cell 97 = .ok (.iload_n 1, 1) := by decide +kernel
theorem d6_cell_98 : decode cX6_cell 98 = .ok (.imul, 1) := by decide +kernel
theorem d6_cell_99 : decode cX6_cell 99 = .ok (.iload_n 2, 1) := by decide +kernel
theorem d6_cell_100 : decode cX6_cell 100 = .ok (.iadd, 1) := by decide +kernel
theorem d6_cell_101 : decode cX6_cell 101 = .ok (.iaload, 1) := by decide +kernel
theorem d6_cell_102 : decode cX6_cell 102 = .ok (.i2l, 1) := by decide +kernel
theorem d6_cell_103 : decode cX6_cell 103 = .ok (.lreturn, 1) := by decide +kernel
noncomputable def f6_cell_J50 {α : Type} (c1 : Int32) (c2 : Int32) (S : MS) (K : Int64 → MS → Option α) : Option α := ck c1 4 fun k7 => if (S.1 1 k7) = (-9) then (f6_lost 1 S fun r15 S14 => K r15 S14) else (ck c1 4 fun k8 => f6_within (Int32.toInt64 c2) 0 (Int32.toInt64 ((S.1 2 k8) - 1)) S fun r10 S9 => if r10 = 0 then (f6_lost 3 S9 fun r13 S12 => K r13 S12) else (ck (((60 : Int32) * c1) + c2) 240 fun k11 => K (Int32.toInt64 (S9.1 3 k11)) S9))
noncomputable def f6_cell {α : Type} (p1 : Int32) (p2 : Int32) (p3 : Int32) (S : MS) (K : Int64 → MS → Option α) : Option α := nm (sI S 0 0 0) fun S1 => f6_isSheet p1 S1 fun r3 S2 => if r3 = 0 then (K (-9223372036854775808) S2) else (f6_isSort p3 S2 fun r5 S4 => if r5 = 0 then (K (-9223372036854775808) S4) else (ck p1 4 fun k6 => if (S4.1 1 k6) = (-9) then (f6_cell_J50 p1 p2 S4 K) else (ck p1 4 fun k16 => if (S4.1 1 k16) = p3 then (f6_cell_J50 p1 p2 S4 K) else (f6_lost 2 S4 fun r18 S17 => K r18 S17))))
set_option maxHeartbeats 4000000 in
set_option maxRecDepth 100000 in
theorem j6_cell_50 {α : Type} {X : GX α} (O : OK 22 X RX6 cX6_cell 4 (some .long) (rmG 2 45)) {K : Int64 → MS → Option α} (hQ : RtL 22 eM X K) {c1 : Int32} {c2 : Int32} {S : MS} : GM 22 eM X (f6_cell_J50 c1 c2 S K) S 50 [(0, .ref (aX X 0)), (1, .int c1), (2, .int c2)] [] := by
  unfold f6_cell_J50
  refine r_aload_n O d6_cell_50 0 rfl ?_
  refine g_X6_9 O d6_cell_51 ?_
  refine r_iload_n O d6_cell_54 1 rfl ?_
  refine r_iald O (j := 1) (by decide) eM_1 d6_cell_55 (fun k7 hk7 => ?_)
  refine r_bipush O d6_cell_56 (v := (-9)) (by decide) ?_
  refine r_icmp_ne O 67 d6_cell_58 (by decide) ?_ ?_
  · refine r_iload_n O d6_cell_67 2 rfl ?_
    refine r_i2l O d6_cell_68 ?_
    refine r_lconst O d6_cell_69 (v := 0) (by decide) ?_
    refine r_aload_n O d6_cell_70 0 rfl ?_
    refine g_X6_13 O d6_cell_71 ?_
    refine r_iload_n O d6_cell_74 1 rfl ?_
    refine r_iald O (j := 2) (by decide) eM_2 d6_cell_75 (fun k8 hk8 => ?_)
    refine r_iconst O d6_cell_76 (v := 1) (by decide) ?_
    refine r_isub O d6_cell_77 ?_
    refine r_i2l O d6_cell_78 ?_
    refine r_callSi O (rest := []) (c6_within (lX X) (Int32.toInt64 c2) 0 (Int32.toInt64 ((S.1 2 k8) - 1)) S) w_753 w_754 w_51 w_755 hy_X6_within ⟨rfl, rfl, Nat.le_of_ble_eq_true rfl, Nat.le_of_ble_eq_true rfl⟩ rfl rfl (Nat.le_of_ble_eq_true rfl) d6_cell_79 (fun r10 S9 => ?_)
    refine r_if_ne O 91 d6_cell_82 (by decide) ?_ ?_
    · refine r_aload_n O d6_cell_91 0 rfl ?_
      refine g_X6_16 O d6_cell_92 ?_
      refine r_bipush O d6_cell_95 (v := 60) (by decide) ?_
      refine r_iload_n O d6_cell_97 1 rfl ?_
      refine r_imul O d6_cell_98 ?_
      refine r_iload_n O d6_cell_99 2 rfl ?_
      refine r_iadd O d6_cell_100 ?_
      refine r_iald O (j := 3) (by decide) eM_3 d6_cell_101 (fun k11 hk11 => ?_)
      refine r_i2l O d6_cell_102 ?_
      exact r_lret O hQ d6_cell_103
    · refine r_aload_n O d6_cell_85 0 rfl ?_
      refine r_iconst O d6_cell_86 (v := 3) (by decide) ?_
      refine r_callVl O (b := 0) (bv := fun ad => [.int 3]) (rest := []) (c6_lost (lX X) 3 S9) (fun _ => rfl) (by decide) eM_0 rfl rfl w_972 w_974 w_42 w_51 w_975 hy_X6_lost ⟨rfl, rfl, Nat.le_of_ble_eq_true rfl, Nat.le_of_ble_eq_true rfl⟩ rfl rfl (Nat.le_of_ble_eq_true rfl) d6_cell_87 (fun r13 S12 => ?_)
      exact r_lret O hQ d6_cell_90
  · refine r_aload_n O d6_cell_61 0 rfl ?_
    refine r_iconst O d6_cell_62 (v := 1) (by decide) ?_
    refine r_callVl O (b := 0) (bv := fun ad => [.int 1]) (rest := []) (c6_lost (lX X) 1 S) (fun _ => rfl) (by decide) eM_0 rfl rfl w_972 w_974 w_42 w_51 w_975 hy_X6_lost ⟨rfl, rfl, Nat.le_of_ble_eq_true rfl, Nat.le_of_ble_eq_true rfl⟩ rfl rfl (Nat.le_of_ble_eq_true rfl) d6_cell_63 (fun r15 S14 => ?_)
    exact r_lret O hQ d6_cell_66
set_option maxHeartbeats 4000000 in
set_option maxRecDepth 100000 in
theorem c6_cell (l : Launch) (p1 : Int32) (p2 : Int32) (p3 : Int32) (S : MS) {α : Type} : CtL 22 eM l yX6_cell cX6_cell 4 (some .long) (rmG 2 45) S (fun ad => [.ref (ad 0), .int p1, .int p2, .int p3]) (α := α) (f6_cell p1 p2 p3 S) := by
  refine CtL.of (by decide) (fun _ => Nat.le_of_ble_eq_true rfl) (fun X K _ O hQ => ?_)
  have O : OK 22 X RX6 cX6_cell 4 (some .long) (rmG 2 45) := O
  show GM 22 eM X (f6_cell p1 p2 p3 S K) S 0 [(0, .ref (aX X 0)), (1, .int p1), (2, .int p2), (3, .int p3)] []
  unfold f6_cell
  refine r_aload_n O d6_cell_0 0 rfl ?_
  refine r_iconst O d6_cell_1 (v := 0) (by decide) ?_
  refine p_X6_75 O d6_cell_2 (fun S1 => ?_)
  refine r_iload_n O d6_cell_5 1 rfl ?_
  refine r_callSi O (rest := []) (c6_isSheet (lX X) p1 S1) w_749 w_750 w_51 w_751 hy_X6_isSheet ⟨rfl, rfl, Nat.le_of_ble_eq_true rfl, Nat.le_of_ble_eq_true rfl⟩ rfl rfl (Nat.le_of_ble_eq_true rfl) d6_cell_6 (fun r3 S2 => ?_)
  refine r_if_eq O 19 d6_cell_9 (by decide) ?_ ?_
  · refine r_ldc2 O (v := (-9223372036854775808)) w_893 d6_cell_19 ?_
    exact r_lret O hQ d6_cell_22
  · refine r_iload_n O d6_cell_12 3 rfl ?_
    refine r_callSi O (rest := []) (c6_isSort (lX X) p3 S2) w_756 w_757 w_51 w_758 hy_X6_isSort ⟨rfl, rfl, Nat.le_of_ble_eq_true rfl, Nat.le_of_ble_eq_true rfl⟩ rfl rfl (Nat.le_of_ble_eq_true rfl) d6_cell_13 (fun r5 S4 => ?_)
    refine r_if_ne O 23 d6_cell_16 (by decide) ?_ ?_
    · refine r_aload_n O d6_cell_23 0 rfl ?_
      refine g_X6_9 O d6_cell_24 ?_
      refine r_iload_n O d6_cell_27 1 rfl ?_
      refine r_iald O (j := 1) (by decide) eM_1 d6_cell_28 (fun k6 hk6 => ?_)
      refine r_bipush O d6_cell_29 (v := (-9)) (by decide) ?_
      refine r_icmp_eq O 50 d6_cell_31 (by decide) ?_ ?_
      · refine r_sub [0, 1, 2] rfl ?_
        exact j6_cell_50 O hQ
      · refine r_aload_n O d6_cell_34 0 rfl ?_
        refine g_X6_9 O d6_cell_35 ?_
        refine r_iload_n O d6_cell_38 1 rfl ?_
        refine r_iald O (j := 1) (by decide) eM_1 d6_cell_39 (fun k16 hk16 => ?_)
        refine r_iload_n O d6_cell_40 3 rfl ?_
        refine r_icmp_eq O 50 d6_cell_41 (by decide) ?_ ?_
        · refine r_sub [0, 1, 2] rfl ?_
          exact j6_cell_50 O hQ
        · refine r_aload_n O d6_cell_44 0 rfl ?_
          refine r_iconst O d6_cell_45 (v := 2) (by decide) ?_
          refine r_callVl O (b := 0) (bv := fun ad => [.int 2]) (rest := []) (c6_lost (lX X) 2 S4) (fun _ => rfl) (by decide) eM_0 rfl rfl w_972 w_974 w_42 w_51 w_975 hy_X6_lost ⟨rfl, rfl, Nat.le_of_ble_eq_true rfl, Nat.le_of_ble_eq_true rfl⟩ rfl rfl (Nat.le_of_ble_eq_true rfl) d6_cell_46 (fun r18 S17 => ?_)
          exact r_lret O hQ d6_cell_49
    · refine r_ldc2 O (v := (-9223372036854775808)) w_893 d6_cell_19 ?_
      exact r_lret O hQ d6_cell_22
-- X6.copy
theorem d6_copy_0 : decode cX6_copy 0 = .ok (.aload_n 0, 1) := by decide +kernel
theorem d6_copy_1 : decode cX6_copy 1 = .ok (.iconst 0, 1) := by decide +kernel
theorem d6_copy_2 : decode cX6_copy 2 = .ok (.putfield 75, 3) := by decide +kernel
theorem d6_copy_5 : decode cX6_copy 5 = .ok (.iload_n 1, 1) := by decide +kernel
theorem d6_copy_6 : decode cX6_copy 6 = .ok (.invokestatic 125, 3) := by decide +kernel
theorem d6_copy_9 : decode cX6_copy 9 = .ok (.ifCond .eq 10, 3) := by decide +kernel
theorem d6_copy_12 : decode cX6_copy 12 = .ok (.iload_n 3, 1) := by decide +kernel
theorem d6_copy_13 : decode cX6_copy 13 = .ok (.invokestatic 125, 3) := by decide +kernel
theorem d6_copy_16 : decode cX6_copy 16 = .ok (.ifCond .ne 5, 3) := by decide +kernel
theorem d6_copy_19 : decode cX6_copy 19 = .ok (.iconst (-1), 1) := by decide +kernel
theorem d6_copy_20 : decode cX6_copy 20 = .ok (.ireturn, 1) := by decide +kernel
theorem d6_copy_21 : decode cX6_copy 21 = .ok (.aload_n 0, 1) := by decide +kernel
theorem d6_copy_22 : decode cX6_copy 22 = .ok (.getfield 9, 3) := by decide +kernel
theorem d6_copy_25 : decode cX6_copy 25 = .ok (.iload_n 1, 1) := by decide +kernel
theorem d6_copy_26 : decode cX6_copy 26 = .ok (.iaload, 1) := by decide +kernel
theorem d6_copy_27 : decode cX6_copy 27 = .ok (.bipush (-9), 2) := by decide +kernel
theorem d6_copy_29 : decode cX6_copy 29 = .ok (.if_icmp .eq 14, 3) := by decide +kernel
theorem d6_copy_32 : decode cX6_copy 32 = .ok (.aload_n 0, 1) := by decide +kernel
theorem d6_copy_33 : decode cX6_copy 33 = .ok (.getfield 9, 3) := by decide +kernel
theorem d6_copy_36 : decode cX6_copy 36 = .ok (.iload_n 3, 1) := by decide +kernel
theorem d6_copy_37 : decode cX6_copy 37 = .ok (.iaload, 1) := by decide +kernel
theorem d6_copy_38 : decode cX6_copy 38 = .ok (.bipush (-9), 2) := by decide +kernel
theorem d6_copy_40 : decode cX6_copy 40 = .ok (.if_icmp .ne 9, 3) := by decide +kernel
theorem d6_copy_43 : decode cX6_copy 43 = .ok (.aload_n 0, 1) := by decide +kernel
theorem d6_copy_44 : decode cX6_copy 44 = .ok (.iconst 1, 1) := by decide +kernel
theorem d6_copy_45 : decode cX6_copy 45 = .ok (.invokevirtual 135, 3) := by decide +kernel
theorem d6_copy_48 : decode cX6_copy 48 = .ok (.ireturn, 1) := by decide +kernel
theorem d6_copy_49 : decode cX6_copy 49 = .ok (.aload_n 0, 1) := by decide +kernel
theorem d6_copy_50 : decode cX6_copy 50 = .ok (.getfield 9, 3) := by decide +kernel
theorem d6_copy_53 : decode cX6_copy 53 = .ok (.iload_n 1, 1) := by decide +kernel
theorem d6_copy_54 : decode cX6_copy 54 = .ok (.iaload, 1) := by decide +kernel
theorem d6_copy_55 : decode cX6_copy 55 = .ok (.aload_n 0, 1) := by decide +kernel
theorem d6_copy_56 : decode cX6_copy 56 = .ok (.getfield 9, 3) := by decide +kernel
theorem d6_copy_59 : decode cX6_copy 59 = .ok (.iload_n 3, 1) := by decide +kernel
theorem d6_copy_60 : decode cX6_copy 60 = .ok (.iaload, 1) := by decide +kernel
theorem d6_copy_61 : decode cX6_copy 61 = .ok (.if_icmp .eq 9, 3) := by decide +kernel
theorem d6_copy_64 : decode cX6_copy 64 = .ok (.aload_n 0, 1) := by decide +kernel
theorem d6_copy_65 : decode cX6_copy 65 = .ok (.iconst 2, 1) := by decide +kernel
theorem d6_copy_66 : decode cX6_copy 66 = .ok (.invokevirtual 135, 3) := by decide +kernel
theorem d6_copy_69 : decode cX6_copy 69 = .ok (.ireturn, 1) := by decide +kernel
theorem d6_copy_70 : decode cX6_copy 70 = .ok (.iload_n 2, 1) := by decide +kernel
theorem d6_copy_71 : decode cX6_copy 71 = .ok (.ifCond .lt 38, 3) := by decide +kernel
theorem d6_copy_74 : decode cX6_copy 74 = .ok (.iload 4, 2) := by decide +kernel
theorem d6_copy_76 : decode cX6_copy 76 = .ok (.ifCond .lt 33, 3) := by decide +kernel
theorem d6_copy_79 : decode cX6_copy 79 = .ok (.iload 5, 2) := by decide +kernel
theorem d6_copy_81 : decode cX6_copy 81 = .ok (.ifCond .lt 28, 3) := by decide +kernel
theorem d6_copy_84 : decode cX6_copy 84 = .ok (.iload_n 2, 1) := by decide +kernel
theorem d6_copy_85 : decode cX6_copy 85 = .ok (.aload_n 0, 1) := by decide +kernel
theorem d6_copy_86 : decode cX6_copy 86 = .ok (.getfield 13, 3) := by decide +kernel
theorem d6_copy_89 : decode cX6_copy 89 = .ok (.iload_n 1, 1) := by decide +kernel
theorem d6_copy_90 : decode cX6_copy 90 = .ok (.iaload, 1) := by decide +kernel
theorem d6_copy_91 : decode cX6_copy 91 = .ok (.if_icmp .gt 18, 3) := by decide +kernel
theorem d6_copy_94 : decode cX6_copy 94 = .ok (.iload 4, 2) := by decide +kernel
theorem d6_copy_96 : decode cX6_copy 96 = .ok (.aload_n 0, 1) := by decide +kernel
theorem d6_copy_97 : decode cX6_copy 97 = .ok (.getfield 13, 3) := by decide +kernel
theorem d6_copy_100 : decode cX6_copy 100 = .ok (.iload_n 3, 1) := by decide +kernel
theorem d6_copy_101 : decode cX6_copy 101 = .ok (.iaload, 1) := by decide +kernel
theorem d6_copy_102 : decode cX6_copy 102 = .ok (.if_icmp .gt 7, 3) := by decide +kernel
theorem d6_copy_105 : decode cX6_copy 105 = .ok (.iconst 1, 1) := by decide +kernel
theorem d6_copy_106 : decode cX6_copy 106 = .ok (.goto 4, 3) := by decide +kernel
theorem d6_copy_109 : decode cX6_copy 109 = .ok (.iconst 0, 1) := by decide +kernel
theorem d6_copy_110 : decode cX6_copy 110 = .ok (.istore 6, 2) := by decide +kernel
theorem d6_copy_112 : decode cX6_copy 112 = .ok (.iload 6, 2) := by decide +kernel
theorem d6_copy_114 : decode cX6_copy 114 = .ok (.ifCond .eq 30, 3) := by decide +kernel
theorem d6_copy_117 : decode cX6_copy 117 = .ok (.iload 5, 2) := by decide +kernel
theorem d6_copy_119 : decode cX6_copy 119 = .ok (.aload_n 0, 1) := by decide +kernel
theorem d6_copy_120 : decode cX6_copy 120 = .ok (.getfield 13, 3) := by decide +kernel
theorem d6_copy_123 : decode cX6_copy 123 = .ok (.iload_n 1, 1) := by decide +kernel
theorem d6_copy_124 : decode cX6_copy 124 = .ok (.iaload, 1) := by decide +kernel
theorem d6_copy_125 : decode cX6_copy 125 = .ok (.iload_n 2, 1) := by decide +kernel
theorem d6_copy_126 : decode cX6_copy 126 = .ok (.isub, 1) := by decide +kernel
theorem d6_copy_127 : decode cX6_copy 127 = .ok (.if_icmp .gt 17, 3) := by decide +kernel
theorem d6_copy_130 : decode cX6_copy 130 = .ok (.iload 5, 2) := by decide +kernel
theorem d6_copy_132 : decode cX6_copy 132 = .ok (.aload_n 0, 1) := by decide +kernel
theorem d6_copy_133 : decode cX6_copy 133 = .ok (.getfield 13, 3) := by decide +kernel
theorem d6_copy_136 : decode cX6_copy 136 = .ok (.iload_n 3, 1) := by decide +kernel
theorem d6_copy_137 : decode cX6_copy 137 = .ok (.iaload, 1) := by decide +kernel
theorem d6_copy_138 : decode cX6_copy 138 = .ok (.iload 4, 2) := by decide +kernel
theorem d6_copy_140 : decode cX6_copy 140 = .ok (.isub, 1) := by decide +kernel
theorem d6_copy_141 : decode cX6_copy 141 = .ok (.if_icmp .le 9, 3) := by decide +kernel
theorem d6_copy_144 : decode cX6_copy 144 = .ok (.aload_n 0, 1) := by decide +kernel
theorem d6_copy_145 : decode cX6_copy 145 = .ok (.iconst 3, 1) := by decide +kernel
theorem d6_copy_146 : decode cX6_copy 146 = .ok (.invokevirtual 135, 3) := by decide +kernel
theorem d6_copy_149 : decode cX6_copy 149 = .ok (.ireturn, 1) := by decide +kernel
theorem d6_copy_150 : decode cX6_copy 150 = .ok (.iload_n 2, 1) := by decide +kernel
theorem d6_copy_151 : decode cX6_copy 151 = .ok (.iload 4, 2) := by decide +kernel
theorem d6_copy_153 : decode cX6_copy 153 = .ok (.if_icmp .ge 7, 3) := by decide +kernel
theorem d6_copy_156 : decode cX6_copy 156 = .ok (.iconst 1, 1) := by decide +kernel
theorem d6_copy_157 : decode cX6_copy 157 = .ok (.goto 4, 3) := by decide +kernel
theorem d6_copy_160 : decode cX6_copy 160 = .ok (.iconst 0, 1) := by decide +kernel
theorem d6_copy_161 : decode cX6_copy 161 = .ok (.istore 7, 2) := by decide +kernel
theorem d6_copy_163 : decode cX6_copy 163 = .ok (.iconst 0, 1) := by decide +kernel
theorem d6_copy_164 : decode cX6_copy 164 = .ok (.istore 8, 2) := by decide +kernel
theorem d6_copy_166 : decode cX6_copy 166 = .ok (.iload 8, 2) := by decide +kernel
theorem d6_copy_168 : decode cX6_copy 168 = .ok (.iload 5, 2) := by decide +kernel
theorem d6_copy_170 : decode cX6_copy 170 = .ok (.if_icmp .ge 57, 3) := by decide +kernel
theorem d6_copy_173 : decode cX6_copy 173 = .ok (.iload 7, 2) := by decide +kernel
theorem d6_copy_175 : decode cX6_copy 175 = .ok (.ifCond .eq 13, 3) := by decide +kernel
theorem d6_copy_178 : decode cX6_copy 178 = .ok (.iload 5, 2) := by decide +kernel
theorem d6_copy_180 : decode cX6_copy 180 = .ok (.iconst 1, 1) := by decide +kernel
theorem d6_copy_181 : decode cX6_copy 181 = .ok (.isub, 1) := by decide +kernel
theorem d6_copy_182 : decode cX6_copy 182 = .ok (.iload 8, 2) := by decide +kernel
theorem d6_copy_184 : decode cX6_copy 184 = .ok (.isub, 1) := by decide +kernel
theorem d6_copy_185 : decode cX6_copy 185 = .ok (.goto 5, 3) := by decide +kernel
theorem d6_copy_188 : decode cX6_copy 188 = .ok (.iload 8, 2) := by decide +kernel
theorem d6_copy_190 : decode cX6_copy 190 = .ok (.istore 9, 2) := by decide +kernel
theorem d6_copy_192 : decode cX6_copy 192 = .ok (.aload_n 0, 1) := by decide +kernel
theorem d6_copy_193 : decode cX6_copy 193 = .ok (.getfield 16, 3) := by decide +kernel
theorem d6_copy_196 : decode cX6_copy 196 = .ok (.bipush 60, 2) := by decide +kernel
theorem d6_copy_198 : decode cX6_copy 198 = .ok (.iload_n 3, 1) := by decide +kernel
theorem d6_copy_199 : decode cX6_copy 199 = .ok (.imul, 1) := by decide +kernel
theorem d6_copy_200 : decode cX6_copy 200 = .ok (.iload 4, 2) := by decide +kernel
theorem d6_copy_202 : decode cX6_copy 202 = .ok (.iadd, 1) := by decide +kernel
theorem d6_copy_203 : decode cX6_copy 203 = .ok (.iload 9, 2) := by decide +kernel
theorem d6_copy_205 : decode cX6_copy 205 = .ok (.iadd, 1) := by decide +kernel
theorem d6_copy_206 : decode cX6_copy 206 = .ok (.aload_n 0, 1) := by decide +kernel
theorem d6_copy_207 : decode cX6_copy 207 = .ok (.getfield 16, 3) := by decide +kernel
theorem d6_copy_210 : decode cX6_copy 210 = .ok (.bipush 60, 2) := by decide +kernel
theorem d6_copy_212 : decode cX6_copy 212 = .ok (.iload_n 1, 1) := by decide +kernel
theorem d6_copy_213 : decode cX6_copy 213 = .ok (.imul, 1) := by decide +kernel
theorem d6_copy_214 : decode cX6_copy 214 = .ok (.iload_n 2, 1) := by decide +kernel
theorem d6_copy_215 : decode cX6_copy 215 = .ok (.iadd, 1) := by decide +kernel
theorem d6_copy_216 : decode cX6_copy 216 = .ok (.iload 9, 2) := by decide +kernel
theorem d6_copy_218 : decode cX6_copy 218 = .ok (.iadd, 1) := by decide +kernel
theorem d6_copy_219 : decode cX6_copy 219 = .ok (.iaload, 1) := by decide +kernel
theorem d6_copy_220 : decode cX6_copy 220 = .ok (.iastore, 1) := by decide +kernel
theorem d6_copy_221 : decode cX6_copy 221 = .ok (.iinc 8 1, 3) := by decide +kernel
theorem d6_copy_224 : decode cX6_copy 224 = .ok (.goto (-58), 3) := by decide +kernel
theorem d6_copy_227 : decode cX6_copy 227 = .ok (.iload 5, 2) := by decide +kernel
theorem d6_copy_229 : decode cX6_copy 229 = .ok (.ireturn, 1) := by decide +kernel
noncomputable def f6_copy_J190 {α : Type} (c1 : Int32) (c2 : Int32) (c3 : Int32) (c4 : Int32) (c5 : Int32) (c7 : Int32) (c8 : Int32) (s0 : Int32) (S : MS) (KB : Int32 → MS → Option α) (KX : Int32 → MS → Option α) : Option α := ck ((((60 : Int32) * c1) + c2) + s0) 240 fun k18 => ck ((((60 : Int32) * c3) + c4) + s0) 240 fun k19 => nm (sI S 3 k19 (S.1 3 k18)) fun S20 => nm (c8 + 1) fun x8_21 => KB x8_21 S20
noncomputable def f6_copy_L166 {α : Type} (c1 : Int32) (c2 : Int32) (c3 : Int32) (c4 : Int32) (c5 : Int32) (c7 : Int32) (KX : Int32 → MS → Option α) : Nat → Int32 → MS → Option α
  | 0, _, _ => none
  | n + 1, v8, S => if c5 ≤ v8 then (KX v8 S) else (if c7 = 0 then (f6_copy_J190 c1 c2 c3 c4 c5 c7 v8 v8 S (f6_copy_L166 c1 c2 c3 c4 c5 c7 KX n) KX) else (f6_copy_J190 c1 c2 c3 c4 c5 c7 v8 ((c5 - 1) - v8) S (f6_copy_L166 c1 c2 c3 c4 c5 c7 KX n) KX))
noncomputable def f6_copy_J161 {α : Type} (c1 : Int32) (c2 : Int32) (c3 : Int32) (c4 : Int32) (c5 : Int32) (s0 : Int32) (S : MS) (K : Int32 → MS → Option α) : Option α := f6_copy_L166 c1 c2 c3 c4 c5 s0 (fun v8_23 S22 => K c5 S22) FU 0 S
noncomputable def f6_copy_J110 {α : Type} (c1 : Int32) (c2 : Int32) (c3 : Int32) (c4 : Int32) (c5 : Int32) (s0 : Int32) (S : MS) (K : Int32 → MS → Option α) : Option α := if s0 = 0 then (f6_fails 3 S fun r13 S12 => K r13 S12) else (ck c1 4 fun k14 => if ((S.1 2 k14) - c2) < c5 then (f6_fails 3 S fun r16 S15 => K r16 S15) else (ck c3 4 fun k17 => if c5 ≤ ((S.1 2 k17) - c4) then (if c4 ≤ c2 then (f6_copy_J161 c1 c2 c3 c4 c5 0 S K) else (f6_copy_J161 c1 c2 c3 c4 c5 1 S K)) else (f6_fails 3 S fun r25 S24 => K r25 S24)))
noncomputable def f6_copy_J109 {α : Type} (c1 : Int32) (c2 : Int32) (c3 : Int32) (c4 : Int32) (c5 : Int32) (S : MS) (K : Int32 → MS → Option α) : Option α := f6_copy_J110 c1 c2 c3 c4 c5 0 S K
noncomputable def f6_copy {α : Type} (p1 : Int32) (p2 : Int32) (p3 : Int32) (p4 : Int32) (p5 : Int32) (S : MS) (K : Int32 → MS → Option α) : Option α := nm (sI S 0 0 0) fun S1 => f6_isSheet p1 S1 fun r3 S2 => if r3 = 0 then (K (-1) S2) else (f6_isSheet p3 S2 fun r5 S4 => if r5 = 0 then (K (-1) S4) else (ck p1 4 fun k6 => if (S4.1 1 k6) = (-9) then (f6_fails 1 S4 fun r8 S7 => K r8 S7) else (ck p3 4 fun k9 => if (S4.1 1 k9) = (-9) then (f6_fails 1 S4 fun r31 S30 => K r31 S30) else (ck p1 4 fun k10 => ck p3 4 fun k11 => if (S4.1 1 k10) = (S4.1 1 k11) then (if p2 < 0 then (f6_copy_J109 p1 p2 p3 p4 p5 S4 K) else (if p4 < 0 then (f6_copy_J109 p1 p2 p3 p4 p5 S4 K) else (if p5 < 0 then (f6_copy_J109 p1 p2 p3 p4 p5 S4 K) else (ck p1 4 fun k26 => if (S4.1 2 k26) < p2 then (f6_copy_J109 p1 p2 p3 p4 p5 S4 K) else (ck p3 4 fun k27 => if (S4.1 2 k27) < p4 then (f6_copy_J109 p1 p2 p3 p4 p5 S4 K) else (f6_copy_J110 p1 p2 p3 p4 p5 1 S4 K)))))) else (f6_fails 2 S4 fun r29 S28 => K r29 S28)))))
set_option maxHeartbeats 4000000 in
set_option maxRecDepth 100000 in
theorem j6_copy_190 {α : Type} {X : GX α} (O : OK 22 X RX6 cX6_copy 10 (some .int) (rmG 2 45)) {c1 : Int32} {c2 : Int32} {c3 : Int32} {c4 : Int32} {c5 : Int32} {c7 : Int32} {c8 : Int32} {s0 : Int32} {S : MS} {KB : Int32 → MS → Option α} {KX : Int32 → MS → Option α} (hB : ∀ v8q S, GM 22 eM X (KB v8q S) S 166 [(0, .ref (aX X 0)), (1, .int c1), (2, .int c2), (3, .int c3), (4, .int c4), (5, .int c5), (7, .int c7), (8, .int v8q)] []) (hX : ∀ v8q S, GM 22 eM X (KX v8q S) S 227 [(0, .ref (aX X 0)), (1, .int c1), (2, .int c2), (3, .int c3), (4, .int c4), (5, .int c5), (7, .int c7), (8, .int v8q)] []) : GM 22 eM X (f6_copy_J190 c1 c2 c3 c4 c5 c7 c8 s0 S KB KX) S 190 [(0, .ref (aX X 0)), (1, .int c1), (2, .int c2), (3, .int c3), (4, .int c4), (5, .int c5), (7, .int c7), (8, .int c8)] [.int s0] := by
  unfold f6_copy_J190
  refine r_istore O d6_copy_190 [(9, .int s0), (0, .ref (aX X 0)), (1, .int c1), (2, .int c2), (3, .int c3), (4, .int c4), (5, .int c5), (7, .int c7), (8, .int c8)] (by decide) rfl ?_
  refine r_aload_n O d6_copy_192 1 rfl ?_
  refine g_X6_16 O d6_copy_193 ?_
  refine r_bipush O d6_copy_196 (v := 60) (by decide) ?_
  refine r_iload_n O d6_copy_198 4 rfl ?_
  refine r_imul O d6_copy_199 ?_
  refine r_iload O d6_copy_200 5 rfl ?_
  refine r_iadd O d6_copy_202 ?_
  refine r_iload O d6_copy_203 0 rfl ?_
  refine r_iadd O d6_copy_205 ?_
  refine r_aload_n O d6_copy_206 1 rfl ?_
  refine g_X6_16 O d6_copy_207 ?_
  refine r_bipush O d6_copy_210 (v := 60) (by decide) ?_
  refine r_iload_n O d6_copy_212 2 rfl ?_
  refine r_imul O d6_copy_213 ?_
  refine r_iload_n O d6_copy_214 3 rfl ?_
  refine r_iadd O d6_copy_215 ?_
  refine r_iload O d6_copy_216 0 rfl ?_
  refine r_iadd O d6_copy_218 ?_
  refine r_iald O (j := 3) (by decide) eM_3 d6_copy_219 (fun k18 hk18 => ?_)
  refine r_iast O (j := 3) (by decide) (fun _ => eM_3) d6_copy_220 (fun S20 => ?_)
  refine r_iinc O d6_copy_221 8 (c0 := 1) rfl (by decide) (fun x8_21 => [(8, .int x8_21), (9, .int s0), (0, .ref (aX X 0)), (1, .int c1), (2, .int c2), (3, .int c3), (4, .int c4), (5, .int c5), (7, .int c7)]) (by decide) (fun _ => rfl) (fun x8_21 => ?_)
  refine r_goto O 166 d6_copy_224 (by decide) ?_
  refine r_sub [2, 3, 4, 5, 6, 7, 8, 0] rfl ?_
  exact hB _ _
set_option maxHeartbeats 4000000 in
set_option maxRecDepth 100000 in
theorem l6_copy_166 {α : Type} {X : GX α} (O : OK 22 X RX6 cX6_copy 10 (some .int) (rmG 2 45)) {c1 : Int32} {c2 : Int32} {c3 : Int32} {c4 : Int32} {c5 : Int32} {c7 : Int32} {KX : Int32 → MS → Option α} (hX : ∀ v8 S, GM 22 eM X (KX v8 S) S 227 [(0, .ref (aX X 0)), (1, .int c1), (2, .int c2), (3, .int c3), (4, .int c4), (5, .int c5), (7, .int c7), (8, .int v8)] []) : ∀ n v8 S, GM 22 eM X (f6_copy_L166 c1 c2 c3 c4 c5 c7 KX n v8 S) S 166 [(0, .ref (aX X 0)), (1, .int c1), (2, .int c2), (3, .int c3), (4, .int c4), (5, .int c5), (7, .int c7), (8, .int v8)] [] := by
  intro n
  induction n with
  | zero => intro v8 S; exact r_none
  | succ n ih =>
    intro v8 S
    rw [f6_copy_L166]
    refine r_iload O d6_copy_166 7 rfl ?_
    refine r_iload O d6_copy_168 5 rfl ?_
    refine r_icmp_ge O 227 d6_copy_170 (by decide) ?_ ?_
    · refine r_sub [0, 1, 2, 3, 4, 5, 6, 7] rfl ?_
      exact hX _ _
    · refine r_iload O d6_copy_173 6 rfl ?_
      refine r_if_eq O 188 d6_copy_175 (by decide) ?_ ?_
      · refine r_iload O d6_copy_188 7 rfl ?_
        refine r_sub [0, 1, 2, 3, 4, 5, 6, 7] rfl ?_
        exact j6_copy_190 O (fun _ _ => ih _ _) hX
      · refine r_iload O d6_copy_178 5 rfl ?_
        refine r_iconst O d6_copy_180 (v := 1) (by decide) ?_
        refine r_isub O d6_copy_181 ?_
        refine r_iload O d6_copy_182 7 rfl ?_
        refine r_isub O d6_copy_184 ?_
        refine r_goto O 190 d6_copy_185 (by decide) ?_
        refine r_sub [0, 1, 2, 3, 4, 5, 6, 7] rfl ?_
        exact j6_copy_190 O (fun _ _ => ih _ _) hX
set_option maxHeartbeats 4000000 in
set_option maxRecDepth 100000 in
theorem j6_copy_161 {α : Type} {X : GX α} (O : OK 22 X RX6 cX6_copy 10 (some .int) (rmG 2 45)) {K : Int32 → MS → Option α} (hQ : RtI 22 eM X K) {c1 : Int32} {c2 : Int32} {c3 : Int32} {c4 : Int32} {c5 : Int32} {s0 : Int32} {S : MS} : GM 22 eM X (f6_copy_J161 c1 c2 c3 c4 c5 s0 S K) S 161 [(0, .ref (aX X 0)), (1, .int c1), (2, .int c2), (3, .int c3), (4, .int c4), (5, .int c5)] [.int s0] := by
  unfold f6_copy_J161
  refine r_istore O d6_copy_161 [(7, .int s0), (0, .ref (aX X 0)), (1, .int c1), (2, .int c2), (3, .int c3), (4, .int c4), (5, .int c5)] (by decide) rfl ?_
  refine r_iconst O d6_copy_163 (v := 0) (by decide) ?_
  refine r_istore O d6_copy_164 [(8, .int 0), (7, .int s0), (0, .ref (aX X 0)), (1, .int c1), (2, .int c2), (3, .int c3), (4, .int c4), (5, .int c5)] (by decide) rfl ?_
  refine r_sub [2, 3, 4, 5, 6, 7, 1, 0] rfl ?_
  refine l6_copy_166 O (fun v8_23 S22 => ?_) _ _ _
  refine r_iload O d6_copy_227 5 rfl ?_
  exact r_iret O hQ d6_copy_229
set_option maxHeartbeats 4000000 in
set_option maxRecDepth 100000 in
theorem j6_copy_110 {α : Type} {X : GX α} (O : OK 22 X RX6 cX6_copy 10 (some .int) (rmG 2 45)) {K : Int32 → MS → Option α} (hQ : RtI 22 eM X K) {c1 : Int32} {c2 : Int32} {c3 : Int32} {c4 : Int32} {c5 : Int32} {s0 : Int32} {S : MS} : GM 22 eM X (f6_copy_J110 c1 c2 c3 c4 c5 s0 S K) S 110 [(0, .ref (aX X 0)), (1, .int c1), (2, .int c2), (3, .int c3), (4, .int c4), (5, .int c5)] [.int s0] := by
  unfold f6_copy_J110
  refine r_istore O d6_copy_110 [(6, .int s0), (0, .ref (aX X 0)), (1, .int c1), (2, .int c2), (3, .int c3), (4, .int c4), (5, .int c5)] (by decide) rfl ?_
  refine r_iload O d6_copy_112 0 rfl ?_
  refine r_if_eq O 144 d6_copy_114 (by decide) ?_ ?_
  · refine r_aload_n O d6_copy_144 1 rfl ?_
    refine r_iconst O d6_copy_145 (v := 3) (by decide) ?_
    refine r_callVi O (b := 0) (bv := fun ad => [.int 3]) (rest := []) (c6_fails (lX X) 3 S) (fun _ => rfl) (by decide) eM_0 rfl rfl w_764 w_766 w_19 w_51 w_767 hy_X6_fails ⟨rfl, rfl, Nat.le_of_ble_eq_true rfl, Nat.le_of_ble_eq_true rfl⟩ rfl rfl (Nat.le_of_ble_eq_true rfl) d6_copy_146 (fun r13 S12 => ?_)
    exact r_iret O hQ d6_copy_149
  · refine r_iload O d6_copy_117 6 rfl ?_
    refine r_aload_n O d6_copy_119 1 rfl ?_
    refine g_X6_13 O d6_copy_120 ?_
    refine r_iload_n O d6_copy_123 2 rfl ?_
    refine r_iald O (j := 2) (by decide) eM_2 d6_copy_124 (fun k14 hk14 => ?_)
    refine r_iload_n O d6_copy_125 3 rfl ?_
    refine r_isub O d6_copy_126 ?_
    refine r_icmp_gt O 144 d6_copy_127 (by decide) ?_ ?_
    · refine r_aload_n O d6_copy_144 1 rfl ?_
      refine r_iconst O d6_copy_145 (v := 3) (by decide) ?_
      refine r_callVi O (b := 0) (bv := fun ad => [.int 3]) (rest := []) (c6_fails (lX X) 3 S) (fun _ => rfl) (by decide) eM_0 rfl rfl w_764 w_766 w_19 w_51 w_767 hy_X6_fails ⟨rfl, rfl, Nat.le_of_ble_eq_true rfl, Nat.le_of_ble_eq_true rfl⟩ rfl rfl (Nat.le_of_ble_eq_true rfl) d6_copy_146 (fun r16 S15 => ?_)
      exact r_iret O hQ d6_copy_149
    · refine r_iload O d6_copy_130 6 rfl ?_
      refine r_aload_n O d6_copy_132 1 rfl ?_
      refine g_X6_13 O d6_copy_133 ?_
      refine r_iload_n O d6_copy_136 4 rfl ?_
      refine r_iald O (j := 2) (by decide) eM_2 d6_copy_137 (fun k17 hk17 => ?_)
      refine r_iload O d6_copy_138 5 rfl ?_
      refine r_isub O d6_copy_140 ?_
      refine r_icmp_le O 150 d6_copy_141 (by decide) ?_ ?_
      · refine r_iload_n O d6_copy_150 3 rfl ?_
        refine r_iload O d6_copy_151 5 rfl ?_
        refine r_icmp_ge O 160 d6_copy_153 (by decide) ?_ ?_
        · refine r_iconst O d6_copy_160 (v := 0) (by decide) ?_
          refine r_sub [1, 2, 3, 4, 5, 6] rfl ?_
          exact j6_copy_161 O hQ
        · refine r_iconst O d6_copy_156 (v := 1) (by decide) ?_
          refine r_goto O 161 d6_copy_157 (by decide) ?_
          refine r_sub [1, 2, 3, 4, 5, 6] rfl ?_
          exact j6_copy_161 O hQ
      · refine r_aload_n O d6_copy_144 1 rfl ?_
        refine r_iconst O d6_copy_145 (v := 3) (by decide) ?_
        refine r_callVi O (b := 0) (bv := fun ad => [.int 3]) (rest := []) (c6_fails (lX X) 3 S) (fun _ => rfl) (by decide) eM_0 rfl rfl w_764 w_766 w_19 w_51 w_767 hy_X6_fails ⟨rfl, rfl, Nat.le_of_ble_eq_true rfl, Nat.le_of_ble_eq_true rfl⟩ rfl rfl (Nat.le_of_ble_eq_true rfl) d6_copy_146 (fun r25 S24 => ?_)
        exact r_iret O hQ d6_copy_149
set_option maxHeartbeats 4000000 in
set_option maxRecDepth 100000 in
theorem j6_copy_109 {α : Type} {X : GX α} (O : OK 22 X RX6 cX6_copy 10 (some .int) (rmG 2 45)) {K : Int32 → MS → Option α} (hQ : RtI 22 eM X K) {c1 : Int32} {c2 : Int32} {c3 : Int32} {c4 : Int32} {c5 : Int32} {S : MS} : GM 22 eM X (f6_copy_J109 c1 c2 c3 c4 c5 S K) S 109 [(0, .ref (aX X 0)), (1, .int c1), (2, .int c2), (3, .int c3), (4, .int c4), (5, .int c5)] [] := by
  unfold f6_copy_J109
  refine r_iconst O d6_copy_109 (v := 0) (by decide) ?_
  refine r_sub [0, 1, 2, 3, 4, 5] rfl ?_
  exact j6_copy_110 O hQ
set_option maxHeartbeats 4000000 in
set_option maxRecDepth 100000 in
theorem c6_copy (l : Launch) (p1 : Int32) (p2 : Int32) (p3 : Int32) (p4 : Int32) (p5 : Int32) (S : MS) {α : Type} : CtI 22 eM l yX6_copy cX6_copy 10 (some .int) (rmG 2 45) S (fun ad => [.ref (ad 0), .int p1, .int p2, .int p3, .int p4, .int p5]) (α := α) (f6_copy p1 p2 p3 p4 p5 S) := by
  refine CtI.of (by decide) (fun _ => Nat.le_of_ble_eq_true rfl) (fun X K _ O hQ => ?_)
  have O : OK 22 X RX6 cX6_copy 10 (some .int) (rmG 2 45) := O
  show GM 22 eM X (f6_copy p1 p2 p3 p4 p5 S K) S 0 [(0, .ref (aX X 0)), (1, .int p1), (2, .int p2), (3, .int p3), (4, .int p4), (5, .int p5)] []
  unfold f6_copy
  refine r_aload_n O d6_copy_0 0 rfl ?_
  refine r_iconst O d6_copy_1 (v := 0) (by decide) ?_
  refine p_X6_75 O d6_copy_2 (fun S1 => ?_)
  refine r_iload_n O d6_copy_5 1 rfl ?_
  refine r_callSi O (rest := []) (c6_isSheet (lX X) p1 S1) w_749 w_750 w_51 w_751 hy_X6_isSheet ⟨rfl, rfl, Nat.le_of_ble_eq_true rfl, Nat.le_of_ble_eq_true rfl⟩ rfl rfl (Nat.le_of_ble_eq_true rfl) d6_copy_6 (fun r3 S2 => ?_)
  refine r_if_eq O 19 d6_copy_9 (by decide) ?_ ?_
  · refine r_iconst O d6_copy_19 (v := (-1)) (by decide) ?_
    exact r_iret O hQ d6_copy_20
  · refine r_iload_n O d6_copy_12 3 rfl ?_
    refine r_callSi O (rest := []) (c6_isSheet (lX X) p3 S2) w_749 w_750 w_51 w_751 hy_X6_isSheet ⟨rfl, rfl, Nat.le_of_ble_eq_true rfl, Nat.le_of_ble_eq_true rfl⟩ rfl rfl (Nat.le_of_ble_eq_true rfl) d6_copy_13 (fun r5 S4 => ?_)
    refine r_if_ne O 21 d6_copy_16 (by decide) ?_ ?_
    · refine r_aload_n O d6_copy_21 0 rfl ?_
      refine g_X6_9 O d6_copy_22 ?_
      refine r_iload_n O d6_copy_25 1 rfl ?_
      refine r_iald O (j := 1) (by decide) eM_1 d6_copy_26 (fun k6 hk6 => ?_)
      refine r_bipush O d6_copy_27 (v := (-9)) (by decide) ?_
      refine r_icmp_eq O 43 d6_copy_29 (by decide) ?_ ?_
      · refine r_aload_n O d6_copy_43 0 rfl ?_
        refine r_iconst O d6_copy_44 (v := 1) (by decide) ?_
        refine r_callVi O (b := 0) (bv := fun ad => [.int 1]) (rest := []) (c6_fails (lX X) 1 S4) (fun _ => rfl) (by decide) eM_0 rfl rfl w_764 w_766 w_19 w_51 w_767 hy_X6_fails ⟨rfl, rfl, Nat.le_of_ble_eq_true rfl, Nat.le_of_ble_eq_true rfl⟩ rfl rfl (Nat.le_of_ble_eq_true rfl) d6_copy_45 (fun r8 S7 => ?_)
        exact r_iret O hQ d6_copy_48
      · refine r_aload_n O d6_copy_32 0 rfl ?_
        refine g_X6_9 O d6_copy_33 ?_
        refine r_iload_n O d6_copy_36 3 rfl ?_
        refine r_iald O (j := 1) (by decide) eM_1 d6_copy_37 (fun k9 hk9 => ?_)
        refine r_bipush O d6_copy_38 (v := (-9)) (by decide) ?_
        refine r_icmp_ne O 49 d6_copy_40 (by decide) ?_ ?_
        · refine r_aload_n O d6_copy_49 0 rfl ?_
          refine g_X6_9 O d6_copy_50 ?_
          refine r_iload_n O d6_copy_53 1 rfl ?_
          refine r_iald O (j := 1) (by decide) eM_1 d6_copy_54 (fun k10 hk10 => ?_)
          refine r_aload_n O d6_copy_55 0 rfl ?_
          refine g_X6_9 O d6_copy_56 ?_
          refine r_iload_n O d6_copy_59 3 rfl ?_
          refine r_iald O (j := 1) (by decide) eM_1 d6_copy_60 (fun k11 hk11 => ?_)
          refine r_icmp_eq O 70 d6_copy_61 (by decide) ?_ ?_
          · refine r_iload_n O d6_copy_70 2 rfl ?_
            refine r_if_lt O 109 d6_copy_71 (by decide) ?_ ?_
            · refine r_sub [0, 1, 2, 3, 4, 5] rfl ?_
              exact j6_copy_109 O hQ
            · refine r_iload O d6_copy_74 4 rfl ?_
              refine r_if_lt O 109 d6_copy_76 (by decide) ?_ ?_
              · refine r_sub [0, 1, 2, 3, 4, 5] rfl ?_
                exact j6_copy_109 O hQ
              · refine r_iload O d6_copy_79 5 rfl ?_
                refine r_if_lt O 109 d6_copy_81 (by decide) ?_ ?_
                · refine r_sub [0, 1, 2, 3, 4, 5] rfl ?_
                  exact j6_copy_109 O hQ
                · refine r_iload_n O d6_copy_84 2 rfl ?_
                  refine r_aload_n O d6_copy_85 0 rfl ?_
                  refine g_X6_13 O d6_copy_86 ?_
                  refine r_iload_n O d6_copy_89 1 rfl ?_
                  refine r_iald O (j := 2) (by decide) eM_2 d6_copy_90 (fun k26 hk26 => ?_)
                  refine r_icmp_gt O 109 d6_copy_91 (by decide) ?_ ?_
                  · refine r_sub [0, 1, 2, 3, 4, 5] rfl ?_
                    exact j6_copy_109 O hQ
                  · refine r_iload O d6_copy_94 4 rfl ?_
                    refine r_aload_n O d6_copy_96 0 rfl ?_
                    refine g_X6_13 O d6_copy_97 ?_
                    refine r_iload_n O d6_copy_100 3 rfl ?_
                    refine r_iald O (j := 2) (by decide) eM_2 d6_copy_101 (fun k27 hk27 => ?_)
                    refine r_icmp_gt O 109 d6_copy_102 (by decide) ?_ ?_
                    · refine r_sub [0, 1, 2, 3, 4, 5] rfl ?_
                      exact j6_copy_109 O hQ
                    · refine r_iconst O d6_copy_105 (v := 1) (by decide) ?_
                      refine r_goto O 110 d6_copy_106 (by decide) ?_
                      refine r_sub [0, 1, 2, 3, 4, 5] rfl ?_
                      exact j6_copy_110 O hQ
          · refine r_aload_n O d6_copy_64 0 rfl ?_
            refine r_iconst O d6_copy_65 (v := 2) (by decide) ?_
            refine r_callVi O (b := 0) (bv := fun ad => [.int 2]) (rest := []) (c6_fails (lX X) 2 S4) (fun _ => rfl) (by decide) eM_0 rfl rfl w_764 w_766 w_19 w_51 w_767 hy_X6_fails ⟨rfl, rfl, Nat.le_of_ble_eq_true rfl, Nat.le_of_ble_eq_true rfl⟩ rfl rfl (Nat.le_of_ble_eq_true rfl) d6_copy_66 (fun r29 S28 => ?_)
            exact r_iret O hQ d6_copy_69
        · refine r_aload_n O d6_copy_43 0 rfl ?_
          refine r_iconst O d6_copy_44 (v := 1) (by decide) ?_
          refine r_callVi O (b := 0) (bv := fun ad => [.int 1]) (rest := []) (c6_fails (lX X) 1 S4) (fun _ => rfl) (by decide) eM_0 rfl rfl w_764 w_766 w_19 w_51 w_767 hy_X6_fails ⟨rfl, rfl, Nat.le_of_ble_eq_true rfl, Nat.le_of_ble_eq_true rfl⟩ rfl rfl (Nat.le_of_ble_eq_true rfl) d6_copy_45 (fun r31 S30 => ?_)
          exact r_iret O hQ d6_copy_48
    · refine r_iconst O d6_copy_19 (v := (-1)) (by decide) ?_
      exact r_iret O hQ d6_copy_20
-- X6.begins
theorem d6_begins_0 : decode cX6_begins 0 = .ok (.aload_n 0, 1) := by decide +kernel
theorem d6_begins_1 : decode cX6_begins 1 = .ok (.bipush 31, 2) := by decide +kernel
theorem d6_begins_3 : decode cX6_begins 3 = .ok (.aload_n 0, 1) := by decide +kernel
theorem d6_begins_4 : decode cX6_begins 4 = .ok (.getfield 260, 3) := by decide +kernel
theorem d6_begins_7 : decode cX6_begins 7 = .ok (.imul, 1) := by decide +kernel
theorem d6_begins_8 : decode cX6_begins 8 = .ok (.iload_n 1, 1) := by decide +kernel
theorem d6_begins_9 : decode cX6_begins 9 = .ok (.iadd, 1) := by decide +kernel
theorem d6_begins_10 : decode cX6_begins 10 = .ok (.putfield 260, 3) := by decide +kernel
theorem d6_begins_13 : decode cX6_begins 13 = .ok (.return_, 1) := by decide +kernel
noncomputable def f6_begins {α : Type} (p1 : Int32) (S : MS) (K : MS → Option α) : Option α := nm (sI S 0 1 (((31 : Int32) * (S.1 0 1)) + p1)) fun S1 => K S1
set_option maxHeartbeats 4000000 in
set_option maxRecDepth 100000 in
theorem c6_begins (l : Launch) (p1 : Int32) (S : MS) {α : Type} : CtV 22 eM l yX6_begins cX6_begins 2 none (rmG 0 0) S (fun ad => [.ref (ad 0), .int p1]) (α := α) (f6_begins p1 S) := by
  refine CtV.of (by decide) (fun _ => Nat.le_of_ble_eq_true rfl) (fun X K _ O hQ => ?_)
  have O : OK 22 X RX6 cX6_begins 2 none (rmG 0 0) := O
  show GM 22 eM X (f6_begins p1 S K) S 0 [(0, .ref (aX X 0)), (1, .int p1)] []
  unfold f6_begins
  refine r_aload_n O d6_begins_0 0 rfl ?_
  refine r_bipush O d6_begins_1 (v := 31) (by decide) ?_
  refine r_aload_n O d6_begins_3 0 rfl ?_
  refine g_X6_260 O d6_begins_4 ?_
  refine r_imul O d6_begins_7 ?_
  refine r_iload_n O d6_begins_8 1 rfl ?_
  refine r_iadd O d6_begins_9 ?_
  refine p_X6_260 O d6_begins_10 (fun S1 => ?_)
  exact r_vret O hQ d6_begins_13
-- X6.tell
theorem d6_tell_0 : decode cX6_tell 0 = .ok (.aload_n 0, 1) := by decide +kernel
theorem d6_tell_1 : decode cX6_tell 1 = .ok (.iload_n 1, 1) := by decide +kernel
theorem d6_tell_2 : decode cX6_tell 2 = .ok (.invokevirtual 154, 3) := by decide +kernel
theorem d6_tell_5 : decode cX6_tell 5 = .ok (.ifCond .ne 5, 3) := by decide +kernel
theorem d6_tell_8 : decode cX6_tell 8 = .ok (.iconst (-1), 1) := by decide +kernel
theorem d6_tell_9 : decode cX6_tell 9 = .ok (.ireturn, 1) := by decide +kernel
theorem d6_tell_10 : decode cX6_tell 10 = .ok (.aload_n 0, 1) := by decide +kernel
theorem d6_tell_11 : decode cX6_tell 11 = .ok (.getfield 31, 3) := by decide +kernel
theorem d6_tell_14 : decode cX6_tell 14 = .ok (.iload_n 1, 1) := by decide +kernel
theorem d6_tell_15 : decode cX6_tell 15 = .ok (.iaload, 1) := by decide +kernel
theorem d6_tell_16 : decode cX6_tell 16 = .ok (.istore_n 2, 1) := by decide +kernel
theorem d6_tell_17 : decode cX6_tell 17 = .ok (.aload_n 0, 1) := by decide +kernel
theorem d6_tell_18 : decode cX6_tell 18 = .ok (.getfield 22, 3) := by decide +kernel
theorem d6_tell_21 : decode cX6_tell 21 = .ok (.iload_n 1, 1) := by decide +kernel
theorem d6_tell_22 : decode cX6_tell 22 = .ok (.iaload, 1) := by decide +kernel
theorem d6_tell_23 : decode cX6_tell 23 = .ok (.lookupswitch 67 #[(1, 25), (2, 40)], 25) := by decide +kernel
theorem d6_tell_48 : decode cX6_tell 48 = .ok (.aload_n 0, 1) := by decide +kernel
theorem d6_tell_49 : decode cX6_tell 49 = .ok (.iconst 2, 1) := by decide +kernel
theorem d6_tell_50 : decode cX6_tell 50 = .ok (.invokevirtual 263, 3) := by decide +kernel
theorem d6_tell_53 : decode cX6_tell 53 = .ok (.aload_n 0, 1) := by decide +kernel
theorem d6_tell_54 : decode cX6_tell 54 = .ok (.iconst 1, 1) := by decide +kernel
theorem d6_tell_55 : decode cX6_tell 55 = .ok (.invokevirtual 263, 3) := by decide +kernel
theorem d6_tell_58 : decode cX6_tell 58 = .ok (.iload_n 2, 1) := by decide +kernel
theorem d6_tell_59 : decode cX6_tell 59 = .ok (.bipush 100, 2) := by decide +kernel
theorem d6_tell_61 : decode cX6_tell 61 = .ok (.iadd, 1) := by decide +kernel
theorem d6_tell_62 : decode cX6_tell 62 = .ok (.ireturn, 1) := by decide +kernel
theorem d6_tell_63 : decode cX6_tell 63 = .ok (.aload_n 0, 1) := by decide +kernel
theorem d6_tell_64 : decode cX6_tell 64 = .ok (.iconst 3, 1) := by decide +kernel
theorem d6_tell_65 : decode cX6_tell 65 = .ok (.invokevirtual 263, 3) := by decide +kernel
theorem d6_tell_68 : decode cX6_tell 68 = .ok (.aload_n 0, 1) := by decide +kernel
theorem d6_tell_69 : decode cX6_tell 69 = .ok (.iconst 2, 1) := by decide +kernel
theorem d6_tell_70 : decode cX6_tell 70 = .ok (.invokevirtual 263, 3) := by decide +kernel
theorem d6_tell_73 : decode cX6_tell 73 = .ok (.aload_n 0, 1) := by decide +kernel
theorem d6_tell_74 : decode cX6_tell 74 = .ok (.iconst 1, 1) := by decide +kernel
theorem d6_tell_75 : decode cX6_tell 75 = .ok (.invokevirtual 263, 3) := by decide +kernel
theorem d6_tell_78 : decode cX6_tell 78 = .ok (.aload_n 0, 1) := by decide +kernel
theorem d6_tell_79 : decode cX6_tell 79 = .ok (.iconst 1, 1) := by decide +kernel
theorem d6_tell_80 : decode cX6_tell 80 = .ok (.invokevirtual 263, 3) := by decide +kernel
theorem d6_tell_83 : decode cX6_tell 83 = .ok (.iconst 2, 1) := by decide +kernel
theorem d6_tell_84 : decode cX6_tell 84 = .ok (.iload_n 2, 1) := by decide +kernel
theorem d6_tell_85 : decode cX6_tell 85 = .ok (.imul, 1) := by decide +kernel
theorem d6_tell_86 : decode cX6_tell 86 = .ok (.bipush 100, 2) := by decide +kernel
theorem d6_tell_88 : decode cX6_tell 88 = .ok (.iadd, 1) := by decide +kernel
theorem d6_tell_89 : decode cX6_tell 89 = .ok (.ireturn, 1) := by decide +kernel
theorem d6_tell_90 : decode cX6_tell 90 = .ok (.aload_n 0, 1) := by decide +kernel
theorem d6_tell_91 : decode cX6_tell 91 = .ok (.iconst 1, 1) := by decide +kernel
theorem d6_tell_92 : decode cX6_tell 92 = .ok (.invokevirtual 263, 3) := by decide +kernel
theorem d6_tell_95 : decode cX6_tell 95 = .ok (.iload_n 2, 1) := by decide +kernel
theorem d6_tell_96 : decode cX6_tell 96 = .ok (.ireturn, 1) := by decide +kernel
noncomputable def f6_tell {α : Type} (p1 : Int32) (S : MS) (K : Int32 → MS → Option α) : Option α := f6_isTank p1 S fun r2 S1 => if r2 = 0 then (K (-1) S1) else (ck p1 6 fun k3 => nm (S1.1 8 k3) fun x2_4 => ck p1 6 fun k5 => if (S1.1 5 k5) = 1 then (f6_begins 2 S1 fun S7 => f6_begins 1 S7 fun S9 => K (x2_4 + 100) S9) else (if (S1.1 5 k5) = 2 then (f6_begins 3 S1 fun S12 => f6_begins 2 S12 fun S14 => f6_begins 1 S14 fun S16 => f6_begins 1 S16 fun S18 => K (((2 : Int32) * x2_4) + 100) S18) else (f6_begins 1 S1 fun S20 => K x2_4 S20)))
set_option maxHeartbeats 4000000 in
set_option maxRecDepth 100000 in
theorem c6_tell (l : Launch) (p1 : Int32) (S : MS) {α : Type} : CtI 22 eM l yX6_tell cX6_tell 3 (some .int) (rmG 2 46) S (fun ad => [.ref (ad 0), .int p1]) (α := α) (f6_tell p1 S) := by
  refine CtI.of (by decide) (fun _ => Nat.le_of_ble_eq_true rfl) (fun X K _ O hQ => ?_)
  have O : OK 22 X RX6 cX6_tell 3 (some .int) (rmG 2 46) := O
  show GM 22 eM X (f6_tell p1 S K) S 0 [(0, .ref (aX X 0)), (1, .int p1)] []
  unfold f6_tell
  refine r_aload_n O d6_tell_0 0 rfl ?_
  refine r_iload_n O d6_tell_1 1 rfl ?_
  refine r_callVi O (b := 0) (bv := fun ad => [.int p1]) (rest := []) (c6_isTank (lX X) p1 S) (fun _ => rfl) (by decide) eM_0 rfl rfl w_797 w_799 w_24 w_51 w_800 hy_X6_isTank ⟨rfl, rfl, Nat.le_of_ble_eq_true rfl, Nat.le_of_ble_eq_true rfl⟩ rfl rfl (Nat.le_of_ble_eq_true rfl) d6_tell_2 (fun r2 S1 => ?_)
  refine r_if_ne O 10 d6_tell_5 (by decide) ?_ ?_
  · refine r_aload_n O d6_tell_10 0 rfl ?_
    refine g_X6_31 O d6_tell_11 ?_
    refine r_iload_n O d6_tell_14 1 rfl ?_
    refine r_iald O (j := 8) (by decide) eM_8 d6_tell_15 (fun k3 hk3 => ?_)
    refine r_istore_n_nm O d6_tell_16 (fun x2_4 => [(2, .int x2_4), (0, .ref (aX X 0)), (1, .int p1)]) (by decide) (fun _ => rfl) (fun x2_4 => ?_)
    refine r_aload_n O d6_tell_17 1 rfl ?_
    refine g_X6_22 O d6_tell_18 ?_
    refine r_iload_n O d6_tell_21 2 rfl ?_
    refine r_iald O (j := 5) (by decide) eM_5 d6_tell_22 (fun k5 hk5 => ?_)
    refine r_ite (fun hs6 => ?_) (fun hs6 => ?_)
    · refine r_look O (off := 25) 48 d6_tell_23 (by decide) (by rw [hs6] <;> rfl) (by decide) ?_
      refine r_aload_n O d6_tell_48 1 rfl ?_
      refine r_iconst O d6_tell_49 (v := 2) (by decide) ?_
      refine r_callVv O (b := 0) (bv := fun ad => [.int 2]) (rest := []) (c6_begins (lX X) 2 S1) (fun _ => rfl) (by decide) eM_0 rfl rfl w_984 w_986 w_43 w_51 w_987 hy_X6_begins ⟨rfl, rfl, Nat.le_of_ble_eq_true rfl, Nat.le_of_ble_eq_true rfl⟩ rfl rfl (Nat.le_of_ble_eq_true rfl) d6_tell_50 (fun S7 => ?_)
      refine r_aload_n O d6_tell_53 1 rfl ?_
      refine r_iconst O d6_tell_54 (v := 1) (by decide) ?_
      refine r_callVv O (b := 0) (bv := fun ad => [.int 1]) (rest := []) (c6_begins (lX X) 1 S7) (fun _ => rfl) (by decide) eM_0 rfl rfl w_984 w_986 w_43 w_51 w_987 hy_X6_begins ⟨rfl, rfl, Nat.le_of_ble_eq_true rfl, Nat.le_of_ble_eq_true rfl⟩ rfl rfl (Nat.le_of_ble_eq_true rfl) d6_tell_55 (fun S9 => ?_)
      refine r_iload_n O d6_tell_58 0 rfl ?_
      refine r_bipush O d6_tell_59 (v := 100) (by decide) ?_
      refine r_iadd O d6_tell_61 ?_
      exact r_iret O hQ d6_tell_62
    refine r_ite (fun hs11 => ?_) (fun hs11 => ?_)
    · refine r_look O (off := 40) 63 d6_tell_23 (by decide) (by rw [hs11] <;> rfl) (by decide) ?_
      refine r_aload_n O d6_tell_63 1 rfl ?_
      refine r_iconst O d6_tell_64 (v := 3) (by decide) ?_
      refine r_callVv O (b := 0) (bv := fun ad => [.int 3]) (rest := []) (c6_begins (lX X) 3 S1) (fun _ => rfl) (by decide) eM_0 rfl rfl w_984 w_986 w_43 w_51 w_987 hy_X6_begins ⟨rfl, rfl, Nat.le_of_ble_eq_true rfl, Nat.le_of_ble_eq_true rfl⟩ rfl rfl (Nat.le_of_ble_eq_true rfl) d6_tell_65 (fun S12 => ?_)
      refine r_aload_n O d6_tell_68 1 rfl ?_
      refine r_iconst O d6_tell_69 (v := 2) (by decide) ?_
      refine r_callVv O (b := 0) (bv := fun ad => [.int 2]) (rest := []) (c6_begins (lX X) 2 S12) (fun _ => rfl) (by decide) eM_0 rfl rfl w_984 w_986 w_43 w_51 w_987 hy_X6_begins ⟨rfl, rfl, Nat.le_of_ble_eq_true rfl, Nat.le_of_ble_eq_true rfl⟩ rfl rfl (Nat.le_of_ble_eq_true rfl) d6_tell_70 (fun S14 => ?_)
      refine r_aload_n O d6_tell_73 1 rfl ?_
      refine r_iconst O d6_tell_74 (v := 1) (by decide) ?_
      refine r_callVv O (b := 0) (bv := fun ad => [.int 1]) (rest := []) (c6_begins (lX X) 1 S14) (fun _ => rfl) (by decide) eM_0 rfl rfl w_984 w_986 w_43 w_51 w_987 hy_X6_begins ⟨rfl, rfl, Nat.le_of_ble_eq_true rfl, Nat.le_of_ble_eq_true rfl⟩ rfl rfl (Nat.le_of_ble_eq_true rfl) d6_tell_75 (fun S16 => ?_)
      refine r_aload_n O d6_tell_78 1 rfl ?_
      refine r_iconst O d6_tell_79 (v := 1) (by decide) ?_
      refine r_callVv O (b := 0) (bv := fun ad => [.int 1]) (rest := []) (c6_begins (lX X) 1 S16) (fun _ => rfl) (by decide) eM_0 rfl rfl w_984 w_986 w_43 w_51 w_987 hy_X6_begins ⟨rfl, rfl, Nat.le_of_ble_eq_true rfl, Nat.le_of_ble_eq_true rfl⟩ rfl rfl (Nat.le_of_ble_eq_true rfl) d6_tell_80 (fun S18 => ?_)
      refine r_iconst O d6_tell_83 (v := 2) (by decide) ?_
      refine r_iload_n O d6_tell_84 0 rfl ?_
      refine r_imul O d6_tell_85 ?_
      refine r_bipush O d6_tell_86 (v := 100) (by decide) ?_
      refine r_iadd O d6_tell_88 ?_
      exact r_iret O hQ d6_tell_89
    have nhs6 := i32_ne (n := 1) 1 (by decide) hs6
    have nhs11 := i32_ne (n := 2) 2 (by decide) hs11
    refine r_look O (off := 67) 90 d6_tell_23 (by decide) (by simp [Op.lookupswitch.offset, Ne.symm nhs6, Ne.symm nhs11]) (by decide) ?_
    refine r_aload_n O d6_tell_90 1 rfl ?_
    refine r_iconst O d6_tell_91 (v := 1) (by decide) ?_
    refine r_callVv O (b := 0) (bv := fun ad => [.int 1]) (rest := []) (c6_begins (lX X) 1 S1) (fun _ => rfl) (by decide) eM_0 rfl rfl w_984 w_986 w_43 w_51 w_987 hy_X6_begins ⟨rfl, rfl, Nat.le_of_ble_eq_true rfl, Nat.le_of_ble_eq_true rfl⟩ rfl rfl (Nat.le_of_ble_eq_true rfl) d6_tell_92 (fun S20 => ?_)
    refine r_iload_n O d6_tell_95 0 rfl ?_
    exact r_iret O hQ d6_tell_96
  · refine r_iconst O d6_tell_8 (v := (-1)) (by decide) ?_
    exact r_iret O hQ d6_tell_9
-- X6.sound
theorem d6_sound_0 : decode cX6_sound 0 = .ok (.aload_n 0, 1) := by decide +kernel
theorem d6_sound_1 : decode cX6_sound 1 = .ok (.iload_n 1, 1) := by decide +kernel
theorem d6_sound_2 : decode cX6_sound 2 = .ok (.invokevirtual 154, 3) := by decide +kernel
theorem d6_sound_5 : decode cX6_sound 5 = .ok (.ifCond .ne 5, 3) := by decide +kernel
theorem d6_sound_8 : decode cX6_sound 8 = .ok (.iconst (-1), 1) := by decide +kernel
theorem d6_sound_9 : decode cX6_sound 9 = .ok (.ireturn, 1) := by decide +kernel
theorem d6_sound_10 : decode cX6_sound 10 = .ok (.aload_n 0, 1) := by decide +kernel
theorem d6_sound_11 : decode cX6_sound 11 = .ok (.getfield 22, 3) := by decide +kernel
theorem d6_sound_14 : decode cX6_sound 14 = .ok (.iload_n 1, 1) := by decide +kernel
theorem d6_sound_15 : decode cX6_sound 15 = .ok (.iaload, 1) := by decide +kernel
theorem d6_sound_16 : decode cX6_sound 16 = .ok (.iconst 2, 1) := by decide +kernel
theorem d6_sound_17 : decode cX6_sound 17 = .ok (.if_icmp .ne 8, 3) := by decide +kernel
theorem d6_sound_20 : decode cX6_sound 20 = .ok (.aload_n 0, 1) := by decide +kernel
theorem d6_sound_21 : decode cX6_sound 21 = .ok (.iconst 5, 1) := by decide +kernel
theorem d6_sound_22 : decode cX6_sound 22 = .ok (.invokevirtual 263, 3) := by decide +kernel
theorem d6_sound_25 : decode cX6_sound 25 = .ok (.aload_n 0, 1) := by decide +kernel
theorem d6_sound_26 : decode cX6_sound 26 = .ok (.iconst 4, 1) := by decide +kernel
theorem d6_sound_27 : decode cX6_sound 27 = .ok (.invokevirtual 263, 3) := by decide +kernel
theorem d6_sound_30 : decode cX6_sound 30 = .ok (.aload_n 0, 1) := by decide +kernel
theorem d6_sound_31 : decode cX6_sound 31 = .ok (.getfield 25, 3) := by decide +kernel
theorem d6_sound_34 : decode cX6_sound 34 = .ok (.iload_n 1, 1) := by decide +kernel
theorem d6_sound_35 : decode cX6_sound 35 = .ok (.iaload, 1) := by decide +kernel
theorem d6_sound_36 : decode cX6_sound 36 = .ok (.aload_n 0, 1) := by decide +kernel
theorem d6_sound_37 : decode cX6_sound 37 = .ok (.getfield 22, 3) := by decide +kernel
theorem d6_sound_40 : decode cX6_sound 40 = .ok (.iload_n 1, 1) := by decide +kernel
theorem d6_sound_41 : decode cX6_sound 41 = .ok (.iaload, 1) := by decide +kernel
theorem d6_sound_42 : decode cX6_sound 42 = .ok (.iconst 2, 1) := by decide +kernel
theorem d6_sound_43 : decode cX6_sound 43 = .ok (.if_icmp .ne 8, 3) := by decide +kernel
theorem d6_sound_46 : decode cX6_sound 46 = .ok (.bipush 20, 2) := by decide +kernel
theorem d6_sound_48 : decode cX6_sound 48 = .ok (.goto 4, 3) := by decide +kernel
theorem d6_sound_51 : decode cX6_sound 51 = .ok (.iconst 0, 1) := by decide +kernel
theorem d6_sound_52 : decode cX6_sound 52 = .ok (.iadd, 1) := by decide +kernel
theorem d6_sound_53 : decode cX6_sound 53 = .ok (.ireturn, 1) := by decide +kernel
noncomputable def f6_sound_J25 {α : Type} (c1 : Int32) (S : MS) (K : Int32 → MS → Option α) : Option α := f6_begins 4 S fun S4 => ck c1 6 fun k6 => ck c1 6 fun k7 => if (S4.1 5 k7) = 2 then (K ((S4.1 6 k6) + 20) S4) else (K ((S4.1 6 k6) + 0) S4)
noncomputable def f6_sound {α : Type} (p1 : Int32) (S : MS) (K : Int32 → MS → Option α) : Option α := f6_isTank p1 S fun r2 S1 => if r2 = 0 then (K (-1) S1) else (ck p1 6 fun k3 => if (S1.1 5 k3) = 2 then (f6_begins 5 S1 fun S8 => f6_sound_J25 p1 S8 K) else (f6_sound_J25 p1 S1 K))
set_option maxHeartbeats 4000000 in
set_option maxRecDepth 100000 in
theorem j6_sound_25 {α : Type} {X : GX α} (O : OK 22 X RX6 cX6_sound 2 (some .int) (rmG 2 46)) {K : Int32 → MS → Option α} (hQ : RtI 22 eM X K) {c1 : Int32} {S : MS} : GM 22 eM X (f6_sound_J25 c1 S K) S 25 [(0, .ref (aX X 0)), (1, .int c1)] [] := by
  unfold f6_sound_J25
  refine r_aload_n O d6_sound_25 0 rfl ?_
  refine r_iconst O d6_sound_26 (v := 4) (by decide) ?_
  refine r_callVv O (b := 0) (bv := fun ad => [.int 4]) (rest := []) (c6_begins (lX X) 4 S) (fun _ => rfl) (by decide) eM_0 rfl rfl w_984 w_986 w_43 w_51 w_987 hy_X6_begins ⟨rfl, rfl, Nat.le_of_ble_eq_true rfl, Nat.le_of_ble_eq_true rfl⟩ rfl rfl (Nat.le_of_ble_eq_true rfl) d6_sound_27 (fun S4 => ?_)
  refine r_aload_n O d6_sound_30 0 rfl ?_
  refine g_X6_25 O d6_sound_31 ?_
  refine r_iload_n O d6_sound_34 1 rfl ?_
  refine r_iald O (j := 6) (by decide) eM_6 d6_sound_35 (fun k6 hk6 => ?_)
  refine r_aload_n O d6_sound_36 0 rfl ?_
  refine g_X6_22 O d6_sound_37 ?_
  refine r_iload_n O d6_sound_40 1 rfl ?_
  refine r_iald O (j := 5) (by decide) eM_5 d6_sound_41 (fun k7 hk7 => ?_)
  refine r_iconst O d6_sound_42 (v := 2) (by decide) ?_
  refine r_icmp_ne O 51 d6_sound_43 (by decide) ?_ ?_
  · refine r_iconst O d6_sound_51 (v := 0) (by decide) ?_
    refine r_iadd O d6_sound_52 ?_
    exact r_iret O hQ d6_sound_53
  · refine r_bipush O d6_sound_46 (v := 20) (by decide) ?_
    refine r_goto O 52 d6_sound_48 (by decide) ?_
    refine r_iadd O d6_sound_52 ?_
    exact r_iret O hQ d6_sound_53
set_option maxHeartbeats 4000000 in
set_option maxRecDepth 100000 in
theorem c6_sound (l : Launch) (p1 : Int32) (S : MS) {α : Type} : CtI 22 eM l yX6_sound cX6_sound 2 (some .int) (rmG 2 46) S (fun ad => [.ref (ad 0), .int p1]) (α := α) (f6_sound p1 S) := by
  refine CtI.of (by decide) (fun _ => Nat.le_of_ble_eq_true rfl) (fun X K _ O hQ => ?_)
  have O : OK 22 X RX6 cX6_sound 2 (some .int) (rmG 2 46) := O
  show GM 22 eM X (f6_sound p1 S K) S 0 [(0, .ref (aX X 0)), (1, .int p1)] []
  unfold f6_sound
  refine r_aload_n O d6_sound_0 0 rfl ?_
  refine r_iload_n O d6_sound_1 1 rfl ?_
  refine r_callVi O (b := 0) (bv := fun ad => [.int p1]) (rest := []) (c6_isTank (lX X) p1 S) (fun _ => rfl) (by decide) eM_0 rfl rfl w_797 w_799 w_24 w_51 w_800 hy_X6_isTank ⟨rfl, rfl, Nat.le_of_ble_eq_true rfl, Nat.le_of_ble_eq_true rfl⟩ rfl rfl (Nat.le_of_ble_eq_true rfl) d6_sound_2 (fun r2 S1 => ?_)
  refine r_if_ne O 10 d6_sound_5 (by decide) ?_ ?_
  · refine r_aload_n O d6_sound_10 0 rfl ?_
    refine g_X6_22 O d6_sound_11 ?_
    refine r_iload_n O d6_sound_14 1 rfl ?_
    refine r_iald O (j := 5) (by decide) eM_5 d6_sound_15 (fun k3 hk3 => ?_)
    refine r_iconst O d6_sound_16 (v := 2) (by decide) ?_
    refine r_icmp_ne O 25 d6_sound_17 (by decide) ?_ ?_
    · refine r_sub [0, 1] rfl ?_
      exact j6_sound_25 O hQ
    · refine r_aload_n O d6_sound_20 0 rfl ?_
      refine r_iconst O d6_sound_21 (v := 5) (by decide) ?_
      refine r_callVv O (b := 0) (bv := fun ad => [.int 5]) (rest := []) (c6_begins (lX X) 5 S1) (fun _ => rfl) (by decide) eM_0 rfl rfl w_984 w_986 w_43 w_51 w_987 hy_X6_begins ⟨rfl, rfl, Nat.le_of_ble_eq_true rfl, Nat.le_of_ble_eq_true rfl⟩ rfl rfl (Nat.le_of_ble_eq_true rfl) d6_sound_22 (fun S8 => ?_)
      refine r_sub [0, 1] rfl ?_
      exact j6_sound_25 O hQ
  · refine r_iconst O d6_sound_8 (v := (-1)) (by decide) ?_
    exact r_iret O hQ d6_sound_9
-- X6.as
theorem d6_as_0 : decode cX6_as 0 = .ok (.aload_n 0, 1) := by decide +kernel
theorem d6_as_1 : decode cX6_as 1 = .ok (.iconst 0, 1) := by decide +kernel
theorem d6_as_2 : decode cX6_as 2 = .ok (.putfield 75, 3) := by decide +kernel
theorem d6_as_5 : decode cX6_as 5 = .ok (.aload_n 0, 1) := by decide +kernel
theorem d6_as_6 : decode cX6_as 6 = .ok (.iload_n 1, 1) := by decide +kernel
theorem d6_as_7 : decode cX6_as 7 = .ok (.invokevirtual 154, 3) := by decide +kernel
theorem d6_as_10 : decode cX6_as 10 = .ok (.ifCond .ne 5, 3) := by decide +kernel
theorem d6_as_13 : decode cX6_as 13 = .ok (.iconst (-1), 1) := by decide +kernel
theorem d6_as_14 : decode cX6_as 14 = .ok (.ireturn, 1) := by decide +kernel
theorem d6_as_15 : decode cX6_as 15 = .ok (.iload_n 2, 1) := by decide +kernel
theorem d6_as_16 : decode cX6_as 16 = .ok (.i2l, 1) := by decide +kernel
theorem d6_as_17 : decode cX6_as 17 = .ok (.lconst 0, 1) := by decide +kernel
theorem d6_as_18 : decode cX6_as 18 = .ok (.ldc2_w 87, 3) := by decide +kernel
theorem d6_as_21 : decode cX6_as 21 = .ok (.invokestatic 83, 3) := by decide +kernel
theorem d6_as_24 : decode cX6_as 24 = .ok (.ifCond .ne 6, 3) := by decide +kernel
theorem d6_as_27 : decode cX6_as 27 = .ok (.bipush (-2), 2) := by decide +kernel
theorem d6_as_29 : decode cX6_as 29 = .ok (.ireturn, 1) := by decide +kernel
theorem d6_as_30 : decode cX6_as 30 = .ok (.aload_n 0, 1) := by decide +kernel
theorem d6_as_31 : decode cX6_as 31 = .ok (.getfield 22, 3) := by decide +kernel
theorem d6_as_34 : decode cX6_as 34 = .ok (.iload_n 1, 1) := by decide +kernel
theorem d6_as_35 : decode cX6_as 35 = .ok (.iaload, 1) := by decide +kernel
theorem d6_as_36 : decode cX6_as 36 = .ok (.iload_n 2, 1) := by decide +kernel
theorem d6_as_37 : decode cX6_as 37 = .ok (.if_icmp .lt 7, 3) := by decide +kernel
theorem d6_as_40 : decode cX6_as 40 = .ok (.iconst 1, 1) := by decide +kernel
theorem d6_as_41 : decode cX6_as 41 = .ok (.goto 8, 3) := by decide +kernel
theorem d6_as_44 : decode cX6_as 44 = .ok (.aload_n 0, 1) := by decide +kernel
theorem d6_as_45 : decode cX6_as 45 = .ok (.iconst 2, 1) := by decide +kernel
theorem d6_as_46 : decode cX6_as 46 = .ok (.invokevirtual 135, 3) := by decide +kernel
theorem d6_as_49 : decode cX6_as 49 = .ok (.ireturn, 1) := by decide +kernel
noncomputable def f6_as {α : Type} (p1 : Int32) (p2 : Int32) (S : MS) (K : Int32 → MS → Option α) : Option α := nm (sI S 0 0 0) fun S1 => f6_isTank p1 S1 fun r3 S2 => if r3 = 0 then (K (-1) S2) else (f6_within (Int32.toInt64 p2) 0 2 S2 fun r5 S4 => if r5 = 0 then (K (-2) S4) else (ck p1 6 fun k6 => if (S4.1 5 k6) < p2 then (f6_fails 2 S4 fun r8 S7 => K r8 S7) else (K 1 S4)))
set_option maxHeartbeats 4000000 in
set_option maxRecDepth 100000 in
theorem c6_as (l : Launch) (p1 : Int32) (p2 : Int32) (S : MS) {α : Type} : CtI 22 eM l yX6_as cX6_as 3 (some .int) (rmG 2 46) S (fun ad => [.ref (ad 0), .int p1, .int p2]) (α := α) (f6_as p1 p2 S) := by
  refine CtI.of (by decide) (fun _ => Nat.le_of_ble_eq_true rfl) (fun X K _ O hQ => ?_)
  have O : OK 22 X RX6 cX6_as 3 (some .int) (rmG 2 46) := O
  show GM 22 eM X (f6_as p1 p2 S K) S 0 [(0, .ref (aX X 0)), (1, .int p1), (2, .int p2)] []
  unfold f6_as
  refine r_aload_n O d6_as_0 0 rfl ?_
  refine r_iconst O d6_as_1 (v := 0) (by decide) ?_
  refine p_X6_75 O d6_as_2 (fun S1 => ?_)
  refine r_aload_n O d6_as_5 0 rfl ?_
  refine r_iload_n O d6_as_6 1 rfl ?_
  refine r_callVi O (b := 0) (bv := fun ad => [.int p1]) (rest := []) (c6_isTank (lX X) p1 S1) (fun _ => rfl) (by decide) eM_0 rfl rfl w_797 w_799 w_24 w_51 w_800 hy_X6_isTank ⟨rfl, rfl, Nat.le_of_ble_eq_true rfl, Nat.le_of_ble_eq_true rfl⟩ rfl rfl (Nat.le_of_ble_eq_true rfl) d6_as_7 (fun r3 S2 => ?_)
  refine r_if_ne O 15 d6_as_10 (by decide) ?_ ?_
  · refine r_iload_n O d6_as_15 2 rfl ?_
    refine r_i2l O d6_as_16 ?_
    refine r_lconst O d6_as_17 (v := 0) (by decide) ?_
    refine r_ldc2 O (v := 2) w_759 d6_as_18 ?_
    refine r_callSi O (rest := []) (c6_within (lX X) (Int32.toInt64 p2) 0 2 S2) w_753 w_754 w_51 w_755 hy_X6_within ⟨rfl, rfl, Nat.le_of_ble_eq_true rfl, Nat.le_of_ble_eq_true rfl⟩ rfl rfl (Nat.le_of_ble_eq_true rfl) d6_as_21 (fun r5 S4 => ?_)
    refine r_if_ne O 30 d6_as_24 (by decide) ?_ ?_
    · refine r_aload_n O d6_as_30 0 rfl ?_
      refine g_X6_22 O d6_as_31 ?_
      refine r_iload_n O d6_as_34 1 rfl ?_
      refine r_iald O (j := 5) (by decide) eM_5 d6_as_35 (fun k6 hk6 => ?_)
      refine r_iload_n O d6_as_36 2 rfl ?_
      refine r_icmp_lt O 44 d6_as_37 (by decide) ?_ ?_
      · refine r_aload_n O d6_as_44 0 rfl ?_
        refine r_iconst O d6_as_45 (v := 2) (by decide) ?_
        refine r_callVi O (b := 0) (bv := fun ad => [.int 2]) (rest := []) (c6_fails (lX X) 2 S4) (fun _ => rfl) (by decide) eM_0 rfl rfl w_764 w_766 w_19 w_51 w_767 hy_X6_fails ⟨rfl, rfl, Nat.le_of_ble_eq_true rfl, Nat.le_of_ble_eq_true rfl⟩ rfl rfl (Nat.le_of_ble_eq_true rfl) d6_as_46 (fun r8 S7 => ?_)
        exact r_iret O hQ d6_as_49
      · refine r_iconst O d6_as_40 (v := 1) (by decide) ?_
        refine r_goto O 49 d6_as_41 (by decide) ?_
        exact r_iret O hQ d6_as_49
    · refine r_bipush O d6_as_27 (v := (-2)) (by decide) ?_
      exact r_iret O hQ d6_as_29
  · refine r_iconst O d6_as_13 (v := (-1)) (by decide) ?_
    exact r_iret O hQ d6_as_14
-- X6.trace
theorem d6_trace_0 : decode cX6_trace 0 = .ok (.aload_n 0, 1) := by decide +kernel
theorem d6_trace_1 : decode cX6_trace 1 = .ok (.getfield 260, 3) := by decide +kernel
theorem d6_trace_4 : decode cX6_trace 4 = .ok (.ireturn, 1) := by decide +kernel
noncomputable def f6_trace {α : Type} (S : MS) (K : Int32 → MS → Option α) : Option α := K (S.1 0 1) S
set_option maxHeartbeats 4000000 in
set_option maxRecDepth 100000 in
theorem c6_trace (l : Launch) (S : MS) {α : Type} : CtI 22 eM l yX6_trace cX6_trace 1 (some .int) (rmG 0 0) S (fun ad => [.ref (ad 0)]) (α := α) (f6_trace S) := by
  refine CtI.of (by decide) (fun _ => Nat.le_of_ble_eq_true rfl) (fun X K _ O hQ => ?_)
  have O : OK 22 X RX6 cX6_trace 1 (some .int) (rmG 0 0) := O
  show GM 22 eM X (f6_trace S K) S 0 [(0, .ref (aX X 0))] []
  unfold f6_trace
  refine r_aload_n O d6_trace_0 0 rfl ?_
  refine g_X6_260 O d6_trace_1 ?_
  exact r_iret O hQ d6_trace_4
-- X6.fault
theorem d6_fault_0 : decode cX6_fault 0 = .ok (.aload_n 0, 1) := by decide +kernel
theorem d6_fault_1 : decode cX6_fault 1 = .ok (.getfield 75, 3) := by decide +kernel
theorem d6_fault_4 : decode cX6_fault 4 = .ok (.ireturn, 1) := by decide +kernel
noncomputable def f6_fault {α : Type} (S : MS) (K : Int32 → MS → Option α) : Option α := K (S.1 0 0) S
set_option maxHeartbeats 4000000 in
set_option maxRecDepth 100000 in
theorem c6_fault (l : Launch) (S : MS) {α : Type} : CtI 22 eM l yX6_fault cX6_fault 1 (some .int) (rmG 0 0) S (fun ad => [.ref (ad 0)]) (α := α) (f6_fault S) := by
  refine CtI.of (by decide) (fun _ => Nat.le_of_ble_eq_true rfl) (fun X K _ O hQ => ?_)
  have O : OK 22 X RX6 cX6_fault 1 (some .int) (rmG 0 0) := O
  show GM 22 eM X (f6_fault S K) S 0 [(0, .ref (aX X 0))] []
  unfold f6_fault
  refine r_aload_n O d6_fault_0 0 rfl ?_
  refine g_X6_75 O d6_fault_1 ?_
  exact r_iret O hQ d6_fault_4
-- X6.sizeOf
theorem d6_sizeOf_0 : decode cX6_sizeOf 0 = .ok (.iconst 0, 1) := by decide +kernel
theorem d6_sizeOf_1 : decode cX6_sizeOf 1 = .ok (.istore_n 1, 1) := by decide +kernel
theorem d6_sizeOf_2 : decode cX6_sizeOf 2 = .ok (.iconst 0, 1) := by decide +kernel
theorem d6_sizeOf_3 : decode cX6_sizeOf 3 = .ok (.istore_n 2, 1) := by decide +kernel
theorem d6_sizeOf_4 : decode cX6_sizeOf 4 = .ok (.iload_n 2, 1) := by decide +kernel
theorem d6_sizeOf_5 : decode cX6_sizeOf 5 = .ok (.bipush 6, 2) := by decide +kernel
theorem d6_sizeOf_7 : decode cX6_sizeOf 7 = .ok (.if_icmp .ge 17, 3) := by decide +kernel
theorem d6_sizeOf_10 : decode cX6_sizeOf 10 = .ok (.iload_n 1, 1) := by decide +kernel
theorem d6_sizeOf_11 : decode cX6_sizeOf 11 = .ok (.iload_n 0, 1) := by decide +kernel
theorem d6_sizeOf_12 : decode cX6_sizeOf 12 = .ok (.iload_n 2, 1) := by decide +kernel
theorem d6_sizeOf_13 : decode cX6_sizeOf 13 = .ok (.ishr, 1) := by decide +kernel
theorem d6_sizeOf_14 : decode cX6_sizeOf 14 = .ok (.iconst 1, 1) := by decide +kernel
theorem d6_sizeOf_15 : decode cX6_sizeOf 15 = .ok (.iand, 1) := by decide +kernel
theorem d6_sizeOf_16 : decode cX6_sizeOf 16 = .ok (.iadd, 1) := by decide +kernel
theorem d6_sizeOf_17 : decode cX6_sizeOf 17 = .ok (.istore_n 1, 1) := by decide +kernel
theorem d6_sizeOf_18 : decode cX6_sizeOf 18 = .ok (.iinc 2 1, 3) := by decide +kernel
theorem d6_sizeOf_21 : decode cX6_sizeOf 21 = .ok (.goto (-17), 3) := by decide +kernel
theorem d6_sizeOf_24 : decode cX6_sizeOf 24 = .ok (.iload_n 1, 1) := by decide +kernel
theorem d6_sizeOf_25 : decode cX6_sizeOf 25 = .ok (.ireturn, 1) := by decide +kernel
noncomputable def f6_sizeOf_L4 {α : Type} (c0 : Int32) (KX : Int32 → Int32 → MS → Option α) : Nat → Int32 → Int32 → MS → Option α
  | 0, _, _, _ => none
  | n + 1, v1, v2, S => if 6 ≤ v2 then (KX v1 v2 S) else (nm (v1 + ((c0 >>> (v2 &&& 31)) &&& 1)) fun x1_1 => nm (v2 + 1) fun x2_2 => f6_sizeOf_L4 c0 KX n x1_1 x2_2 S)
noncomputable def f6_sizeOf {α : Type} (p0 : Int32) (S : MS) (K : Int32 → MS → Option α) : Option α := f6_sizeOf_L4 p0 (fun v1_4 v2_5 S3 => K v1_4 S3) FU 0 0 S
set_option maxHeartbeats 4000000 in
set_option maxRecDepth 100000 in
theorem l6_sizeOf_4 {α : Type} {X : GX α} (O : OK 22 X RX6 cX6_sizeOf 3 (some .int) (rmG 0 0)) {c0 : Int32} {KX : Int32 → Int32 → MS → Option α} (hX : ∀ v1 v2 S, GM 22 eM X (KX v1 v2 S) S 24 [(0, .int c0), (1, .int v1), (2, .int v2)] []) : ∀ n v1 v2 S, GM 22 eM X (f6_sizeOf_L4 c0 KX n v1 v2 S) S 4 [(0, .int c0), (1, .int v1), (2, .int v2)] [] := by
  intro n
  induction n with
  | zero => intro v1 v2 S; exact r_none
  | succ n ih =>
    intro v1 v2 S
    rw [f6_sizeOf_L4]
    refine r_iload_n O d6_sizeOf_4 2 rfl ?_
    refine r_bipush O d6_sizeOf_5 (v := 6) (by decide) ?_
    refine r_icmp_ge O 24 d6_sizeOf_7 (by decide) ?_ ?_
    · refine r_sub [0, 1, 2] rfl ?_
      exact hX _ _ _
    · refine r_iload_n O d6_sizeOf_10 1 rfl ?_
      refine r_iload_n O d6_sizeOf_11 0 rfl ?_
      refine r_iload_n O d6_sizeOf_12 2 rfl ?_
      refine r_ishr O d6_sizeOf_13 ?_
      refine r_iconst O d6_sizeOf_14 (v := 1) (by decide) ?_
      refine r_iand O d6_sizeOf_15 ?_
      refine r_iadd O d6_sizeOf_16 ?_
      refine r_istore_n_nm O d6_sizeOf_17 (fun x1_1 => [(1, .int x1_1), (0, .int c0), (2, .int v2)]) (by decide) (fun _ => rfl) (fun x1_1 => ?_)
      refine r_iinc O d6_sizeOf_18 2 (c0 := 1) rfl (by decide) (fun x2_2 => [(2, .int x2_2), (1, .int x1_1), (0, .int c0)]) (by decide) (fun _ => rfl) (fun x2_2 => ?_)
      refine r_goto O 4 d6_sizeOf_21 (by decide) ?_
      refine r_sub [2, 1, 0] rfl ?_
      exact ih _ _ _
set_option maxHeartbeats 4000000 in
set_option maxRecDepth 100000 in
theorem c6_sizeOf (l : Launch) (p0 : Int32) (S : MS) {α : Type} : CtI 22 eM l yX6_sizeOf cX6_sizeOf 3 (some .int) (rmG 0 0) S (fun ad => [.int p0]) (α := α) (f6_sizeOf p0 S) := by
  refine CtI.of (by decide) (fun _ => Nat.le_of_ble_eq_true rfl) (fun X K _ O hQ => ?_)
  have O : OK 22 X RX6 cX6_sizeOf 3 (some .int) (rmG 0 0) := O
  show GM 22 eM X (f6_sizeOf p0 S K) S 0 [(0, .int p0)] []
  unfold f6_sizeOf
  refine r_iconst O d6_sizeOf_0 (v := 0) (by decide) ?_
  refine r_istore_n O d6_sizeOf_1 [(1, .int 0), (0, .int p0)] (by decide) rfl ?_
  refine r_iconst O d6_sizeOf_2 (v := 0) (by decide) ?_
  refine r_istore_n O d6_sizeOf_3 [(2, .int 0), (1, .int 0), (0, .int p0)] (by decide) rfl ?_
  refine r_sub [2, 1, 0] rfl ?_
  refine l6_sizeOf_4 O (fun v1_4 v2_5 S3 => ?_) _ _ _ _
  refine r_iload_n O d6_sizeOf_24 1 rfl ?_
  exact r_iret O hQ d6_sizeOf_25
-- X6.many
theorem d6_many_0 : decode cX6_many 0 = .ok (.iload_n 1, 1) := by decide +kernel
theorem d6_many_1 : decode cX6_many 1 = .ok (.tableswitch 73 0 4 #[35, 40, 50, 60, 68], 35) := by decide +kernel
theorem d6_many_36 : decode cX6_many 36 = .ok (.aload_n 0, 1) := by decide +kernel
theorem d6_many_37 : decode cX6_many 37 = .ok (.getfield 89, 3) := by decide +kernel
theorem d6_many_40 : decode cX6_many 40 = .ok (.ireturn, 1) := by decide +kernel
theorem d6_many_41 : decode cX6_many 41 = .ok (.aload_n 0, 1) := by decide +kernel
theorem d6_many_42 : decode cX6_many 42 = .ok (.aload_n 0, 1) := by decide +kernel
theorem d6_many_43 : decode cX6_many 43 = .ok (.getfield 141, 3) := by decide +kernel
theorem d6_many_46 : decode cX6_many 46 = .ok (.iconst 0, 1) := by decide +kernel
theorem d6_many_47 : decode cX6_many 47 = .ok (.invokevirtual 221, 3) := by decide +kernel
theorem d6_many_50 : decode cX6_many 50 = .ok (.ireturn, 1) := by decide +kernel
theorem d6_many_51 : decode cX6_many 51 = .ok (.aload_n 0, 1) := by decide +kernel
theorem d6_many_52 : decode cX6_many 52 = .ok (.aload_n 0, 1) := by decide +kernel
theorem d6_many_53 : decode cX6_many 53 = .ok (.getfield 141, 3) := by decide +kernel
theorem d6_many_56 : decode cX6_many 56 = .ok (.iconst 1, 1) := by decide +kernel
theorem d6_many_57 : decode cX6_many 57 = .ok (.invokevirtual 221, 3) := by decide +kernel
theorem d6_many_60 : decode cX6_many 60 = .ok (.ireturn, 1) := by decide +kernel
theorem d6_many_61 : decode cX6_many 61 = .ok (.aload_n 0, 1) := by decide +kernel
theorem d6_many_62 : decode cX6_many 62 = .ok (.getfield 144, 3) := by decide +kernel
theorem d6_many_65 : decode cX6_many 65 = .ok (.invokestatic 267, 3) := by decide +kernel
theorem d6_many_68 : decode cX6_many 68 = .ok (.ireturn, 1) := by decide +kernel
theorem d6_many_69 : decode cX6_many 69 = .ok (.aload_n 0, 1) := by decide +kernel
theorem d6_many_70 : decode cX6_many 70 = .ok (.getfield 147, 3) := by decide +kernel
theorem d6_many_73 : decode cX6_many 73 = .ok (.ireturn, 1) := by decide +kernel
theorem d6_many_74 : decode cX6_many 74 = .ok (.bipush (-2), 2) := by decide +kernel
theorem d6_many_76 : decode cX6_many 76 = .ok (.ireturn, 1) := by decide +kernel
noncomputable def f6_many {α : Type} (p1 : Int32) (S : MS) (K : Int32 → MS → Option α) : Option α := if p1 = 0 then (K (S.1 0 6) S) else (if p1 = 1 then (f6_countOf (S.1 0 14) 0 S fun r4 S3 => K r4 S3) else (if p1 = 2 then (f6_countOf (S.1 0 14) 1 S fun r7 S6 => K r7 S6) else (if p1 = 3 then (f6_sizeOf (S.1 0 13) S fun r10 S9 => K r10 S9) else (if p1 = 4 then (K (S.1 0 34) S) else (K (-2) S)))))
set_option maxHeartbeats 4000000 in
set_option maxRecDepth 100000 in
theorem c6_many (l : Launch) (p1 : Int32) (S : MS) {α : Type} : CtI 22 eM l yX6_many cX6_many 2 (some .int) (rmG 2 47) S (fun ad => [.ref (ad 0), .int p1]) (α := α) (f6_many p1 S) := by
  refine CtI.of (by decide) (fun _ => Nat.le_of_ble_eq_true rfl) (fun X K _ O hQ => ?_)
  have O : OK 22 X RX6 cX6_many 2 (some .int) (rmG 2 47) := O
  show GM 22 eM X (f6_many p1 S K) S 0 [(0, .ref (aX X 0)), (1, .int p1)] []
  unfold f6_many
  refine r_iload_n O d6_many_0 1 rfl ?_
  refine r_ite (fun hs1 => ?_) (fun hs1 => ?_)
  · refine r_tin O 36 d6_many_1 (by rw [hs1]; decide) (by rw [hs1]; decide) (by rw [hs1]; rfl) (by decide) ?_
    refine r_aload_n O d6_many_36 0 rfl ?_
    refine g_X6_89 O d6_many_37 ?_
    exact r_iret O hQ d6_many_40
  refine r_ite (fun hs2 => ?_) (fun hs2 => ?_)
  · refine r_tin O 41 d6_many_1 (by rw [hs2]; decide) (by rw [hs2]; decide) (by rw [hs2]; rfl) (by decide) ?_
    refine r_aload_n O d6_many_41 0 rfl ?_
    refine r_aload_n O d6_many_42 0 rfl ?_
    refine g_X6_141 O d6_many_43 ?_
    refine r_iconst O d6_many_46 (v := 0) (by decide) ?_
    refine r_callVi O (b := 0) (bv := fun ad => [.int (S.1 0 14), .int 0]) (rest := []) (c6_countOf (lX X) (S.1 0 14) 0 S) (fun _ => rfl) (by decide) eM_0 rfl rfl w_911 w_913 w_39 w_51 w_914 hy_X6_countOf ⟨rfl, rfl, Nat.le_of_ble_eq_true rfl, Nat.le_of_ble_eq_true rfl⟩ rfl rfl (Nat.le_of_ble_eq_true rfl) d6_many_47 (fun r4 S3 => ?_)
    exact r_iret O hQ d6_many_50
  refine r_ite (fun hs5 => ?_) (fun hs5 => ?_)
  · refine r_tin O 51 d6_many_1 (by rw [hs5]; decide) (by rw [hs5]; decide) (by rw [hs5]; rfl) (by decide) ?_
    refine r_aload_n O d6_many_51 0 rfl ?_
    refine r_aload_n O d6_many_52 0 rfl ?_
    refine g_X6_141 O d6_many_53 ?_
    refine r_iconst O d6_many_56 (v := 1) (by decide) ?_
    refine r_callVi O (b := 0) (bv := fun ad => [.int (S.1 0 14), .int 1]) (rest := []) (c6_countOf (lX X) (S.1 0 14) 1 S) (fun _ => rfl) (by decide) eM_0 rfl rfl w_911 w_913 w_39 w_51 w_914 hy_X6_countOf ⟨rfl, rfl, Nat.le_of_ble_eq_true rfl, Nat.le_of_ble_eq_true rfl⟩ rfl rfl (Nat.le_of_ble_eq_true rfl) d6_many_57 (fun r7 S6 => ?_)
    exact r_iret O hQ d6_many_60
  refine r_ite (fun hs8 => ?_) (fun hs8 => ?_)
  · refine r_tin O 61 d6_many_1 (by rw [hs8]; decide) (by rw [hs8]; decide) (by rw [hs8]; rfl) (by decide) ?_
    refine r_aload_n O d6_many_61 0 rfl ?_
    refine g_X6_144 O d6_many_62 ?_
    refine r_callSi O (rest := []) (c6_sizeOf (lX X) (S.1 0 13) S) w_1008 w_1009 w_51 w_1010 hy_X6_sizeOf ⟨rfl, rfl, Nat.le_of_ble_eq_true rfl, Nat.le_of_ble_eq_true rfl⟩ rfl rfl (Nat.le_of_ble_eq_true rfl) d6_many_65 (fun r10 S9 => ?_)
    exact r_iret O hQ d6_many_68
  refine r_ite (fun hs11 => ?_) (fun hs11 => ?_)
  · refine r_tin O 69 d6_many_1 (by rw [hs11]; decide) (by rw [hs11]; decide) (by rw [hs11]; rfl) (by decide) ?_
    refine r_aload_n O d6_many_69 0 rfl ?_
    refine g_X6_147 O d6_many_70 ?_
    exact r_iret O hQ d6_many_73
  have nhs1 := i32_ne (n := 0) 0 (by decide) hs1
  have nhs2 := i32_ne (n := 1) 1 (by decide) hs2
  have nhs5 := i32_ne (n := 2) 2 (by decide) hs5
  have nhs8 := i32_ne (n := 3) 3 (by decide) hs8
  have nhs11 := i32_ne (n := 4) 4 (by decide) hs11
  refine r_tout O 74 d6_many_1 (by omega) (by decide) ?_
  refine r_bipush O d6_many_74 (v := (-2)) (by decide) ?_
  exact r_iret O hQ d6_many_76
