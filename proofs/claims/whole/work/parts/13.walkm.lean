-- X6.goDay
theorem d6_goDay_0 : decode cX6_goDay 0 = .ok (.aload_n 0, 1) := by decide +kernel
theorem d6_goDay_1 : decode cX6_goDay 1 = .ok (.aload_n 0, 1) := by decide +kernel
theorem d6_goDay_2 : decode cX6_goDay 2 = .ok (.getfield 141, 3) := by decide +kernel
theorem d6_goDay_5 : decode cX6_goDay 5 = .ok (.putfield 218, 3) := by decide +kernel
theorem d6_goDay_8 : decode cX6_goDay 8 = .ok (.iconst 0, 1) := by decide +kernel
theorem d6_goDay_9 : decode cX6_goDay 9 = .ok (.istore_n 3, 1) := by decide +kernel
theorem d6_goDay_10 : decode cX6_goDay 10 = .ok (.iload_n 3, 1) := by decide +kernel
theorem d6_goDay_11 : decode cX6_goDay 11 = .ok (.iload_n 2, 1) := by decide +kernel
theorem d6_goDay_12 : decode cX6_goDay 12 = .ok (.if_icmp .ge 57, 3) := by decide +kernel
theorem d6_goDay_15 : decode cX6_goDay 15 = .ok (.aload_n 0, 1) := by decide +kernel
theorem d6_goDay_16 : decode cX6_goDay 16 = .ok (.getfield 16, 3) := by decide +kernel
theorem d6_goDay_19 : decode cX6_goDay 19 = .ok (.iload_n 1, 1) := by decide +kernel
theorem d6_goDay_20 : decode cX6_goDay 20 = .ok (.iload_n 3, 1) := by decide +kernel
theorem d6_goDay_21 : decode cX6_goDay 21 = .ok (.iadd, 1) := by decide +kernel
theorem d6_goDay_22 : decode cX6_goDay 22 = .ok (.iaload, 1) := by decide +kernel
theorem d6_goDay_23 : decode cX6_goDay 23 = .ok (.istore 4, 2) := by decide +kernel
theorem d6_goDay_25 : decode cX6_goDay 25 = .ok (.aload_n 0, 1) := by decide +kernel
theorem d6_goDay_26 : decode cX6_goDay 26 = .ok (.iload 4, 2) := by decide +kernel
theorem d6_goDay_28 : decode cX6_goDay 28 = .ok (.invokevirtual 154, 3) := by decide +kernel
theorem d6_goDay_31 : decode cX6_goDay 31 = .ok (.ifCond .eq 16, 3) := by decide +kernel
theorem d6_goDay_34 : decode cX6_goDay 34 = .ok (.aload_n 0, 1) := by decide +kernel
theorem d6_goDay_35 : decode cX6_goDay 35 = .ok (.aload_n 0, 1) := by decide +kernel
theorem d6_goDay_36 : decode cX6_goDay 36 = .ok (.getfield 218, 3) := by decide +kernel
theorem d6_goDay_39 : decode cX6_goDay 39 = .ok (.iload 4, 2) := by decide +kernel
theorem d6_goDay_41 : decode cX6_goDay 41 = .ok (.invokevirtual 164, 3) := by decide +kernel
theorem d6_goDay_44 : decode cX6_goDay 44 = .ok (.ifCond .ne 5, 3) := by decide +kernel
theorem d6_goDay_47 : decode cX6_goDay 47 = .ok (.iload_n 3, 1) := by decide +kernel
theorem d6_goDay_48 : decode cX6_goDay 48 = .ok (.ireturn, 1) := by decide +kernel
theorem d6_goDay_49 : decode cX6_goDay 49 = .ok (.aload_n 0, 1) := by decide +kernel
theorem d6_goDay_50 : decode cX6_goDay 50 = .ok (.aload_n 0, 1) := by decide +kernel
theorem d6_goDay_51 : decode cX6_goDay 51 = .ok (.aload_n 0, 1) := by decide +kernel
theorem d6_goDay_52 : decode cX6_goDay 52 = .ok (.getfield 218, 3) := by decide +kernel
theorem d6_goDay_55 : decode cX6_goDay 55 = .ok (.iload 4, 2) := by decide +kernel
theorem d6_goDay_57 : decode cX6_goDay 57 = .ok (.invokevirtual 191, 3) := by decide +kernel
theorem d6_goDay_60 : decode cX6_goDay 60 = .ok (.putfield 218, 3) := by decide +kernel
theorem d6_goDay_63 : decode cX6_goDay 63 = .ok (.iinc 3 1, 3) := by decide +kernel
theorem d6_goDay_66 : decode cX6_goDay 66 = .ok (.goto (-56), 3) := by decide +kernel
theorem d6_goDay_69 : decode cX6_goDay 69 = .ok (.bipush (-9), 2) := by decide +kernel
theorem d6_goDay_71 : decode cX6_goDay 71 = .ok (.ireturn, 1) := by decide +kernel
noncomputable def f6_goDay_L10 {α : Type} (c1 : Int32) (c2 : Int32) (K : Int32 → MS → Option α) (KX : Int32 → MS → Option α) : Nat → Int32 → MS → Option α
  | 0, _, _ => none
  | n + 1, v3, S => if c2 ≤ v3 then (KX v3 S) else (ck (c1 + v3) 240 fun k2 => nm (S.1 3 k2) fun x4_3 => f6_isTank x4_3 S fun r5 S4 => if r5 = 0 then (K v3 S4) else (f6_canPump (S4.1 0 32) x4_3 S4 fun r7 S6 => if r7 = 0 then (K v3 S6) else (f6_pumped (S6.1 0 32) x4_3 S6 fun r9 S8 => nm (sI S8 0 32 r9) fun S10 => nm (v3 + 1) fun x3_11 => f6_goDay_L10 c1 c2 K KX n x3_11 S10)))
noncomputable def f6_goDay {α : Type} (p1 : Int32) (p2 : Int32) (S : MS) (K : Int32 → MS → Option α) : Option α := nm (sI S 0 32 (S.1 0 14)) fun S1 => f6_goDay_L10 p1 p2 K (fun v3_13 S12 => K (-9) S12) FU 0 S1
set_option maxHeartbeats 4000000 in
set_option maxRecDepth 100000 in
theorem l6_goDay_10 {α : Type} {X : GX α} (O : OK 22 X RX6 cX6_goDay 5 (some .int) (rmG 4 92)) {K : Int32 → MS → Option α} (hQ : RtI 22 eM X K) {c1 : Int32} {c2 : Int32} {KX : Int32 → MS → Option α} (hX : ∀ v3 S, GM 22 eM X (KX v3 S) S 69 [(0, .ref (aX X 0)), (1, .int c1), (2, .int c2), (3, .int v3)] []) : ∀ n v3 S, GM 22 eM X (f6_goDay_L10 c1 c2 K KX n v3 S) S 10 [(0, .ref (aX X 0)), (1, .int c1), (2, .int c2), (3, .int v3)] [] := by
  intro n
  induction n with
  | zero => intro v3 S; exact r_none
  | succ n ih =>
    intro v3 S
    rw [f6_goDay_L10]
    refine r_iload_n O d6_goDay_10 3 rfl ?_
    refine r_iload_n O d6_goDay_11 2 rfl ?_
    refine r_icmp_ge O 69 d6_goDay_12 (by decide) ?_ ?_
    · refine r_sub [0, 1, 2, 3] rfl ?_
      exact hX _ _
    · refine r_aload_n O d6_goDay_15 0 rfl ?_
      refine g_X6_16 O d6_goDay_16 ?_
      refine r_iload_n O d6_goDay_19 1 rfl ?_
      refine r_iload_n O d6_goDay_20 3 rfl ?_
      refine r_iadd O d6_goDay_21 ?_
      refine r_iald O (j := 3) (by decide) eM_3 d6_goDay_22 (fun k2 hk2 => ?_)
      refine r_istore_nm O d6_goDay_23 (fun x4_3 => [(4, .int x4_3), (0, .ref (aX X 0)), (1, .int c1), (2, .int c2), (3, .int v3)]) (by decide) (fun _ => rfl) (fun x4_3 => ?_)
      refine r_aload_n O d6_goDay_25 1 rfl ?_
      refine r_iload O d6_goDay_26 0 rfl ?_
      refine r_callVi O (b := 0) (bv := fun ad => [.int x4_3]) (rest := []) (c6_isTank (lX X) x4_3 S) (fun _ => rfl) (by decide) eM_0 rfl rfl w_797 w_799 w_24 w_51 w_800 hy_X6_isTank ⟨rfl, rfl, Nat.le_of_ble_eq_true rfl, Nat.le_of_ble_eq_true rfl⟩ rfl rfl (Nat.le_of_ble_eq_true rfl) d6_goDay_28 (fun r5 S4 => ?_)
      refine r_if_eq O 47 d6_goDay_31 (by decide) ?_ ?_
      · refine r_iload_n O d6_goDay_47 4 rfl ?_
        exact r_iret O hQ d6_goDay_48
      · refine r_aload_n O d6_goDay_34 1 rfl ?_
        refine r_aload_n O d6_goDay_35 1 rfl ?_
        refine g_X6_218 O d6_goDay_36 ?_
        refine r_iload O d6_goDay_39 0 rfl ?_
        refine r_callVi O (b := 0) (bv := fun ad => [.int (S4.1 0 32), .int x4_3]) (rest := []) (c6_canPump (lX X) (S4.1 0 32) x4_3 S4) (fun _ => rfl) (by decide) eM_0 rfl rfl w_809 w_811 w_27 w_51 w_812 hy_X6_canPump ⟨rfl, rfl, Nat.le_of_ble_eq_true rfl, Nat.le_of_ble_eq_true rfl⟩ rfl rfl (Nat.le_of_ble_eq_true rfl) d6_goDay_41 (fun r7 S6 => ?_)
        refine r_if_ne O 49 d6_goDay_44 (by decide) ?_ ?_
        · refine r_aload_n O d6_goDay_49 1 rfl ?_
          refine r_aload_n O d6_goDay_50 1 rfl ?_
          refine r_aload_n O d6_goDay_51 1 rfl ?_
          refine g_X6_218 O d6_goDay_52 ?_
          refine r_iload O d6_goDay_55 0 rfl ?_
          refine r_callVi O (b := 0) (bv := fun ad => [.int (S6.1 0 32), .int x4_3]) (rest := [.ref (aX X 0)]) (c6_pumped (lX X) (S6.1 0 32) x4_3 S6) (fun _ => rfl) (by decide) eM_0 rfl rfl w_824 w_826 w_30 w_51 w_827 hy_X6_pumped ⟨rfl, rfl, Nat.le_of_ble_eq_true rfl, Nat.le_of_ble_eq_true rfl⟩ rfl rfl (Nat.le_of_ble_eq_true rfl) d6_goDay_57 (fun r9 S8 => ?_)
          refine p_X6_218 O d6_goDay_60 (fun S10 => ?_)
          refine r_iinc O d6_goDay_63 4 (c0 := 1) rfl (by decide) (fun x3_11 => [(3, .int x3_11), (4, .int x4_3), (0, .ref (aX X 0)), (1, .int c1), (2, .int c2)]) (by decide) (fun _ => rfl) (fun x3_11 => ?_)
          refine r_goto O 10 d6_goDay_66 (by decide) ?_
          refine r_sub [2, 3, 4, 0] rfl ?_
          exact ih _ _
        · refine r_iload_n O d6_goDay_47 4 rfl ?_
          exact r_iret O hQ d6_goDay_48
set_option maxHeartbeats 4000000 in
set_option maxRecDepth 100000 in
theorem c6_goDay (l : Launch) (p1 : Int32) (p2 : Int32) (S : MS) {α : Type} : CtI 22 eM l yX6_goDay cX6_goDay 5 (some .int) (rmG 4 92) S (fun ad => [.ref (ad 0), .int p1, .int p2]) (α := α) (f6_goDay p1 p2 S) := by
  refine CtI.of (by decide) (fun _ => Nat.le_of_ble_eq_true rfl) (fun X K _ O hQ => ?_)
  have O : OK 22 X RX6 cX6_goDay 5 (some .int) (rmG 4 92) := O
  show GM 22 eM X (f6_goDay p1 p2 S K) S 0 [(0, .ref (aX X 0)), (1, .int p1), (2, .int p2)] []
  unfold f6_goDay
  refine r_aload_n O d6_goDay_0 0 rfl ?_
  refine r_aload_n O d6_goDay_1 0 rfl ?_
  refine g_X6_141 O d6_goDay_2 ?_
  refine p_X6_218 O d6_goDay_5 (fun S1 => ?_)
  refine r_iconst O d6_goDay_8 (v := 0) (by decide) ?_
  refine r_istore_n O d6_goDay_9 [(3, .int 0), (0, .ref (aX X 0)), (1, .int p1), (2, .int p2)] (by decide) rfl ?_
  refine r_sub [1, 2, 3, 0] rfl ?_
  refine l6_goDay_10 O hQ (fun v3_13 S12 => ?_) _ _ _
  refine r_bipush O d6_goDay_69 (v := (-9)) (by decide) ?_
  exact r_iret O hQ d6_goDay_71
-- X6.countOf
theorem d6_countOf_0 : decode cX6_countOf 0 = .ok (.iconst 0, 1) := by decide +kernel
theorem d6_countOf_1 : decode cX6_countOf 1 = .ok (.istore_n 3, 1) := by decide +kernel
theorem d6_countOf_2 : decode cX6_countOf 2 = .ok (.iconst 0, 1) := by decide +kernel
theorem d6_countOf_3 : decode cX6_countOf 3 = .ok (.istore 4, 2) := by decide +kernel
theorem d6_countOf_5 : decode cX6_countOf 5 = .ok (.iload 4, 2) := by decide +kernel
theorem d6_countOf_7 : decode cX6_countOf 7 = .ok (.aload_n 0, 1) := by decide +kernel
theorem d6_countOf_8 : decode cX6_countOf 8 = .ok (.getfield 89, 3) := by decide +kernel
theorem d6_countOf_11 : decode cX6_countOf 11 = .ok (.if_icmp .ge 45, 3) := by decide +kernel
theorem d6_countOf_14 : decode cX6_countOf 14 = .ok (.aload_n 0, 1) := by decide +kernel
theorem d6_countOf_15 : decode cX6_countOf 15 = .ok (.iload_n 1, 1) := by decide +kernel
theorem d6_countOf_16 : decode cX6_countOf 16 = .ok (.iload 4, 2) := by decide +kernel
theorem d6_countOf_18 : decode cX6_countOf 18 = .ok (.invokevirtual 160, 3) := by decide +kernel
theorem d6_countOf_21 : decode cX6_countOf 21 = .ok (.istore 5, 2) := by decide +kernel
theorem d6_countOf_23 : decode cX6_countOf 23 = .ok (.iload_n 3, 1) := by decide +kernel
theorem d6_countOf_24 : decode cX6_countOf 24 = .ok (.iload_n 2, 1) := by decide +kernel
theorem d6_countOf_25 : decode cX6_countOf 25 = .ok (.ifCond .eq 9, 3) := by decide +kernel
theorem d6_countOf_28 : decode cX6_countOf 28 = .ok (.iload 5, 2) := by decide +kernel
theorem d6_countOf_30 : decode cX6_countOf 30 = .ok (.iconst 2, 1) := by decide +kernel
theorem d6_countOf_31 : decode cX6_countOf 31 = .ok (.if_icmp .eq 12, 3) := by decide +kernel
theorem d6_countOf_34 : decode cX6_countOf 34 = .ok (.iload_n 2, 1) := by decide +kernel
theorem d6_countOf_35 : decode cX6_countOf 35 = .ok (.ifCond .ne 12, 3) := by decide +kernel
theorem d6_countOf_38 : decode cX6_countOf 38 = .ok (.iload 5, 2) := by decide +kernel
theorem d6_countOf_40 : decode cX6_countOf 40 = .ok (.ifCond .eq 7, 3) := by decide +kernel
theorem d6_countOf_43 : decode cX6_countOf 43 = .ok (.iconst 1, 1) := by decide +kernel
theorem d6_countOf_44 : decode cX6_countOf 44 = .ok (.goto 4, 3) := by decide +kernel
theorem d6_countOf_47 : decode cX6_countOf 47 = .ok (.iconst 0, 1) := by decide +kernel
theorem d6_countOf_48 : decode cX6_countOf 48 = .ok (.iadd, 1) := by decide +kernel
theorem d6_countOf_49 : decode cX6_countOf 49 = .ok (.istore_n 3, 1) := by decide +kernel
theorem d6_countOf_50 : decode cX6_countOf 50 = .ok (.iinc 4 1, 3) := by decide +kernel
theorem d6_countOf_53 : decode cX6_countOf 53 = .ok (.goto (-48), 3) := by decide +kernel
theorem d6_countOf_56 : decode cX6_countOf 56 = .ok (.iload_n 3, 1) := by decide +kernel
theorem d6_countOf_57 : decode cX6_countOf 57 = .ok (.ireturn, 1) := by decide +kernel
noncomputable def f6_countOf_J34 {α : Type} (c1 : Int32) (c2 : Int32) (c3 : Int32) (c4 : Int32) (c5 : Int32) (s0 : Int32) (S : MS) (KB : Int32 → Int32 → MS → Option α) (KX : Int32 → Int32 → MS → Option α) : Option α := if c2 = 0 then (if c5 = 0 then (nm (s0 + 0) fun x3_5 => nm (c4 + 1) fun x4_6 => KB x3_5 x4_6 S) else (nm (s0 + 1) fun x3_7 => nm (c4 + 1) fun x4_8 => KB x3_7 x4_8 S)) else (nm (s0 + 0) fun x3_3 => nm (c4 + 1) fun x4_4 => KB x3_3 x4_4 S)
noncomputable def f6_countOf_L5 {α : Type} (c1 : Int32) (c2 : Int32) (KX : Int32 → Int32 → MS → Option α) : Nat → Int32 → Int32 → MS → Option α
  | 0, _, _, _ => none
  | n + 1, v3, v4, S => if (S.1 0 6) ≤ v4 then (KX v3 v4 S) else (f6_waterIn c1 v4 S fun r2 S1 => if c2 = 0 then (f6_countOf_J34 c1 c2 v3 v4 r2 v3 S1 (f6_countOf_L5 c1 c2 KX n) KX) else (if r2 = 2 then (nm (v3 + 1) fun x3_9 => nm (v4 + 1) fun x4_10 => f6_countOf_L5 c1 c2 KX n x3_9 x4_10 S1) else (f6_countOf_J34 c1 c2 v3 v4 r2 v3 S1 (f6_countOf_L5 c1 c2 KX n) KX)))
noncomputable def f6_countOf {α : Type} (p1 : Int32) (p2 : Int32) (S : MS) (K : Int32 → MS → Option α) : Option α := f6_countOf_L5 p1 p2 (fun v3_12 v4_13 S11 => K v3_12 S11) FU 0 0 S
set_option maxHeartbeats 4000000 in
set_option maxRecDepth 100000 in
theorem j6_countOf_34 {α : Type} {X : GX α} (O : OK 22 X RX6 cX6_countOf 6 (some .int) (rmG 1 22)) {c1 : Int32} {c2 : Int32} {c3 : Int32} {c4 : Int32} {c5 : Int32} {s0 : Int32} {S : MS} {KB : Int32 → Int32 → MS → Option α} {KX : Int32 → Int32 → MS → Option α} (hB : ∀ v3q v4q S, GM 22 eM X (KB v3q v4q S) S 5 [(0, .ref (aX X 0)), (1, .int c1), (2, .int c2), (3, .int v3q), (4, .int v4q)] []) (hX : ∀ v3q v4q S, GM 22 eM X (KX v3q v4q S) S 56 [(0, .ref (aX X 0)), (1, .int c1), (2, .int c2), (3, .int v3q), (4, .int v4q)] []) : GM 22 eM X (f6_countOf_J34 c1 c2 c3 c4 c5 s0 S KB KX) S 34 [(0, .ref (aX X 0)), (1, .int c1), (2, .int c2), (3, .int c3), (4, .int c4), (5, .int c5)] [.int s0] := by
  unfold f6_countOf_J34
  refine r_iload_n O d6_countOf_34 2 rfl ?_
  refine r_if_ne O 47 d6_countOf_35 (by decide) ?_ ?_
  · refine r_iconst O d6_countOf_47 (v := 0) (by decide) ?_
    refine r_iadd O d6_countOf_48 ?_
    refine r_istore_n_nm O d6_countOf_49 (fun x3_3 => [(3, .int x3_3), (0, .ref (aX X 0)), (1, .int c1), (2, .int c2), (4, .int c4), (5, .int c5)]) (by decide) (fun _ => rfl) (fun x3_3 => ?_)
    refine r_iinc O d6_countOf_50 4 (c0 := 1) rfl (by decide) (fun x4_4 => [(4, .int x4_4), (3, .int x3_3), (0, .ref (aX X 0)), (1, .int c1), (2, .int c2), (5, .int c5)]) (by decide) (fun _ => rfl) (fun x4_4 => ?_)
    refine r_goto O 5 d6_countOf_53 (by decide) ?_
    refine r_sub [2, 3, 4, 1, 0] rfl ?_
    exact hB _ _ _
  · refine r_iload O d6_countOf_38 5 rfl ?_
    refine r_if_eq O 47 d6_countOf_40 (by decide) ?_ ?_
    · refine r_iconst O d6_countOf_47 (v := 0) (by decide) ?_
      refine r_iadd O d6_countOf_48 ?_
      refine r_istore_n_nm O d6_countOf_49 (fun x3_5 => [(3, .int x3_5), (0, .ref (aX X 0)), (1, .int c1), (2, .int c2), (4, .int c4), (5, .int c5)]) (by decide) (fun _ => rfl) (fun x3_5 => ?_)
      refine r_iinc O d6_countOf_50 4 (c0 := 1) rfl (by decide) (fun x4_6 => [(4, .int x4_6), (3, .int x3_5), (0, .ref (aX X 0)), (1, .int c1), (2, .int c2), (5, .int c5)]) (by decide) (fun _ => rfl) (fun x4_6 => ?_)
      refine r_goto O 5 d6_countOf_53 (by decide) ?_
      refine r_sub [2, 3, 4, 1, 0] rfl ?_
      exact hB _ _ _
    · refine r_iconst O d6_countOf_43 (v := 1) (by decide) ?_
      refine r_goto O 48 d6_countOf_44 (by decide) ?_
      refine r_iadd O d6_countOf_48 ?_
      refine r_istore_n_nm O d6_countOf_49 (fun x3_7 => [(3, .int x3_7), (0, .ref (aX X 0)), (1, .int c1), (2, .int c2), (4, .int c4), (5, .int c5)]) (by decide) (fun _ => rfl) (fun x3_7 => ?_)
      refine r_iinc O d6_countOf_50 4 (c0 := 1) rfl (by decide) (fun x4_8 => [(4, .int x4_8), (3, .int x3_7), (0, .ref (aX X 0)), (1, .int c1), (2, .int c2), (5, .int c5)]) (by decide) (fun _ => rfl) (fun x4_8 => ?_)
      refine r_goto O 5 d6_countOf_53 (by decide) ?_
      refine r_sub [2, 3, 4, 1, 0] rfl ?_
      exact hB _ _ _
set_option maxHeartbeats 4000000 in
set_option maxRecDepth 100000 in
theorem l6_countOf_5 {α : Type} {X : GX α} (O : OK 22 X RX6 cX6_countOf 6 (some .int) (rmG 1 22)) {c1 : Int32} {c2 : Int32} {KX : Int32 → Int32 → MS → Option α} (hX : ∀ v3 v4 S, GM 22 eM X (KX v3 v4 S) S 56 [(0, .ref (aX X 0)), (1, .int c1), (2, .int c2), (3, .int v3), (4, .int v4)] []) : ∀ n v3 v4 S, GM 22 eM X (f6_countOf_L5 c1 c2 KX n v3 v4 S) S 5 [(0, .ref (aX X 0)), (1, .int c1), (2, .int c2), (3, .int v3), (4, .int v4)] [] := by
  intro n
  induction n with
  | zero => intro v3 v4 S; exact r_none
  | succ n ih =>
    intro v3 v4 S
    rw [f6_countOf_L5]
    refine r_iload O d6_countOf_5 4 rfl ?_
    refine r_aload_n O d6_countOf_7 0 rfl ?_
    refine g_X6_89 O d6_countOf_8 ?_
    refine r_icmp_ge O 56 d6_countOf_11 (by decide) ?_ ?_
    · refine r_sub [0, 1, 2, 3, 4] rfl ?_
      exact hX _ _ _
    · refine r_aload_n O d6_countOf_14 0 rfl ?_
      refine r_iload_n O d6_countOf_15 1 rfl ?_
      refine r_iload O d6_countOf_16 4 rfl ?_
      refine r_callVi O (b := 0) (bv := fun ad => [.int c1, .int v4]) (rest := []) (c6_waterIn (lX X) c1 v4 S) (fun _ => rfl) (by decide) eM_0 rfl rfl w_805 w_807 w_26 w_51 w_808 hy_X6_waterIn ⟨rfl, rfl, Nat.le_of_ble_eq_true rfl, Nat.le_of_ble_eq_true rfl⟩ rfl rfl (Nat.le_of_ble_eq_true rfl) d6_countOf_18 (fun r2 S1 => ?_)
      refine r_istore O d6_countOf_21 [(5, .int r2), (0, .ref (aX X 0)), (1, .int c1), (2, .int c2), (3, .int v3), (4, .int v4)] (by decide) rfl ?_
      refine r_iload_n O d6_countOf_23 4 rfl ?_
      refine r_iload_n O d6_countOf_24 3 rfl ?_
      refine r_if_eq O 34 d6_countOf_25 (by decide) ?_ ?_
      · refine r_sub [1, 2, 3, 4, 5, 0] rfl ?_
        exact j6_countOf_34 O (fun _ _ _ => ih _ _ _) hX
      · refine r_iload O d6_countOf_28 0 rfl ?_
        refine r_iconst O d6_countOf_30 (v := 2) (by decide) ?_
        refine r_icmp_eq O 43 d6_countOf_31 (by decide) ?_ ?_
        · refine r_iconst O d6_countOf_43 (v := 1) (by decide) ?_
          refine r_goto O 48 d6_countOf_44 (by decide) ?_
          refine r_iadd O d6_countOf_48 ?_
          refine r_istore_n_nm O d6_countOf_49 (fun x3_9 => [(3, .int x3_9), (5, .int r2), (0, .ref (aX X 0)), (1, .int c1), (2, .int c2), (4, .int v4)]) (by decide) (fun _ => rfl) (fun x3_9 => ?_)
          refine r_iinc O d6_countOf_50 5 (c0 := 1) rfl (by decide) (fun x4_10 => [(4, .int x4_10), (3, .int x3_9), (5, .int r2), (0, .ref (aX X 0)), (1, .int c1), (2, .int c2)]) (by decide) (fun _ => rfl) (fun x4_10 => ?_)
          refine r_goto O 5 d6_countOf_53 (by decide) ?_
          refine r_sub [3, 4, 5, 1, 0] rfl ?_
          exact ih _ _ _
        · refine r_sub [1, 2, 3, 4, 5, 0] rfl ?_
          exact j6_countOf_34 O (fun _ _ _ => ih _ _ _) hX
set_option maxHeartbeats 4000000 in
set_option maxRecDepth 100000 in
theorem c6_countOf (l : Launch) (p1 : Int32) (p2 : Int32) (S : MS) {α : Type} : CtI 22 eM l yX6_countOf cX6_countOf 6 (some .int) (rmG 1 22) S (fun ad => [.ref (ad 0), .int p1, .int p2]) (α := α) (f6_countOf p1 p2 S) := by
  refine CtI.of (by decide) (fun _ => Nat.le_of_ble_eq_true rfl) (fun X K _ O hQ => ?_)
  have O : OK 22 X RX6 cX6_countOf 6 (some .int) (rmG 1 22) := O
  show GM 22 eM X (f6_countOf p1 p2 S K) S 0 [(0, .ref (aX X 0)), (1, .int p1), (2, .int p2)] []
  unfold f6_countOf
  refine r_iconst O d6_countOf_0 (v := 0) (by decide) ?_
  refine r_istore_n O d6_countOf_1 [(3, .int 0), (0, .ref (aX X 0)), (1, .int p1), (2, .int p2)] (by decide) rfl ?_
  refine r_iconst O d6_countOf_2 (v := 0) (by decide) ?_
  refine r_istore O d6_countOf_3 [(4, .int 0), (3, .int 0), (0, .ref (aX X 0)), (1, .int p1), (2, .int p2)] (by decide) rfl ?_
  refine r_sub [2, 3, 4, 1, 0] rfl ?_
  refine l6_countOf_5 O (fun v3_12 v4_13 S11 => ?_) _ _ _ _
  refine r_iload_n O d6_countOf_56 3 rfl ?_
  exact r_iret O hQ d6_countOf_57
-- X6.tellDay
theorem d6_tellDay_0 : decode cX6_tellDay 0 = .ok (.iload_n 1, 1) := by decide +kernel
theorem d6_tellDay_1 : decode cX6_tellDay 1 = .ok (.tableswitch 82 0 4 #[35, 45, 48, 58, 72], 35) := by decide +kernel
theorem d6_tellDay_36 : decode cX6_tellDay 36 = .ok (.aload_n 0, 1) := by decide +kernel
theorem d6_tellDay_37 : decode cX6_tellDay 37 = .ok (.aload_n 0, 1) := by decide +kernel
theorem d6_tellDay_38 : decode cX6_tellDay 38 = .ok (.getfield 218, 3) := by decide +kernel
theorem d6_tellDay_41 : decode cX6_tellDay 41 = .ok (.iconst 1, 1) := by decide +kernel
theorem d6_tellDay_42 : decode cX6_tellDay 42 = .ok (.invokevirtual 221, 3) := by decide +kernel
theorem d6_tellDay_45 : decode cX6_tellDay 45 = .ok (.ireturn, 1) := by decide +kernel
theorem d6_tellDay_46 : decode cX6_tellDay 46 = .ok (.bipush (-9), 2) := by decide +kernel
theorem d6_tellDay_48 : decode cX6_tellDay 48 = .ok (.ireturn, 1) := by decide +kernel
theorem d6_tellDay_49 : decode cX6_tellDay 49 = .ok (.aload_n 0, 1) := by decide +kernel
theorem d6_tellDay_50 : decode cX6_tellDay 50 = .ok (.aload_n 0, 1) := by decide +kernel
theorem d6_tellDay_51 : decode cX6_tellDay 51 = .ok (.getfield 218, 3) := by decide +kernel
theorem d6_tellDay_54 : decode cX6_tellDay 54 = .ok (.iconst 0, 1) := by decide +kernel
theorem d6_tellDay_55 : decode cX6_tellDay 55 = .ok (.invokevirtual 221, 3) := by decide +kernel
theorem d6_tellDay_58 : decode cX6_tellDay 58 = .ok (.ireturn, 1) := by decide +kernel
theorem d6_tellDay_59 : decode cX6_tellDay 59 = .ok (.aload_n 0, 1) := by decide +kernel
theorem d6_tellDay_60 : decode cX6_tellDay 60 = .ok (.aload_n 0, 1) := by decide +kernel
theorem d6_tellDay_61 : decode cX6_tellDay 61 = .ok (.getfield 218, 3) := by decide +kernel
theorem d6_tellDay_64 : decode cX6_tellDay 64 = .ok (.iconst 0, 1) := by decide +kernel
theorem d6_tellDay_65 : decode cX6_tellDay 65 = .ok (.invokevirtual 194, 3) := by decide +kernel
theorem d6_tellDay_68 : decode cX6_tellDay 68 = .ok (.sipush 1000, 3) := by decide +kernel
theorem d6_tellDay_71 : decode cX6_tellDay 71 = .ok (.iadd, 1) := by decide +kernel
theorem d6_tellDay_72 : decode cX6_tellDay 72 = .ok (.ireturn, 1) := by decide +kernel
theorem d6_tellDay_73 : decode cX6_tellDay 73 = .ok (.aload_n 0, 1) := by decide +kernel
theorem d6_tellDay_74 : decode cX6_tellDay 74 = .ok (.aload_n 0, 1) := by decide +kernel
theorem d6_tellDay_75 : decode cX6_tellDay 75 = .ok (.getfield 218, 3) := by decide +kernel
theorem d6_tellDay_78 : decode cX6_tellDay 78 = .ok (.iconst 2, 1) := by decide +kernel
theorem d6_tellDay_79 : decode cX6_tellDay 79 = .ok (.invokevirtual 194, 3) := by decide +kernel
theorem d6_tellDay_82 : decode cX6_tellDay 82 = .ok (.ireturn, 1) := by decide +kernel
theorem d6_tellDay_83 : decode cX6_tellDay 83 = .ok (.aload_n 0, 1) := by decide +kernel
theorem d6_tellDay_84 : decode cX6_tellDay 84 = .ok (.iload_n 1, 1) := by decide +kernel
theorem d6_tellDay_85 : decode cX6_tellDay 85 = .ok (.bipush 10, 2) := by decide +kernel
theorem d6_tellDay_87 : decode cX6_tellDay 87 = .ok (.isub, 1) := by decide +kernel
theorem d6_tellDay_88 : decode cX6_tellDay 88 = .ok (.invokevirtual 154, 3) := by decide +kernel
theorem d6_tellDay_91 : decode cX6_tellDay 91 = .ok (.ifCond .eq 18, 3) := by decide +kernel
theorem d6_tellDay_94 : decode cX6_tellDay 94 = .ok (.aload_n 0, 1) := by decide +kernel
theorem d6_tellDay_95 : decode cX6_tellDay 95 = .ok (.aload_n 0, 1) := by decide +kernel
theorem d6_tellDay_96 : decode cX6_tellDay 96 = .ok (.getfield 218, 3) := by decide +kernel
theorem d6_tellDay_99 : decode cX6_tellDay 99 = .ok (.iload_n 1, 1) := by decide +kernel
theorem d6_tellDay_100 : decode cX6_tellDay 100 = .ok (.bipush 10, 2) := by decide +kernel
theorem d6_tellDay_102 : decode cX6_tellDay 102 = .ok (.isub, 1) := by decide +kernel
theorem d6_tellDay_103 : decode cX6_tellDay 103 = .ok (.invokevirtual 160, 3) := by decide +kernel
theorem d6_tellDay_106 : decode cX6_tellDay 106 = .ok (.goto 5, 3) := by decide +kernel
theorem d6_tellDay_109 : decode cX6_tellDay 109 = .ok (.bipush (-9), 2) := by decide +kernel
theorem d6_tellDay_111 : decode cX6_tellDay 111 = .ok (.ireturn, 1) := by decide +kernel
noncomputable def f6_tellDay {α : Type} (p1 : Int32) (S : MS) (K : Int32 → MS → Option α) : Option α := if p1 = 0 then (f6_countOf (S.1 0 32) 1 S fun r3 S2 => K r3 S2) else (if p1 = 1 then (K (-9) S) else (if p1 = 2 then (f6_countOf (S.1 0 32) 0 S fun r7 S6 => K r7 S6) else (if p1 = 3 then (f6_measured (S.1 0 32) 0 S fun r10 S9 => K (r10 + 1000) S9) else (if p1 = 4 then (f6_measured (S.1 0 32) 2 S fun r13 S12 => K r13 S12) else (f6_isTank (p1 - 10) S fun r15 S14 => if r15 = 0 then (K (-9) S14) else (f6_waterIn (S14.1 0 32) (p1 - 10) S14 fun r17 S16 => K r17 S16))))))
set_option maxHeartbeats 4000000 in
set_option maxRecDepth 100000 in
theorem c6_tellDay (l : Launch) (p1 : Int32) (S : MS) {α : Type} : CtI 22 eM l yX6_tellDay cX6_tellDay 2 (some .int) (rmG 3 70) S (fun ad => [.ref (ad 0), .int p1]) (α := α) (f6_tellDay p1 S) := by
  refine CtI.of (by decide) (fun _ => Nat.le_of_ble_eq_true rfl) (fun X K _ O hQ => ?_)
  have O : OK 22 X RX6 cX6_tellDay 2 (some .int) (rmG 3 70) := O
  show GM 22 eM X (f6_tellDay p1 S K) S 0 [(0, .ref (aX X 0)), (1, .int p1)] []
  unfold f6_tellDay
  refine r_iload_n O d6_tellDay_0 1 rfl ?_
  refine r_ite (fun hs1 => ?_) (fun hs1 => ?_)
  · refine r_tin O 36 d6_tellDay_1 (by rw [hs1]; decide) (by rw [hs1]; decide) (by rw [hs1]; rfl) (by decide) ?_
    refine r_aload_n O d6_tellDay_36 0 rfl ?_
    refine r_aload_n O d6_tellDay_37 0 rfl ?_
    refine g_X6_218 O d6_tellDay_38 ?_
    refine r_iconst O d6_tellDay_41 (v := 1) (by decide) ?_
    refine r_callVi O (b := 0) (bv := fun ad => [.int (S.1 0 32), .int 1]) (rest := []) (c6_countOf (lX X) (S.1 0 32) 1 S) (fun _ => rfl) (by decide) eM_0 rfl rfl w_911 w_913 w_39 w_51 w_914 hy_X6_countOf ⟨rfl, rfl, Nat.le_of_ble_eq_true rfl, Nat.le_of_ble_eq_true rfl⟩ rfl rfl (Nat.le_of_ble_eq_true rfl) d6_tellDay_42 (fun r3 S2 => ?_)
    exact r_iret O hQ d6_tellDay_45
  refine r_ite (fun hs4 => ?_) (fun hs4 => ?_)
  · refine r_tin O 46 d6_tellDay_1 (by rw [hs4]; decide) (by rw [hs4]; decide) (by rw [hs4]; rfl) (by decide) ?_
    refine r_bipush O d6_tellDay_46 (v := (-9)) (by decide) ?_
    exact r_iret O hQ d6_tellDay_48
  refine r_ite (fun hs5 => ?_) (fun hs5 => ?_)
  · refine r_tin O 49 d6_tellDay_1 (by rw [hs5]; decide) (by rw [hs5]; decide) (by rw [hs5]; rfl) (by decide) ?_
    refine r_aload_n O d6_tellDay_49 0 rfl ?_
    refine r_aload_n O d6_tellDay_50 0 rfl ?_
    refine g_X6_218 O d6_tellDay_51 ?_
    refine r_iconst O d6_tellDay_54 (v := 0) (by decide) ?_
    refine r_callVi O (b := 0) (bv := fun ad => [.int (S.1 0 32), .int 0]) (rest := []) (c6_countOf (lX X) (S.1 0 32) 0 S) (fun _ => rfl) (by decide) eM_0 rfl rfl w_911 w_913 w_39 w_51 w_914 hy_X6_countOf ⟨rfl, rfl, Nat.le_of_ble_eq_true rfl, Nat.le_of_ble_eq_true rfl⟩ rfl rfl (Nat.le_of_ble_eq_true rfl) d6_tellDay_55 (fun r7 S6 => ?_)
    exact r_iret O hQ d6_tellDay_58
  refine r_ite (fun hs8 => ?_) (fun hs8 => ?_)
  · refine r_tin O 59 d6_tellDay_1 (by rw [hs8]; decide) (by rw [hs8]; decide) (by rw [hs8]; rfl) (by decide) ?_
    refine r_aload_n O d6_tellDay_59 0 rfl ?_
    refine r_aload_n O d6_tellDay_60 0 rfl ?_
    refine g_X6_218 O d6_tellDay_61 ?_
    refine r_iconst O d6_tellDay_64 (v := 0) (by decide) ?_
    refine r_callVi O (b := 0) (bv := fun ad => [.int (S.1 0 32), .int 0]) (rest := []) (c6_measured (lX X) (S.1 0 32) 0 S) (fun _ => rfl) (by decide) eM_0 rfl rfl w_850 w_852 w_31 w_51 w_853 hy_X6_measured ⟨rfl, rfl, Nat.le_of_ble_eq_true rfl, Nat.le_of_ble_eq_true rfl⟩ rfl rfl (Nat.le_of_ble_eq_true rfl) d6_tellDay_65 (fun r10 S9 => ?_)
    refine r_sipush O d6_tellDay_68 (v := 1000) (by decide) ?_
    refine r_iadd O d6_tellDay_71 ?_
    exact r_iret O hQ d6_tellDay_72
  refine r_ite (fun hs11 => ?_) (fun hs11 => ?_)
  · refine r_tin O 73 d6_tellDay_1 (by rw [hs11]; decide) (by rw [hs11]; decide) (by rw [hs11]; rfl) (by decide) ?_
    refine r_aload_n O d6_tellDay_73 0 rfl ?_
    refine r_aload_n O d6_tellDay_74 0 rfl ?_
    refine g_X6_218 O d6_tellDay_75 ?_
    refine r_iconst O d6_tellDay_78 (v := 2) (by decide) ?_
    refine r_callVi O (b := 0) (bv := fun ad => [.int (S.1 0 32), .int 2]) (rest := []) (c6_measured (lX X) (S.1 0 32) 2 S) (fun _ => rfl) (by decide) eM_0 rfl rfl w_850 w_852 w_31 w_51 w_853 hy_X6_measured ⟨rfl, rfl, Nat.le_of_ble_eq_true rfl, Nat.le_of_ble_eq_true rfl⟩ rfl rfl (Nat.le_of_ble_eq_true rfl) d6_tellDay_79 (fun r13 S12 => ?_)
    exact r_iret O hQ d6_tellDay_82
  have nhs1 := i32_ne (n := 0) 0 (by decide) hs1
  have nhs4 := i32_ne (n := 1) 1 (by decide) hs4
  have nhs5 := i32_ne (n := 2) 2 (by decide) hs5
  have nhs8 := i32_ne (n := 3) 3 (by decide) hs8
  have nhs11 := i32_ne (n := 4) 4 (by decide) hs11
  refine r_tout O 83 d6_tellDay_1 (by omega) (by decide) ?_
  refine r_aload_n O d6_tellDay_83 0 rfl ?_
  refine r_iload_n O d6_tellDay_84 1 rfl ?_
  refine r_bipush O d6_tellDay_85 (v := 10) (by decide) ?_
  refine r_isub O d6_tellDay_87 ?_
  refine r_callVi O (b := 0) (bv := fun ad => [.int (p1 - 10)]) (rest := []) (c6_isTank (lX X) (p1 - 10) S) (fun _ => rfl) (by decide) eM_0 rfl rfl w_797 w_799 w_24 w_51 w_800 hy_X6_isTank ⟨rfl, rfl, Nat.le_of_ble_eq_true rfl, Nat.le_of_ble_eq_true rfl⟩ rfl rfl (Nat.le_of_ble_eq_true rfl) d6_tellDay_88 (fun r15 S14 => ?_)
  refine r_if_eq O 109 d6_tellDay_91 (by decide) ?_ ?_
  · refine r_bipush O d6_tellDay_109 (v := (-9)) (by decide) ?_
    exact r_iret O hQ d6_tellDay_111
  · refine r_aload_n O d6_tellDay_94 0 rfl ?_
    refine r_aload_n O d6_tellDay_95 0 rfl ?_
    refine g_X6_218 O d6_tellDay_96 ?_
    refine r_iload_n O d6_tellDay_99 1 rfl ?_
    refine r_bipush O d6_tellDay_100 (v := 10) (by decide) ?_
    refine r_isub O d6_tellDay_102 ?_
    refine r_callVi O (b := 0) (bv := fun ad => [.int (S14.1 0 32), .int (p1 - 10)]) (rest := []) (c6_waterIn (lX X) (S14.1 0 32) (p1 - 10) S14) (fun _ => rfl) (by decide) eM_0 rfl rfl w_805 w_807 w_26 w_51 w_808 hy_X6_waterIn ⟨rfl, rfl, Nat.le_of_ble_eq_true rfl, Nat.le_of_ble_eq_true rfl⟩ rfl rfl (Nat.le_of_ble_eq_true rfl) d6_tellDay_103 (fun r17 S16 => ?_)
    refine r_goto O 111 d6_tellDay_106 (by decide) ?_
    exact r_iret O hQ d6_tellDay_111
-- X6.day
theorem d6_day_0 : decode cX6_day 0 = .ok (.aload_n 0, 1) := by decide +kernel
theorem d6_day_1 : decode cX6_day 1 = .ok (.iconst 0, 1) := by decide +kernel
theorem d6_day_2 : decode cX6_day 2 = .ok (.putfield 75, 3) := by decide +kernel
theorem d6_day_5 : decode cX6_day 5 = .ok (.iload_n 1, 1) := by decide +kernel
theorem d6_day_6 : decode cX6_day 6 = .ok (.invokestatic 125, 3) := by decide +kernel
theorem d6_day_9 : decode cX6_day 9 = .ok (.ifCond .ne 5, 3) := by decide +kernel
theorem d6_day_12 : decode cX6_day 12 = .ok (.iconst (-1), 1) := by decide +kernel
theorem d6_day_13 : decode cX6_day 13 = .ok (.ireturn, 1) := by decide +kernel
theorem d6_day_14 : decode cX6_day 14 = .ok (.iload_n 2, 1) := by decide +kernel
theorem d6_day_15 : decode cX6_day 15 = .ok (.invokestatic 128, 3) := by decide +kernel
theorem d6_day_18 : decode cX6_day 18 = .ok (.ifCond .eq 44, 3) := by decide +kernel
theorem d6_day_21 : decode cX6_day 21 = .ok (.iload 4, 2) := by decide +kernel
theorem d6_day_23 : decode cX6_day 23 = .ok (.i2l, 1) := by decide +kernel
theorem d6_day_24 : decode cX6_day 24 = .ok (.lconst 0, 1) := by decide +kernel
theorem d6_day_25 : decode cX6_day 25 = .ok (.ldc2_w 225, 3) := by decide +kernel
theorem d6_day_28 : decode cX6_day 28 = .ok (.invokestatic 83, 3) := by decide +kernel
theorem d6_day_31 : decode cX6_day 31 = .ok (.ifCond .eq 31, 3) := by decide +kernel
theorem d6_day_34 : decode cX6_day 34 = .ok (.iload 5, 2) := by decide +kernel
theorem d6_day_36 : decode cX6_day 36 = .ok (.i2l, 1) := by decide +kernel
theorem d6_day_37 : decode cX6_day 37 = .ok (.lconst 0, 1) := by decide +kernel
theorem d6_day_38 : decode cX6_day 38 = .ok (.ldc2_w 227, 3) := by decide +kernel
theorem d6_day_41 : decode cX6_day 41 = .ok (.invokestatic 83, 3) := by decide +kernel
theorem d6_day_44 : decode cX6_day 44 = .ok (.ifCond .ne 21, 3) := by decide +kernel
theorem d6_day_47 : decode cX6_day 47 = .ok (.iload 5, 2) := by decide +kernel
theorem d6_day_49 : decode cX6_day 49 = .ok (.i2l, 1) := by decide +kernel
theorem d6_day_50 : decode cX6_day 50 = .ok (.ldc2_w 229, 3) := by decide +kernel
theorem d6_day_53 : decode cX6_day 53 = .ok (.ldc2_w 231, 3) := by decide +kernel
theorem d6_day_56 : decode cX6_day 56 = .ok (.invokestatic 83, 3) := by decide +kernel
theorem d6_day_59 : decode cX6_day 59 = .ok (.ifCond .ne 6, 3) := by decide +kernel
theorem d6_day_62 : decode cX6_day 62 = .ok (.bipush (-2), 2) := by decide +kernel
theorem d6_day_64 : decode cX6_day 64 = .ok (.ireturn, 1) := by decide +kernel
theorem d6_day_65 : decode cX6_day 65 = .ok (.aload_n 0, 1) := by decide +kernel
theorem d6_day_66 : decode cX6_day 66 = .ok (.iload_n 1, 1) := by decide +kernel
theorem d6_day_67 : decode cX6_day 67 = .ok (.iload_n 2, 1) := by decide +kernel
theorem d6_day_68 : decode cX6_day 68 = .ok (.iload_n 3, 1) := by decide +kernel
theorem d6_day_69 : decode cX6_day 69 = .ok (.iload 4, 2) := by decide +kernel
theorem d6_day_71 : decode cX6_day 71 = .ok (.invokevirtual 131, 3) := by decide +kernel
theorem d6_day_74 : decode cX6_day 74 = .ok (.istore 6, 2) := by decide +kernel
theorem d6_day_76 : decode cX6_day 76 = .ok (.iload 6, 2) := by decide +kernel
theorem d6_day_78 : decode cX6_day 78 = .ok (.ifCond .eq 10, 3) := by decide +kernel
theorem d6_day_81 : decode cX6_day 81 = .ok (.aload_n 0, 1) := by decide +kernel
theorem d6_day_82 : decode cX6_day 82 = .ok (.iload 6, 2) := by decide +kernel
theorem d6_day_84 : decode cX6_day 84 = .ok (.invokevirtual 135, 3) := by decide +kernel
theorem d6_day_87 : decode cX6_day 87 = .ok (.ireturn, 1) := by decide +kernel
theorem d6_day_88 : decode cX6_day 88 = .ok (.aload_n 0, 1) := by decide +kernel
theorem d6_day_89 : decode cX6_day 89 = .ok (.getfield 89, 3) := by decide +kernel
theorem d6_day_92 : decode cX6_day 92 = .ok (.ifCond .ne 6, 3) := by decide +kernel
theorem d6_day_95 : decode cX6_day 95 = .ok (.bipush (-3), 2) := by decide +kernel
theorem d6_day_97 : decode cX6_day 97 = .ok (.ireturn, 1) := by decide +kernel
theorem d6_day_98 : decode cX6_day 98 = .ok (.bipush 60, 2) := by decide +kernel
theorem d6_day_100 : decode cX6_day 100 = .ok (.iload_n 1, 1) := by decide +kernel
theorem d6_day_101 : decode cX6_day 101 = .ok (.imul, 1) := by decide +kernel
theorem d6_day_102 : decode cX6_day 102 = .ok (.iload_n 3, 1) := by decide +kernel
theorem d6_day_103 : decode cX6_day 103 = .ok (.iadd, 1) := by decide +kernel
theorem d6_day_104 : decode cX6_day 104 = .ok (.istore 7, 2) := by decide +kernel
theorem d6_day_106 : decode cX6_day 106 = .ok (.iconst 0, 1) := by decide +kernel
theorem d6_day_107 : decode cX6_day 107 = .ok (.istore 8, 2) := by decide +kernel
theorem d6_day_109 : decode cX6_day 109 = .ok (.iload 8, 2) := by decide +kernel
theorem d6_day_111 : decode cX6_day 111 = .ok (.iload 4, 2) := by decide +kernel
theorem d6_day_113 : decode cX6_day 113 = .ok (.if_icmp .ge 33, 3) := by decide +kernel
theorem d6_day_116 : decode cX6_day 116 = .ok (.aload_n 0, 1) := by decide +kernel
theorem d6_day_117 : decode cX6_day 117 = .ok (.getfield 16, 3) := by decide +kernel
theorem d6_day_120 : decode cX6_day 120 = .ok (.iload 7, 2) := by decide +kernel
theorem d6_day_122 : decode cX6_day 122 = .ok (.iload 8, 2) := by decide +kernel
theorem d6_day_124 : decode cX6_day 124 = .ok (.iadd, 1) := by decide +kernel
theorem d6_day_125 : decode cX6_day 125 = .ok (.iaload, 1) := by decide +kernel
theorem d6_day_126 : decode cX6_day 126 = .ok (.i2l, 1) := by decide +kernel
theorem d6_day_127 : decode cX6_day 127 = .ok (.lconst 0, 1) := by decide +kernel
theorem d6_day_128 : decode cX6_day 128 = .ok (.ldc2_w 233, 3) := by decide +kernel
theorem d6_day_131 : decode cX6_day 131 = .ok (.invokestatic 83, 3) := by decide +kernel
theorem d6_day_134 : decode cX6_day 134 = .ok (.ifCond .ne 6, 3) := by decide +kernel
theorem d6_day_137 : decode cX6_day 137 = .ok (.bipush (-2), 2) := by decide +kernel
theorem d6_day_139 : decode cX6_day 139 = .ok (.ireturn, 1) := by decide +kernel
theorem d6_day_140 : decode cX6_day 140 = .ok (.iinc 8 1, 3) := by decide +kernel
theorem d6_day_143 : decode cX6_day 143 = .ok (.goto (-34), 3) := by decide +kernel
theorem d6_day_146 : decode cX6_day 146 = .ok (.aload_n 0, 1) := by decide +kernel
theorem d6_day_147 : decode cX6_day 147 = .ok (.iload 7, 2) := by decide +kernel
theorem d6_day_149 : decode cX6_day 149 = .ok (.iload 4, 2) := by decide +kernel
theorem d6_day_151 : decode cX6_day 151 = .ok (.invokevirtual 235, 3) := by decide +kernel
theorem d6_day_154 : decode cX6_day 154 = .ok (.istore 8, 2) := by decide +kernel
theorem d6_day_156 : decode cX6_day 156 = .ok (.iload 5, 2) := by decide +kernel
theorem d6_day_158 : decode cX6_day 158 = .ok (.iconst 1, 1) := by decide +kernel
theorem d6_day_159 : decode cX6_day 159 = .ok (.if_icmp .ne 6, 3) := by decide +kernel
theorem d6_day_162 : decode cX6_day 162 = .ok (.iload 8, 2) := by decide +kernel
theorem d6_day_164 : decode cX6_day 164 = .ok (.ireturn, 1) := by decide +kernel
theorem d6_day_165 : decode cX6_day 165 = .ok (.iload 8, 2) := by decide +kernel
theorem d6_day_167 : decode cX6_day 167 = .ok (.bipush (-9), 2) := by decide +kernel
theorem d6_day_169 : decode cX6_day 169 = .ok (.if_icmp .ne 12, 3) := by decide +kernel
theorem d6_day_172 : decode cX6_day 172 = .ok (.aload_n 0, 1) := by decide +kernel
theorem d6_day_173 : decode cX6_day 173 = .ok (.iload 5, 2) := by decide +kernel
theorem d6_day_175 : decode cX6_day 175 = .ok (.invokevirtual 238, 3) := by decide +kernel
theorem d6_day_178 : decode cX6_day 178 = .ok (.goto 8, 3) := by decide +kernel
theorem d6_day_181 : decode cX6_day 181 = .ok (.bipush (-100), 2) := by decide +kernel
theorem d6_day_183 : decode cX6_day 183 = .ok (.iload 8, 2) := by decide +kernel
theorem d6_day_185 : decode cX6_day 185 = .ok (.isub, 1) := by decide +kernel
theorem d6_day_186 : decode cX6_day 186 = .ok (.ireturn, 1) := by decide +kernel
noncomputable def f6_day_L109 {α : Type} (c4 : Int32) (c5 : Int32) (c7 : Int32) (K : Int32 → MS → Option α) (KX : Int32 → MS → Option α) : Nat → Int32 → MS → Option α
  | 0, _, _ => none
  | n + 1, v8, S => if c4 ≤ v8 then (KX v8 S) else (ck (c7 + v8) 240 fun k13 => f6_within (Int32.toInt64 (S.1 3 k13)) 0 5 S fun r15 S14 => if r15 = 0 then (K (-2) S14) else (nm (v8 + 1) fun x8_16 => f6_day_L109 c4 c5 c7 K KX n x8_16 S14))
noncomputable def f6_day_J65 {α : Type} (c1 : Int32) (c2 : Int32) (c3 : Int32) (c4 : Int32) (c5 : Int32) (S : MS) (K : Int32 → MS → Option α) : Option α := f6_against c1 c2 c3 c4 S fun r11 S10 => if r11 = 0 then (if (S10.1 0 6) = 0 then (K (-3) S10) else (nm (((60 : Int32) * c1) + c3) fun x7_12 => f6_day_L109 c4 c5 x7_12 K (fun v8_18 S17 => f6_goDay x7_12 c4 S17 fun r20 S19 => if c5 = 1 then (K r20 S19) else (if r20 = (-9) then (f6_tellDay c5 S19 fun r22 S21 => K r22 S21) else (K ((-100) - r20) S19))) FU 0 S10)) else (f6_fails r11 S10 fun r24 S23 => K r24 S23)
noncomputable def f6_day {α : Type} (p1 : Int32) (p2 : Int32) (p3 : Int32) (p4 : Int32) (p5 : Int32) (S : MS) (K : Int32 → MS → Option α) : Option α := nm (sI S 0 0 0) fun S1 => f6_isSheet p1 S1 fun r3 S2 => if r3 = 0 then (K (-1) S2) else (f6_isSort p2 S2 fun r5 S4 => if r5 = 0 then (K (-2) S4) else (f6_within (Int32.toInt64 p4) 0 30 S4 fun r7 S6 => if r7 = 0 then (K (-2) S6) else (f6_within (Int32.toInt64 p5) 0 4 S6 fun r9 S8 => if r9 = 0 then (f6_within (Int32.toInt64 p5) 10 15 S8 fun r26 S25 => if r26 = 0 then (K (-2) S25) else (f6_day_J65 p1 p2 p3 p4 p5 S25 K)) else (f6_day_J65 p1 p2 p3 p4 p5 S8 K))))
set_option maxHeartbeats 4000000 in
set_option maxRecDepth 100000 in
theorem l6_day_109 {α : Type} {X : GX α} (O : OK 22 X RX6 cX6_day 9 (some .int) (rmG 5 116)) {K : Int32 → MS → Option α} (hQ : RtI 22 eM X K) {c4 : Int32} {c5 : Int32} {c7 : Int32} {KX : Int32 → MS → Option α} (hX : ∀ v8 S, GM 22 eM X (KX v8 S) S 146 [(0, .ref (aX X 0)), (4, .int c4), (5, .int c5), (7, .int c7), (8, .int v8)] []) : ∀ n v8 S, GM 22 eM X (f6_day_L109 c4 c5 c7 K KX n v8 S) S 109 [(0, .ref (aX X 0)), (4, .int c4), (5, .int c5), (7, .int c7), (8, .int v8)] [] := by
  intro n
  induction n with
  | zero => intro v8 S; exact r_none
  | succ n ih =>
    intro v8 S
    rw [f6_day_L109]
    refine r_iload O d6_day_109 4 rfl ?_
    refine r_iload O d6_day_111 1 rfl ?_
    refine r_icmp_ge O 146 d6_day_113 (by decide) ?_ ?_
    · refine r_sub [0, 1, 2, 3, 4] rfl ?_
      exact hX _ _
    · refine r_aload_n O d6_day_116 0 rfl ?_
      refine g_X6_16 O d6_day_117 ?_
      refine r_iload O d6_day_120 3 rfl ?_
      refine r_iload O d6_day_122 4 rfl ?_
      refine r_iadd O d6_day_124 ?_
      refine r_iald O (j := 3) (by decide) eM_3 d6_day_125 (fun k13 hk13 => ?_)
      refine r_i2l O d6_day_126 ?_
      refine r_lconst O d6_day_127 (v := 0) (by decide) ?_
      refine r_ldc2 O (v := 5) w_902 d6_day_128 ?_
      refine r_callSi O (rest := []) (c6_within (lX X) (Int32.toInt64 (S.1 3 k13)) 0 5 S) w_753 w_754 w_51 w_755 hy_X6_within ⟨rfl, rfl, Nat.le_of_ble_eq_true rfl, Nat.le_of_ble_eq_true rfl⟩ rfl rfl (Nat.le_of_ble_eq_true rfl) d6_day_131 (fun r15 S14 => ?_)
      refine r_if_ne O 140 d6_day_134 (by decide) ?_ ?_
      · refine r_iinc O d6_day_140 4 (c0 := 1) rfl (by decide) (fun x8_16 => [(8, .int x8_16), (0, .ref (aX X 0)), (4, .int c4), (5, .int c5), (7, .int c7)]) (by decide) (fun _ => rfl) (fun x8_16 => ?_)
        refine r_goto O 109 d6_day_143 (by decide) ?_
        refine r_sub [1, 2, 3, 4, 0] rfl ?_
        exact ih _ _
      · refine r_bipush O d6_day_137 (v := (-2)) (by decide) ?_
        exact r_iret O hQ d6_day_139
set_option maxHeartbeats 4000000 in
set_option maxRecDepth 100000 in
theorem j6_day_65 {α : Type} {X : GX α} (O : OK 22 X RX6 cX6_day 9 (some .int) (rmG 5 116)) {K : Int32 → MS → Option α} (hQ : RtI 22 eM X K) {c1 : Int32} {c2 : Int32} {c3 : Int32} {c4 : Int32} {c5 : Int32} {S : MS} : GM 22 eM X (f6_day_J65 c1 c2 c3 c4 c5 S K) S 65 [(0, .ref (aX X 0)), (1, .int c1), (2, .int c2), (3, .int c3), (4, .int c4), (5, .int c5)] [] := by
  unfold f6_day_J65
  refine r_aload_n O d6_day_65 0 rfl ?_
  refine r_iload_n O d6_day_66 1 rfl ?_
  refine r_iload_n O d6_day_67 2 rfl ?_
  refine r_iload_n O d6_day_68 3 rfl ?_
  refine r_iload O d6_day_69 4 rfl ?_
  refine r_callVi O (b := 0) (bv := fun ad => [.int c1, .int c2, .int c3, .int c4]) (rest := []) (c6_against (lX X) c1 c2 c3 c4 S) (fun _ => rfl) (by decide) eM_0 rfl rfl w_760 w_762 w_18 w_51 w_763 hy_X6_against ⟨rfl, rfl, Nat.le_of_ble_eq_true rfl, Nat.le_of_ble_eq_true rfl⟩ rfl rfl (Nat.le_of_ble_eq_true rfl) d6_day_71 (fun r11 S10 => ?_)
  refine r_istore O d6_day_74 [(6, .int r11), (0, .ref (aX X 0)), (1, .int c1), (2, .int c2), (3, .int c3), (4, .int c4), (5, .int c5)] (by decide) rfl ?_
  refine r_iload O d6_day_76 0 rfl ?_
  refine r_if_eq O 88 d6_day_78 (by decide) ?_ ?_
  · refine r_aload_n O d6_day_88 1 rfl ?_
    refine g_X6_89 O d6_day_89 ?_
    refine r_if_ne O 98 d6_day_92 (by decide) ?_ ?_
    · refine r_bipush O d6_day_98 (v := 60) (by decide) ?_
      refine r_iload_n O d6_day_100 2 rfl ?_
      refine r_imul O d6_day_101 ?_
      refine r_iload_n O d6_day_102 4 rfl ?_
      refine r_iadd O d6_day_103 ?_
      refine r_istore_nm O d6_day_104 (fun x7_12 => [(7, .int x7_12), (6, .int r11), (0, .ref (aX X 0)), (1, .int c1), (2, .int c2), (3, .int c3), (4, .int c4), (5, .int c5)]) (by decide) (fun _ => rfl) (fun x7_12 => ?_)
      refine r_iconst O d6_day_106 (v := 0) (by decide) ?_
      refine r_istore O d6_day_107 [(8, .int 0), (7, .int x7_12), (6, .int r11), (0, .ref (aX X 0)), (1, .int c1), (2, .int c2), (3, .int c3), (4, .int c4), (5, .int c5)] (by decide) rfl ?_
      refine r_sub [3, 7, 8, 1, 0] rfl ?_
      refine l6_day_109 O hQ (fun v8_18 S17 => ?_) _ _ _
      refine r_aload_n O d6_day_146 0 rfl ?_
      refine r_iload O d6_day_147 3 rfl ?_
      refine r_iload O d6_day_149 1 rfl ?_
      refine r_callVi O (b := 0) (bv := fun ad => [.int x7_12, .int c4]) (rest := []) (c6_goDay (lX X) x7_12 c4 S17) (fun _ => rfl) (by decide) eM_0 rfl rfl w_903 w_905 w_37 w_51 w_906 hy_X6_goDay ⟨rfl, rfl, Nat.le_of_ble_eq_true rfl, Nat.le_of_ble_eq_true rfl⟩ rfl rfl (Nat.le_of_ble_eq_true rfl) d6_day_151 (fun r20 S19 => ?_)
      refine r_istore O d6_day_154 [(8, .int r20), (0, .ref (aX X 0)), (4, .int c4), (5, .int c5), (7, .int x7_12)] (by decide) rfl ?_
      refine r_iload O d6_day_156 3 rfl ?_
      refine r_iconst O d6_day_158 (v := 1) (by decide) ?_
      refine r_icmp_ne O 165 d6_day_159 (by decide) ?_ ?_
      · refine r_iload O d6_day_165 0 rfl ?_
        refine r_bipush O d6_day_167 (v := (-9)) (by decide) ?_
        refine r_icmp_ne O 181 d6_day_169 (by decide) ?_ ?_
        · refine r_bipush O d6_day_181 (v := (-100)) (by decide) ?_
          refine r_iload O d6_day_183 0 rfl ?_
          refine r_isub O d6_day_185 ?_
          exact r_iret O hQ d6_day_186
        · refine r_aload_n O d6_day_172 1 rfl ?_
          refine r_iload O d6_day_173 3 rfl ?_
          refine r_callVi O (b := 0) (bv := fun ad => [.int c5]) (rest := []) (c6_tellDay (lX X) c5 S19) (fun _ => rfl) (by decide) eM_0 rfl rfl w_907 w_909 w_38 w_51 w_910 hy_X6_tellDay ⟨rfl, rfl, Nat.le_of_ble_eq_true rfl, Nat.le_of_ble_eq_true rfl⟩ rfl rfl (Nat.le_of_ble_eq_true rfl) d6_day_175 (fun r22 S21 => ?_)
          refine r_goto O 186 d6_day_178 (by decide) ?_
          exact r_iret O hQ d6_day_186
      · refine r_iload O d6_day_162 0 rfl ?_
        exact r_iret O hQ d6_day_164
    · refine r_bipush O d6_day_95 (v := (-3)) (by decide) ?_
      exact r_iret O hQ d6_day_97
  · refine r_aload_n O d6_day_81 1 rfl ?_
    refine r_iload O d6_day_82 0 rfl ?_
    refine r_callVi O (b := 0) (bv := fun ad => [.int r11]) (rest := []) (c6_fails (lX X) r11 S10) (fun _ => rfl) (by decide) eM_0 rfl rfl w_764 w_766 w_19 w_51 w_767 hy_X6_fails ⟨rfl, rfl, Nat.le_of_ble_eq_true rfl, Nat.le_of_ble_eq_true rfl⟩ rfl rfl (Nat.le_of_ble_eq_true rfl) d6_day_84 (fun r24 S23 => ?_)
    exact r_iret O hQ d6_day_87
set_option maxHeartbeats 4000000 in
set_option maxRecDepth 100000 in
theorem c6_day (l : Launch) (p1 : Int32) (p2 : Int32) (p3 : Int32) (p4 : Int32) (p5 : Int32) (S : MS) {α : Type} : CtI 22 eM l yX6_day cX6_day 9 (some .int) (rmG 5 116) S (fun ad => [.ref (ad 0), .int p1, .int p2, .int p3, .int p4, .int p5]) (α := α) (f6_day p1 p2 p3 p4 p5 S) := by
  refine CtI.of (by decide) (fun _ => Nat.le_of_ble_eq_true rfl) (fun X K _ O hQ => ?_)
  have O : OK 22 X RX6 cX6_day 9 (some .int) (rmG 5 116) := O
  show GM 22 eM X (f6_day p1 p2 p3 p4 p5 S K) S 0 [(0, .ref (aX X 0)), (1, .int p1), (2, .int p2), (3, .int p3), (4, .int p4), (5, .int p5)] []
  unfold f6_day
  refine r_aload_n O d6_day_0 0 rfl ?_
  refine r_iconst O d6_day_1 (v := 0) (by decide) ?_
  refine p_X6_75 O d6_day_2 (fun S1 => ?_)
  refine r_iload_n O d6_day_5 1 rfl ?_
  refine r_callSi O (rest := []) (c6_isSheet (lX X) p1 S1) w_749 w_750 w_51 w_751 hy_X6_isSheet ⟨rfl, rfl, Nat.le_of_ble_eq_true rfl, Nat.le_of_ble_eq_true rfl⟩ rfl rfl (Nat.le_of_ble_eq_true rfl) d6_day_6 (fun r3 S2 => ?_)
  refine r_if_ne O 14 d6_day_9 (by decide) ?_ ?_
  · refine r_iload_n O d6_day_14 2 rfl ?_
    refine r_callSi O (rest := []) (c6_isSort (lX X) p2 S2) w_756 w_757 w_51 w_758 hy_X6_isSort ⟨rfl, rfl, Nat.le_of_ble_eq_true rfl, Nat.le_of_ble_eq_true rfl⟩ rfl rfl (Nat.le_of_ble_eq_true rfl) d6_day_15 (fun r5 S4 => ?_)
    refine r_if_eq O 62 d6_day_18 (by decide) ?_ ?_
    · refine r_bipush O d6_day_62 (v := (-2)) (by decide) ?_
      exact r_iret O hQ d6_day_64
    · refine r_iload O d6_day_21 4 rfl ?_
      refine r_i2l O d6_day_23 ?_
      refine r_lconst O d6_day_24 (v := 0) (by decide) ?_
      refine r_ldc2 O (v := 30) w_898 d6_day_25 ?_
      refine r_callSi O (rest := []) (c6_within (lX X) (Int32.toInt64 p4) 0 30 S4) w_753 w_754 w_51 w_755 hy_X6_within ⟨rfl, rfl, Nat.le_of_ble_eq_true rfl, Nat.le_of_ble_eq_true rfl⟩ rfl rfl (Nat.le_of_ble_eq_true rfl) d6_day_28 (fun r7 S6 => ?_)
      refine r_if_eq O 62 d6_day_31 (by decide) ?_ ?_
      · refine r_bipush O d6_day_62 (v := (-2)) (by decide) ?_
        exact r_iret O hQ d6_day_64
      · refine r_iload O d6_day_34 5 rfl ?_
        refine r_i2l O d6_day_36 ?_
        refine r_lconst O d6_day_37 (v := 0) (by decide) ?_
        refine r_ldc2 O (v := 4) w_899 d6_day_38 ?_
        refine r_callSi O (rest := []) (c6_within (lX X) (Int32.toInt64 p5) 0 4 S6) w_753 w_754 w_51 w_755 hy_X6_within ⟨rfl, rfl, Nat.le_of_ble_eq_true rfl, Nat.le_of_ble_eq_true rfl⟩ rfl rfl (Nat.le_of_ble_eq_true rfl) d6_day_41 (fun r9 S8 => ?_)
        refine r_if_ne O 65 d6_day_44 (by decide) ?_ ?_
        · refine r_sub [0, 1, 2, 3, 4, 5] rfl ?_
          exact j6_day_65 O hQ
        · refine r_iload O d6_day_47 5 rfl ?_
          refine r_i2l O d6_day_49 ?_
          refine r_ldc2 O (v := 10) w_900 d6_day_50 ?_
          refine r_ldc2 O (v := 15) w_901 d6_day_53 ?_
          refine r_callSi O (rest := []) (c6_within (lX X) (Int32.toInt64 p5) 10 15 S8) w_753 w_754 w_51 w_755 hy_X6_within ⟨rfl, rfl, Nat.le_of_ble_eq_true rfl, Nat.le_of_ble_eq_true rfl⟩ rfl rfl (Nat.le_of_ble_eq_true rfl) d6_day_56 (fun r26 S25 => ?_)
          refine r_if_ne O 65 d6_day_59 (by decide) ?_ ?_
          · refine r_sub [0, 1, 2, 3, 4, 5] rfl ?_
            exact j6_day_65 O hQ
          · refine r_bipush O d6_day_62 (v := (-2)) (by decide) ?_
            exact r_iret O hQ d6_day_64
  · refine r_iconst O d6_day_12 (v := (-1)) (by decide) ?_
    exact r_iret O hQ d6_day_13
-- X6.seesMore
theorem d6_seesMore_0 : decode cX6_seesMore 0 = .ok (.iconst 0, 1) := by decide +kernel
theorem d6_seesMore_1 : decode cX6_seesMore 1 = .ok (.istore_n 1, 1) := by decide +kernel
theorem d6_seesMore_2 : decode cX6_seesMore 2 = .ok (.iconst 0, 1) := by decide +kernel
theorem d6_seesMore_3 : decode cX6_seesMore 3 = .ok (.istore_n 2, 1) := by decide +kernel
theorem d6_seesMore_4 : decode cX6_seesMore 4 = .ok (.iload_n 2, 1) := by decide +kernel
theorem d6_seesMore_5 : decode cX6_seesMore 5 = .ok (.aload_n 0, 1) := by decide +kernel
theorem d6_seesMore_6 : decode cX6_seesMore 6 = .ok (.getfield 19, 3) := by decide +kernel
theorem d6_seesMore_9 : decode cX6_seesMore 9 = .ok (.aload_n 0, 1) := by decide +kernel
theorem d6_seesMore_10 : decode cX6_seesMore 10 = .ok (.getfield 89, 3) := by decide +kernel
theorem d6_seesMore_13 : decode cX6_seesMore 13 = .ok (.iaload, 1) := by decide +kernel
theorem d6_seesMore_14 : decode cX6_seesMore 14 = .ok (.if_icmp .ge 100, 3) := by decide +kernel
theorem d6_seesMore_17 : decode cX6_seesMore 17 = .ok (.iconst 0, 1) := by decide +kernel
theorem d6_seesMore_18 : decode cX6_seesMore 18 = .ok (.istore_n 3, 1) := by decide +kernel
theorem d6_seesMore_19 : decode cX6_seesMore 19 = .ok (.iload_n 3, 1) := by decide +kernel
theorem d6_seesMore_20 : decode cX6_seesMore 20 = .ok (.aload_n 0, 1) := by decide +kernel
theorem d6_seesMore_21 : decode cX6_seesMore 21 = .ok (.getfield 89, 3) := by decide +kernel
theorem d6_seesMore_24 : decode cX6_seesMore 24 = .ok (.if_icmp .ge 84, 3) := by decide +kernel
theorem d6_seesMore_27 : decode cX6_seesMore 27 = .ok (.aload_n 0, 1) := by decide +kernel
theorem d6_seesMore_28 : decode cX6_seesMore 28 = .ok (.getfield 69, 3) := by decide +kernel
theorem d6_seesMore_31 : decode cX6_seesMore 31 = .ok (.iload_n 2, 1) := by decide +kernel
theorem d6_seesMore_32 : decode cX6_seesMore 32 = .ok (.baload, 1) := by decide +kernel
theorem d6_seesMore_33 : decode cX6_seesMore 33 = .ok (.ifCond .eq 75, 3) := by decide +kernel
theorem d6_seesMore_36 : decode cX6_seesMore 36 = .ok (.aload_n 0, 1) := by decide +kernel
theorem d6_seesMore_37 : decode cX6_seesMore 37 = .ok (.getfield 59, 3) := by decide +kernel
theorem d6_seesMore_40 : decode cX6_seesMore 40 = .ok (.iload_n 2, 1) := by decide +kernel
theorem d6_seesMore_41 : decode cX6_seesMore 41 = .ok (.iaload, 1) := by decide +kernel
theorem d6_seesMore_42 : decode cX6_seesMore 42 = .ok (.iload_n 3, 1) := by decide +kernel
theorem d6_seesMore_43 : decode cX6_seesMore 43 = .ok (.ishr, 1) := by decide +kernel
theorem d6_seesMore_44 : decode cX6_seesMore 44 = .ok (.iconst 1, 1) := by decide +kernel
theorem d6_seesMore_45 : decode cX6_seesMore 45 = .ok (.iand, 1) := by decide +kernel
theorem d6_seesMore_46 : decode cX6_seesMore 46 = .ok (.iconst 1, 1) := by decide +kernel
theorem d6_seesMore_47 : decode cX6_seesMore 47 = .ok (.if_icmp .ne 7, 3) := by decide +kernel
theorem d6_seesMore_50 : decode cX6_seesMore 50 = .ok (.iconst 1, 1) := by decide +kernel
theorem d6_seesMore_51 : decode cX6_seesMore 51 = .ok (.goto 4, 3) := by decide +kernel
theorem d6_seesMore_54 : decode cX6_seesMore 54 = .ok (.iconst 0, 1) := by decide +kernel
theorem d6_seesMore_55 : decode cX6_seesMore 55 = .ok (.istore 4, 2) := by decide +kernel
theorem d6_seesMore_57 : decode cX6_seesMore 57 = .ok (.iload 4, 2) := by decide +kernel
theorem d6_seesMore_59 : decode cX6_seesMore 59 = .ok (.ifCond .eq 12, 3) := by decide +kernel
theorem d6_seesMore_62 : decode cX6_seesMore 62 = .ok (.aload_n 0, 1) := by decide +kernel
theorem d6_seesMore_63 : decode cX6_seesMore 63 = .ok (.iload_n 2, 1) := by decide +kernel
theorem d6_seesMore_64 : decode cX6_seesMore 64 = .ok (.iload_n 3, 1) := by decide +kernel
theorem d6_seesMore_65 : decode cX6_seesMore 65 = .ok (.invokevirtual 191, 3) := by decide +kernel
theorem d6_seesMore_68 : decode cX6_seesMore 68 = .ok (.goto 4, 3) := by decide +kernel
theorem d6_seesMore_71 : decode cX6_seesMore 71 = .ok (.iload_n 2, 1) := by decide +kernel
theorem d6_seesMore_72 : decode cX6_seesMore 72 = .ok (.istore 5, 2) := by decide +kernel
theorem d6_seesMore_74 : decode cX6_seesMore 74 = .ok (.iload_n 1, 1) := by decide +kernel
theorem d6_seesMore_75 : decode cX6_seesMore 75 = .ok (.ifCond .ne 13, 3) := by decide +kernel
theorem d6_seesMore_78 : decode cX6_seesMore 78 = .ok (.aload_n 0, 1) := by decide +kernel
theorem d6_seesMore_79 : decode cX6_seesMore 79 = .ok (.getfield 69, 3) := by decide +kernel
theorem d6_seesMore_82 : decode cX6_seesMore 82 = .ok (.iload 5, 2) := by decide +kernel
theorem d6_seesMore_84 : decode cX6_seesMore 84 = .ok (.baload, 1) := by decide +kernel
theorem d6_seesMore_85 : decode cX6_seesMore 85 = .ok (.ifCond .ne 7, 3) := by decide +kernel
theorem d6_seesMore_88 : decode cX6_seesMore 88 = .ok (.iconst 1, 1) := by decide +kernel
theorem d6_seesMore_89 : decode cX6_seesMore 89 = .ok (.goto 4, 3) := by decide +kernel
theorem d6_seesMore_92 : decode cX6_seesMore 92 = .ok (.iconst 0, 1) := by decide +kernel
theorem d6_seesMore_93 : decode cX6_seesMore 93 = .ok (.istore_n 1, 1) := by decide +kernel
theorem d6_seesMore_94 : decode cX6_seesMore 94 = .ok (.aload_n 0, 1) := by decide +kernel
theorem d6_seesMore_95 : decode cX6_seesMore 95 = .ok (.getfield 69, 3) := by decide +kernel
theorem d6_seesMore_98 : decode cX6_seesMore 98 = .ok (.iload 5, 2) := by decide +kernel
theorem d6_seesMore_100 : decode cX6_seesMore 100 = .ok (.iconst 1, 1) := by decide +kernel
theorem d6_seesMore_101 : decode cX6_seesMore 101 = .ok (.bastore, 1) := by decide +kernel
theorem d6_seesMore_102 : decode cX6_seesMore 102 = .ok (.iinc 3 1, 3) := by decide +kernel
theorem d6_seesMore_105 : decode cX6_seesMore 105 = .ok (.goto (-86), 3) := by decide +kernel
theorem d6_seesMore_108 : decode cX6_seesMore 108 = .ok (.iinc 2 1, 3) := by decide +kernel
theorem d6_seesMore_111 : decode cX6_seesMore 111 = .ok (.goto (-107), 3) := by decide +kernel
theorem d6_seesMore_114 : decode cX6_seesMore 114 = .ok (.iload_n 1, 1) := by decide +kernel
theorem d6_seesMore_115 : decode cX6_seesMore 115 = .ok (.ireturn, 1) := by decide +kernel
noncomputable def f6_seesMore_J72 {α : Type} (c1 : Int32) (c2 : Int32) (c3 : Int32) (s0 : Int32) (S : MS) (KB : Int32 → Int32 → MS → Option α) (KX : Int32 → Int32 → MS → Option α) : Option α := if c1 = 0 then (ck s0 729 fun k7 => if (S.1 20 k7) = 0 then (ck s0 729 fun k11 => nm (sI S 20 k11 (vp_nar .boolean 1)) fun S12 => nm (c3 + 1) fun x3_13 => KB 1 x3_13 S12) else (ck s0 729 fun k8 => nm (sI S 20 k8 (vp_nar .boolean 1)) fun S9 => nm (c3 + 1) fun x3_10 => KB 0 x3_10 S9)) else (ck s0 729 fun k4 => nm (sI S 20 k4 (vp_nar .boolean 1)) fun S5 => nm (c3 + 1) fun x3_6 => KB 1 x3_6 S5)
noncomputable def f6_seesMore_J55 {α : Type} (c1 : Int32) (c2 : Int32) (c3 : Int32) (s0 : Int32) (S : MS) (KB : Int32 → Int32 → MS → Option α) (KX : Int32 → Int32 → MS → Option α) : Option α := if s0 = 0 then (f6_seesMore_J72 c1 c2 c3 c2 S KB KX) else (f6_pumped c2 c3 S fun r15 S14 => f6_seesMore_J72 c1 c2 c3 r15 S14 KB KX)
noncomputable def f6_seesMore_L19 {α : Type} (c2 : Int32) (KX : Int32 → Int32 → MS → Option α) : Nat → Int32 → Int32 → MS → Option α
  | 0, _, _, _ => none
  | n + 1, v1, v3, S => if (S.1 0 6) ≤ v3 then (KX v1 v3 S) else (ck c2 729 fun k2 => if (S.1 20 k2) = 0 then (KX v1 v3 S) else (ck c2 729 fun k3 => if (((S.1 17 k3) >>> (v3 &&& 31)) &&& 1) = 1 then (f6_seesMore_J55 v1 c2 v3 1 S (f6_seesMore_L19 c2 KX n) KX) else (f6_seesMore_J55 v1 c2 v3 0 S (f6_seesMore_L19 c2 KX n) KX)))
noncomputable def f6_seesMore_L4 {α : Type} (KX : Int32 → Int32 → MS → Option α) : Nat → Int32 → Int32 → MS → Option α
  | 0, _, _, _ => none
  | n + 1, v1, v2, S => ck (S.1 0 6) 7 fun k1 => if (S.1 4 k1) ≤ v2 then (KX v1 v2 S) else (f6_seesMore_L19 v2 (fun v1_17 v3_18 S16 => nm (v2 + 1) fun x2_19 => f6_seesMore_L4 KX n v1_17 x2_19 S16) FU v1 0 S)
noncomputable def f6_seesMore {α : Type} (S : MS) (K : Int32 → MS → Option α) : Option α := f6_seesMore_L4 (fun v1_21 v2_22 S20 => zb v1_21 (K v1_21 S20)) FU 0 0 S
set_option maxHeartbeats 4000000 in
set_option maxRecDepth 100000 in
theorem j6_seesMore_72 {α : Type} {X : GX α} (O : OK 22 X RX6 cX6_seesMore 6 (some .boolean) (rmG 2 45)) {c1 : Int32} {c2 : Int32} {c3 : Int32} {s0 : Int32} {S : MS} {KB : Int32 → Int32 → MS → Option α} {KX : Int32 → Int32 → MS → Option α} (hB : ∀ v1q v3q S, GM 22 eM X (KB v1q v3q S) S 19 [(0, .ref (aX X 0)), (1, .int v1q), (2, .int c2), (3, .int v3q)] []) (hX : ∀ v1q v3q S, GM 22 eM X (KX v1q v3q S) S 108 [(0, .ref (aX X 0)), (1, .int v1q), (2, .int c2), (3, .int v3q)] []) : GM 22 eM X (f6_seesMore_J72 c1 c2 c3 s0 S KB KX) S 72 [(0, .ref (aX X 0)), (1, .int c1), (2, .int c2), (3, .int c3)] [.int s0] := by
  unfold f6_seesMore_J72
  refine r_istore O d6_seesMore_72 [(5, .int s0), (0, .ref (aX X 0)), (1, .int c1), (2, .int c2), (3, .int c3)] (by decide) rfl ?_
  refine r_iload_n O d6_seesMore_74 2 rfl ?_
  refine r_if_ne O 88 d6_seesMore_75 (by decide) ?_ ?_
  · refine r_iconst O d6_seesMore_88 (v := 1) (by decide) ?_
    refine r_goto O 93 d6_seesMore_89 (by decide) ?_
    refine r_istore_n O d6_seesMore_93 [(1, .int 1), (5, .int s0), (0, .ref (aX X 0)), (2, .int c2), (3, .int c3)] (by decide) rfl ?_
    refine r_aload_n O d6_seesMore_94 2 rfl ?_
    refine g_X6_69 O d6_seesMore_95 ?_
    refine r_iload O d6_seesMore_98 1 rfl ?_
    refine r_iconst O d6_seesMore_100 (v := 1) (by decide) ?_
    refine r_zast O (j := 20) (by decide) (fun _ => eM_20) d6_seesMore_101 (fun S5 => ?_)
    refine r_iinc O d6_seesMore_102 4 (c0 := 1) rfl (by decide) (fun x3_6 => [(3, .int x3_6), (1, .int 1), (5, .int s0), (0, .ref (aX X 0)), (2, .int c2)]) (by decide) (fun _ => rfl) (fun x3_6 => ?_)
    refine r_goto O 19 d6_seesMore_105 (by decide) ?_
    refine r_sub [3, 1, 4, 0] rfl ?_
    exact hB _ _ _
  · refine r_aload_n O d6_seesMore_78 1 rfl ?_
    refine g_X6_69 O d6_seesMore_79 ?_
    refine r_iload O d6_seesMore_82 0 rfl ?_
    refine r_zald O (j := 20) (by decide) eM_20 d6_seesMore_84 (fun k7 hk7 => ?_)
    refine r_if_ne O 92 d6_seesMore_85 (by decide) ?_ ?_
    · refine r_iconst O d6_seesMore_92 (v := 0) (by decide) ?_
      refine r_istore_n O d6_seesMore_93 [(1, .int 0), (5, .int s0), (0, .ref (aX X 0)), (2, .int c2), (3, .int c3)] (by decide) rfl ?_
      refine r_aload_n O d6_seesMore_94 2 rfl ?_
      refine g_X6_69 O d6_seesMore_95 ?_
      refine r_iload O d6_seesMore_98 1 rfl ?_
      refine r_iconst O d6_seesMore_100 (v := 1) (by decide) ?_
      refine r_zast O (j := 20) (by decide) (fun _ => eM_20) d6_seesMore_101 (fun S9 => ?_)
      refine r_iinc O d6_seesMore_102 4 (c0 := 1) rfl (by decide) (fun x3_10 => [(3, .int x3_10), (1, .int 0), (5, .int s0), (0, .ref (aX X 0)), (2, .int c2)]) (by decide) (fun _ => rfl) (fun x3_10 => ?_)
      refine r_goto O 19 d6_seesMore_105 (by decide) ?_
      refine r_sub [3, 1, 4, 0] rfl ?_
      exact hB _ _ _
    · refine r_iconst O d6_seesMore_88 (v := 1) (by decide) ?_
      refine r_goto O 93 d6_seesMore_89 (by decide) ?_
      refine r_istore_n O d6_seesMore_93 [(1, .int 1), (5, .int s0), (0, .ref (aX X 0)), (2, .int c2), (3, .int c3)] (by decide) rfl ?_
      refine r_aload_n O d6_seesMore_94 2 rfl ?_
      refine g_X6_69 O d6_seesMore_95 ?_
      refine r_iload O d6_seesMore_98 1 rfl ?_
      refine r_iconst O d6_seesMore_100 (v := 1) (by decide) ?_
      refine r_zast O (j := 20) (by decide) (fun _ => eM_20) d6_seesMore_101 (fun S12 => ?_)
      refine r_iinc O d6_seesMore_102 4 (c0 := 1) rfl (by decide) (fun x3_13 => [(3, .int x3_13), (1, .int 1), (5, .int s0), (0, .ref (aX X 0)), (2, .int c2)]) (by decide) (fun _ => rfl) (fun x3_13 => ?_)
      refine r_goto O 19 d6_seesMore_105 (by decide) ?_
      refine r_sub [3, 1, 4, 0] rfl ?_
      exact hB _ _ _
set_option maxHeartbeats 4000000 in
set_option maxRecDepth 100000 in
theorem j6_seesMore_55 {α : Type} {X : GX α} (O : OK 22 X RX6 cX6_seesMore 6 (some .boolean) (rmG 2 45)) {c1 : Int32} {c2 : Int32} {c3 : Int32} {s0 : Int32} {S : MS} {KB : Int32 → Int32 → MS → Option α} {KX : Int32 → Int32 → MS → Option α} (hB : ∀ v1q v3q S, GM 22 eM X (KB v1q v3q S) S 19 [(0, .ref (aX X 0)), (1, .int v1q), (2, .int c2), (3, .int v3q)] []) (hX : ∀ v1q v3q S, GM 22 eM X (KX v1q v3q S) S 108 [(0, .ref (aX X 0)), (1, .int v1q), (2, .int c2), (3, .int v3q)] []) : GM 22 eM X (f6_seesMore_J55 c1 c2 c3 s0 S KB KX) S 55 [(0, .ref (aX X 0)), (1, .int c1), (2, .int c2), (3, .int c3)] [.int s0] := by
  unfold f6_seesMore_J55
  refine r_istore O d6_seesMore_55 [(4, .int s0), (0, .ref (aX X 0)), (1, .int c1), (2, .int c2), (3, .int c3)] (by decide) rfl ?_
  refine r_iload O d6_seesMore_57 0 rfl ?_
  refine r_if_eq O 71 d6_seesMore_59 (by decide) ?_ ?_
  · refine r_iload_n O d6_seesMore_71 3 rfl ?_
    refine r_sub [1, 2, 3, 4] rfl ?_
    exact j6_seesMore_72 O (fun _ _ _ => hB _ _ _) hX
  · refine r_aload_n O d6_seesMore_62 1 rfl ?_
    refine r_iload_n O d6_seesMore_63 3 rfl ?_
    refine r_iload_n O d6_seesMore_64 4 rfl ?_
    refine r_callVi O (b := 0) (bv := fun ad => [.int c2, .int c3]) (rest := []) (c6_pumped (lX X) c2 c3 S) (fun _ => rfl) (by decide) eM_0 rfl rfl w_824 w_826 w_30 w_51 w_827 hy_X6_pumped ⟨rfl, rfl, Nat.le_of_ble_eq_true rfl, Nat.le_of_ble_eq_true rfl⟩ rfl rfl (Nat.le_of_ble_eq_true rfl) d6_seesMore_65 (fun r15 S14 => ?_)
    refine r_goto O 72 d6_seesMore_68 (by decide) ?_
    refine r_sub [1, 2, 3, 4] rfl ?_
    exact j6_seesMore_72 O (fun _ _ _ => hB _ _ _) hX
set_option maxHeartbeats 4000000 in
set_option maxRecDepth 100000 in
theorem l6_seesMore_19 {α : Type} {X : GX α} (O : OK 22 X RX6 cX6_seesMore 6 (some .boolean) (rmG 2 45)) {c2 : Int32} {KX : Int32 → Int32 → MS → Option α} (hX : ∀ v1 v3 S, GM 22 eM X (KX v1 v3 S) S 108 [(0, .ref (aX X 0)), (1, .int v1), (2, .int c2), (3, .int v3)] []) : ∀ n v1 v3 S, GM 22 eM X (f6_seesMore_L19 c2 KX n v1 v3 S) S 19 [(0, .ref (aX X 0)), (1, .int v1), (2, .int c2), (3, .int v3)] [] := by
  intro n
  induction n with
  | zero => intro v1 v3 S; exact r_none
  | succ n ih =>
    intro v1 v3 S
    rw [f6_seesMore_L19]
    refine r_iload_n O d6_seesMore_19 3 rfl ?_
    refine r_aload_n O d6_seesMore_20 0 rfl ?_
    refine g_X6_89 O d6_seesMore_21 ?_
    refine r_icmp_ge O 108 d6_seesMore_24 (by decide) ?_ ?_
    · refine r_sub [0, 1, 2, 3] rfl ?_
      exact hX _ _ _
    · refine r_aload_n O d6_seesMore_27 0 rfl ?_
      refine g_X6_69 O d6_seesMore_28 ?_
      refine r_iload_n O d6_seesMore_31 2 rfl ?_
      refine r_zald O (j := 20) (by decide) eM_20 d6_seesMore_32 (fun k2 hk2 => ?_)
      refine r_if_eq O 108 d6_seesMore_33 (by decide) ?_ ?_
      · refine r_sub [0, 1, 2, 3] rfl ?_
        exact hX _ _ _
      · refine r_aload_n O d6_seesMore_36 0 rfl ?_
        refine g_X6_59 O d6_seesMore_37 ?_
        refine r_iload_n O d6_seesMore_40 2 rfl ?_
        refine r_iald O (j := 17) (by decide) eM_17 d6_seesMore_41 (fun k3 hk3 => ?_)
        refine r_iload_n O d6_seesMore_42 3 rfl ?_
        refine r_ishr O d6_seesMore_43 ?_
        refine r_iconst O d6_seesMore_44 (v := 1) (by decide) ?_
        refine r_iand O d6_seesMore_45 ?_
        refine r_iconst O d6_seesMore_46 (v := 1) (by decide) ?_
        refine r_icmp_ne O 54 d6_seesMore_47 (by decide) ?_ ?_
        · refine r_iconst O d6_seesMore_54 (v := 0) (by decide) ?_
          refine r_sub [0, 1, 2, 3] rfl ?_
          exact j6_seesMore_55 O (fun _ _ _ => ih _ _ _) hX
        · refine r_iconst O d6_seesMore_50 (v := 1) (by decide) ?_
          refine r_goto O 55 d6_seesMore_51 (by decide) ?_
          refine r_sub [0, 1, 2, 3] rfl ?_
          exact j6_seesMore_55 O (fun _ _ _ => ih _ _ _) hX
set_option maxHeartbeats 4000000 in
set_option maxRecDepth 100000 in
theorem l6_seesMore_4 {α : Type} {X : GX α} (O : OK 22 X RX6 cX6_seesMore 6 (some .boolean) (rmG 2 45)) {KX : Int32 → Int32 → MS → Option α} (hX : ∀ v1 v2 S, GM 22 eM X (KX v1 v2 S) S 114 [(0, .ref (aX X 0)), (1, .int v1), (2, .int v2)] []) : ∀ n v1 v2 S, GM 22 eM X (f6_seesMore_L4 KX n v1 v2 S) S 4 [(0, .ref (aX X 0)), (1, .int v1), (2, .int v2)] [] := by
  intro n
  induction n with
  | zero => intro v1 v2 S; exact r_none
  | succ n ih =>
    intro v1 v2 S
    rw [f6_seesMore_L4]
    refine r_iload_n O d6_seesMore_4 2 rfl ?_
    refine r_aload_n O d6_seesMore_5 0 rfl ?_
    refine g_X6_19 O d6_seesMore_6 ?_
    refine r_aload_n O d6_seesMore_9 0 rfl ?_
    refine g_X6_89 O d6_seesMore_10 ?_
    refine r_iald O (j := 4) (by decide) eM_4 d6_seesMore_13 (fun k1 hk1 => ?_)
    refine r_icmp_ge O 114 d6_seesMore_14 (by decide) ?_ ?_
    · refine r_sub [0, 1, 2] rfl ?_
      exact hX _ _ _
    · refine r_iconst O d6_seesMore_17 (v := 0) (by decide) ?_
      refine r_istore_n O d6_seesMore_18 [(3, .int 0), (0, .ref (aX X 0)), (1, .int v1), (2, .int v2)] (by decide) rfl ?_
      refine r_sub [1, 2, 3, 0] rfl ?_
      refine l6_seesMore_19 O (fun v1_17 v3_18 S16 => ?_) _ _ _ _
      refine r_iinc O d6_seesMore_108 2 (c0 := 1) rfl (by decide) (fun x2_19 => [(2, .int x2_19), (0, .ref (aX X 0)), (1, .int v1_17), (3, .int v3_18)]) (by decide) (fun _ => rfl) (fun x2_19 => ?_)
      refine r_goto O 4 d6_seesMore_111 (by decide) ?_
      refine r_sub [1, 2, 0] rfl ?_
      exact ih _ _ _
set_option maxHeartbeats 4000000 in
set_option maxRecDepth 100000 in
theorem c6_seesMore (l : Launch) (S : MS) {α : Type} : CtI 22 eM l yX6_seesMore cX6_seesMore 6 (some .boolean) (rmG 2 45) S (fun ad => [.ref (ad 0)]) (α := α) (f6_seesMore S) := by
  refine CtI.of (by decide) (fun _ => Nat.le_of_ble_eq_true rfl) (fun X K _ O hQ => ?_)
  have O : OK 22 X RX6 cX6_seesMore 6 (some .boolean) (rmG 2 45) := O
  show GM 22 eM X (f6_seesMore S K) S 0 [(0, .ref (aX X 0))] []
  unfold f6_seesMore
  refine r_iconst O d6_seesMore_0 (v := 0) (by decide) ?_
  refine r_istore_n O d6_seesMore_1 [(1, .int 0), (0, .ref (aX X 0))] (by decide) rfl ?_
  refine r_iconst O d6_seesMore_2 (v := 0) (by decide) ?_
  refine r_istore_n O d6_seesMore_3 [(2, .int 0), (1, .int 0), (0, .ref (aX X 0))] (by decide) rfl ?_
  refine r_sub [2, 1, 0] rfl ?_
  refine l6_seesMore_4 O (fun v1_21 v2_22 S20 => ?_) _ _ _ _
  refine r_iload_n O d6_seesMore_114 1 rfl ?_
  refine r_zb (fun hz23 => ?_)
  exact r_zret O hQ hz23 d6_seesMore_115
-- X6.states
theorem d6_states_0 : decode cX6_states 0 = .ok (.aload_n 0, 1) := by decide +kernel
theorem d6_states_1 : decode cX6_states 1 = .ok (.getfield 89, 3) := by decide +kernel
theorem d6_states_4 : decode cX6_states 4 = .ok (.ifCond .ne 6, 3) := by decide +kernel
theorem d6_states_7 : decode cX6_states 7 = .ok (.bipush (-3), 2) := by decide +kernel
theorem d6_states_9 : decode cX6_states 9 = .ok (.ireturn, 1) := by decide +kernel
theorem d6_states_10 : decode cX6_states 10 = .ok (.aload_n 0, 1) := by decide +kernel
theorem d6_states_11 : decode cX6_states 11 = .ok (.invokevirtual 212, 3) := by decide +kernel
theorem d6_states_14 : decode cX6_states 14 = .ok (.iconst 0, 1) := by decide +kernel
theorem d6_states_15 : decode cX6_states 15 = .ok (.istore_n 1, 1) := by decide +kernel
theorem d6_states_16 : decode cX6_states 16 = .ok (.iload_n 1, 1) := by decide +kernel
theorem d6_states_17 : decode cX6_states 17 = .ok (.aload_n 0, 1) := by decide +kernel
theorem d6_states_18 : decode cX6_states 18 = .ok (.getfield 19, 3) := by decide +kernel
theorem d6_states_21 : decode cX6_states 21 = .ok (.aload_n 0, 1) := by decide +kernel
theorem d6_states_22 : decode cX6_states 22 = .ok (.getfield 89, 3) := by decide +kernel
theorem d6_states_25 : decode cX6_states 25 = .ok (.iaload, 1) := by decide +kernel
theorem d6_states_26 : decode cX6_states 26 = .ok (.if_icmp .ge 28, 3) := by decide +kernel
theorem d6_states_29 : decode cX6_states 29 = .ok (.aload_n 0, 1) := by decide +kernel
theorem d6_states_30 : decode cX6_states 30 = .ok (.getfield 69, 3) := by decide +kernel
theorem d6_states_33 : decode cX6_states 33 = .ok (.iload_n 1, 1) := by decide +kernel
theorem d6_states_34 : decode cX6_states 34 = .ok (.iload_n 1, 1) := by decide +kernel
theorem d6_states_35 : decode cX6_states 35 = .ok (.aload_n 0, 1) := by decide +kernel
theorem d6_states_36 : decode cX6_states 36 = .ok (.getfield 141, 3) := by decide +kernel
theorem d6_states_39 : decode cX6_states 39 = .ok (.if_icmp .ne 7, 3) := by decide +kernel
theorem d6_states_42 : decode cX6_states 42 = .ok (.iconst 1, 1) := by decide +kernel
theorem d6_states_43 : decode cX6_states 43 = .ok (.goto 4, 3) := by decide +kernel
theorem d6_states_46 : decode cX6_states 46 = .ok (.iconst 0, 1) := by decide +kernel
theorem d6_states_47 : decode cX6_states 47 = .ok (.bastore, 1) := by decide +kernel
theorem d6_states_48 : decode cX6_states 48 = .ok (.iinc 1 1, 3) := by decide +kernel
theorem d6_states_51 : decode cX6_states 51 = .ok (.goto (-35), 3) := by decide +kernel
theorem d6_states_54 : decode cX6_states 54 = .ok (.iconst 1, 1) := by decide +kernel
theorem d6_states_55 : decode cX6_states 55 = .ok (.istore_n 1, 1) := by decide +kernel
theorem d6_states_56 : decode cX6_states 56 = .ok (.iload_n 1, 1) := by decide +kernel
theorem d6_states_57 : decode cX6_states 57 = .ok (.ifCond .eq 11, 3) := by decide +kernel
theorem d6_states_60 : decode cX6_states 60 = .ok (.aload_n 0, 1) := by decide +kernel
theorem d6_states_61 : decode cX6_states 61 = .ok (.invokevirtual 241, 3) := by decide +kernel
theorem d6_states_64 : decode cX6_states 64 = .ok (.istore_n 1, 1) := by decide +kernel
theorem d6_states_65 : decode cX6_states 65 = .ok (.goto (-9), 3) := by decide +kernel
theorem d6_states_68 : decode cX6_states 68 = .ok (.iconst 0, 1) := by decide +kernel
theorem d6_states_69 : decode cX6_states 69 = .ok (.istore_n 2, 1) := by decide +kernel
theorem d6_states_70 : decode cX6_states 70 = .ok (.iconst 0, 1) := by decide +kernel
theorem d6_states_71 : decode cX6_states 71 = .ok (.istore_n 3, 1) := by decide +kernel
theorem d6_states_72 : decode cX6_states 72 = .ok (.iload_n 3, 1) := by decide +kernel
theorem d6_states_73 : decode cX6_states 73 = .ok (.aload_n 0, 1) := by decide +kernel
theorem d6_states_74 : decode cX6_states 74 = .ok (.getfield 19, 3) := by decide +kernel
theorem d6_states_77 : decode cX6_states 77 = .ok (.aload_n 0, 1) := by decide +kernel
theorem d6_states_78 : decode cX6_states 78 = .ok (.getfield 89, 3) := by decide +kernel
theorem d6_states_81 : decode cX6_states 81 = .ok (.iaload, 1) := by decide +kernel
theorem d6_states_82 : decode cX6_states 82 = .ok (.if_icmp .ge 26, 3) := by decide +kernel
theorem d6_states_85 : decode cX6_states 85 = .ok (.iload_n 2, 1) := by decide +kernel
theorem d6_states_86 : decode cX6_states 86 = .ok (.aload_n 0, 1) := by decide +kernel
theorem d6_states_87 : decode cX6_states 87 = .ok (.getfield 69, 3) := by decide +kernel
theorem d6_states_90 : decode cX6_states 90 = .ok (.iload_n 3, 1) := by decide +kernel
theorem d6_states_91 : decode cX6_states 91 = .ok (.baload, 1) := by decide +kernel
theorem d6_states_92 : decode cX6_states 92 = .ok (.ifCond .eq 7, 3) := by decide +kernel
theorem d6_states_95 : decode cX6_states 95 = .ok (.iconst 1, 1) := by decide +kernel
theorem d6_states_96 : decode cX6_states 96 = .ok (.goto 4, 3) := by decide +kernel
theorem d6_states_99 : decode cX6_states 99 = .ok (.iconst 0, 1) := by decide +kernel
theorem d6_states_100 : decode cX6_states 100 = .ok (.iadd, 1) := by decide +kernel
theorem d6_states_101 : decode cX6_states 101 = .ok (.istore_n 2, 1) := by decide +kernel
theorem d6_states_102 : decode cX6_states 102 = .ok (.iinc 3 1, 3) := by decide +kernel
theorem d6_states_105 : decode cX6_states 105 = .ok (.goto (-33), 3) := by decide +kernel
theorem d6_states_108 : decode cX6_states 108 = .ok (.iload_n 2, 1) := by decide +kernel
theorem d6_states_109 : decode cX6_states 109 = .ok (.ireturn, 1) := by decide +kernel
noncomputable def f6_states_L16 {α : Type} (KX : Int32 → MS → Option α) : Nat → Int32 → MS → Option α
  | 0, _, _ => none
  | n + 1, v1, S => ck (S.1 0 6) 7 fun k3 => if (S.1 4 k3) ≤ v1 then (KX v1 S) else (if v1 = (S.1 0 14) then (ck v1 729 fun k7 => nm (sI S 20 k7 (vp_nar .boolean 1)) fun S8 => nm (v1 + 1) fun x1_9 => f6_states_L16 KX n x1_9 S8) else (ck v1 729 fun k4 => nm (sI S 20 k4 (vp_nar .boolean 0)) fun S5 => nm (v1 + 1) fun x1_6 => f6_states_L16 KX n x1_6 S5))
noncomputable def f6_states_L56 {α : Type} (KX : Int32 → MS → Option α) : Nat → Int32 → MS → Option α
  | 0, _, _ => none
  | n + 1, v1, S => if v1 = 0 then (KX v1 S) else (f6_seesMore S fun r13 S12 => f6_states_L56 KX n r13 S12)
noncomputable def f6_states_L72 {α : Type} (KX : Int32 → Int32 → MS → Option α) : Nat → Int32 → Int32 → MS → Option α
  | 0, _, _, _ => none
  | n + 1, v2, v3, S => ck (S.1 0 6) 7 fun k16 => if (S.1 4 k16) ≤ v3 then (KX v2 v3 S) else (ck v3 729 fun k17 => if (S.1 20 k17) = 0 then (nm (v2 + 0) fun x2_18 => nm (v3 + 1) fun x3_19 => f6_states_L72 KX n x2_18 x3_19 S) else (nm (v2 + 1) fun x2_20 => nm (v3 + 1) fun x3_21 => f6_states_L72 KX n x2_20 x3_21 S))
noncomputable def f6_states {α : Type} (S : MS) (K : Int32 → MS → Option α) : Option α := if (S.1 0 6) = 0 then (K (-3) S) else (f6_findLeft S fun S1 => f6_states_L16 (fun v1_11 S10 => f6_states_L56 (fun v1_15 S14 => f6_states_L72 (fun v2_23 v3_24 S22 => K v2_23 S22) FU 0 0 S14) FU 1 S10) FU 0 S1)
set_option maxHeartbeats 4000000 in
set_option maxRecDepth 100000 in
theorem l6_states_16 {α : Type} {X : GX α} (O : OK 22 X RX6 cX6_states 4 (some .int) (rmG 6 135)) {KX : Int32 → MS → Option α} (hX : ∀ v1 S, GM 22 eM X (KX v1 S) S 54 [(0, .ref (aX X 0)), (1, .int v1)] []) : ∀ n v1 S, GM 22 eM X (f6_states_L16 KX n v1 S) S 16 [(0, .ref (aX X 0)), (1, .int v1)] [] := by
  intro n
  induction n with
  | zero => intro v1 S; exact r_none
  | succ n ih =>
    intro v1 S
    rw [f6_states_L16]
    refine r_iload_n O d6_states_16 1 rfl ?_
    refine r_aload_n O d6_states_17 0 rfl ?_
    refine g_X6_19 O d6_states_18 ?_
    refine r_aload_n O d6_states_21 0 rfl ?_
    refine g_X6_89 O d6_states_22 ?_
    refine r_iald O (j := 4) (by decide) eM_4 d6_states_25 (fun k3 hk3 => ?_)
    refine r_icmp_ge O 54 d6_states_26 (by decide) ?_ ?_
    · refine r_sub [0, 1] rfl ?_
      exact hX _ _
    · refine r_aload_n O d6_states_29 0 rfl ?_
      refine g_X6_69 O d6_states_30 ?_
      refine r_iload_n O d6_states_33 1 rfl ?_
      refine r_iload_n O d6_states_34 1 rfl ?_
      refine r_aload_n O d6_states_35 0 rfl ?_
      refine g_X6_141 O d6_states_36 ?_
      refine r_icmp_ne O 46 d6_states_39 (by decide) ?_ ?_
      · refine r_iconst O d6_states_46 (v := 0) (by decide) ?_
        refine r_zast O (j := 20) (by decide) (fun _ => eM_20) d6_states_47 (fun S5 => ?_)
        refine r_iinc O d6_states_48 1 (c0 := 1) rfl (by decide) (fun x1_6 => [(1, .int x1_6), (0, .ref (aX X 0))]) (by decide) (fun _ => rfl) (fun x1_6 => ?_)
        refine r_goto O 16 d6_states_51 (by decide) ?_
        refine r_sub [1, 0] rfl ?_
        exact ih _ _
      · refine r_iconst O d6_states_42 (v := 1) (by decide) ?_
        refine r_goto O 47 d6_states_43 (by decide) ?_
        refine r_zast O (j := 20) (by decide) (fun _ => eM_20) d6_states_47 (fun S8 => ?_)
        refine r_iinc O d6_states_48 1 (c0 := 1) rfl (by decide) (fun x1_9 => [(1, .int x1_9), (0, .ref (aX X 0))]) (by decide) (fun _ => rfl) (fun x1_9 => ?_)
        refine r_goto O 16 d6_states_51 (by decide) ?_
        refine r_sub [1, 0] rfl ?_
        exact ih _ _
set_option maxHeartbeats 4000000 in
set_option maxRecDepth 100000 in
theorem l6_states_56 {α : Type} {X : GX α} (O : OK 22 X RX6 cX6_states 4 (some .int) (rmG 6 135)) {KX : Int32 → MS → Option α} (hX : ∀ v1 S, GM 22 eM X (KX v1 S) S 68 [(0, .ref (aX X 0)), (1, .int v1)] []) : ∀ n v1 S, GM 22 eM X (f6_states_L56 KX n v1 S) S 56 [(0, .ref (aX X 0)), (1, .int v1)] [] := by
  intro n
  induction n with
  | zero => intro v1 S; exact r_none
  | succ n ih =>
    intro v1 S
    rw [f6_states_L56]
    refine r_iload_n O d6_states_56 1 rfl ?_
    refine r_if_eq O 68 d6_states_57 (by decide) ?_ ?_
    · refine r_sub [0, 1] rfl ?_
      exact hX _ _
    · refine r_aload_n O d6_states_60 0 rfl ?_
      refine r_callVi O (b := 0) (bv := fun ad => []) (rest := []) (c6_seesMore (lX X) S) (fun _ => rfl) (by decide) eM_0 rfl rfl w_919 w_921 w_40 w_51 w_922 hy_X6_seesMore ⟨rfl, rfl, Nat.le_of_ble_eq_true rfl, Nat.le_of_ble_eq_true rfl⟩ rfl rfl (Nat.le_of_ble_eq_true rfl) d6_states_61 (fun r13 S12 => ?_)
      refine r_istore_n O d6_states_64 [(1, .int r13), (0, .ref (aX X 0))] (by decide) rfl ?_
      refine r_goto O 56 d6_states_65 (by decide) ?_
      refine r_sub [1, 0] rfl ?_
      exact ih _ _
set_option maxHeartbeats 4000000 in
set_option maxRecDepth 100000 in
theorem l6_states_72 {α : Type} {X : GX α} (O : OK 22 X RX6 cX6_states 4 (some .int) (rmG 6 135)) {KX : Int32 → Int32 → MS → Option α} (hX : ∀ v2 v3 S, GM 22 eM X (KX v2 v3 S) S 108 [(0, .ref (aX X 0)), (2, .int v2), (3, .int v3)] []) : ∀ n v2 v3 S, GM 22 eM X (f6_states_L72 KX n v2 v3 S) S 72 [(0, .ref (aX X 0)), (2, .int v2), (3, .int v3)] [] := by
  intro n
  induction n with
  | zero => intro v2 v3 S; exact r_none
  | succ n ih =>
    intro v2 v3 S
    rw [f6_states_L72]
    refine r_iload_n O d6_states_72 2 rfl ?_
    refine r_aload_n O d6_states_73 0 rfl ?_
    refine g_X6_19 O d6_states_74 ?_
    refine r_aload_n O d6_states_77 0 rfl ?_
    refine g_X6_89 O d6_states_78 ?_
    refine r_iald O (j := 4) (by decide) eM_4 d6_states_81 (fun k16 hk16 => ?_)
    refine r_icmp_ge O 108 d6_states_82 (by decide) ?_ ?_
    · refine r_sub [0, 1, 2] rfl ?_
      exact hX _ _ _
    · refine r_iload_n O d6_states_85 1 rfl ?_
      refine r_aload_n O d6_states_86 0 rfl ?_
      refine g_X6_69 O d6_states_87 ?_
      refine r_iload_n O d6_states_90 2 rfl ?_
      refine r_zald O (j := 20) (by decide) eM_20 d6_states_91 (fun k17 hk17 => ?_)
      refine r_if_eq O 99 d6_states_92 (by decide) ?_ ?_
      · refine r_iconst O d6_states_99 (v := 0) (by decide) ?_
        refine r_iadd O d6_states_100 ?_
        refine r_istore_n_nm O d6_states_101 (fun x2_18 => [(2, .int x2_18), (0, .ref (aX X 0)), (3, .int v3)]) (by decide) (fun _ => rfl) (fun x2_18 => ?_)
        refine r_iinc O d6_states_102 2 (c0 := 1) rfl (by decide) (fun x3_19 => [(3, .int x3_19), (2, .int x2_18), (0, .ref (aX X 0))]) (by decide) (fun _ => rfl) (fun x3_19 => ?_)
        refine r_goto O 72 d6_states_105 (by decide) ?_
        refine r_sub [2, 1, 0] rfl ?_
        exact ih _ _ _
      · refine r_iconst O d6_states_95 (v := 1) (by decide) ?_
        refine r_goto O 100 d6_states_96 (by decide) ?_
        refine r_iadd O d6_states_100 ?_
        refine r_istore_n_nm O d6_states_101 (fun x2_20 => [(2, .int x2_20), (0, .ref (aX X 0)), (3, .int v3)]) (by decide) (fun _ => rfl) (fun x2_20 => ?_)
        refine r_iinc O d6_states_102 2 (c0 := 1) rfl (by decide) (fun x3_21 => [(3, .int x3_21), (2, .int x2_20), (0, .ref (aX X 0))]) (by decide) (fun _ => rfl) (fun x3_21 => ?_)
        refine r_goto O 72 d6_states_105 (by decide) ?_
        refine r_sub [2, 1, 0] rfl ?_
        exact ih _ _ _
set_option maxHeartbeats 4000000 in
set_option maxRecDepth 100000 in
theorem c6_states (l : Launch) (S : MS) {α : Type} : CtI 22 eM l yX6_states cX6_states 4 (some .int) (rmG 6 135) S (fun ad => [.ref (ad 0)]) (α := α) (f6_states S) := by
  refine CtI.of (by decide) (fun _ => Nat.le_of_ble_eq_true rfl) (fun X K _ O hQ => ?_)
  have O : OK 22 X RX6 cX6_states 4 (some .int) (rmG 6 135) := O
  show GM 22 eM X (f6_states S K) S 0 [(0, .ref (aX X 0))] []
  unfold f6_states
  refine r_aload_n O d6_states_0 0 rfl ?_
  refine g_X6_89 O d6_states_1 ?_
  refine r_if_ne O 10 d6_states_4 (by decide) ?_ ?_
  · refine r_aload_n O d6_states_10 0 rfl ?_
    refine r_callVv O (b := 0) (bv := fun ad => []) (rest := []) (c6_findLeft (lX X) S) (fun _ => rfl) (by decide) eM_0 rfl rfl w_869 w_871 w_32 w_51 w_872 hy_X6_findLeft ⟨rfl, rfl, Nat.le_of_ble_eq_true rfl, Nat.le_of_ble_eq_true rfl⟩ rfl rfl (Nat.le_of_ble_eq_true rfl) d6_states_11 (fun S1 => ?_)
    refine r_iconst O d6_states_14 (v := 0) (by decide) ?_
    refine r_istore_n O d6_states_15 [(1, .int 0), (0, .ref (aX X 0))] (by decide) rfl ?_
    refine r_sub [1, 0] rfl ?_
    refine l6_states_16 O (fun v1_11 S10 => ?_) _ _ _
    refine r_iconst O d6_states_54 (v := 1) (by decide) ?_
    refine r_istore_n O d6_states_55 [(1, .int 1), (0, .ref (aX X 0))] (by decide) rfl ?_
    refine r_sub [1, 0] rfl ?_
    refine l6_states_56 O (fun v1_15 S14 => ?_) _ _ _
    refine r_iconst O d6_states_68 (v := 0) (by decide) ?_
    refine r_istore_n O d6_states_69 [(2, .int 0), (0, .ref (aX X 0)), (1, .int v1_15)] (by decide) rfl ?_
    refine r_iconst O d6_states_70 (v := 0) (by decide) ?_
    refine r_istore_n O d6_states_71 [(3, .int 0), (2, .int 0), (0, .ref (aX X 0)), (1, .int v1_15)] (by decide) rfl ?_
    refine r_sub [2, 1, 0] rfl ?_
    refine l6_states_72 O (fun v2_23 v3_24 S22 => ?_) _ _ _ _
    refine r_iload_n O d6_states_108 1 rfl ?_
    exact r_iret O hQ d6_states_109
  · refine r_bipush O d6_states_7 (v := (-3)) (by decide) ?_
    exact r_iret O hQ d6_states_9
-- X6.worst
theorem d6_worst_0 : decode cX6_worst 0 = .ok (.iload_n 1, 1) := by decide +kernel
theorem d6_worst_1 : decode cX6_worst 1 = .ok (.i2l, 1) := by decide +kernel
theorem d6_worst_2 : decode cX6_worst 2 = .ok (.lconst 0, 1) := by decide +kernel
theorem d6_worst_3 : decode cX6_worst 3 = .ok (.ldc2_w 87, 3) := by decide +kernel
theorem d6_worst_6 : decode cX6_worst 6 = .ok (.invokestatic 83, 3) := by decide +kernel
theorem d6_worst_9 : decode cX6_worst 9 = .ok (.ifCond .ne 6, 3) := by decide +kernel
theorem d6_worst_12 : decode cX6_worst 12 = .ok (.bipush (-2), 2) := by decide +kernel
theorem d6_worst_14 : decode cX6_worst 14 = .ok (.ireturn, 1) := by decide +kernel
theorem d6_worst_15 : decode cX6_worst 15 = .ok (.aload_n 0, 1) := by decide +kernel
theorem d6_worst_16 : decode cX6_worst 16 = .ok (.getfield 89, 3) := by decide +kernel
theorem d6_worst_19 : decode cX6_worst 19 = .ok (.ifCond .ne 6, 3) := by decide +kernel
theorem d6_worst_22 : decode cX6_worst 22 = .ok (.bipush (-3), 2) := by decide +kernel
theorem d6_worst_24 : decode cX6_worst 24 = .ok (.ireturn, 1) := by decide +kernel
theorem d6_worst_25 : decode cX6_worst 25 = .ok (.aload_n 0, 1) := by decide +kernel
theorem d6_worst_26 : decode cX6_worst 26 = .ok (.invokevirtual 212, 3) := by decide +kernel
theorem d6_worst_29 : decode cX6_worst 29 = .ok (.aload_n 0, 1) := by decide +kernel
theorem d6_worst_30 : decode cX6_worst 30 = .ok (.getfield 62, 3) := by decide +kernel
theorem d6_worst_33 : decode cX6_worst 33 = .ok (.aload_n 0, 1) := by decide +kernel
theorem d6_worst_34 : decode cX6_worst 34 = .ok (.getfield 141, 3) := by decide +kernel
theorem d6_worst_37 : decode cX6_worst 37 = .ok (.iaload, 1) := by decide +kernel
theorem d6_worst_38 : decode cX6_worst 38 = .ok (.bipush (-9), 2) := by decide +kernel
theorem d6_worst_40 : decode cX6_worst 40 = .ok (.if_icmp .ne 6, 3) := by decide +kernel
theorem d6_worst_43 : decode cX6_worst 43 = .ok (.bipush (-9), 2) := by decide +kernel
theorem d6_worst_45 : decode cX6_worst 45 = .ok (.ireturn, 1) := by decide +kernel
theorem d6_worst_46 : decode cX6_worst 46 = .ok (.aload_n 0, 1) := by decide +kernel
theorem d6_worst_47 : decode cX6_worst 47 = .ok (.getfield 141, 3) := by decide +kernel
theorem d6_worst_50 : decode cX6_worst 50 = .ok (.istore_n 2, 1) := by decide +kernel
theorem d6_worst_51 : decode cX6_worst 51 = .ok (.aload_n 0, 1) := by decide +kernel
theorem d6_worst_52 : decode cX6_worst 52 = .ok (.iload_n 2, 1) := by decide +kernel
theorem d6_worst_53 : decode cX6_worst 53 = .ok (.iload_n 1, 1) := by decide +kernel
theorem d6_worst_54 : decode cX6_worst 54 = .ok (.invokevirtual 194, 3) := by decide +kernel
theorem d6_worst_57 : decode cX6_worst 57 = .ok (.invokestatic 181, 3) := by decide +kernel
theorem d6_worst_60 : decode cX6_worst 60 = .ok (.istore_n 3, 1) := by decide +kernel
theorem d6_worst_61 : decode cX6_worst 61 = .ok (.aload_n 0, 1) := by decide +kernel
theorem d6_worst_62 : decode cX6_worst 62 = .ok (.getfield 62, 3) := by decide +kernel
theorem d6_worst_65 : decode cX6_worst 65 = .ok (.iload_n 2, 1) := by decide +kernel
theorem d6_worst_66 : decode cX6_worst 66 = .ok (.iaload, 1) := by decide +kernel
theorem d6_worst_67 : decode cX6_worst 67 = .ok (.ifCond .le 41, 3) := by decide +kernel
theorem d6_worst_70 : decode cX6_worst 70 = .ok (.aload_n 0, 1) := by decide +kernel
theorem d6_worst_71 : decode cX6_worst 71 = .ok (.iload_n 2, 1) := by decide +kernel
theorem d6_worst_72 : decode cX6_worst 72 = .ok (.aload_n 0, 1) := by decide +kernel
theorem d6_worst_73 : decode cX6_worst 73 = .ok (.iload_n 2, 1) := by decide +kernel
theorem d6_worst_74 : decode cX6_worst 74 = .ok (.invokevirtual 215, 3) := by decide +kernel
theorem d6_worst_77 : decode cX6_worst 77 = .ok (.invokevirtual 191, 3) := by decide +kernel
theorem d6_worst_80 : decode cX6_worst 80 = .ok (.istore_n 2, 1) := by decide +kernel
theorem d6_worst_81 : decode cX6_worst 81 = .ok (.aload_n 0, 1) := by decide +kernel
theorem d6_worst_82 : decode cX6_worst 82 = .ok (.iload_n 2, 1) := by decide +kernel
theorem d6_worst_83 : decode cX6_worst 83 = .ok (.iload_n 1, 1) := by decide +kernel
theorem d6_worst_84 : decode cX6_worst 84 = .ok (.invokevirtual 194, 3) := by decide +kernel
theorem d6_worst_87 : decode cX6_worst 87 = .ok (.invokestatic 181, 3) := by decide +kernel
theorem d6_worst_90 : decode cX6_worst 90 = .ok (.istore 4, 2) := by decide +kernel
theorem d6_worst_92 : decode cX6_worst 92 = .ok (.iload 4, 2) := by decide +kernel
theorem d6_worst_94 : decode cX6_worst 94 = .ok (.iload_n 3, 1) := by decide +kernel
theorem d6_worst_95 : decode cX6_worst 95 = .ok (.if_icmp .le 8, 3) := by decide +kernel
theorem d6_worst_98 : decode cX6_worst 98 = .ok (.iload 4, 2) := by decide +kernel
theorem d6_worst_100 : decode cX6_worst 100 = .ok (.goto 4, 3) := by decide +kernel
theorem d6_worst_103 : decode cX6_worst 103 = .ok (.iload_n 3, 1) := by decide +kernel
theorem d6_worst_104 : decode cX6_worst 104 = .ok (.istore_n 3, 1) := by decide +kernel
theorem d6_worst_105 : decode cX6_worst 105 = .ok (.goto (-44), 3) := by decide +kernel
theorem d6_worst_108 : decode cX6_worst 108 = .ok (.iload_n 3, 1) := by decide +kernel
theorem d6_worst_109 : decode cX6_worst 109 = .ok (.ireturn, 1) := by decide +kernel
noncomputable def f6_worst_L61 {α : Type} (c1 : Int32) (KX : Int32 → Int32 → MS → Option α) : Nat → Int32 → Int32 → MS → Option α
  | 0, _, _, _ => none
  | n + 1, v2, v3, S => ck v2 729 fun k11 => if (S.1 18 k11) ≤ 0 then (KX v2 v3 S) else (f6_firstOf v2 S fun r13 S12 => f6_pumped v2 r13 S12 fun r15 S14 => f6_measured r15 c1 S14 fun r17 S16 => f6_plain r17 S16 fun r19 S18 => if r19 ≤ v3 then (f6_worst_L61 c1 KX n r15 v3 S18) else (f6_worst_L61 c1 KX n r15 r19 S18))
noncomputable def f6_worst {α : Type} (p1 : Int32) (S : MS) (K : Int32 → MS → Option α) : Option α := f6_within (Int32.toInt64 p1) 0 2 S fun r2 S1 => if r2 = 0 then (K (-2) S1) else (if (S1.1 0 6) = 0 then (K (-3) S1) else (f6_findLeft S1 fun S3 => ck (S3.1 0 14) 729 fun k5 => if (S3.1 18 k5) = (-9) then (K (-9) S3) else (nm (S3.1 0 14) fun x2_6 => f6_measured x2_6 p1 S3 fun r8 S7 => f6_plain r8 S7 fun r10 S9 => f6_worst_L61 p1 (fun v2_21 v3_22 S20 => K v3_22 S20) FU x2_6 r10 S9)))
set_option maxHeartbeats 4000000 in
set_option maxRecDepth 100000 in
theorem l6_worst_61 {α : Type} {X : GX α} (O : OK 22 X RX6 cX6_worst 5 (some .int) (rmG 6 135)) {c1 : Int32} {KX : Int32 → Int32 → MS → Option α} (hX : ∀ v2 v3 S, GM 22 eM X (KX v2 v3 S) S 108 [(0, .ref (aX X 0)), (1, .int c1), (2, .int v2), (3, .int v3)] []) : ∀ n v2 v3 S, GM 22 eM X (f6_worst_L61 c1 KX n v2 v3 S) S 61 [(0, .ref (aX X 0)), (1, .int c1), (2, .int v2), (3, .int v3)] [] := by
  intro n
  induction n with
  | zero => intro v2 v3 S; exact r_none
  | succ n ih =>
    intro v2 v3 S
    rw [f6_worst_L61]
    refine r_aload_n O d6_worst_61 0 rfl ?_
    refine g_X6_62 O d6_worst_62 ?_
    refine r_iload_n O d6_worst_65 2 rfl ?_
    refine r_iald O (j := 18) (by decide) eM_18 d6_worst_66 (fun k11 hk11 => ?_)
    refine r_if_le O 108 d6_worst_67 (by decide) ?_ ?_
    · refine r_sub [0, 1, 2, 3] rfl ?_
      exact hX _ _ _
    · refine r_aload_n O d6_worst_70 0 rfl ?_
      refine r_iload_n O d6_worst_71 2 rfl ?_
      refine r_aload_n O d6_worst_72 0 rfl ?_
      refine r_iload_n O d6_worst_73 2 rfl ?_
      refine r_callVi O (b := 0) (bv := fun ad => [.int v2]) (rest := [.int v2, .ref (aX X 0)]) (c6_firstOf (lX X) v2 S) (fun _ => rfl) (by decide) eM_0 rfl rfl w_885 w_887 w_36 w_51 w_888 hy_X6_firstOf ⟨rfl, rfl, Nat.le_of_ble_eq_true rfl, Nat.le_of_ble_eq_true rfl⟩ rfl rfl (Nat.le_of_ble_eq_true rfl) d6_worst_74 (fun r13 S12 => ?_)
      refine r_callVi O (b := 0) (bv := fun ad => [.int v2, .int r13]) (rest := []) (c6_pumped (lX X) v2 r13 S12) (fun _ => rfl) (by decide) eM_0 rfl rfl w_824 w_826 w_30 w_51 w_827 hy_X6_pumped ⟨rfl, rfl, Nat.le_of_ble_eq_true rfl, Nat.le_of_ble_eq_true rfl⟩ rfl rfl (Nat.le_of_ble_eq_true rfl) d6_worst_77 (fun r15 S14 => ?_)
      refine r_istore_n O d6_worst_80 [(2, .int r15), (0, .ref (aX X 0)), (1, .int c1), (3, .int v3)] (by decide) rfl ?_
      refine r_aload_n O d6_worst_81 1 rfl ?_
      refine r_iload_n O d6_worst_82 0 rfl ?_
      refine r_iload_n O d6_worst_83 2 rfl ?_
      refine r_callVi O (b := 0) (bv := fun ad => [.int r15, .int c1]) (rest := []) (c6_measured (lX X) r15 c1 S14) (fun _ => rfl) (by decide) eM_0 rfl rfl w_850 w_852 w_31 w_51 w_853 hy_X6_measured ⟨rfl, rfl, Nat.le_of_ble_eq_true rfl, Nat.le_of_ble_eq_true rfl⟩ rfl rfl (Nat.le_of_ble_eq_true rfl) d6_worst_84 (fun r17 S16 => ?_)
      refine r_callSi O (rest := []) (c6_plain (lX X) r17 S16) w_821 w_822 w_51 w_823 hy_X6_plain ⟨rfl, rfl, Nat.le_of_ble_eq_true rfl, Nat.le_of_ble_eq_true rfl⟩ rfl rfl (Nat.le_of_ble_eq_true rfl) d6_worst_87 (fun r19 S18 => ?_)
      refine r_istore O d6_worst_90 [(4, .int r19), (2, .int r15), (0, .ref (aX X 0)), (1, .int c1), (3, .int v3)] (by decide) rfl ?_
      refine r_iload O d6_worst_92 0 rfl ?_
      refine r_iload_n O d6_worst_94 4 rfl ?_
      refine r_icmp_le O 103 d6_worst_95 (by decide) ?_ ?_
      · refine r_iload_n O d6_worst_103 4 rfl ?_
        refine r_istore_n O d6_worst_104 [(3, .int v3), (4, .int r19), (2, .int r15), (0, .ref (aX X 0)), (1, .int c1)] (by decide) rfl ?_
        refine r_goto O 61 d6_worst_105 (by decide) ?_
        refine r_sub [3, 4, 2, 0] rfl ?_
        exact ih _ _ _
      · refine r_iload O d6_worst_98 0 rfl ?_
        refine r_goto O 104 d6_worst_100 (by decide) ?_
        refine r_istore_n O d6_worst_104 [(3, .int r19), (4, .int r19), (2, .int r15), (0, .ref (aX X 0)), (1, .int c1)] (by decide) rfl ?_
        refine r_goto O 61 d6_worst_105 (by decide) ?_
        refine r_sub [3, 4, 2, 0] rfl ?_
        exact ih _ _ _
set_option maxHeartbeats 4000000 in
set_option maxRecDepth 100000 in
theorem c6_worst (l : Launch) (p1 : Int32) (S : MS) {α : Type} : CtI 22 eM l yX6_worst cX6_worst 5 (some .int) (rmG 6 135) S (fun ad => [.ref (ad 0), .int p1]) (α := α) (f6_worst p1 S) := by
  refine CtI.of (by decide) (fun _ => Nat.le_of_ble_eq_true rfl) (fun X K _ O hQ => ?_)
  have O : OK 22 X RX6 cX6_worst 5 (some .int) (rmG 6 135) := O
  show GM 22 eM X (f6_worst p1 S K) S 0 [(0, .ref (aX X 0)), (1, .int p1)] []
  unfold f6_worst
  refine r_iload_n O d6_worst_0 1 rfl ?_
  refine r_i2l O d6_worst_1 ?_
  refine r_lconst O d6_worst_2 (v := 0) (by decide) ?_
  refine r_ldc2 O (v := 2) w_759 d6_worst_3 ?_
  refine r_callSi O (rest := []) (c6_within (lX X) (Int32.toInt64 p1) 0 2 S) w_753 w_754 w_51 w_755 hy_X6_within ⟨rfl, rfl, Nat.le_of_ble_eq_true rfl, Nat.le_of_ble_eq_true rfl⟩ rfl rfl (Nat.le_of_ble_eq_true rfl) d6_worst_6 (fun r2 S1 => ?_)
  refine r_if_ne O 15 d6_worst_9 (by decide) ?_ ?_
  · refine r_aload_n O d6_worst_15 0 rfl ?_
    refine g_X6_89 O d6_worst_16 ?_
    refine r_if_ne O 25 d6_worst_19 (by decide) ?_ ?_
    · refine r_aload_n O d6_worst_25 0 rfl ?_
      refine r_callVv O (b := 0) (bv := fun ad => []) (rest := []) (c6_findLeft (lX X) S1) (fun _ => rfl) (by decide) eM_0 rfl rfl w_869 w_871 w_32 w_51 w_872 hy_X6_findLeft ⟨rfl, rfl, Nat.le_of_ble_eq_true rfl, Nat.le_of_ble_eq_true rfl⟩ rfl rfl (Nat.le_of_ble_eq_true rfl) d6_worst_26 (fun S3 => ?_)
      refine r_aload_n O d6_worst_29 0 rfl ?_
      refine g_X6_62 O d6_worst_30 ?_
      refine r_aload_n O d6_worst_33 0 rfl ?_
      refine g_X6_141 O d6_worst_34 ?_
      refine r_iald O (j := 18) (by decide) eM_18 d6_worst_37 (fun k5 hk5 => ?_)
      refine r_bipush O d6_worst_38 (v := (-9)) (by decide) ?_
      refine r_icmp_ne O 46 d6_worst_40 (by decide) ?_ ?_
      · refine r_aload_n O d6_worst_46 0 rfl ?_
        refine g_X6_141 O d6_worst_47 ?_
        refine r_istore_n_nm O d6_worst_50 (fun x2_6 => [(2, .int x2_6), (0, .ref (aX X 0)), (1, .int p1)]) (by decide) (fun _ => rfl) (fun x2_6 => ?_)
        refine r_aload_n O d6_worst_51 1 rfl ?_
        refine r_iload_n O d6_worst_52 0 rfl ?_
        refine r_iload_n O d6_worst_53 2 rfl ?_
        refine r_callVi O (b := 0) (bv := fun ad => [.int x2_6, .int p1]) (rest := []) (c6_measured (lX X) x2_6 p1 S3) (fun _ => rfl) (by decide) eM_0 rfl rfl w_850 w_852 w_31 w_51 w_853 hy_X6_measured ⟨rfl, rfl, Nat.le_of_ble_eq_true rfl, Nat.le_of_ble_eq_true rfl⟩ rfl rfl (Nat.le_of_ble_eq_true rfl) d6_worst_54 (fun r8 S7 => ?_)
        refine r_callSi O (rest := []) (c6_plain (lX X) r8 S7) w_821 w_822 w_51 w_823 hy_X6_plain ⟨rfl, rfl, Nat.le_of_ble_eq_true rfl, Nat.le_of_ble_eq_true rfl⟩ rfl rfl (Nat.le_of_ble_eq_true rfl) d6_worst_57 (fun r10 S9 => ?_)
        refine r_istore_n O d6_worst_60 [(3, .int r10), (2, .int x2_6), (0, .ref (aX X 0)), (1, .int p1)] (by decide) rfl ?_
        refine r_sub [2, 3, 1, 0] rfl ?_
        refine l6_worst_61 O (fun v2_21 v3_22 S20 => ?_) _ _ _ _
        refine r_iload_n O d6_worst_108 3 rfl ?_
        exact r_iret O hQ d6_worst_109
      · refine r_bipush O d6_worst_43 (v := (-9)) (by decide) ?_
        exact r_iret O hQ d6_worst_45
    · refine r_bipush O d6_worst_22 (v := (-3)) (by decide) ?_
      exact r_iret O hQ d6_worst_24
  · refine r_bipush O d6_worst_12 (v := (-2)) (by decide) ?_
    exact r_iret O hQ d6_worst_14
-- X6.reading
theorem d6_reading_0 : decode cX6_reading 0 = .ok (.aload_n 0, 1) := by decide +kernel
theorem d6_reading_1 : decode cX6_reading 1 = .ok (.getfield 89, 3) := by decide +kernel
theorem d6_reading_4 : decode cX6_reading 4 = .ok (.ifCond .ne 6, 3) := by decide +kernel
theorem d6_reading_7 : decode cX6_reading 7 = .ok (.bipush (-3), 2) := by decide +kernel
theorem d6_reading_9 : decode cX6_reading 9 = .ok (.ireturn, 1) := by decide +kernel
theorem d6_reading_10 : decode cX6_reading 10 = .ok (.iload_n 1, 1) := by decide +kernel
theorem d6_reading_11 : decode cX6_reading 11 = .ok (.i2l, 1) := by decide +kernel
theorem d6_reading_12 : decode cX6_reading 12 = .ok (.ldc2_w 245, 3) := by decide +kernel
theorem d6_reading_15 : decode cX6_reading 15 = .ok (.ldc2_w 247, 3) := by decide +kernel
theorem d6_reading_18 : decode cX6_reading 18 = .ok (.invokestatic 83, 3) := by decide +kernel
theorem d6_reading_21 : decode cX6_reading 21 = .ok (.ifCond .ne 6, 3) := by decide +kernel
theorem d6_reading_24 : decode cX6_reading 24 = .ok (.bipush (-2), 2) := by decide +kernel
theorem d6_reading_26 : decode cX6_reading 26 = .ok (.ireturn, 1) := by decide +kernel
theorem d6_reading_27 : decode cX6_reading 27 = .ok (.aload_n 0, 1) := by decide +kernel
theorem d6_reading_28 : decode cX6_reading 28 = .ok (.getfield 147, 3) := by decide +kernel
theorem d6_reading_31 : decode cX6_reading 31 = .ok (.bipush 8, 2) := by decide +kernel
theorem d6_reading_33 : decode cX6_reading 33 = .ok (.if_icmp .ne 6, 3) := by decide +kernel
theorem d6_reading_36 : decode cX6_reading 36 = .ok (.bipush (-4), 2) := by decide +kernel
theorem d6_reading_38 : decode cX6_reading 38 = .ok (.ireturn, 1) := by decide +kernel
theorem d6_reading_39 : decode cX6_reading 39 = .ok (.aload_n 0, 1) := by decide +kernel
theorem d6_reading_40 : decode cX6_reading 40 = .ok (.getfield 72, 3) := by decide +kernel
theorem d6_reading_43 : decode cX6_reading 43 = .ok (.aload_n 0, 1) := by decide +kernel
theorem d6_reading_44 : decode cX6_reading 44 = .ok (.getfield 147, 3) := by decide +kernel
theorem d6_reading_47 : decode cX6_reading 47 = .ok (.iload_n 1, 1) := by decide +kernel
theorem d6_reading_48 : decode cX6_reading 48 = .ok (.iastore, 1) := by decide +kernel
theorem d6_reading_49 : decode cX6_reading 49 = .ok (.aload_n 0, 1) := by decide +kernel
theorem d6_reading_50 : decode cX6_reading 50 = .ok (.dup, 1) := by decide +kernel
theorem d6_reading_51 : decode cX6_reading 51 = .ok (.getfield 147, 3) := by decide +kernel
theorem d6_reading_54 : decode cX6_reading 54 = .ok (.iconst 1, 1) := by decide +kernel
theorem d6_reading_55 : decode cX6_reading 55 = .ok (.iadd, 1) := by decide +kernel
theorem d6_reading_56 : decode cX6_reading 56 = .ok (.putfield 147, 3) := by decide +kernel
theorem d6_reading_59 : decode cX6_reading 59 = .ok (.aload_n 0, 1) := by decide +kernel
theorem d6_reading_60 : decode cX6_reading 60 = .ok (.getfield 147, 3) := by decide +kernel
theorem d6_reading_63 : decode cX6_reading 63 = .ok (.iconst 1, 1) := by decide +kernel
theorem d6_reading_64 : decode cX6_reading 64 = .ok (.isub, 1) := by decide +kernel
theorem d6_reading_65 : decode cX6_reading 65 = .ok (.ireturn, 1) := by decide +kernel
noncomputable def f6_reading {α : Type} (p1 : Int32) (S : MS) (K : Int32 → MS → Option α) : Option α := if (S.1 0 6) = 0 then (K (-3) S) else (f6_within (Int32.toInt64 p1) (-500) 500 S fun r2 S1 => if r2 = 0 then (K (-2) S1) else (if (S1.1 0 34) = 8 then (K (-4) S1) else (ck (S1.1 0 34) 8 fun k3 => nm (sI S1 21 k3 p1) fun S4 => nm (sI S4 0 34 ((S4.1 0 34) + 1)) fun S5 => K ((S5.1 0 34) - 1) S5)))
set_option maxHeartbeats 4000000 in
set_option maxRecDepth 100000 in
theorem c6_reading (l : Launch) (p1 : Int32) (S : MS) {α : Type} : CtI 22 eM l yX6_reading cX6_reading 2 (some .int) (rmG 1 25) S (fun ad => [.ref (ad 0), .int p1]) (α := α) (f6_reading p1 S) := by
  refine CtI.of (by decide) (fun _ => Nat.le_of_ble_eq_true rfl) (fun X K _ O hQ => ?_)
  have O : OK 22 X RX6 cX6_reading 2 (some .int) (rmG 1 25) := O
  show GM 22 eM X (f6_reading p1 S K) S 0 [(0, .ref (aX X 0)), (1, .int p1)] []
  unfold f6_reading
  refine r_aload_n O d6_reading_0 0 rfl ?_
  refine g_X6_89 O d6_reading_1 ?_
  refine r_if_ne O 10 d6_reading_4 (by decide) ?_ ?_
  · refine r_iload_n O d6_reading_10 1 rfl ?_
    refine r_i2l O d6_reading_11 ?_
    refine r_ldc2 O (v := (-500)) w_931 d6_reading_12 ?_
    refine r_ldc2 O (v := 500) w_932 d6_reading_15 ?_
    refine r_callSi O (rest := []) (c6_within (lX X) (Int32.toInt64 p1) (-500) 500 S) w_753 w_754 w_51 w_755 hy_X6_within ⟨rfl, rfl, Nat.le_of_ble_eq_true rfl, Nat.le_of_ble_eq_true rfl⟩ rfl rfl (Nat.le_of_ble_eq_true rfl) d6_reading_18 (fun r2 S1 => ?_)
    refine r_if_ne O 27 d6_reading_21 (by decide) ?_ ?_
    · refine r_aload_n O d6_reading_27 0 rfl ?_
      refine g_X6_147 O d6_reading_28 ?_
      refine r_bipush O d6_reading_31 (v := 8) (by decide) ?_
      refine r_icmp_ne O 39 d6_reading_33 (by decide) ?_ ?_
      · refine r_aload_n O d6_reading_39 0 rfl ?_
        refine g_X6_72 O d6_reading_40 ?_
        refine r_aload_n O d6_reading_43 0 rfl ?_
        refine g_X6_147 O d6_reading_44 ?_
        refine r_iload_n O d6_reading_47 1 rfl ?_
        refine r_iast O (j := 21) (by decide) (fun _ => eM_21) d6_reading_48 (fun S4 => ?_)
        refine r_aload_n O d6_reading_49 0 rfl ?_
        refine r_dup O d6_reading_50 rfl ?_
        refine g_X6_147 O d6_reading_51 ?_
        refine r_iconst O d6_reading_54 (v := 1) (by decide) ?_
        refine r_iadd O d6_reading_55 ?_
        refine p_X6_147 O d6_reading_56 (fun S5 => ?_)
        refine r_aload_n O d6_reading_59 0 rfl ?_
        refine g_X6_147 O d6_reading_60 ?_
        refine r_iconst O d6_reading_63 (v := 1) (by decide) ?_
        refine r_isub O d6_reading_64 ?_
        exact r_iret O hQ d6_reading_65
      · refine r_bipush O d6_reading_36 (v := (-4)) (by decide) ?_
        exact r_iret O hQ d6_reading_38
    · refine r_bipush O d6_reading_24 (v := (-2)) (by decide) ?_
      exact r_iret O hQ d6_reading_26
  · refine r_bipush O d6_reading_7 (v := (-3)) (by decide) ?_
    exact r_iret O hQ d6_reading_9
-- X6.back
theorem d6_back_0 : decode cX6_back 0 = .ok (.iload_n 1, 1) := by decide +kernel
theorem d6_back_1 : decode cX6_back 1 = .ok (.i2l, 1) := by decide +kernel
theorem d6_back_2 : decode cX6_back 2 = .ok (.lconst 0, 1) := by decide +kernel
theorem d6_back_3 : decode cX6_back 3 = .ok (.aload_n 0, 1) := by decide +kernel
theorem d6_back_4 : decode cX6_back 4 = .ok (.getfield 147, 3) := by decide +kernel
theorem d6_back_7 : decode cX6_back 7 = .ok (.i2l, 1) := by decide +kernel
theorem d6_back_8 : decode cX6_back 8 = .ok (.invokestatic 83, 3) := by decide +kernel
theorem d6_back_11 : decode cX6_back 11 = .ok (.ifCond .ne 6, 3) := by decide +kernel
theorem d6_back_14 : decode cX6_back 14 = .ok (.bipush (-2), 2) := by decide +kernel
theorem d6_back_16 : decode cX6_back 16 = .ok (.ireturn, 1) := by decide +kernel
theorem d6_back_17 : decode cX6_back 17 = .ok (.aload_n 0, 1) := by decide +kernel
theorem d6_back_18 : decode cX6_back 18 = .ok (.dup, 1) := by decide +kernel
theorem d6_back_19 : decode cX6_back 19 = .ok (.getfield 147, 3) := by decide +kernel
theorem d6_back_22 : decode cX6_back 22 = .ok (.iload_n 1, 1) := by decide +kernel
theorem d6_back_23 : decode cX6_back 23 = .ok (.isub, 1) := by decide +kernel
theorem d6_back_24 : decode cX6_back 24 = .ok (.putfield 147, 3) := by decide +kernel
theorem d6_back_27 : decode cX6_back 27 = .ok (.aload_n 0, 1) := by decide +kernel
theorem d6_back_28 : decode cX6_back 28 = .ok (.getfield 147, 3) := by decide +kernel
theorem d6_back_31 : decode cX6_back 31 = .ok (.ireturn, 1) := by decide +kernel
noncomputable def f6_back {α : Type} (p1 : Int32) (S : MS) (K : Int32 → MS → Option α) : Option α := f6_within (Int32.toInt64 p1) 0 (Int32.toInt64 (S.1 0 34)) S fun r2 S1 => if r2 = 0 then (K (-2) S1) else (nm (sI S1 0 34 ((S1.1 0 34) - p1)) fun S3 => K (S3.1 0 34) S3)
set_option maxHeartbeats 4000000 in
set_option maxRecDepth 100000 in
theorem c6_back (l : Launch) (p1 : Int32) (S : MS) {α : Type} : CtI 22 eM l yX6_back cX6_back 2 (some .int) (rmG 1 25) S (fun ad => [.ref (ad 0), .int p1]) (α := α) (f6_back p1 S) := by
  refine CtI.of (by decide) (fun _ => Nat.le_of_ble_eq_true rfl) (fun X K _ O hQ => ?_)
  have O : OK 22 X RX6 cX6_back 2 (some .int) (rmG 1 25) := O
  show GM 22 eM X (f6_back p1 S K) S 0 [(0, .ref (aX X 0)), (1, .int p1)] []
  unfold f6_back
  refine r_iload_n O d6_back_0 1 rfl ?_
  refine r_i2l O d6_back_1 ?_
  refine r_lconst O d6_back_2 (v := 0) (by decide) ?_
  refine r_aload_n O d6_back_3 0 rfl ?_
  refine g_X6_147 O d6_back_4 ?_
  refine r_i2l O d6_back_7 ?_
  refine r_callSi O (rest := []) (c6_within (lX X) (Int32.toInt64 p1) 0 (Int32.toInt64 (S.1 0 34)) S) w_753 w_754 w_51 w_755 hy_X6_within ⟨rfl, rfl, Nat.le_of_ble_eq_true rfl, Nat.le_of_ble_eq_true rfl⟩ rfl rfl (Nat.le_of_ble_eq_true rfl) d6_back_8 (fun r2 S1 => ?_)
  refine r_if_ne O 17 d6_back_11 (by decide) ?_ ?_
  · refine r_aload_n O d6_back_17 0 rfl ?_
    refine r_dup O d6_back_18 rfl ?_
    refine g_X6_147 O d6_back_19 ?_
    refine r_iload_n O d6_back_22 1 rfl ?_
    refine r_isub O d6_back_23 ?_
    refine p_X6_147 O d6_back_24 (fun S3 => ?_)
    refine r_aload_n O d6_back_27 0 rfl ?_
    refine g_X6_147 O d6_back_28 ?_
    exact r_iret O hQ d6_back_31
  · refine r_bipush O d6_back_14 (v := (-2)) (by decide) ?_
    exact r_iret O hQ d6_back_16
-- X6.areSo
theorem d6_areSo_0 : decode cX6_areSo 0 = .ok (.aload_n 0, 1) := by decide +kernel
theorem d6_areSo_1 : decode cX6_areSo 1 = .ok (.aload_n 0, 1) := by decide +kernel
theorem d6_areSo_2 : decode cX6_areSo 2 = .ok (.getfield 141, 3) := by decide +kernel
theorem d6_areSo_5 : decode cX6_areSo 5 = .ok (.iconst 0, 1) := by decide +kernel
theorem d6_areSo_6 : decode cX6_areSo 6 = .ok (.invokevirtual 194, 3) := by decide +kernel
theorem d6_areSo_9 : decode cX6_areSo 9 = .ok (.istore_n 1, 1) := by decide +kernel
theorem d6_areSo_10 : decode cX6_areSo 10 = .ok (.iconst 0, 1) := by decide +kernel
theorem d6_areSo_11 : decode cX6_areSo 11 = .ok (.istore_n 2, 1) := by decide +kernel
theorem d6_areSo_12 : decode cX6_areSo 12 = .ok (.iload_n 2, 1) := by decide +kernel
theorem d6_areSo_13 : decode cX6_areSo 13 = .ok (.aload_n 0, 1) := by decide +kernel
theorem d6_areSo_14 : decode cX6_areSo 14 = .ok (.getfield 147, 3) := by decide +kernel
theorem d6_areSo_17 : decode cX6_areSo 17 = .ok (.if_icmp .ge 21, 3) := by decide +kernel
theorem d6_areSo_20 : decode cX6_areSo 20 = .ok (.aload_n 0, 1) := by decide +kernel
theorem d6_areSo_21 : decode cX6_areSo 21 = .ok (.getfield 72, 3) := by decide +kernel
theorem d6_areSo_24 : decode cX6_areSo 24 = .ok (.iload_n 2, 1) := by decide +kernel
theorem d6_areSo_25 : decode cX6_areSo 25 = .ok (.iaload, 1) := by decide +kernel
theorem d6_areSo_26 : decode cX6_areSo 26 = .ok (.iload_n 1, 1) := by decide +kernel
theorem d6_areSo_27 : decode cX6_areSo 27 = .ok (.if_icmp .eq 5, 3) := by decide +kernel
theorem d6_areSo_30 : decode cX6_areSo 30 = .ok (.iconst 0, 1) := by decide +kernel
theorem d6_areSo_31 : decode cX6_areSo 31 = .ok (.ireturn, 1) := by decide +kernel
theorem d6_areSo_32 : decode cX6_areSo 32 = .ok (.iinc 2 1, 3) := by decide +kernel
theorem d6_areSo_35 : decode cX6_areSo 35 = .ok (.goto (-23), 3) := by decide +kernel
theorem d6_areSo_38 : decode cX6_areSo 38 = .ok (.iconst 1, 1) := by decide +kernel
theorem d6_areSo_39 : decode cX6_areSo 39 = .ok (.ireturn, 1) := by decide +kernel
noncomputable def f6_areSo_L12 {α : Type} (c1 : Int32) (K : Int32 → MS → Option α) (KX : Int32 → MS → Option α) : Nat → Int32 → MS → Option α
  | 0, _, _ => none
  | n + 1, v2, S => if (S.1 0 34) ≤ v2 then (KX v2 S) else (ck v2 8 fun k3 => if (S.1 21 k3) = c1 then (nm (v2 + 1) fun x2_4 => f6_areSo_L12 c1 K KX n x2_4 S) else (K 0 S))
noncomputable def f6_areSo {α : Type} (S : MS) (K : Int32 → MS → Option α) : Option α := f6_measured (S.1 0 14) 0 S fun r2 S1 => f6_areSo_L12 r2 K (fun v2_6 S5 => K 1 S5) FU 0 S1
set_option maxHeartbeats 4000000 in
set_option maxRecDepth 100000 in
theorem l6_areSo_12 {α : Type} {X : GX α} (O : OK 22 X RX6 cX6_areSo 3 (some .boolean) (rmG 3 70)) {K : Int32 → MS → Option α} (hQ : RtI 22 eM X K) {c1 : Int32} {KX : Int32 → MS → Option α} (hX : ∀ v2 S, GM 22 eM X (KX v2 S) S 38 [(0, .ref (aX X 0)), (1, .int c1), (2, .int v2)] []) : ∀ n v2 S, GM 22 eM X (f6_areSo_L12 c1 K KX n v2 S) S 12 [(0, .ref (aX X 0)), (1, .int c1), (2, .int v2)] [] := by
  intro n
  induction n with
  | zero => intro v2 S; exact r_none
  | succ n ih =>
    intro v2 S
    rw [f6_areSo_L12]
    refine r_iload_n O d6_areSo_12 2 rfl ?_
    refine r_aload_n O d6_areSo_13 0 rfl ?_
    refine g_X6_147 O d6_areSo_14 ?_
    refine r_icmp_ge O 38 d6_areSo_17 (by decide) ?_ ?_
    · refine r_sub [0, 1, 2] rfl ?_
      exact hX _ _
    · refine r_aload_n O d6_areSo_20 0 rfl ?_
      refine g_X6_72 O d6_areSo_21 ?_
      refine r_iload_n O d6_areSo_24 2 rfl ?_
      refine r_iald O (j := 21) (by decide) eM_21 d6_areSo_25 (fun k3 hk3 => ?_)
      refine r_iload_n O d6_areSo_26 1 rfl ?_
      refine r_icmp_eq O 32 d6_areSo_27 (by decide) ?_ ?_
      · refine r_iinc O d6_areSo_32 2 (c0 := 1) rfl (by decide) (fun x2_4 => [(2, .int x2_4), (0, .ref (aX X 0)), (1, .int c1)]) (by decide) (fun _ => rfl) (fun x2_4 => ?_)
        refine r_goto O 12 d6_areSo_35 (by decide) ?_
        refine r_sub [1, 2, 0] rfl ?_
        exact ih _ _
      · refine r_iconst O d6_areSo_30 (v := 0) (by decide) ?_
        exact r_zret O hQ (by decide) d6_areSo_31
set_option maxHeartbeats 4000000 in
set_option maxRecDepth 100000 in
theorem c6_areSo (l : Launch) (S : MS) {α : Type} : CtI 22 eM l yX6_areSo cX6_areSo 3 (some .boolean) (rmG 3 70) S (fun ad => [.ref (ad 0)]) (α := α) (f6_areSo S) := by
  refine CtI.of (by decide) (fun _ => Nat.le_of_ble_eq_true rfl) (fun X K _ O hQ => ?_)
  have O : OK 22 X RX6 cX6_areSo 3 (some .boolean) (rmG 3 70) := O
  show GM 22 eM X (f6_areSo S K) S 0 [(0, .ref (aX X 0))] []
  unfold f6_areSo
  refine r_aload_n O d6_areSo_0 0 rfl ?_
  refine r_aload_n O d6_areSo_1 0 rfl ?_
  refine g_X6_141 O d6_areSo_2 ?_
  refine r_iconst O d6_areSo_5 (v := 0) (by decide) ?_
  refine r_callVi O (b := 0) (bv := fun ad => [.int (S.1 0 14), .int 0]) (rest := []) (c6_measured (lX X) (S.1 0 14) 0 S) (fun _ => rfl) (by decide) eM_0 rfl rfl w_850 w_852 w_31 w_51 w_853 hy_X6_measured ⟨rfl, rfl, Nat.le_of_ble_eq_true rfl, Nat.le_of_ble_eq_true rfl⟩ rfl rfl (Nat.le_of_ble_eq_true rfl) d6_areSo_6 (fun r2 S1 => ?_)
  refine r_istore_n O d6_areSo_9 [(1, .int r2), (0, .ref (aX X 0))] (by decide) rfl ?_
  refine r_iconst O d6_areSo_10 (v := 0) (by decide) ?_
  refine r_istore_n O d6_areSo_11 [(2, .int 0), (1, .int r2), (0, .ref (aX X 0))] (by decide) rfl ?_
  refine r_sub [2, 1, 0] rfl ?_
  refine l6_areSo_12 O hQ (fun v2_6 S5 => ?_) _ _ _
  refine r_iconst O d6_areSo_38 (v := 1) (by decide) ?_
  exact r_zret O hQ (by decide) d6_areSo_39
-- X6.kinds
theorem d6_kinds_0 : decode cX6_kinds 0 = .ok (.aload_n 0, 1) := by decide +kernel
theorem d6_kinds_1 : decode cX6_kinds 1 = .ok (.iload_n 1, 1) := by decide +kernel
theorem d6_kinds_2 : decode cX6_kinds 2 = .ok (.invokevirtual 154, 3) := by decide +kernel
theorem d6_kinds_5 : decode cX6_kinds 5 = .ok (.ifCond .ne 5, 3) := by decide +kernel
theorem d6_kinds_8 : decode cX6_kinds 8 = .ok (.iconst (-1), 1) := by decide +kernel
theorem d6_kinds_9 : decode cX6_kinds 9 = .ok (.ireturn, 1) := by decide +kernel
theorem d6_kinds_10 : decode cX6_kinds 10 = .ok (.aload_n 0, 1) := by decide +kernel
theorem d6_kinds_11 : decode cX6_kinds 11 = .ok (.getfield 22, 3) := by decide +kernel
theorem d6_kinds_14 : decode cX6_kinds 14 = .ok (.iload_n 1, 1) := by decide +kernel
theorem d6_kinds_15 : decode cX6_kinds 15 = .ok (.iaload, 1) := by decide +kernel
theorem d6_kinds_16 : decode cX6_kinds 16 = .ok (.istore_n 2, 1) := by decide +kernel
theorem d6_kinds_17 : decode cX6_kinds 17 = .ok (.iconst 0, 1) := by decide +kernel
theorem d6_kinds_18 : decode cX6_kinds 18 = .ok (.istore_n 3, 1) := by decide +kernel
theorem d6_kinds_19 : decode cX6_kinds 19 = .ok (.iconst 0, 1) := by decide +kernel
theorem d6_kinds_20 : decode cX6_kinds 20 = .ok (.istore 4, 2) := by decide +kernel
theorem d6_kinds_22 : decode cX6_kinds 22 = .ok (.iload 4, 2) := by decide +kernel
theorem d6_kinds_24 : decode cX6_kinds 24 = .ok (.iconst 3, 1) := by decide +kernel
theorem d6_kinds_25 : decode cX6_kinds 25 = .ok (.if_icmp .ge 35, 3) := by decide +kernel
theorem d6_kinds_28 : decode cX6_kinds 28 = .ok (.aload_n 0, 1) := by decide +kernel
theorem d6_kinds_29 : decode cX6_kinds 29 = .ok (.getfield 22, 3) := by decide +kernel
theorem d6_kinds_32 : decode cX6_kinds 32 = .ok (.iload_n 1, 1) := by decide +kernel
theorem d6_kinds_33 : decode cX6_kinds 33 = .ok (.iload 4, 2) := by decide +kernel
theorem d6_kinds_35 : decode cX6_kinds 35 = .ok (.iastore, 1) := by decide +kernel
theorem d6_kinds_36 : decode cX6_kinds 36 = .ok (.iload_n 3, 1) := by decide +kernel
theorem d6_kinds_37 : decode cX6_kinds 37 = .ok (.aload_n 0, 1) := by decide +kernel
theorem d6_kinds_38 : decode cX6_kinds 38 = .ok (.invokevirtual 249, 3) := by decide +kernel
theorem d6_kinds_41 : decode cX6_kinds 41 = .ok (.ifCond .eq 10, 3) := by decide +kernel
theorem d6_kinds_44 : decode cX6_kinds 44 = .ok (.iconst 1, 1) := by decide +kernel
theorem d6_kinds_45 : decode cX6_kinds 45 = .ok (.iload 4, 2) := by decide +kernel
theorem d6_kinds_47 : decode cX6_kinds 47 = .ok (.ishl, 1) := by decide +kernel
theorem d6_kinds_48 : decode cX6_kinds 48 = .ok (.goto 4, 3) := by decide +kernel
theorem d6_kinds_51 : decode cX6_kinds 51 = .ok (.iconst 0, 1) := by decide +kernel
theorem d6_kinds_52 : decode cX6_kinds 52 = .ok (.ior, 1) := by decide +kernel
theorem d6_kinds_53 : decode cX6_kinds 53 = .ok (.istore_n 3, 1) := by decide +kernel
theorem d6_kinds_54 : decode cX6_kinds 54 = .ok (.iinc 4 1, 3) := by decide +kernel
theorem d6_kinds_57 : decode cX6_kinds 57 = .ok (.goto (-35), 3) := by decide +kernel
theorem d6_kinds_60 : decode cX6_kinds 60 = .ok (.aload_n 0, 1) := by decide +kernel
theorem d6_kinds_61 : decode cX6_kinds 61 = .ok (.getfield 22, 3) := by decide +kernel
theorem d6_kinds_64 : decode cX6_kinds 64 = .ok (.iload_n 1, 1) := by decide +kernel
theorem d6_kinds_65 : decode cX6_kinds 65 = .ok (.iload_n 2, 1) := by decide +kernel
theorem d6_kinds_66 : decode cX6_kinds 66 = .ok (.iastore, 1) := by decide +kernel
theorem d6_kinds_67 : decode cX6_kinds 67 = .ok (.iload_n 3, 1) := by decide +kernel
theorem d6_kinds_68 : decode cX6_kinds 68 = .ok (.ireturn, 1) := by decide +kernel
noncomputable def f6_kinds_L22 {α : Type} (c1 : Int32) (c2 : Int32) (KX : Int32 → Int32 → MS → Option α) : Nat → Int32 → Int32 → MS → Option α
  | 0, _, _, _ => none
  | n + 1, v3, v4, S => if 3 ≤ v4 then (KX v3 v4 S) else (ck c1 6 fun k5 => nm (sI S 5 k5 v4) fun S6 => f6_areSo S6 fun r8 S7 => if r8 = 0 then (nm (v3 ||| 0) fun x3_9 => nm (v4 + 1) fun x4_10 => f6_kinds_L22 c1 c2 KX n x3_9 x4_10 S7) else (nm (v3 ||| ((1 : Int32) <<< (v4 &&& 31))) fun x3_11 => nm (v4 + 1) fun x4_12 => f6_kinds_L22 c1 c2 KX n x3_11 x4_12 S7))
noncomputable def f6_kinds {α : Type} (p1 : Int32) (S : MS) (K : Int32 → MS → Option α) : Option α := f6_isTank p1 S fun r2 S1 => if r2 = 0 then (K (-1) S1) else (ck p1 6 fun k3 => nm (S1.1 5 k3) fun x2_4 => f6_kinds_L22 p1 x2_4 (fun v3_14 v4_15 S13 => ck p1 6 fun k16 => nm (sI S13 5 k16 x2_4) fun S17 => K v3_14 S17) FU 0 0 S1)
set_option maxHeartbeats 4000000 in
set_option maxRecDepth 100000 in
theorem l6_kinds_22 {α : Type} {X : GX α} (O : OK 22 X RX6 cX6_kinds 5 (some .int) (rmG 4 92)) {c1 : Int32} {c2 : Int32} {KX : Int32 → Int32 → MS → Option α} (hX : ∀ v3 v4 S, GM 22 eM X (KX v3 v4 S) S 60 [(0, .ref (aX X 0)), (1, .int c1), (2, .int c2), (3, .int v3), (4, .int v4)] []) : ∀ n v3 v4 S, GM 22 eM X (f6_kinds_L22 c1 c2 KX n v3 v4 S) S 22 [(0, .ref (aX X 0)), (1, .int c1), (2, .int c2), (3, .int v3), (4, .int v4)] [] := by
  intro n
  induction n with
  | zero => intro v3 v4 S; exact r_none
  | succ n ih =>
    intro v3 v4 S
    rw [f6_kinds_L22]
    refine r_iload O d6_kinds_22 4 rfl ?_
    refine r_iconst O d6_kinds_24 (v := 3) (by decide) ?_
    refine r_icmp_ge O 60 d6_kinds_25 (by decide) ?_ ?_
    · refine r_sub [0, 1, 2, 3, 4] rfl ?_
      exact hX _ _ _
    · refine r_aload_n O d6_kinds_28 0 rfl ?_
      refine g_X6_22 O d6_kinds_29 ?_
      refine r_iload_n O d6_kinds_32 1 rfl ?_
      refine r_iload O d6_kinds_33 4 rfl ?_
      refine r_iast O (j := 5) (by decide) (fun _ => eM_5) d6_kinds_35 (fun S6 => ?_)
      refine r_iload_n O d6_kinds_36 3 rfl ?_
      refine r_aload_n O d6_kinds_37 0 rfl ?_
      refine r_callVi O (b := 0) (bv := fun ad => []) (rest := [.int v3]) (c6_areSo (lX X) S6) (fun _ => rfl) (by decide) eM_0 rfl rfl w_941 w_943 w_41 w_51 w_944 hy_X6_areSo ⟨rfl, rfl, Nat.le_of_ble_eq_true rfl, Nat.le_of_ble_eq_true rfl⟩ rfl rfl (Nat.le_of_ble_eq_true rfl) d6_kinds_38 (fun r8 S7 => ?_)
      refine r_if_eq O 51 d6_kinds_41 (by decide) ?_ ?_
      · refine r_iconst O d6_kinds_51 (v := 0) (by decide) ?_
        refine r_ior O d6_kinds_52 ?_
        refine r_istore_n_nm O d6_kinds_53 (fun x3_9 => [(3, .int x3_9), (0, .ref (aX X 0)), (1, .int c1), (2, .int c2), (4, .int v4)]) (by decide) (fun _ => rfl) (fun x3_9 => ?_)
        refine r_iinc O d6_kinds_54 4 (c0 := 1) rfl (by decide) (fun x4_10 => [(4, .int x4_10), (3, .int x3_9), (0, .ref (aX X 0)), (1, .int c1), (2, .int c2)]) (by decide) (fun _ => rfl) (fun x4_10 => ?_)
        refine r_goto O 22 d6_kinds_57 (by decide) ?_
        refine r_sub [2, 3, 4, 1, 0] rfl ?_
        exact ih _ _ _
      · refine r_iconst O d6_kinds_44 (v := 1) (by decide) ?_
        refine r_iload O d6_kinds_45 4 rfl ?_
        refine r_ishl O d6_kinds_47 ?_
        refine r_goto O 52 d6_kinds_48 (by decide) ?_
        refine r_ior O d6_kinds_52 ?_
        refine r_istore_n_nm O d6_kinds_53 (fun x3_11 => [(3, .int x3_11), (0, .ref (aX X 0)), (1, .int c1), (2, .int c2), (4, .int v4)]) (by decide) (fun _ => rfl) (fun x3_11 => ?_)
        refine r_iinc O d6_kinds_54 4 (c0 := 1) rfl (by decide) (fun x4_12 => [(4, .int x4_12), (3, .int x3_11), (0, .ref (aX X 0)), (1, .int c1), (2, .int c2)]) (by decide) (fun _ => rfl) (fun x4_12 => ?_)
        refine r_goto O 22 d6_kinds_57 (by decide) ?_
        refine r_sub [2, 3, 4, 1, 0] rfl ?_
        exact ih _ _ _
set_option maxHeartbeats 4000000 in
set_option maxRecDepth 100000 in
theorem c6_kinds (l : Launch) (p1 : Int32) (S : MS) {α : Type} : CtI 22 eM l yX6_kinds cX6_kinds 5 (some .int) (rmG 4 92) S (fun ad => [.ref (ad 0), .int p1]) (α := α) (f6_kinds p1 S) := by
  refine CtI.of (by decide) (fun _ => Nat.le_of_ble_eq_true rfl) (fun X K _ O hQ => ?_)
  have O : OK 22 X RX6 cX6_kinds 5 (some .int) (rmG 4 92) := O
  show GM 22 eM X (f6_kinds p1 S K) S 0 [(0, .ref (aX X 0)), (1, .int p1)] []
  unfold f6_kinds
  refine r_aload_n O d6_kinds_0 0 rfl ?_
  refine r_iload_n O d6_kinds_1 1 rfl ?_
  refine r_callVi O (b := 0) (bv := fun ad => [.int p1]) (rest := []) (c6_isTank (lX X) p1 S) (fun _ => rfl) (by decide) eM_0 rfl rfl w_797 w_799 w_24 w_51 w_800 hy_X6_isTank ⟨rfl, rfl, Nat.le_of_ble_eq_true rfl, Nat.le_of_ble_eq_true rfl⟩ rfl rfl (Nat.le_of_ble_eq_true rfl) d6_kinds_2 (fun r2 S1 => ?_)
  refine r_if_ne O 10 d6_kinds_5 (by decide) ?_ ?_
  · refine r_aload_n O d6_kinds_10 0 rfl ?_
    refine g_X6_22 O d6_kinds_11 ?_
    refine r_iload_n O d6_kinds_14 1 rfl ?_
    refine r_iald O (j := 5) (by decide) eM_5 d6_kinds_15 (fun k3 hk3 => ?_)
    refine r_istore_n_nm O d6_kinds_16 (fun x2_4 => [(2, .int x2_4), (0, .ref (aX X 0)), (1, .int p1)]) (by decide) (fun _ => rfl) (fun x2_4 => ?_)
    refine r_iconst O d6_kinds_17 (v := 0) (by decide) ?_
    refine r_istore_n O d6_kinds_18 [(3, .int 0), (2, .int x2_4), (0, .ref (aX X 0)), (1, .int p1)] (by decide) rfl ?_
    refine r_iconst O d6_kinds_19 (v := 0) (by decide) ?_
    refine r_istore O d6_kinds_20 [(4, .int 0), (3, .int 0), (2, .int x2_4), (0, .ref (aX X 0)), (1, .int p1)] (by decide) rfl ?_
    refine r_sub [3, 4, 2, 1, 0] rfl ?_
    refine l6_kinds_22 O (fun v3_14 v4_15 S13 => ?_) _ _ _ _
    refine r_aload_n O d6_kinds_60 0 rfl ?_
    refine g_X6_22 O d6_kinds_61 ?_
    refine r_iload_n O d6_kinds_64 1 rfl ?_
    refine r_iload_n O d6_kinds_65 2 rfl ?_
    refine r_iast O (j := 5) (by decide) (fun _ => eM_5) d6_kinds_66 (fun S17 => ?_)
    refine r_iload_n O d6_kinds_67 3 rfl ?_
    exact r_iret O hQ d6_kinds_68
  · refine r_iconst O d6_kinds_8 (v := (-1)) (by decide) ?_
    exact r_iret O hQ d6_kinds_9
-- X6.masses
theorem d6_masses_0 : decode cX6_masses 0 = .ok (.aload_n 0, 1) := by decide +kernel
theorem d6_masses_1 : decode cX6_masses 1 = .ok (.iload_n 1, 1) := by decide +kernel
theorem d6_masses_2 : decode cX6_masses 2 = .ok (.invokevirtual 154, 3) := by decide +kernel
theorem d6_masses_5 : decode cX6_masses 5 = .ok (.ifCond .ne 5, 3) := by decide +kernel
theorem d6_masses_8 : decode cX6_masses 8 = .ok (.iconst (-1), 1) := by decide +kernel
theorem d6_masses_9 : decode cX6_masses 9 = .ok (.ireturn, 1) := by decide +kernel
theorem d6_masses_10 : decode cX6_masses 10 = .ok (.aload_n 0, 1) := by decide +kernel
theorem d6_masses_11 : decode cX6_masses 11 = .ok (.getfield 31, 3) := by decide +kernel
theorem d6_masses_14 : decode cX6_masses 14 = .ok (.iload_n 1, 1) := by decide +kernel
theorem d6_masses_15 : decode cX6_masses 15 = .ok (.iaload, 1) := by decide +kernel
theorem d6_masses_16 : decode cX6_masses 16 = .ok (.istore_n 2, 1) := by decide +kernel
theorem d6_masses_17 : decode cX6_masses 17 = .ok (.iconst 0, 1) := by decide +kernel
theorem d6_masses_18 : decode cX6_masses 18 = .ok (.istore_n 3, 1) := by decide +kernel
theorem d6_masses_19 : decode cX6_masses 19 = .ok (.iconst 1, 1) := by decide +kernel
theorem d6_masses_20 : decode cX6_masses 20 = .ok (.istore 4, 2) := by decide +kernel
theorem d6_masses_22 : decode cX6_masses 22 = .ok (.iload 4, 2) := by decide +kernel
theorem d6_masses_24 : decode cX6_masses 24 = .ok (.bipush 9, 2) := by decide +kernel
theorem d6_masses_26 : decode cX6_masses 26 = .ok (.if_icmp .gt 35, 3) := by decide +kernel
theorem d6_masses_29 : decode cX6_masses 29 = .ok (.aload_n 0, 1) := by decide +kernel
theorem d6_masses_30 : decode cX6_masses 30 = .ok (.getfield 31, 3) := by decide +kernel
theorem d6_masses_33 : decode cX6_masses 33 = .ok (.iload_n 1, 1) := by decide +kernel
theorem d6_masses_34 : decode cX6_masses 34 = .ok (.iload 4, 2) := by decide +kernel
theorem d6_masses_36 : decode cX6_masses 36 = .ok (.iastore, 1) := by decide +kernel
theorem d6_masses_37 : decode cX6_masses 37 = .ok (.iload_n 3, 1) := by decide +kernel
theorem d6_masses_38 : decode cX6_masses 38 = .ok (.aload_n 0, 1) := by decide +kernel
theorem d6_masses_39 : decode cX6_masses 39 = .ok (.invokevirtual 249, 3) := by decide +kernel
theorem d6_masses_42 : decode cX6_masses 42 = .ok (.ifCond .eq 10, 3) := by decide +kernel
theorem d6_masses_45 : decode cX6_masses 45 = .ok (.iconst 1, 1) := by decide +kernel
theorem d6_masses_46 : decode cX6_masses 46 = .ok (.iload 4, 2) := by decide +kernel
theorem d6_masses_48 : decode cX6_masses 48 = .ok (.ishl, 1) := by decide +kernel
theorem d6_masses_49 : decode cX6_masses 49 = .ok (.goto 4, 3) := by decide +kernel
theorem d6_masses_52 : decode cX6_masses 52 = .ok (.iconst 0, 1) := by decide +kernel
theorem d6_masses_53 : decode cX6_masses 53 = .ok (.ior, 1) := by decide +kernel
theorem d6_masses_54 : decode cX6_masses 54 = .ok (.istore_n 3, 1) := by decide +kernel
theorem d6_masses_55 : decode cX6_masses 55 = .ok (.iinc 4 1, 3) := by decide +kernel
theorem d6_masses_58 : decode cX6_masses 58 = .ok (.goto (-36), 3) := by decide +kernel
theorem d6_masses_61 : decode cX6_masses 61 = .ok (.aload_n 0, 1) := by decide +kernel
theorem d6_masses_62 : decode cX6_masses 62 = .ok (.getfield 31, 3) := by decide +kernel
theorem d6_masses_65 : decode cX6_masses 65 = .ok (.iload_n 1, 1) := by decide +kernel
theorem d6_masses_66 : decode cX6_masses 66 = .ok (.iload_n 2, 1) := by decide +kernel
theorem d6_masses_67 : decode cX6_masses 67 = .ok (.iastore, 1) := by decide +kernel
theorem d6_masses_68 : decode cX6_masses 68 = .ok (.iload_n 3, 1) := by decide +kernel
theorem d6_masses_69 : decode cX6_masses 69 = .ok (.ireturn, 1) := by decide +kernel
noncomputable def f6_masses_L22 {α : Type} (c1 : Int32) (c2 : Int32) (KX : Int32 → Int32 → MS → Option α) : Nat → Int32 → Int32 → MS → Option α
  | 0, _, _, _ => none
  | n + 1, v3, v4, S => if 9 < v4 then (KX v3 v4 S) else (ck c1 6 fun k5 => nm (sI S 8 k5 v4) fun S6 => f6_areSo S6 fun r8 S7 => if r8 = 0 then (nm (v3 ||| 0) fun x3_9 => nm (v4 + 1) fun x4_10 => f6_masses_L22 c1 c2 KX n x3_9 x4_10 S7) else (nm (v3 ||| ((1 : Int32) <<< (v4 &&& 31))) fun x3_11 => nm (v4 + 1) fun x4_12 => f6_masses_L22 c1 c2 KX n x3_11 x4_12 S7))
noncomputable def f6_masses {α : Type} (p1 : Int32) (S : MS) (K : Int32 → MS → Option α) : Option α := f6_isTank p1 S fun r2 S1 => if r2 = 0 then (K (-1) S1) else (ck p1 6 fun k3 => nm (S1.1 8 k3) fun x2_4 => f6_masses_L22 p1 x2_4 (fun v3_14 v4_15 S13 => ck p1 6 fun k16 => nm (sI S13 8 k16 x2_4) fun S17 => K v3_14 S17) FU 0 1 S1)
set_option maxHeartbeats 4000000 in
set_option maxRecDepth 100000 in
theorem l6_masses_22 {α : Type} {X : GX α} (O : OK 22 X RX6 cX6_masses 5 (some .int) (rmG 4 92)) {c1 : Int32} {c2 : Int32} {KX : Int32 → Int32 → MS → Option α} (hX : ∀ v3 v4 S, GM 22 eM X (KX v3 v4 S) S 61 [(0, .ref (aX X 0)), (1, .int c1), (2, .int c2), (3, .int v3), (4, .int v4)] []) : ∀ n v3 v4 S, GM 22 eM X (f6_masses_L22 c1 c2 KX n v3 v4 S) S 22 [(0, .ref (aX X 0)), (1, .int c1), (2, .int c2), (3, .int v3), (4, .int v4)] [] := by
  intro n
  induction n with
  | zero => intro v3 v4 S; exact r_none
  | succ n ih =>
    intro v3 v4 S
    rw [f6_masses_L22]
    refine r_iload O d6_masses_22 4 rfl ?_
    refine r_bipush O d6_masses_24 (v := 9) (by decide) ?_
    refine r_icmp_gt O 61 d6_masses_26 (by decide) ?_ ?_
    · refine r_sub [0, 1, 2, 3, 4] rfl ?_
      exact hX _ _ _
    · refine r_aload_n O d6_masses_29 0 rfl ?_
      refine g_X6_31 O d6_masses_30 ?_
      refine r_iload_n O d6_masses_33 1 rfl ?_
      refine r_iload O d6_masses_34 4 rfl ?_
      refine r_iast O (j := 8) (by decide) (fun _ => eM_8) d6_masses_36 (fun S6 => ?_)
      refine r_iload_n O d6_masses_37 3 rfl ?_
      refine r_aload_n O d6_masses_38 0 rfl ?_
      refine r_callVi O (b := 0) (bv := fun ad => []) (rest := [.int v3]) (c6_areSo (lX X) S6) (fun _ => rfl) (by decide) eM_0 rfl rfl w_941 w_943 w_41 w_51 w_944 hy_X6_areSo ⟨rfl, rfl, Nat.le_of_ble_eq_true rfl, Nat.le_of_ble_eq_true rfl⟩ rfl rfl (Nat.le_of_ble_eq_true rfl) d6_masses_39 (fun r8 S7 => ?_)
      refine r_if_eq O 52 d6_masses_42 (by decide) ?_ ?_
      · refine r_iconst O d6_masses_52 (v := 0) (by decide) ?_
        refine r_ior O d6_masses_53 ?_
        refine r_istore_n_nm O d6_masses_54 (fun x3_9 => [(3, .int x3_9), (0, .ref (aX X 0)), (1, .int c1), (2, .int c2), (4, .int v4)]) (by decide) (fun _ => rfl) (fun x3_9 => ?_)
        refine r_iinc O d6_masses_55 4 (c0 := 1) rfl (by decide) (fun x4_10 => [(4, .int x4_10), (3, .int x3_9), (0, .ref (aX X 0)), (1, .int c1), (2, .int c2)]) (by decide) (fun _ => rfl) (fun x4_10 => ?_)
        refine r_goto O 22 d6_masses_58 (by decide) ?_
        refine r_sub [2, 3, 4, 1, 0] rfl ?_
        exact ih _ _ _
      · refine r_iconst O d6_masses_45 (v := 1) (by decide) ?_
        refine r_iload O d6_masses_46 4 rfl ?_
        refine r_ishl O d6_masses_48 ?_
        refine r_goto O 53 d6_masses_49 (by decide) ?_
        refine r_ior O d6_masses_53 ?_
        refine r_istore_n_nm O d6_masses_54 (fun x3_11 => [(3, .int x3_11), (0, .ref (aX X 0)), (1, .int c1), (2, .int c2), (4, .int v4)]) (by decide) (fun _ => rfl) (fun x3_11 => ?_)
        refine r_iinc O d6_masses_55 4 (c0 := 1) rfl (by decide) (fun x4_12 => [(4, .int x4_12), (3, .int x3_11), (0, .ref (aX X 0)), (1, .int c1), (2, .int c2)]) (by decide) (fun _ => rfl) (fun x4_12 => ?_)
        refine r_goto O 22 d6_masses_58 (by decide) ?_
        refine r_sub [2, 3, 4, 1, 0] rfl ?_
        exact ih _ _ _
set_option maxHeartbeats 4000000 in
set_option maxRecDepth 100000 in
theorem c6_masses (l : Launch) (p1 : Int32) (S : MS) {α : Type} : CtI 22 eM l yX6_masses cX6_masses 5 (some .int) (rmG 4 92) S (fun ad => [.ref (ad 0), .int p1]) (α := α) (f6_masses p1 S) := by
  refine CtI.of (by decide) (fun _ => Nat.le_of_ble_eq_true rfl) (fun X K _ O hQ => ?_)
  have O : OK 22 X RX6 cX6_masses 5 (some .int) (rmG 4 92) := O
  show GM 22 eM X (f6_masses p1 S K) S 0 [(0, .ref (aX X 0)), (1, .int p1)] []
  unfold f6_masses
  refine r_aload_n O d6_masses_0 0 rfl ?_
  refine r_iload_n O d6_masses_1 1 rfl ?_
  refine r_callVi O (b := 0) (bv := fun ad => [.int p1]) (rest := []) (c6_isTank (lX X) p1 S) (fun _ => rfl) (by decide) eM_0 rfl rfl w_797 w_799 w_24 w_51 w_800 hy_X6_isTank ⟨rfl, rfl, Nat.le_of_ble_eq_true rfl, Nat.le_of_ble_eq_true rfl⟩ rfl rfl (Nat.le_of_ble_eq_true rfl) d6_masses_2 (fun r2 S1 => ?_)
  refine r_if_ne O 10 d6_masses_5 (by decide) ?_ ?_
  · refine r_aload_n O d6_masses_10 0 rfl ?_
    refine g_X6_31 O d6_masses_11 ?_
    refine r_iload_n O d6_masses_14 1 rfl ?_
    refine r_iald O (j := 8) (by decide) eM_8 d6_masses_15 (fun k3 hk3 => ?_)
    refine r_istore_n_nm O d6_masses_16 (fun x2_4 => [(2, .int x2_4), (0, .ref (aX X 0)), (1, .int p1)]) (by decide) (fun _ => rfl) (fun x2_4 => ?_)
    refine r_iconst O d6_masses_17 (v := 0) (by decide) ?_
    refine r_istore_n O d6_masses_18 [(3, .int 0), (2, .int x2_4), (0, .ref (aX X 0)), (1, .int p1)] (by decide) rfl ?_
    refine r_iconst O d6_masses_19 (v := 1) (by decide) ?_
    refine r_istore O d6_masses_20 [(4, .int 1), (3, .int 0), (2, .int x2_4), (0, .ref (aX X 0)), (1, .int p1)] (by decide) rfl ?_
    refine r_sub [3, 4, 2, 1, 0] rfl ?_
    refine l6_masses_22 O (fun v3_14 v4_15 S13 => ?_) _ _ _ _
    refine r_aload_n O d6_masses_61 0 rfl ?_
    refine g_X6_31 O d6_masses_62 ?_
    refine r_iload_n O d6_masses_65 1 rfl ?_
    refine r_iload_n O d6_masses_66 2 rfl ?_
    refine r_iast O (j := 8) (by decide) (fun _ => eM_8) d6_masses_67 (fun S17 => ?_)
    refine r_iload_n O d6_masses_68 3 rfl ?_
    exact r_iret O hQ d6_masses_69
  · refine r_iconst O d6_masses_8 (v := (-1)) (by decide) ?_
    exact r_iret O hQ d6_masses_9
-- X6.inLeastTerms
theorem d6_inLeastTerms_0 : decode cX6_inLeastTerms 0 = .ok (.iload_n 0, 1) := by decide +kernel
theorem d6_inLeastTerms_1 : decode cX6_inLeastTerms 1 = .ok (.istore_n 3, 1) := by decide +kernel
theorem d6_inLeastTerms_2 : decode cX6_inLeastTerms 2 = .ok (.iload_n 1, 1) := by decide +kernel
theorem d6_inLeastTerms_3 : decode cX6_inLeastTerms 3 = .ok (.istore 4, 2) := by decide +kernel
theorem d6_inLeastTerms_5 : decode cX6_inLeastTerms 5 = .ok (.iload 4, 2) := by decide +kernel
theorem d6_inLeastTerms_7 : decode cX6_inLeastTerms 7 = .ok (.ifCond .eq 19, 3) := by decide +kernel
theorem d6_inLeastTerms_10 : decode cX6_inLeastTerms 10 = .ok (.iload_n 3, 1) := by decide +kernel
theorem d6_inLeastTerms_11 : decode cX6_inLeastTerms 11 = .ok (.iload 4, 2) := by decide +kernel
theorem d6_inLeastTerms_13 : decode cX6_inLeastTerms 13 = .ok (.irem, 1) := by decide +kernel
theorem d6_inLeastTerms_14 : decode cX6_inLeastTerms 14 = .ok (.istore 5, 2) := by decide +kernel
theorem d6_inLeastTerms_16 : decode cX6_inLeastTerms 16 = .ok (.iload 4, 2) := by decide +kernel
theorem d6_inLeastTerms_18 : decode cX6_inLeastTerms 18 = .ok (.istore_n 3, 1) := by decide +kernel
theorem d6_inLeastTerms_19 : decode cX6_inLeastTerms 19 = .ok (.iload 5, 2) := by decide +kernel
theorem d6_inLeastTerms_21 : decode cX6_inLeastTerms 21 = .ok (.istore 4, 2) := by decide +kernel
theorem d6_inLeastTerms_23 : decode cX6_inLeastTerms 23 = .ok (.goto (-18), 3) := by decide +kernel
theorem d6_inLeastTerms_26 : decode cX6_inLeastTerms 26 = .ok (.iload_n 2, 1) := by decide +kernel
theorem d6_inLeastTerms_27 : decode cX6_inLeastTerms 27 = .ok (.ifCond .ne 10, 3) := by decide +kernel
theorem d6_inLeastTerms_30 : decode cX6_inLeastTerms 30 = .ok (.iload_n 0, 1) := by decide +kernel
theorem d6_inLeastTerms_31 : decode cX6_inLeastTerms 31 = .ok (.iload_n 3, 1) := by decide +kernel
theorem d6_inLeastTerms_32 : decode cX6_inLeastTerms 32 = .ok (.idiv, 1) := by decide +kernel
theorem d6_inLeastTerms_33 : decode cX6_inLeastTerms 33 = .ok (.i2l, 1) := by decide +kernel
theorem d6_inLeastTerms_34 : decode cX6_inLeastTerms 34 = .ok (.goto 7, 3) := by decide +kernel
theorem d6_inLeastTerms_37 : decode cX6_inLeastTerms 37 = .ok (.iload_n 1, 1) := by decide +kernel
theorem d6_inLeastTerms_38 : decode cX6_inLeastTerms 38 = .ok (.iload_n 3, 1) := by decide +kernel
theorem d6_inLeastTerms_39 : decode cX6_inLeastTerms 39 = .ok (.idiv, 1) := by decide +kernel
theorem d6_inLeastTerms_40 : decode cX6_inLeastTerms 40 = .ok (.i2l, 1) := by decide +kernel
theorem d6_inLeastTerms_41 : decode cX6_inLeastTerms 41 = .ok (.lreturn, 1) := by decide +kernel
noncomputable def f6_inLeastTerms_L5 {α : Type} (c0 : Int32) (c1 : Int32) (c2 : Int32) (KX : Int32 → Int32 → MS → Option α) : Nat → Int32 → Int32 → MS → Option α
  | 0, _, _, _ => none
  | n + 1, v3, v4, S => if v4 = 0 then (KX v3 v4 S) else (dz v4 (nm (v3 - v3 / v4 * v4) fun x5_1 => f6_inLeastTerms_L5 c0 c1 c2 KX n v4 x5_1 S))
noncomputable def f6_inLeastTerms {α : Type} (p0 : Int32) (p1 : Int32) (p2 : Int32) (S : MS) (K : Int64 → MS → Option α) : Option α := f6_inLeastTerms_L5 p0 p1 p2 (fun v3_3 v4_4 S2 => if p2 = 0 then (dz v3_3 (K (Int32.toInt64 (p0 / v3_3)) S2)) else (dz v3_3 (K (Int32.toInt64 (p1 / v3_3)) S2))) FU p0 p1 S
set_option maxHeartbeats 4000000 in
set_option maxRecDepth 100000 in
theorem l6_inLeastTerms_5 {α : Type} {X : GX α} (O : OK 22 X RX6 cX6_inLeastTerms 6 (some .long) (rmG 0 0)) {c0 : Int32} {c1 : Int32} {c2 : Int32} {KX : Int32 → Int32 → MS → Option α} (hX : ∀ v3 v4 S, GM 22 eM X (KX v3 v4 S) S 26 [(0, .int c0), (1, .int c1), (2, .int c2), (3, .int v3), (4, .int v4)] []) : ∀ n v3 v4 S, GM 22 eM X (f6_inLeastTerms_L5 c0 c1 c2 KX n v3 v4 S) S 5 [(0, .int c0), (1, .int c1), (2, .int c2), (3, .int v3), (4, .int v4)] [] := by
  intro n
  induction n with
  | zero => intro v3 v4 S; exact r_none
  | succ n ih =>
    intro v3 v4 S
    rw [f6_inLeastTerms_L5]
    refine r_iload O d6_inLeastTerms_5 4 rfl ?_
    refine r_if_eq O 26 d6_inLeastTerms_7 (by decide) ?_ ?_
    · refine r_sub [0, 1, 2, 3, 4] rfl ?_
      exact hX _ _ _
    · refine r_iload_n O d6_inLeastTerms_10 3 rfl ?_
      refine r_iload O d6_inLeastTerms_11 4 rfl ?_
      refine r_irem O d6_inLeastTerms_13 ?_
      refine r_istore_nm O d6_inLeastTerms_14 (fun x5_1 => [(5, .int x5_1), (0, .int c0), (1, .int c1), (2, .int c2), (3, .int v3), (4, .int v4)]) (by decide) (fun _ => rfl) (fun x5_1 => ?_)
      refine r_iload O d6_inLeastTerms_16 5 rfl ?_
      refine r_istore_n O d6_inLeastTerms_18 [(3, .int v4), (5, .int x5_1), (0, .int c0), (1, .int c1), (2, .int c2), (4, .int v4)] (by decide) rfl ?_
      refine r_iload O d6_inLeastTerms_19 1 rfl ?_
      refine r_istore O d6_inLeastTerms_21 [(4, .int x5_1), (3, .int v4), (5, .int x5_1), (0, .int c0), (1, .int c1), (2, .int c2)] (by decide) rfl ?_
      refine r_goto O 5 d6_inLeastTerms_23 (by decide) ?_
      refine r_sub [3, 4, 5, 1, 0] rfl ?_
      exact ih _ _ _
set_option maxHeartbeats 4000000 in
set_option maxRecDepth 100000 in
theorem c6_inLeastTerms (l : Launch) (p0 : Int32) (p1 : Int32) (p2 : Int32) (S : MS) {α : Type} : CtL 22 eM l yX6_inLeastTerms cX6_inLeastTerms 6 (some .long) (rmG 0 0) S (fun ad => [.int p0, .int p1, .int p2]) (α := α) (f6_inLeastTerms p0 p1 p2 S) := by
  refine CtL.of (by decide) (fun _ => Nat.le_of_ble_eq_true rfl) (fun X K _ O hQ => ?_)
  have O : OK 22 X RX6 cX6_inLeastTerms 6 (some .long) (rmG 0 0) := O
  show GM 22 eM X (f6_inLeastTerms p0 p1 p2 S K) S 0 [(0, .int p0), (1, .int p1), (2, .int p2)] []
  unfold f6_inLeastTerms
  refine r_iload_n O d6_inLeastTerms_0 0 rfl ?_
  refine r_istore_n O d6_inLeastTerms_1 [(3, .int p0), (0, .int p0), (1, .int p1), (2, .int p2)] (by decide) rfl ?_
  refine r_iload_n O d6_inLeastTerms_2 2 rfl ?_
  refine r_istore O d6_inLeastTerms_3 [(4, .int p1), (3, .int p0), (0, .int p0), (1, .int p1), (2, .int p2)] (by decide) rfl ?_
  refine r_sub [2, 3, 4, 1, 0] rfl ?_
  refine l6_inLeastTerms_5 O (fun v3_3 v4_4 S2 => ?_) _ _ _ _
  refine r_iload_n O d6_inLeastTerms_26 2 rfl ?_
  refine r_if_ne O 37 d6_inLeastTerms_27 (by decide) ?_ ?_
  · refine r_iload_n O d6_inLeastTerms_37 1 rfl ?_
    refine r_iload_n O d6_inLeastTerms_38 3 rfl ?_
    refine r_idiv O d6_inLeastTerms_39 ?_
    refine r_i2l O d6_inLeastTerms_40 ?_
    exact r_lret O hQ d6_inLeastTerms_41
  · refine r_iload_n O d6_inLeastTerms_30 0 rfl ?_
    refine r_iload_n O d6_inLeastTerms_31 3 rfl ?_
    refine r_idiv O d6_inLeastTerms_32 ?_
    refine r_i2l O d6_inLeastTerms_33 ?_
    refine r_goto O 41 d6_inLeastTerms_34 (by decide) ?_
    exact r_lret O hQ d6_inLeastTerms_41
