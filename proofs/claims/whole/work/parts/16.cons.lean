/-! THE CONSTRUCTORS -/
theorem wG_D_of {N : Nat} {E : EG} {u : Nat → Nat} {S : MS} {A : Nat → Prop} {ws : va_W} (hD : va_D A ws) (pl : List Nat) (hn : va_nd pl = true) (h : ∀ j, j < N → ∃ i e, pl[j]? = some i ∧ ws[i]? = some (u j, e)) : va_D A (wG N E u S) := by
  refine ⟨fun i j p q hi hj hpq => ?_, fun k q hk => ?_⟩
  · obtain ⟨h1, rfl⟩ := wG_inv hi
    obtain ⟨h2, rfl⟩ := wG_inv hj
    obtain ⟨a, e1, p1, g1⟩ := h i h1
    obtain ⟨b, e2, p2, g2⟩ := h j h2
    have hab := hD.1 a b _ _ g1 g2 hpq
    subst hab
    exact va_nd_inj pl hn i j a p1 p2
  · obtain ⟨h1, rfl⟩ := wG_inv hk
    obtain ⟨a, e1, p1, g1⟩ := h k h1
    exact hD.2 a (u k, e1) g1
theorem arrV_same {cA : ClassId} {n : Nat} {f g : Nat → Value} (h : ∀ j, j < n → f j = g j) : arrV cA n f = arrV cA n g := by
  unfold arrV
  congr 1
  apply Array.ext
  · simp
  · intro i h1 h2
    simp at h1
    simp [h i h1]
theorem k_conv {X : GQ} {ws : va_W} {k n pc : Nat} {lv : List (Nat × Value)} {st : List Value} {a N' : Nat} {cA : ClassId} {f : Nat → Option Nat} (i : Nat) (g : Nat → Option Nat) (ws' : va_W) (he : ws[i]? = some (a, .inl (cA, N', .inr (.inr (.inr (.inr f)))))) (hfg : ∀ j, j < N' → f j = g j) (hw : ws.set i (a, .inl (cA, N', .inr (.inr (.inr (.inr g))))) = ws') (K : GC X ws' k n pc lv st) : GC X ws k n pc lv st := by
  obtain ⟨p, l, e, R, s, m, args, below, meth, c, Q, D, cy, A⟩ := X
  subst hw
  intro H locs ls h1 h2 h3 h4
  refine K H locs ls ?_ (h2.set he) h3 h4
  refine h1.set h2 he ?_ (fun _ _ => rfl)
  have h5 := h1 i _ he
  show H[a]? = some (vp_cell cA (N', .inr (.inr (.inr (.inr g)))))
  have h6 : H[a]? = some (vp_cell cA (N', .inr (.inr (.inr (.inr f))))) := h5
  rw [h6]
  exact congrArg some (arrV_same (f := fun j => va_rf (f j)) (g := fun j => va_rf (g j)) (fun j hj => by rw [hfg j hj]))
def S0X : MS := (fun j f => if j = 3 then (if f = 9 then -9 else 0) else if 16 ≤ j ∧ j < 20 then (if f = 1 then -1 else 0) else 0, fun _ _ => 0)
def S0M : MS := (fun j => if j = 1 then upd (upd (upd (upd (fun _ => 0) 0 (-9)) 1 (-9)) 2 (-9)) 3 (-9) else if j = 4 then upd (upd (upd (upd (upd (upd (upd (fun _ => 0) 0 1) 1 3) 2 9) 3 27) 4 81) 5 243) 6 729 else fun _ => 0, fun _ _ => 0)
def mk_X0 (cy : Nat → ClassId) (u : Nat → Nat) : va_W := [(u 0, .inr (0, [.ref (u 1), .int 0, .int 0, .int 0])), (u 1, .inl (cy 0, 7, .inl (fun _ => 0)))]
def mk_X1 (cy : Nat → ClassId) (u : Nat → Nat) : va_W := [(u 0, .inr (1, [.ref (u 1), .int (-1), .int 0])), (u 1, .inl (cy 0, 60, .inl (fun _ => 0)))]
def mk_X4 (cy : Nat → ClassId) (u : Nat → Nat) : va_W := [(u 0, .inr (4, [.int 0, .int 0, .int 0, .int 0]))]
def mk_X2 (cy : Nat → ClassId) (u : Nat → Nat) : va_W := [(u 0, .inr (2, [.ref (u 1), .ref (u 2), .ref (u 3), .ref (u 4), .ref (u 5), .ref (u 6), .ref (u 7), .int 0, .int 0, .int (-9)])), (u 1, .inl (cy 0, 729, .inl (fun _ => 0))), (u 2, .inl (cy 0, 729, .inl (fun _ => 0))), (u 3, .inl (cy 0, 729, .inl (fun _ => 0))), (u 4, .inl (cy 0, 729, .inl (fun _ => 0))), (u 5, .inl (cy 1, 729, .inr (.inl (fun _ => 0)))), (u 6, .inl (cy 2, 64, .inl (fun _ => 0))), (u 7, .inl (cy 0, 64, .inl (fun _ => 0)))]
def mk_X3 (cy : Nat → ClassId) (u : Nat → Nat) : va_W := [(u 0, .inr (3, [.ref (u 1), .ref (u 2), .ref (u 3), .int 0, .int 0, .int 0, .int 0])), (u 1, .inl (cy 4, 6, .inr (.inr (.inr (.inr (fun k => some (u (5 + k)))))))), (u 2, .inl (cy 0, 3, .inl (fun _ => 0))), (u 3, .inr (0, [.ref (u 4), .int 0, .int 0, .int 0])), (u 4, .inl (cy 0, 7, .inl (fun _ => 0))), (u 5, .inr (4, [.int 0, .int 0, .int 0, .int 0])), (u 6, .inr (4, [.int 0, .int 0, .int 0, .int 0])), (u 7, .inr (4, [.int 0, .int 0, .int 0, .int 0])), (u 8, .inr (4, [.int 0, .int 0, .int 0, .int 0])), (u 9, .inr (4, [.int 0, .int 0, .int 0, .int 0])), (u 10, .inr (4, [.int 0, .int 0, .int 0, .int 0]))]
def mk_X5 (cy : Nat → ClassId) (u : Nat → Nat) : va_W := wG 30 (eX cy) u S0X
def mk_X6 (cy : Nat → ClassId) (u : Nat → Nat) : va_W := wG 22 (eM cy) u S0M
theorem d0_init_0 : decode cX0_init 0 = .ok (.aload_n 0, 1) := by decide +kernel
theorem d0_init_1 : decode cX0_init 1 = .ok (.invokespecial 3, 3) := by decide +kernel
theorem d0_init_4 : decode cX0_init 4 = .ok (.aload_n 0, 1) := by decide +kernel
theorem d0_init_5 : decode cX0_init 5 = .ok (.bipush 7, 2) := by decide +kernel
theorem d0_init_7 : decode cX0_init 7 = .ok (.newarray .int, 2) := by decide +kernel
theorem d0_init_9 : decode cX0_init 9 = .ok (.putfield 9, 3) := by decide +kernel
theorem d0_init_12 : decode cX0_init 12 = .ok (.aload_n 0, 1) := by decide +kernel
theorem d0_init_13 : decode cX0_init 13 = .ok (.iconst 0, 1) := by decide +kernel
theorem d0_init_14 : decode cX0_init 14 = .ok (.putfield 15, 3) := by decide +kernel
theorem d0_init_17 : decode cX0_init 17 = .ok (.aload_n 0, 1) := by decide +kernel
theorem d0_init_18 : decode cX0_init 18 = .ok (.iconst 0, 1) := by decide +kernel
theorem d0_init_19 : decode cX0_init 19 = .ok (.putfield 19, 3) := by decide +kernel
theorem d0_init_22 : decode cX0_init 22 = .ok (.aload_n 0, 1) := by decide +kernel
theorem d0_init_23 : decode cX0_init 23 = .ok (.iconst 0, 1) := by decide +kernel
theorem d0_init_24 : decode cX0_init 24 = .ok (.putfield 22, 3) := by decide +kernel
theorem d0_init_27 : decode cX0_init 27 = .ok (.return_, 1) := by decide +kernel
set_option maxHeartbeats 4000000 in
set_option maxRecDepth 100000 in
theorem con_X0 (l : Launch) : CtC l yX0_init cX0_init 1 (rmC 1 13 1 7) (.inr (0, [.null, .int 0, .int 0, .int 0])) mk_X0 1 7 := by
  refine CtC.of (by decide) (by decide) rfl (fun X h _ O hQ => ?_)
  have O : OC X RX0 cX0_init 1 (rmC 1 13 1 7) := O
  refine k_aload_n O d0_init_0 0 rfl ?_
  refine k_obj O w_79 w_62 w_63 (by decide) (Nat.le_of_ble_eq_true rfl) d0_init_1 ?_
  refine k_aload_n O d0_init_4 0 rfl ?_
  refine k_bipush O d0_init_5 (v := 7) (by decide) ?_
  refine k_newa O (atype := .int) (ty := .int) 0 rfl rfl (fun _ h => by cases h) w_96 (N' := 7) (7, .inl (fun _ => 0)) (fun _ => rfl) (by decide) (by decide) (by decide) (by decide) (by decide) d0_init_7 (fun q0 => ?_)
  refine k_show [(h, .inr (0, [.null, .int 0, .int 0, .int 0])), (q0, .inl (qC X 0, 7, .inl (fun _ => 0)))] rfl ?_
  refine k_putF O (ci := 0) (f := 0) (ty := .array .int) 0 [(h, .inr (0, [.ref q0, .int 0, .int 0, .int 0])), (q0, .inl (qC X 0, 7, .inl (fun _ => 0)))] rfl in_X0 tyX0_ok nmX0 (by decide) w_80 rfl rfl rfl (by decide +kernel) rfl rfl (Nat.le_of_ble_eq_true rfl) rfl d0_init_9 ?_
  refine k_aload_n O d0_init_12 0 rfl ?_
  refine k_iconst O d0_init_13 (v := 0) (by decide) ?_
  refine k_put O (ci := 0) (f := 1) (ty := .int) 0 [(h, .inr (0, [.ref q0, .int 0, .int 0, .int 0])), (q0, .inl (qC X 0, 7, .inl (fun _ => 0)))] rfl in_X0 tyX0_ok nmX0 (by decide) w_81 rfl rfl (by decide +kernel) rfl rfl (Nat.le_of_ble_eq_true rfl) rfl d0_init_14 ?_
  refine k_aload_n O d0_init_17 0 rfl ?_
  refine k_iconst O d0_init_18 (v := 0) (by decide) ?_
  refine k_put O (ci := 0) (f := 2) (ty := .int) 0 [(h, .inr (0, [.ref q0, .int 0, .int 0, .int 0])), (q0, .inl (qC X 0, 7, .inl (fun _ => 0)))] rfl in_X0 tyX0_ok nmX0 (by decide) w_82 rfl rfl (by decide +kernel) rfl rfl (Nat.le_of_ble_eq_true rfl) rfl d0_init_19 ?_
  refine k_aload_n O d0_init_22 0 rfl ?_
  refine k_iconst O d0_init_23 (v := 0) (by decide) ?_
  refine k_put O (ci := 0) (f := 3) (ty := .int) 0 [(h, .inr (0, [.ref q0, .int 0, .int 0, .int 0])), (q0, .inl (qC X 0, 7, .inl (fun _ => 0)))] rfl in_X0 tyX0_ok nmX0 (by decide) w_85 rfl rfl (by decide +kernel) rfl rfl (Nat.le_of_ble_eq_true rfl) rfl d0_init_24 ?_
  exact k_ret O hQ (fun j => ([h, q0] : List Nat).getD j 0) rfl rfl rfl (fun D H h => h.sub [0, 1] rfl) (fun A h => h.sub [0, 1] (by decide) rfl) d0_init_27
theorem d1_init_0 : decode cX1_init 0 = .ok (.aload_n 0, 1) := by decide +kernel
theorem d1_init_1 : decode cX1_init 1 = .ok (.invokespecial 3, 3) := by decide +kernel
theorem d1_init_4 : decode cX1_init 4 = .ok (.aload_n 0, 1) := by decide +kernel
theorem d1_init_5 : decode cX1_init 5 = .ok (.bipush 60, 2) := by decide +kernel
theorem d1_init_7 : decode cX1_init 7 = .ok (.newarray .int, 2) := by decide +kernel
theorem d1_init_9 : decode cX1_init 9 = .ok (.putfield 9, 3) := by decide +kernel
theorem d1_init_12 : decode cX1_init 12 = .ok (.aload_n 0, 1) := by decide +kernel
theorem d1_init_13 : decode cX1_init 13 = .ok (.iconst (-1), 1) := by decide +kernel
theorem d1_init_14 : decode cX1_init 14 = .ok (.putfield 15, 3) := by decide +kernel
theorem d1_init_17 : decode cX1_init 17 = .ok (.aload_n 0, 1) := by decide +kernel
theorem d1_init_18 : decode cX1_init 18 = .ok (.iconst 0, 1) := by decide +kernel
theorem d1_init_19 : decode cX1_init 19 = .ok (.putfield 19, 3) := by decide +kernel
theorem d1_init_22 : decode cX1_init 22 = .ok (.return_, 1) := by decide +kernel
set_option maxHeartbeats 4000000 in
set_option maxRecDepth 100000 in
theorem con_X1 (l : Launch) : CtC l yX1_init cX1_init 1 (rmC 1 13 1 60) (.inr (1, [.null, .int 0, .int 0])) mk_X1 1 60 := by
  refine CtC.of (by decide) (by decide) rfl (fun X h _ O hQ => ?_)
  have O : OC X RX1 cX1_init 1 (rmC 1 13 1 60) := O
  refine k_aload_n O d1_init_0 0 rfl ?_
  refine k_obj O w_200 w_62 w_63 (by decide) (Nat.le_of_ble_eq_true rfl) d1_init_1 ?_
  refine k_aload_n O d1_init_4 0 rfl ?_
  refine k_bipush O d1_init_5 (v := 60) (by decide) ?_
  refine k_newa O (atype := .int) (ty := .int) 0 rfl rfl (fun _ h => by cases h) w_96 (N' := 60) (60, .inl (fun _ => 0)) (fun _ => rfl) (by decide) (by decide) (by decide) (by decide) (by decide) d1_init_7 (fun q0 => ?_)
  refine k_show [(h, .inr (1, [.null, .int 0, .int 0])), (q0, .inl (qC X 0, 60, .inl (fun _ => 0)))] rfl ?_
  refine k_putF O (ci := 1) (f := 0) (ty := .array .int) 0 [(h, .inr (1, [.ref q0, .int 0, .int 0])), (q0, .inl (qC X 0, 60, .inl (fun _ => 0)))] rfl in_X1 tyX1_ok nmX1 (by decide) w_201 rfl rfl rfl (by decide +kernel) rfl rfl (Nat.le_of_ble_eq_true rfl) rfl d1_init_9 ?_
  refine k_aload_n O d1_init_12 0 rfl ?_
  refine k_iconst O d1_init_13 (v := (-1)) (by decide) ?_
  refine k_put O (ci := 1) (f := 1) (ty := .int) 0 [(h, .inr (1, [.ref q0, .int (-1), .int 0])), (q0, .inl (qC X 0, 60, .inl (fun _ => 0)))] rfl in_X1 tyX1_ok nmX1 (by decide) w_204 rfl rfl (by decide +kernel) rfl rfl (Nat.le_of_ble_eq_true rfl) rfl d1_init_14 ?_
  refine k_aload_n O d1_init_17 0 rfl ?_
  refine k_iconst O d1_init_18 (v := 0) (by decide) ?_
  refine k_put O (ci := 1) (f := 2) (ty := .int) 0 [(h, .inr (1, [.ref q0, .int (-1), .int 0])), (q0, .inl (qC X 0, 60, .inl (fun _ => 0)))] rfl in_X1 tyX1_ok nmX1 (by decide) w_206 rfl rfl (by decide +kernel) rfl rfl (Nat.le_of_ble_eq_true rfl) rfl d1_init_19 ?_
  exact k_ret O hQ (fun j => ([h, q0] : List Nat).getD j 0) rfl rfl rfl (fun D H h => h.sub [0, 1] rfl) (fun A h => h.sub [0, 1] (by decide) rfl) d1_init_22
theorem d4_init_0 : decode cX4_init 0 = .ok (.aload_n 0, 1) := by decide +kernel
theorem d4_init_1 : decode cX4_init 1 = .ok (.invokespecial 3, 3) := by decide +kernel
theorem d4_init_4 : decode cX4_init 4 = .ok (.aload_n 0, 1) := by decide +kernel
theorem d4_init_5 : decode cX4_init 5 = .ok (.iconst 0, 1) := by decide +kernel
theorem d4_init_6 : decode cX4_init 6 = .ok (.putfield 9, 3) := by decide +kernel
theorem d4_init_9 : decode cX4_init 9 = .ok (.aload_n 0, 1) := by decide +kernel
theorem d4_init_10 : decode cX4_init 10 = .ok (.iconst 0, 1) := by decide +kernel
theorem d4_init_11 : decode cX4_init 11 = .ok (.putfield 15, 3) := by decide +kernel
theorem d4_init_14 : decode cX4_init 14 = .ok (.aload_n 0, 1) := by decide +kernel
theorem d4_init_15 : decode cX4_init 15 = .ok (.iconst 0, 1) := by decide +kernel
theorem d4_init_16 : decode cX4_init 16 = .ok (.putfield 18, 3) := by decide +kernel
theorem d4_init_19 : decode cX4_init 19 = .ok (.aload_n 0, 1) := by decide +kernel
theorem d4_init_20 : decode cX4_init 20 = .ok (.iconst 0, 1) := by decide +kernel
theorem d4_init_21 : decode cX4_init 21 = .ok (.putfield 21, 3) := by decide +kernel
theorem d4_init_24 : decode cX4_init 24 = .ok (.return_, 1) := by decide +kernel
set_option maxHeartbeats 4000000 in
set_option maxRecDepth 100000 in
theorem con_X4 (l : Launch) : CtC l yX4_init cX4_init 1 (rmC 1 13 0 0) (.inr (4, [.int 0, .int 0, .int 0, .int 0])) mk_X4 0 0 := by
  refine CtC.of (by decide) (by decide) rfl (fun X h _ O hQ => ?_)
  have O : OC X RX4 cX4_init 1 (rmC 1 13 0 0) := O
  refine k_aload_n O d4_init_0 0 rfl ?_
  refine k_obj O w_101 w_62 w_63 (by decide) (Nat.le_of_ble_eq_true rfl) d4_init_1 ?_
  refine k_aload_n O d4_init_4 0 rfl ?_
  refine k_iconst O d4_init_5 (v := 0) (by decide) ?_
  refine k_put O (ci := 4) (f := 0) (ty := .int) 0 [(h, .inr (4, [.int 0, .int 0, .int 0, .int 0]))] rfl in_X4 tyX4_ok nmX4 (by decide) w_102 rfl rfl (by decide +kernel) rfl rfl (Nat.le_of_ble_eq_true rfl) rfl d4_init_6 ?_
  refine k_aload_n O d4_init_9 0 rfl ?_
  refine k_iconst O d4_init_10 (v := 0) (by decide) ?_
  refine k_put O (ci := 4) (f := 1) (ty := .int) 0 [(h, .inr (4, [.int 0, .int 0, .int 0, .int 0]))] rfl in_X4 tyX4_ok nmX4 (by decide) w_105 rfl rfl (by decide +kernel) rfl rfl (Nat.le_of_ble_eq_true rfl) rfl d4_init_11 ?_
  refine k_aload_n O d4_init_14 0 rfl ?_
  refine k_iconst O d4_init_15 (v := 0) (by decide) ?_
  refine k_put O (ci := 4) (f := 2) (ty := .int) 0 [(h, .inr (4, [.int 0, .int 0, .int 0, .int 0]))] rfl in_X4 tyX4_ok nmX4 (by decide) w_109 rfl rfl (by decide +kernel) rfl rfl (Nat.le_of_ble_eq_true rfl) rfl d4_init_16 ?_
  refine k_aload_n O d4_init_19 0 rfl ?_
  refine k_iconst O d4_init_20 (v := 0) (by decide) ?_
  refine k_put O (ci := 4) (f := 3) (ty := .int) 0 [(h, .inr (4, [.int 0, .int 0, .int 0, .int 0]))] rfl in_X4 tyX4_ok nmX4 (by decide) w_113 rfl rfl (by decide +kernel) rfl rfl (Nat.le_of_ble_eq_true rfl) rfl d4_init_21 ?_
  exact k_ret O hQ (fun j => ([h] : List Nat).getD j 0) rfl rfl rfl (fun D H h => h.sub [0] rfl) (fun A h => h.sub [0] (by decide) rfl) d4_init_24
theorem d2_init_0 : decode cX2_init 0 = .ok (.aload_n 0, 1) := by decide +kernel
theorem d2_init_1 : decode cX2_init 1 = .ok (.invokespecial 3, 3) := by decide +kernel
theorem d2_init_4 : decode cX2_init 4 = .ok (.aload_n 0, 1) := by decide +kernel
theorem d2_init_5 : decode cX2_init 5 = .ok (.sipush 729, 3) := by decide +kernel
theorem d2_init_8 : decode cX2_init 8 = .ok (.newarray .int, 2) := by decide +kernel
theorem d2_init_10 : decode cX2_init 10 = .ok (.putfield 9, 3) := by decide +kernel
theorem d2_init_13 : decode cX2_init 13 = .ok (.aload_n 0, 1) := by decide +kernel
theorem d2_init_14 : decode cX2_init 14 = .ok (.sipush 729, 3) := by decide +kernel
theorem d2_init_17 : decode cX2_init 17 = .ok (.newarray .int, 2) := by decide +kernel
theorem d2_init_19 : decode cX2_init 19 = .ok (.putfield 15, 3) := by decide +kernel
theorem d2_init_22 : decode cX2_init 22 = .ok (.aload_n 0, 1) := by decide +kernel
theorem d2_init_23 : decode cX2_init 23 = .ok (.sipush 729, 3) := by decide +kernel
theorem d2_init_26 : decode cX2_init 26 = .ok (.newarray .int, 2) := by decide +kernel
theorem d2_init_28 : decode cX2_init 28 = .ok (.putfield 18, 3) := by decide +kernel
theorem d2_init_31 : decode cX2_init 31 = .ok (.aload_n 0, 1) := by decide +kernel
theorem d2_init_32 : decode cX2_init 32 = .ok (.sipush 729, 3) := by decide +kernel
theorem d2_init_35 : decode cX2_init 35 = .ok (.newarray .int, 2) := by decide +kernel
theorem d2_init_37 : decode cX2_init 37 = .ok (.putfield 21, 3) := by decide +kernel
theorem d2_init_40 : decode cX2_init 40 = .ok (.aload_n 0, 1) := by decide +kernel
theorem d2_init_41 : decode cX2_init 41 = .ok (.sipush 729, 3) := by decide +kernel
theorem d2_init_44 : decode cX2_init 44 = .ok (.newarray .long, 2) := by decide +kernel
theorem d2_init_46 : decode cX2_init 46 = .ok (.putfield 24, 3) := by decide +kernel
theorem d2_init_49 : decode cX2_init 49 = .ok (.aload_n 0, 1) := by decide +kernel
theorem d2_init_50 : decode cX2_init 50 = .ok (.bipush 64, 2) := by decide +kernel
theorem d2_init_52 : decode cX2_init 52 = .ok (.newarray .boolean, 2) := by decide +kernel
theorem d2_init_54 : decode cX2_init 54 = .ok (.putfield 28, 3) := by decide +kernel
theorem d2_init_57 : decode cX2_init 57 = .ok (.aload_n 0, 1) := by decide +kernel
theorem d2_init_58 : decode cX2_init 58 = .ok (.bipush 64, 2) := by decide +kernel
theorem d2_init_60 : decode cX2_init 60 = .ok (.newarray .int, 2) := by decide +kernel
theorem d2_init_62 : decode cX2_init 62 = .ok (.putfield 32, 3) := by decide +kernel
theorem d2_init_65 : decode cX2_init 65 = .ok (.aload_n 0, 1) := by decide +kernel
theorem d2_init_66 : decode cX2_init 66 = .ok (.iconst 0, 1) := by decide +kernel
theorem d2_init_67 : decode cX2_init 67 = .ok (.putfield 35, 3) := by decide +kernel
theorem d2_init_70 : decode cX2_init 70 = .ok (.aload_n 0, 1) := by decide +kernel
theorem d2_init_71 : decode cX2_init 71 = .ok (.iconst 0, 1) := by decide +kernel
theorem d2_init_72 : decode cX2_init 72 = .ok (.putfield 39, 3) := by decide +kernel
theorem d2_init_75 : decode cX2_init 75 = .ok (.aload_n 0, 1) := by decide +kernel
theorem d2_init_76 : decode cX2_init 76 = .ok (.bipush (-9), 2) := by decide +kernel
theorem d2_init_78 : decode cX2_init 78 = .ok (.putfield 43, 3) := by decide +kernel
theorem d2_init_81 : decode cX2_init 81 = .ok (.return_, 1) := by decide +kernel
set_option maxHeartbeats 4000000 in
set_option maxRecDepth 100000 in
theorem con_X2 (l : Launch) : CtC l yX2_init cX2_init 1 (rmC 1 13 7 3773) (.inr (2, [.null, .null, .null, .null, .null, .null, .null, .int 0, .int 0, .int 0])) mk_X2 7 3773 := by
  refine CtC.of (by decide) (by decide) rfl (fun X h _ O hQ => ?_)
  have O : OC X RX2 cX2_init 1 (rmC 1 13 7 3773) := O
  refine k_aload_n O d2_init_0 0 rfl ?_
  refine k_obj O w_161 w_62 w_63 (by decide) (Nat.le_of_ble_eq_true rfl) d2_init_1 ?_
  refine k_aload_n O d2_init_4 0 rfl ?_
  refine k_sipush O d2_init_5 (v := 729) (by decide) ?_
  refine k_newa O (atype := .int) (ty := .int) 0 rfl rfl (fun _ h => by cases h) w_96 (N' := 729) (729, .inl (fun _ => 0)) (fun _ => rfl) (by decide) (by decide) (by decide) (by decide) (by decide) d2_init_8 (fun q0 => ?_)
  refine k_show [(h, .inr (2, [.null, .null, .null, .null, .null, .null, .null, .int 0, .int 0, .int 0])), (q0, .inl (qC X 0, 729, .inl (fun _ => 0)))] rfl ?_
  refine k_putF O (ci := 2) (f := 0) (ty := .array .int) 0 [(h, .inr (2, [.ref q0, .null, .null, .null, .null, .null, .null, .int 0, .int 0, .int 0])), (q0, .inl (qC X 0, 729, .inl (fun _ => 0)))] rfl in_X2 tyX2_ok nmX2 (by decide) w_162 rfl rfl rfl (by decide +kernel) rfl rfl (Nat.le_of_ble_eq_true rfl) rfl d2_init_10 ?_
  refine k_aload_n O d2_init_13 0 rfl ?_
  refine k_sipush O d2_init_14 (v := 729) (by decide) ?_
  refine k_newa O (atype := .int) (ty := .int) 0 rfl rfl (fun _ h => by cases h) w_96 (N' := 729) (729, .inl (fun _ => 0)) (fun _ => rfl) (by decide) (by decide) (by decide) (by decide) (by decide) d2_init_17 (fun q1 => ?_)
  refine k_show [(h, .inr (2, [.ref q0, .null, .null, .null, .null, .null, .null, .int 0, .int 0, .int 0])), (q0, .inl (qC X 0, 729, .inl (fun _ => 0))), (q1, .inl (qC X 0, 729, .inl (fun _ => 0)))] rfl ?_
  refine k_putF O (ci := 2) (f := 1) (ty := .array .int) 0 [(h, .inr (2, [.ref q0, .ref q1, .null, .null, .null, .null, .null, .int 0, .int 0, .int 0])), (q0, .inl (qC X 0, 729, .inl (fun _ => 0))), (q1, .inl (qC X 0, 729, .inl (fun _ => 0)))] rfl in_X2 tyX2_ok nmX2 (by decide) w_163 rfl rfl rfl (by decide +kernel) rfl rfl (Nat.le_of_ble_eq_true rfl) rfl d2_init_19 ?_
  refine k_aload_n O d2_init_22 0 rfl ?_
  refine k_sipush O d2_init_23 (v := 729) (by decide) ?_
  refine k_newa O (atype := .int) (ty := .int) 0 rfl rfl (fun _ h => by cases h) w_96 (N' := 729) (729, .inl (fun _ => 0)) (fun _ => rfl) (by decide) (by decide) (by decide) (by decide) (by decide) d2_init_26 (fun q2 => ?_)
  refine k_show [(h, .inr (2, [.ref q0, .ref q1, .null, .null, .null, .null, .null, .int 0, .int 0, .int 0])), (q0, .inl (qC X 0, 729, .inl (fun _ => 0))), (q1, .inl (qC X 0, 729, .inl (fun _ => 0))), (q2, .inl (qC X 0, 729, .inl (fun _ => 0)))] rfl ?_
  refine k_putF O (ci := 2) (f := 2) (ty := .array .int) 0 [(h, .inr (2, [.ref q0, .ref q1, .ref q2, .null, .null, .null, .null, .int 0, .int 0, .int 0])), (q0, .inl (qC X 0, 729, .inl (fun _ => 0))), (q1, .inl (qC X 0, 729, .inl (fun _ => 0))), (q2, .inl (qC X 0, 729, .inl (fun _ => 0)))] rfl in_X2 tyX2_ok nmX2 (by decide) w_164 rfl rfl rfl (by decide +kernel) rfl rfl (Nat.le_of_ble_eq_true rfl) rfl d2_init_28 ?_
  refine k_aload_n O d2_init_31 0 rfl ?_
  refine k_sipush O d2_init_32 (v := 729) (by decide) ?_
  refine k_newa O (atype := .int) (ty := .int) 0 rfl rfl (fun _ h => by cases h) w_96 (N' := 729) (729, .inl (fun _ => 0)) (fun _ => rfl) (by decide) (by decide) (by decide) (by decide) (by decide) d2_init_35 (fun q3 => ?_)
  refine k_show [(h, .inr (2, [.ref q0, .ref q1, .ref q2, .null, .null, .null, .null, .int 0, .int 0, .int 0])), (q0, .inl (qC X 0, 729, .inl (fun _ => 0))), (q1, .inl (qC X 0, 729, .inl (fun _ => 0))), (q2, .inl (qC X 0, 729, .inl (fun _ => 0))), (q3, .inl (qC X 0, 729, .inl (fun _ => 0)))] rfl ?_
  refine k_putF O (ci := 2) (f := 3) (ty := .array .int) 0 [(h, .inr (2, [.ref q0, .ref q1, .ref q2, .ref q3, .null, .null, .null, .int 0, .int 0, .int 0])), (q0, .inl (qC X 0, 729, .inl (fun _ => 0))), (q1, .inl (qC X 0, 729, .inl (fun _ => 0))), (q2, .inl (qC X 0, 729, .inl (fun _ => 0))), (q3, .inl (qC X 0, 729, .inl (fun _ => 0)))] rfl in_X2 tyX2_ok nmX2 (by decide) w_165 rfl rfl rfl (by decide +kernel) rfl rfl (Nat.le_of_ble_eq_true rfl) rfl d2_init_37 ?_
  refine k_aload_n O d2_init_40 0 rfl ?_
  refine k_sipush O d2_init_41 (v := 729) (by decide) ?_
  refine k_newa O (atype := .long) (ty := .long) 1 rfl rfl (fun _ h => by cases h) w_194 (N' := 729) (729, .inr (.inl (fun _ => 0))) (fun _ => rfl) (by decide) (by decide) (by decide) (by decide) (by decide) d2_init_44 (fun q4 => ?_)
  refine k_show [(h, .inr (2, [.ref q0, .ref q1, .ref q2, .ref q3, .null, .null, .null, .int 0, .int 0, .int 0])), (q0, .inl (qC X 0, 729, .inl (fun _ => 0))), (q1, .inl (qC X 0, 729, .inl (fun _ => 0))), (q2, .inl (qC X 0, 729, .inl (fun _ => 0))), (q3, .inl (qC X 0, 729, .inl (fun _ => 0))), (q4, .inl (qC X 1, 729, .inr (.inl (fun _ => 0))))] rfl ?_
  refine k_putF O (ci := 2) (f := 4) (ty := .array .long) 0 [(h, .inr (2, [.ref q0, .ref q1, .ref q2, .ref q3, .ref q4, .null, .null, .int 0, .int 0, .int 0])), (q0, .inl (qC X 0, 729, .inl (fun _ => 0))), (q1, .inl (qC X 0, 729, .inl (fun _ => 0))), (q2, .inl (qC X 0, 729, .inl (fun _ => 0))), (q3, .inl (qC X 0, 729, .inl (fun _ => 0))), (q4, .inl (qC X 1, 729, .inr (.inl (fun _ => 0))))] rfl in_X2 tyX2_ok nmX2 (by decide) w_166 rfl rfl rfl (by decide +kernel) rfl rfl (Nat.le_of_ble_eq_true rfl) rfl d2_init_46 ?_
  refine k_aload_n O d2_init_49 0 rfl ?_
  refine k_bipush O d2_init_50 (v := 64) (by decide) ?_
  refine k_newa O (atype := .boolean) (ty := .boolean) 2 rfl rfl (fun _ h => by cases h) w_195 (N' := 64) (64, .inl (fun _ => 0)) (fun _ => rfl) (by decide) (by decide) (by decide) (by decide) (by decide) d2_init_52 (fun q5 => ?_)
  refine k_show [(h, .inr (2, [.ref q0, .ref q1, .ref q2, .ref q3, .ref q4, .null, .null, .int 0, .int 0, .int 0])), (q0, .inl (qC X 0, 729, .inl (fun _ => 0))), (q1, .inl (qC X 0, 729, .inl (fun _ => 0))), (q2, .inl (qC X 0, 729, .inl (fun _ => 0))), (q3, .inl (qC X 0, 729, .inl (fun _ => 0))), (q4, .inl (qC X 1, 729, .inr (.inl (fun _ => 0)))), (q5, .inl (qC X 2, 64, .inl (fun _ => 0)))] rfl ?_
  refine k_putF O (ci := 2) (f := 5) (ty := .array .boolean) 0 [(h, .inr (2, [.ref q0, .ref q1, .ref q2, .ref q3, .ref q4, .ref q5, .null, .int 0, .int 0, .int 0])), (q0, .inl (qC X 0, 729, .inl (fun _ => 0))), (q1, .inl (qC X 0, 729, .inl (fun _ => 0))), (q2, .inl (qC X 0, 729, .inl (fun _ => 0))), (q3, .inl (qC X 0, 729, .inl (fun _ => 0))), (q4, .inl (qC X 1, 729, .inr (.inl (fun _ => 0)))), (q5, .inl (qC X 2, 64, .inl (fun _ => 0)))] rfl in_X2 tyX2_ok nmX2 (by decide) w_167 rfl rfl rfl (by decide +kernel) rfl rfl (Nat.le_of_ble_eq_true rfl) rfl d2_init_54 ?_
  refine k_aload_n O d2_init_57 0 rfl ?_
  refine k_bipush O d2_init_58 (v := 64) (by decide) ?_
  refine k_newa O (atype := .int) (ty := .int) 0 rfl rfl (fun _ h => by cases h) w_96 (N' := 64) (64, .inl (fun _ => 0)) (fun _ => rfl) (by decide) (by decide) (by decide) (by decide) (by decide) d2_init_60 (fun q6 => ?_)
  refine k_show [(h, .inr (2, [.ref q0, .ref q1, .ref q2, .ref q3, .ref q4, .ref q5, .null, .int 0, .int 0, .int 0])), (q0, .inl (qC X 0, 729, .inl (fun _ => 0))), (q1, .inl (qC X 0, 729, .inl (fun _ => 0))), (q2, .inl (qC X 0, 729, .inl (fun _ => 0))), (q3, .inl (qC X 0, 729, .inl (fun _ => 0))), (q4, .inl (qC X 1, 729, .inr (.inl (fun _ => 0)))), (q5, .inl (qC X 2, 64, .inl (fun _ => 0))), (q6, .inl (qC X 0, 64, .inl (fun _ => 0)))] rfl ?_
  refine k_putF O (ci := 2) (f := 6) (ty := .array .int) 0 [(h, .inr (2, [.ref q0, .ref q1, .ref q2, .ref q3, .ref q4, .ref q5, .ref q6, .int 0, .int 0, .int 0])), (q0, .inl (qC X 0, 729, .inl (fun _ => 0))), (q1, .inl (qC X 0, 729, .inl (fun _ => 0))), (q2, .inl (qC X 0, 729, .inl (fun _ => 0))), (q3, .inl (qC X 0, 729, .inl (fun _ => 0))), (q4, .inl (qC X 1, 729, .inr (.inl (fun _ => 0)))), (q5, .inl (qC X 2, 64, .inl (fun _ => 0))), (q6, .inl (qC X 0, 64, .inl (fun _ => 0)))] rfl in_X2 tyX2_ok nmX2 (by decide) w_168 rfl rfl rfl (by decide +kernel) rfl rfl (Nat.le_of_ble_eq_true rfl) rfl d2_init_62 ?_
  refine k_aload_n O d2_init_65 0 rfl ?_
  refine k_iconst O d2_init_66 (v := 0) (by decide) ?_
  refine k_put O (ci := 2) (f := 7) (ty := .boolean) 0 [(h, .inr (2, [.ref q0, .ref q1, .ref q2, .ref q3, .ref q4, .ref q5, .ref q6, .int 0, .int 0, .int 0])), (q0, .inl (qC X 0, 729, .inl (fun _ => 0))), (q1, .inl (qC X 0, 729, .inl (fun _ => 0))), (q2, .inl (qC X 0, 729, .inl (fun _ => 0))), (q3, .inl (qC X 0, 729, .inl (fun _ => 0))), (q4, .inl (qC X 1, 729, .inr (.inl (fun _ => 0)))), (q5, .inl (qC X 2, 64, .inl (fun _ => 0))), (q6, .inl (qC X 0, 64, .inl (fun _ => 0)))] rfl in_X2 tyX2_ok nmX2 (by decide) w_169 rfl rfl (by decide +kernel) rfl rfl (Nat.le_of_ble_eq_true rfl) rfl d2_init_67 ?_
  refine k_aload_n O d2_init_70 0 rfl ?_
  refine k_iconst O d2_init_71 (v := 0) (by decide) ?_
  refine k_put O (ci := 2) (f := 8) (ty := .int) 0 [(h, .inr (2, [.ref q0, .ref q1, .ref q2, .ref q3, .ref q4, .ref q5, .ref q6, .int 0, .int 0, .int 0])), (q0, .inl (qC X 0, 729, .inl (fun _ => 0))), (q1, .inl (qC X 0, 729, .inl (fun _ => 0))), (q2, .inl (qC X 0, 729, .inl (fun _ => 0))), (q3, .inl (qC X 0, 729, .inl (fun _ => 0))), (q4, .inl (qC X 1, 729, .inr (.inl (fun _ => 0)))), (q5, .inl (qC X 2, 64, .inl (fun _ => 0))), (q6, .inl (qC X 0, 64, .inl (fun _ => 0)))] rfl in_X2 tyX2_ok nmX2 (by decide) w_170 rfl rfl (by decide +kernel) rfl rfl (Nat.le_of_ble_eq_true rfl) rfl d2_init_72 ?_
  refine k_aload_n O d2_init_75 0 rfl ?_
  refine k_bipush O d2_init_76 (v := (-9)) (by decide) ?_
  refine k_put O (ci := 2) (f := 9) (ty := .int) 0 [(h, .inr (2, [.ref q0, .ref q1, .ref q2, .ref q3, .ref q4, .ref q5, .ref q6, .int 0, .int 0, .int (-9)])), (q0, .inl (qC X 0, 729, .inl (fun _ => 0))), (q1, .inl (qC X 0, 729, .inl (fun _ => 0))), (q2, .inl (qC X 0, 729, .inl (fun _ => 0))), (q3, .inl (qC X 0, 729, .inl (fun _ => 0))), (q4, .inl (qC X 1, 729, .inr (.inl (fun _ => 0)))), (q5, .inl (qC X 2, 64, .inl (fun _ => 0))), (q6, .inl (qC X 0, 64, .inl (fun _ => 0)))] rfl in_X2 tyX2_ok nmX2 (by decide) w_172 rfl rfl (by decide +kernel) rfl rfl (Nat.le_of_ble_eq_true rfl) rfl d2_init_78 ?_
  exact k_ret O hQ (fun j => ([h, q0, q1, q2, q3, q4, q5, q6] : List Nat).getD j 0) rfl rfl rfl (fun D H h => h.sub [0, 1, 2, 3, 4, 5, 6, 7] rfl) (fun A h => h.sub [0, 1, 2, 3, 4, 5, 6, 7] (by decide) rfl) d2_init_81
theorem d3_init_0 : decode cX3_init 0 = .ok (.aload_n 0, 1) := by decide +kernel
theorem d3_init_1 : decode cX3_init 1 = .ok (.invokespecial 3, 3) := by decide +kernel
theorem d3_init_4 : decode cX3_init 4 = .ok (.aload_n 0, 1) := by decide +kernel
theorem d3_init_5 : decode cX3_init 5 = .ok (.bipush 6, 2) := by decide +kernel
theorem d3_init_7 : decode cX3_init 7 = .ok (.anewarray 9, 3) := by decide +kernel
theorem d3_init_10 : decode cX3_init 10 = .ok (.putfield 11, 3) := by decide +kernel
theorem d3_init_13 : decode cX3_init 13 = .ok (.aload_n 0, 1) := by decide +kernel
theorem d3_init_14 : decode cX3_init 14 = .ok (.iconst 3, 1) := by decide +kernel
theorem d3_init_15 : decode cX3_init 15 = .ok (.newarray .int, 2) := by decide +kernel
theorem d3_init_17 : decode cX3_init 17 = .ok (.putfield 17, 3) := by decide +kernel
theorem d3_init_20 : decode cX3_init 20 = .ok (.aload_n 0, 1) := by decide +kernel
theorem d3_init_21 : decode cX3_init 21 = .ok (.new 21, 3) := by decide +kernel
theorem d3_init_24 : decode cX3_init 24 = .ok (.dup, 1) := by decide +kernel
theorem d3_init_25 : decode cX3_init 25 = .ok (.invokespecial 23, 3) := by decide +kernel
theorem d3_init_28 : decode cX3_init 28 = .ok (.putfield 24, 3) := by decide +kernel
theorem d3_init_31 : decode cX3_init 31 = .ok (.aload_n 0, 1) := by decide +kernel
theorem d3_init_32 : decode cX3_init 32 = .ok (.iconst 0, 1) := by decide +kernel
theorem d3_init_33 : decode cX3_init 33 = .ok (.putfield 28, 3) := by decide +kernel
theorem d3_init_36 : decode cX3_init 36 = .ok (.aload_n 0, 1) := by decide +kernel
theorem d3_init_37 : decode cX3_init 37 = .ok (.iconst 0, 1) := by decide +kernel
theorem d3_init_38 : decode cX3_init 38 = .ok (.putfield 32, 3) := by decide +kernel
theorem d3_init_41 : decode cX3_init 41 = .ok (.aload_n 0, 1) := by decide +kernel
theorem d3_init_42 : decode cX3_init 42 = .ok (.iconst 0, 1) := by decide +kernel
theorem d3_init_43 : decode cX3_init 43 = .ok (.putfield 35, 3) := by decide +kernel
theorem d3_init_46 : decode cX3_init 46 = .ok (.aload_n 0, 1) := by decide +kernel
theorem d3_init_47 : decode cX3_init 47 = .ok (.iconst 0, 1) := by decide +kernel
theorem d3_init_48 : decode cX3_init 48 = .ok (.putfield 38, 3) := by decide +kernel
theorem d3_init_51 : decode cX3_init 51 = .ok (.iconst 0, 1) := by decide +kernel
theorem d3_init_52 : decode cX3_init 52 = .ok (.istore_n 1, 1) := by decide +kernel
theorem d3_init_53 : decode cX3_init 53 = .ok (.iload_n 1, 1) := by decide +kernel
theorem d3_init_54 : decode cX3_init 54 = .ok (.bipush 6, 2) := by decide +kernel
theorem d3_init_56 : decode cX3_init 56 = .ok (.if_icmp .ge 22, 3) := by decide +kernel
theorem d3_init_59 : decode cX3_init 59 = .ok (.aload_n 0, 1) := by decide +kernel
theorem d3_init_60 : decode cX3_init 60 = .ok (.getfield 11, 3) := by decide +kernel
theorem d3_init_63 : decode cX3_init 63 = .ok (.iload_n 1, 1) := by decide +kernel
theorem d3_init_64 : decode cX3_init 64 = .ok (.new 9, 3) := by decide +kernel
theorem d3_init_67 : decode cX3_init 67 = .ok (.dup, 1) := by decide +kernel
theorem d3_init_68 : decode cX3_init 68 = .ok (.invokespecial 41, 3) := by decide +kernel
theorem d3_init_71 : decode cX3_init 71 = .ok (.aastore, 1) := by decide +kernel
theorem d3_init_72 : decode cX3_init 72 = .ok (.iinc 1 1, 3) := by decide +kernel
theorem d3_init_75 : decode cX3_init 75 = .ok (.goto (-22), 3) := by decide +kernel
theorem d3_init_78 : decode cX3_init 78 = .ok (.return_, 1) := by decide +kernel
set_option maxHeartbeats 4000000 in
set_option maxRecDepth 100000 in
theorem con_X3 (l : Launch) : CtC l yX3_init cX3_init 2 (rmC 2 35 10 44) (.inr (3, [.null, .null, .null, .int 0, .int 0, .int 0, .int 0])) mk_X3 10 44 := by
  refine CtC.of (by decide) (by decide) rfl (fun X h _ O hQ => ?_)
  have O : OC X RX3 cX3_init 2 (rmC 2 35 10 44) := O
  refine k_aload_n O d3_init_0 0 rfl ?_
  refine k_obj O w_71 w_62 w_63 (by decide) (Nat.le_of_ble_eq_true rfl) d3_init_1 ?_
  refine k_aload_n O d3_init_4 0 rfl ?_
  refine k_bipush O d3_init_5 (v := 6) (by decide) ?_
  refine k_newq O (C := "BallastSteps$Tank") 4 rfl (by decide) w_72 (N' := 6) (by decide) (by decide) (by decide) (by decide) (by decide) d3_init_7 (fun q0 => ?_)
  refine k_show [(h, .inr (3, [.null, .null, .null, .int 0, .int 0, .int 0, .int 0])), (q0, .inl (qC X 4, 6, .inr (.inr (.inr (.inr (fun _ => none))))))] rfl ?_
  refine k_putF O (ci := 3) (f := 0) (ty := .array (.object "BallastSteps$Tank")) 0 [(h, .inr (3, [.ref q0, .null, .null, .int 0, .int 0, .int 0, .int 0])), (q0, .inl (qC X 4, 6, .inr (.inr (.inr (.inr (fun _ => none))))))] rfl in_X3 tyX3_ok nmX3 (by decide) w_125 rfl rfl rfl (by decide +kernel) rfl rfl (Nat.le_of_ble_eq_true rfl) rfl d3_init_10 ?_
  refine k_aload_n O d3_init_13 0 rfl ?_
  refine k_iconst O d3_init_14 (v := 3) (by decide) ?_
  refine k_newa O (atype := .int) (ty := .int) 0 rfl rfl (fun _ h => by cases h) w_96 (N' := 3) (3, .inl (fun _ => 0)) (fun _ => rfl) (by decide) (by decide) (by decide) (by decide) (by decide) d3_init_15 (fun q1 => ?_)
  refine k_show [(h, .inr (3, [.ref q0, .null, .null, .int 0, .int 0, .int 0, .int 0])), (q0, .inl (qC X 4, 6, .inr (.inr (.inr (.inr (fun _ => none)))))), (q1, .inl (qC X 0, 3, .inl (fun _ => 0)))] rfl ?_
  refine k_putF O (ci := 3) (f := 1) (ty := .array .int) 0 [(h, .inr (3, [.ref q0, .ref q1, .null, .int 0, .int 0, .int 0, .int 0])), (q0, .inl (qC X 4, 6, .inr (.inr (.inr (.inr (fun _ => none)))))), (q1, .inl (qC X 0, 3, .inl (fun _ => 0)))] rfl in_X3 tyX3_ok nmX3 (by decide) w_127 rfl rfl rfl (by decide +kernel) rfl rfl (Nat.le_of_ble_eq_true rfl) rfl d3_init_17 ?_
  refine k_aload_n O d3_init_20 0 rfl ?_
  refine k_new O (ci := 0) [.null, .int 0, .int 0, .int 0] rfl in_X0 tyX0_ok w_74 w_75 w_47 (fun j hj => by rcases (show j = 0 ∨ j = 1 ∨ j = 2 ∨ j = 3 by omega) with rfl | rfl | rfl | rfl <;> rfl) (by decide) (by decide) d3_init_21 (fun q2 => ?_)
  refine k_show [(h, .inr (3, [.ref q0, .ref q1, .null, .int 0, .int 0, .int 0, .int 0])), (q0, .inl (qC X 4, 6, .inr (.inr (.inr (.inr (fun _ => none)))))), (q1, .inl (qC X 0, 3, .inl (fun _ => 0))), (q2, .inr (0, [.null, .int 0, .int 0, .int 0]))] rfl ?_
  refine k_dup O d3_init_24 rfl ?_
  refine k_init O (con_X0 (qL X)) 3 [0, 1, 2] [(h, .inr (3, [.ref q0, .ref q1, .null, .int 0, .int 0, .int 0, .int 0])), (q0, .inl (qC X 4, 6, .inr (.inr (.inr (.inr (fun _ => none)))))), (q1, .inl (qC X 0, 3, .inl (fun _ => 0)))] rfl rfl (by decide) (by decide) rfl (Or.inr ⟨_, w_76⟩) w_77 w_47 w_78 hy_X0_init ⟨rfl, rfl, by decide, by decide⟩ (Nat.le_of_ble_eq_true rfl) ⟨by decide, by decide⟩ d3_init_25 (fun u3 hu3 => ?_)
  refine k_show [(h, .inr (3, [.ref q0, .ref q1, .null, .int 0, .int 0, .int 0, .int 0])), (q0, .inl (qC X 4, 6, .inr (.inr (.inr (.inr (fun _ => none)))))), (q1, .inl (qC X 0, 3, .inl (fun _ => 0))), (q2, .inr (0, [.ref (u3 1), .int 0, .int 0, .int 0])), ((u3 1), .inl (qC X 0, 7, .inl (fun _ => 0)))] (by simp only [mk_X0, hu3, List.cons_append, List.nil_append]) ?_
  refine k_putF O (ci := 3) (f := 2) (ty := .object "BallastSteps$Load") 0 [(h, .inr (3, [.ref q0, .ref q1, .ref q2, .int 0, .int 0, .int 0, .int 0])), (q0, .inl (qC X 4, 6, .inr (.inr (.inr (.inr (fun _ => none)))))), (q1, .inl (qC X 0, 3, .inl (fun _ => 0))), (q2, .inr (0, [.ref (u3 1), .int 0, .int 0, .int 0])), ((u3 1), .inl (qC X 0, 7, .inl (fun _ => 0)))] rfl in_X3 tyX3_ok nmX3 (by decide) w_129 rfl rfl rfl (by decide +kernel) rfl rfl (Nat.le_of_ble_eq_true rfl) rfl d3_init_28 ?_
  refine k_aload_n O d3_init_31 0 rfl ?_
  refine k_iconst O d3_init_32 (v := 0) (by decide) ?_
  refine k_put O (ci := 3) (f := 3) (ty := .int) 0 [(h, .inr (3, [.ref q0, .ref q1, .ref q2, .int 0, .int 0, .int 0, .int 0])), (q0, .inl (qC X 4, 6, .inr (.inr (.inr (.inr (fun _ => none)))))), (q1, .inl (qC X 0, 3, .inl (fun _ => 0))), (q2, .inr (0, [.ref (u3 1), .int 0, .int 0, .int 0])), ((u3 1), .inl (qC X 0, 7, .inl (fun _ => 0)))] rfl in_X3 tyX3_ok nmX3 (by decide) w_130 rfl rfl (by decide +kernel) rfl rfl (Nat.le_of_ble_eq_true rfl) rfl d3_init_33 ?_
  refine k_aload_n O d3_init_36 0 rfl ?_
  refine k_iconst O d3_init_37 (v := 0) (by decide) ?_
  refine k_put O (ci := 3) (f := 4) (ty := .int) 0 [(h, .inr (3, [.ref q0, .ref q1, .ref q2, .int 0, .int 0, .int 0, .int 0])), (q0, .inl (qC X 4, 6, .inr (.inr (.inr (.inr (fun _ => none)))))), (q1, .inl (qC X 0, 3, .inl (fun _ => 0))), (q2, .inr (0, [.ref (u3 1), .int 0, .int 0, .int 0])), ((u3 1), .inl (qC X 0, 7, .inl (fun _ => 0)))] rfl in_X3 tyX3_ok nmX3 (by decide) w_133 rfl rfl (by decide +kernel) rfl rfl (Nat.le_of_ble_eq_true rfl) rfl d3_init_38 ?_
  refine k_aload_n O d3_init_41 0 rfl ?_
  refine k_iconst O d3_init_42 (v := 0) (by decide) ?_
  refine k_put O (ci := 3) (f := 5) (ty := .int) 0 [(h, .inr (3, [.ref q0, .ref q1, .ref q2, .int 0, .int 0, .int 0, .int 0])), (q0, .inl (qC X 4, 6, .inr (.inr (.inr (.inr (fun _ => none)))))), (q1, .inl (qC X 0, 3, .inl (fun _ => 0))), (q2, .inr (0, [.ref (u3 1), .int 0, .int 0, .int 0])), ((u3 1), .inl (qC X 0, 7, .inl (fun _ => 0)))] rfl in_X3 tyX3_ok nmX3 (by decide) w_136 rfl rfl (by decide +kernel) rfl rfl (Nat.le_of_ble_eq_true rfl) rfl d3_init_43 ?_
  refine k_aload_n O d3_init_46 0 rfl ?_
  refine k_iconst O d3_init_47 (v := 0) (by decide) ?_
  refine k_put O (ci := 3) (f := 6) (ty := .int) 0 [(h, .inr (3, [.ref q0, .ref q1, .ref q2, .int 0, .int 0, .int 0, .int 0])), (q0, .inl (qC X 4, 6, .inr (.inr (.inr (.inr (fun _ => none)))))), (q1, .inl (qC X 0, 3, .inl (fun _ => 0))), (q2, .inr (0, [.ref (u3 1), .int 0, .int 0, .int 0])), ((u3 1), .inl (qC X 0, 7, .inl (fun _ => 0)))] rfl in_X3 tyX3_ok nmX3 (by decide) w_139 rfl rfl (by decide +kernel) rfl rfl (Nat.le_of_ble_eq_true rfl) rfl d3_init_48 ?_
  refine k_iconst O d3_init_51 (v := 0) (by decide) ?_
  refine k_istore_n O d3_init_52 [(1, .int 0), (0, .ref h)] (by decide) rfl ?_
  refine k_iload_n O d3_init_53 0 rfl ?_
  refine k_bipush O d3_init_54 (v := 6) (by decide) ?_
  refine k_ge_n O 78 d3_init_56 (by decide) (by decide) ?_
  refine k_aload_n O d3_init_59 1 rfl ?_
  refine k_get O (ci := 3) (f := 0) 0 rfl in_X3 (by decide) w_125 rfl rfl d3_init_60 ?_
  refine k_iload_n O d3_init_63 0 rfl ?_
  refine k_new O (ci := 4) [.int 0, .int 0, .int 0, .int 0] rfl in_X4 tyX4_ok w_72 w_97 w_48 (fun j hj => by rcases (show j = 0 ∨ j = 1 ∨ j = 2 ∨ j = 3 by omega) with rfl | rfl | rfl | rfl <;> rfl) (by decide) (by decide) d3_init_64 (fun q4 => ?_)
  refine k_show [(h, .inr (3, [.ref q0, .ref q1, .ref q2, .int 0, .int 0, .int 0, .int 0])), (q0, .inl (qC X 4, 6, .inr (.inr (.inr (.inr (fun _ => none)))))), (q1, .inl (qC X 0, 3, .inl (fun _ => 0))), (q2, .inr (0, [.ref (u3 1), .int 0, .int 0, .int 0])), ((u3 1), .inl (qC X 0, 7, .inl (fun _ => 0))), (q4, .inr (4, [.int 0, .int 0, .int 0, .int 0]))] rfl ?_
  refine k_dup O d3_init_67 rfl ?_
  refine k_init O (con_X4 (qL X)) 5 [0, 1, 2, 3, 4] [(h, .inr (3, [.ref q0, .ref q1, .ref q2, .int 0, .int 0, .int 0, .int 0])), (q0, .inl (qC X 4, 6, .inr (.inr (.inr (.inr (fun _ => none)))))), (q1, .inl (qC X 0, 3, .inl (fun _ => 0))), (q2, .inr (0, [.ref (u3 1), .int 0, .int 0, .int 0])), ((u3 1), .inl (qC X 0, 7, .inl (fun _ => 0)))] rfl rfl (by decide) (by decide) rfl (Or.inr ⟨_, w_98⟩) w_99 w_48 w_100 hy_X4_init ⟨rfl, rfl, by decide, by decide⟩ (Nat.le_of_ble_eq_true rfl) ⟨by decide, by decide⟩ d3_init_68 (fun u5 hu5 => ?_)
  refine k_show [(h, .inr (3, [.ref q0, .ref q1, .ref q2, .int 0, .int 0, .int 0, .int 0])), (q0, .inl (qC X 4, 6, .inr (.inr (.inr (.inr (fun _ => none)))))), (q1, .inl (qC X 0, 3, .inl (fun _ => 0))), (q2, .inr (0, [.ref (u3 1), .int 0, .int 0, .int 0])), ((u3 1), .inl (qC X 0, 7, .inl (fun _ => 0))), (q4, .inr (4, [.int 0, .int 0, .int 0, .int 0]))] (by simp only [mk_X4, hu5, List.cons_append, List.nil_append]) ?_
  refine k_astq O (t0 := 4) (ci := 4) 1 5 [(h, .inr (3, [.ref q0, .ref q1, .ref q2, .int 0, .int 0, .int 0, .int 0])), (q0, .inl (qC X 4, 6, .inr (.inr (.inr (.inr (va_up (fun _ => none) 0 (some q4))))))), (q1, .inl (qC X 0, 3, .inl (fun _ => 0))), (q2, .inr (0, [.ref (u3 1), .int 0, .int 0, .int 0])), ((u3 1), .inl (qC X 0, 7, .inl (fun _ => 0))), (q4, .inr (4, [.int 0, .int 0, .int 0, .int 0]))] rfl rfl rfl rfl (vin rfl) rfl d3_init_71 ?_
  refine k_iinc O d3_init_72 0 (v := 1) rfl (by decide) [(1, .int 1), (0, .ref h)] (by decide) rfl ?_
  refine k_goto O 53 d3_init_75 (by decide) ?_
  refine k_iload_n O d3_init_53 0 rfl ?_
  refine k_bipush O d3_init_54 (v := 6) (by decide) ?_
  refine k_ge_n O 78 d3_init_56 (by decide) (by decide) ?_
  refine k_aload_n O d3_init_59 1 rfl ?_
  refine k_get O (ci := 3) (f := 0) 0 rfl in_X3 (by decide) w_125 rfl rfl d3_init_60 ?_
  refine k_iload_n O d3_init_63 0 rfl ?_
  refine k_new O (ci := 4) [.int 0, .int 0, .int 0, .int 0] rfl in_X4 tyX4_ok w_72 w_97 w_48 (fun j hj => by rcases (show j = 0 ∨ j = 1 ∨ j = 2 ∨ j = 3 by omega) with rfl | rfl | rfl | rfl <;> rfl) (by decide) (by decide) d3_init_64 (fun q6 => ?_)
  refine k_show [(h, .inr (3, [.ref q0, .ref q1, .ref q2, .int 0, .int 0, .int 0, .int 0])), (q0, .inl (qC X 4, 6, .inr (.inr (.inr (.inr (va_up (fun _ => none) 0 (some q4))))))), (q1, .inl (qC X 0, 3, .inl (fun _ => 0))), (q2, .inr (0, [.ref (u3 1), .int 0, .int 0, .int 0])), ((u3 1), .inl (qC X 0, 7, .inl (fun _ => 0))), (q4, .inr (4, [.int 0, .int 0, .int 0, .int 0])), (q6, .inr (4, [.int 0, .int 0, .int 0, .int 0]))] rfl ?_
  refine k_dup O d3_init_67 rfl ?_
  refine k_init O (con_X4 (qL X)) 6 [0, 1, 2, 3, 4, 5] [(h, .inr (3, [.ref q0, .ref q1, .ref q2, .int 0, .int 0, .int 0, .int 0])), (q0, .inl (qC X 4, 6, .inr (.inr (.inr (.inr (va_up (fun _ => none) 0 (some q4))))))), (q1, .inl (qC X 0, 3, .inl (fun _ => 0))), (q2, .inr (0, [.ref (u3 1), .int 0, .int 0, .int 0])), ((u3 1), .inl (qC X 0, 7, .inl (fun _ => 0))), (q4, .inr (4, [.int 0, .int 0, .int 0, .int 0]))] rfl rfl (by decide) (by decide) rfl (Or.inr ⟨_, w_98⟩) w_99 w_48 w_100 hy_X4_init ⟨rfl, rfl, by decide, by decide⟩ (Nat.le_of_ble_eq_true rfl) ⟨by decide, by decide⟩ d3_init_68 (fun u7 hu7 => ?_)
  refine k_show [(h, .inr (3, [.ref q0, .ref q1, .ref q2, .int 0, .int 0, .int 0, .int 0])), (q0, .inl (qC X 4, 6, .inr (.inr (.inr (.inr (va_up (fun _ => none) 0 (some q4))))))), (q1, .inl (qC X 0, 3, .inl (fun _ => 0))), (q2, .inr (0, [.ref (u3 1), .int 0, .int 0, .int 0])), ((u3 1), .inl (qC X 0, 7, .inl (fun _ => 0))), (q4, .inr (4, [.int 0, .int 0, .int 0, .int 0])), (q6, .inr (4, [.int 0, .int 0, .int 0, .int 0]))] (by simp only [mk_X4, hu7, List.cons_append, List.nil_append]) ?_
  refine k_astq O (t0 := 4) (ci := 4) 1 6 [(h, .inr (3, [.ref q0, .ref q1, .ref q2, .int 0, .int 0, .int 0, .int 0])), (q0, .inl (qC X 4, 6, .inr (.inr (.inr (.inr (va_up (va_up (fun _ => none) 0 (some q4)) 1 (some q6))))))), (q1, .inl (qC X 0, 3, .inl (fun _ => 0))), (q2, .inr (0, [.ref (u3 1), .int 0, .int 0, .int 0])), ((u3 1), .inl (qC X 0, 7, .inl (fun _ => 0))), (q4, .inr (4, [.int 0, .int 0, .int 0, .int 0])), (q6, .inr (4, [.int 0, .int 0, .int 0, .int 0]))] rfl rfl rfl rfl (vin rfl) rfl d3_init_71 ?_
  refine k_iinc O d3_init_72 0 (v := 2) rfl (by decide) [(1, .int 2), (0, .ref h)] (by decide) rfl ?_
  refine k_goto O 53 d3_init_75 (by decide) ?_
  refine k_iload_n O d3_init_53 0 rfl ?_
  refine k_bipush O d3_init_54 (v := 6) (by decide) ?_
  refine k_ge_n O 78 d3_init_56 (by decide) (by decide) ?_
  refine k_aload_n O d3_init_59 1 rfl ?_
  refine k_get O (ci := 3) (f := 0) 0 rfl in_X3 (by decide) w_125 rfl rfl d3_init_60 ?_
  refine k_iload_n O d3_init_63 0 rfl ?_
  refine k_new O (ci := 4) [.int 0, .int 0, .int 0, .int 0] rfl in_X4 tyX4_ok w_72 w_97 w_48 (fun j hj => by rcases (show j = 0 ∨ j = 1 ∨ j = 2 ∨ j = 3 by omega) with rfl | rfl | rfl | rfl <;> rfl) (by decide) (by decide) d3_init_64 (fun q8 => ?_)
  refine k_show [(h, .inr (3, [.ref q0, .ref q1, .ref q2, .int 0, .int 0, .int 0, .int 0])), (q0, .inl (qC X 4, 6, .inr (.inr (.inr (.inr (va_up (va_up (fun _ => none) 0 (some q4)) 1 (some q6))))))), (q1, .inl (qC X 0, 3, .inl (fun _ => 0))), (q2, .inr (0, [.ref (u3 1), .int 0, .int 0, .int 0])), ((u3 1), .inl (qC X 0, 7, .inl (fun _ => 0))), (q4, .inr (4, [.int 0, .int 0, .int 0, .int 0])), (q6, .inr (4, [.int 0, .int 0, .int 0, .int 0])), (q8, .inr (4, [.int 0, .int 0, .int 0, .int 0]))] rfl ?_
  refine k_dup O d3_init_67 rfl ?_
  refine k_init O (con_X4 (qL X)) 7 [0, 1, 2, 3, 4, 5, 6] [(h, .inr (3, [.ref q0, .ref q1, .ref q2, .int 0, .int 0, .int 0, .int 0])), (q0, .inl (qC X 4, 6, .inr (.inr (.inr (.inr (va_up (va_up (fun _ => none) 0 (some q4)) 1 (some q6))))))), (q1, .inl (qC X 0, 3, .inl (fun _ => 0))), (q2, .inr (0, [.ref (u3 1), .int 0, .int 0, .int 0])), ((u3 1), .inl (qC X 0, 7, .inl (fun _ => 0))), (q4, .inr (4, [.int 0, .int 0, .int 0, .int 0])), (q6, .inr (4, [.int 0, .int 0, .int 0, .int 0]))] rfl rfl (by decide) (by decide) rfl (Or.inr ⟨_, w_98⟩) w_99 w_48 w_100 hy_X4_init ⟨rfl, rfl, by decide, by decide⟩ (Nat.le_of_ble_eq_true rfl) ⟨by decide, by decide⟩ d3_init_68 (fun u9 hu9 => ?_)
  refine k_show [(h, .inr (3, [.ref q0, .ref q1, .ref q2, .int 0, .int 0, .int 0, .int 0])), (q0, .inl (qC X 4, 6, .inr (.inr (.inr (.inr (va_up (va_up (fun _ => none) 0 (some q4)) 1 (some q6))))))), (q1, .inl (qC X 0, 3, .inl (fun _ => 0))), (q2, .inr (0, [.ref (u3 1), .int 0, .int 0, .int 0])), ((u3 1), .inl (qC X 0, 7, .inl (fun _ => 0))), (q4, .inr (4, [.int 0, .int 0, .int 0, .int 0])), (q6, .inr (4, [.int 0, .int 0, .int 0, .int 0])), (q8, .inr (4, [.int 0, .int 0, .int 0, .int 0]))] (by simp only [mk_X4, hu9, List.cons_append, List.nil_append]) ?_
  refine k_astq O (t0 := 4) (ci := 4) 1 7 [(h, .inr (3, [.ref q0, .ref q1, .ref q2, .int 0, .int 0, .int 0, .int 0])), (q0, .inl (qC X 4, 6, .inr (.inr (.inr (.inr (va_up (va_up (va_up (fun _ => none) 0 (some q4)) 1 (some q6)) 2 (some q8))))))), (q1, .inl (qC X 0, 3, .inl (fun _ => 0))), (q2, .inr (0, [.ref (u3 1), .int 0, .int 0, .int 0])), ((u3 1), .inl (qC X 0, 7, .inl (fun _ => 0))), (q4, .inr (4, [.int 0, .int 0, .int 0, .int 0])), (q6, .inr (4, [.int 0, .int 0, .int 0, .int 0])), (q8, .inr (4, [.int 0, .int 0, .int 0, .int 0]))] rfl rfl rfl rfl (vin rfl) rfl d3_init_71 ?_
  refine k_iinc O d3_init_72 0 (v := 3) rfl (by decide) [(1, .int 3), (0, .ref h)] (by decide) rfl ?_
  refine k_goto O 53 d3_init_75 (by decide) ?_
  refine k_iload_n O d3_init_53 0 rfl ?_
  refine k_bipush O d3_init_54 (v := 6) (by decide) ?_
  refine k_ge_n O 78 d3_init_56 (by decide) (by decide) ?_
  refine k_aload_n O d3_init_59 1 rfl ?_
  refine k_get O (ci := 3) (f := 0) 0 rfl in_X3 (by decide) w_125 rfl rfl d3_init_60 ?_
  refine k_iload_n O d3_init_63 0 rfl ?_
  refine k_new O (ci := 4) [.int 0, .int 0, .int 0, .int 0] rfl in_X4 tyX4_ok w_72 w_97 w_48 (fun j hj => by rcases (show j = 0 ∨ j = 1 ∨ j = 2 ∨ j = 3 by omega) with rfl | rfl | rfl | rfl <;> rfl) (by decide) (by decide) d3_init_64 (fun q10 => ?_)
  refine k_show [(h, .inr (3, [.ref q0, .ref q1, .ref q2, .int 0, .int 0, .int 0, .int 0])), (q0, .inl (qC X 4, 6, .inr (.inr (.inr (.inr (va_up (va_up (va_up (fun _ => none) 0 (some q4)) 1 (some q6)) 2 (some q8))))))), (q1, .inl (qC X 0, 3, .inl (fun _ => 0))), (q2, .inr (0, [.ref (u3 1), .int 0, .int 0, .int 0])), ((u3 1), .inl (qC X 0, 7, .inl (fun _ => 0))), (q4, .inr (4, [.int 0, .int 0, .int 0, .int 0])), (q6, .inr (4, [.int 0, .int 0, .int 0, .int 0])), (q8, .inr (4, [.int 0, .int 0, .int 0, .int 0])), (q10, .inr (4, [.int 0, .int 0, .int 0, .int 0]))] rfl ?_
  refine k_dup O d3_init_67 rfl ?_
  refine k_init O (con_X4 (qL X)) 8 [0, 1, 2, 3, 4, 5, 6, 7] [(h, .inr (3, [.ref q0, .ref q1, .ref q2, .int 0, .int 0, .int 0, .int 0])), (q0, .inl (qC X 4, 6, .inr (.inr (.inr (.inr (va_up (va_up (va_up (fun _ => none) 0 (some q4)) 1 (some q6)) 2 (some q8))))))), (q1, .inl (qC X 0, 3, .inl (fun _ => 0))), (q2, .inr (0, [.ref (u3 1), .int 0, .int 0, .int 0])), ((u3 1), .inl (qC X 0, 7, .inl (fun _ => 0))), (q4, .inr (4, [.int 0, .int 0, .int 0, .int 0])), (q6, .inr (4, [.int 0, .int 0, .int 0, .int 0])), (q8, .inr (4, [.int 0, .int 0, .int 0, .int 0]))] rfl rfl (by decide) (by decide) rfl (Or.inr ⟨_, w_98⟩) w_99 w_48 w_100 hy_X4_init ⟨rfl, rfl, by decide, by decide⟩ (Nat.le_of_ble_eq_true rfl) ⟨by decide, by decide⟩ d3_init_68 (fun u11 hu11 => ?_)
  refine k_show [(h, .inr (3, [.ref q0, .ref q1, .ref q2, .int 0, .int 0, .int 0, .int 0])), (q0, .inl (qC X 4, 6, .inr (.inr (.inr (.inr (va_up (va_up (va_up (fun _ => none) 0 (some q4)) 1 (some q6)) 2 (some q8))))))), (q1, .inl (qC X 0, 3, .inl (fun _ => 0))), (q2, .inr (0, [.ref (u3 1), .int 0, .int 0, .int 0])), ((u3 1), .inl (qC X 0, 7, .inl (fun _ => 0))), (q4, .inr (4, [.int 0, .int 0, .int 0, .int 0])), (q6, .inr (4, [.int 0, .int 0, .int 0, .int 0])), (q8, .inr (4, [.int 0, .int 0, .int 0, .int 0])), (q10, .inr (4, [.int 0, .int 0, .int 0, .int 0]))] (by simp only [mk_X4, hu11, List.cons_append, List.nil_append]) ?_
  refine k_astq O (t0 := 4) (ci := 4) 1 8 [(h, .inr (3, [.ref q0, .ref q1, .ref q2, .int 0, .int 0, .int 0, .int 0])), (q0, .inl (qC X 4, 6, .inr (.inr (.inr (.inr (va_up (va_up (va_up (va_up (fun _ => none) 0 (some q4)) 1 (some q6)) 2 (some q8)) 3 (some q10))))))), (q1, .inl (qC X 0, 3, .inl (fun _ => 0))), (q2, .inr (0, [.ref (u3 1), .int 0, .int 0, .int 0])), ((u3 1), .inl (qC X 0, 7, .inl (fun _ => 0))), (q4, .inr (4, [.int 0, .int 0, .int 0, .int 0])), (q6, .inr (4, [.int 0, .int 0, .int 0, .int 0])), (q8, .inr (4, [.int 0, .int 0, .int 0, .int 0])), (q10, .inr (4, [.int 0, .int 0, .int 0, .int 0]))] rfl rfl rfl rfl (vin rfl) rfl d3_init_71 ?_
  refine k_iinc O d3_init_72 0 (v := 4) rfl (by decide) [(1, .int 4), (0, .ref h)] (by decide) rfl ?_
  refine k_goto O 53 d3_init_75 (by decide) ?_
  refine k_iload_n O d3_init_53 0 rfl ?_
  refine k_bipush O d3_init_54 (v := 6) (by decide) ?_
  refine k_ge_n O 78 d3_init_56 (by decide) (by decide) ?_
  refine k_aload_n O d3_init_59 1 rfl ?_
  refine k_get O (ci := 3) (f := 0) 0 rfl in_X3 (by decide) w_125 rfl rfl d3_init_60 ?_
  refine k_iload_n O d3_init_63 0 rfl ?_
  refine k_new O (ci := 4) [.int 0, .int 0, .int 0, .int 0] rfl in_X4 tyX4_ok w_72 w_97 w_48 (fun j hj => by rcases (show j = 0 ∨ j = 1 ∨ j = 2 ∨ j = 3 by omega) with rfl | rfl | rfl | rfl <;> rfl) (by decide) (by decide) d3_init_64 (fun q12 => ?_)
  refine k_show [(h, .inr (3, [.ref q0, .ref q1, .ref q2, .int 0, .int 0, .int 0, .int 0])), (q0, .inl (qC X 4, 6, .inr (.inr (.inr (.inr (va_up (va_up (va_up (va_up (fun _ => none) 0 (some q4)) 1 (some q6)) 2 (some q8)) 3 (some q10))))))), (q1, .inl (qC X 0, 3, .inl (fun _ => 0))), (q2, .inr (0, [.ref (u3 1), .int 0, .int 0, .int 0])), ((u3 1), .inl (qC X 0, 7, .inl (fun _ => 0))), (q4, .inr (4, [.int 0, .int 0, .int 0, .int 0])), (q6, .inr (4, [.int 0, .int 0, .int 0, .int 0])), (q8, .inr (4, [.int 0, .int 0, .int 0, .int 0])), (q10, .inr (4, [.int 0, .int 0, .int 0, .int 0])), (q12, .inr (4, [.int 0, .int 0, .int 0, .int 0]))] rfl ?_
  refine k_dup O d3_init_67 rfl ?_
  refine k_init O (con_X4 (qL X)) 9 [0, 1, 2, 3, 4, 5, 6, 7, 8] [(h, .inr (3, [.ref q0, .ref q1, .ref q2, .int 0, .int 0, .int 0, .int 0])), (q0, .inl (qC X 4, 6, .inr (.inr (.inr (.inr (va_up (va_up (va_up (va_up (fun _ => none) 0 (some q4)) 1 (some q6)) 2 (some q8)) 3 (some q10))))))), (q1, .inl (qC X 0, 3, .inl (fun _ => 0))), (q2, .inr (0, [.ref (u3 1), .int 0, .int 0, .int 0])), ((u3 1), .inl (qC X 0, 7, .inl (fun _ => 0))), (q4, .inr (4, [.int 0, .int 0, .int 0, .int 0])), (q6, .inr (4, [.int 0, .int 0, .int 0, .int 0])), (q8, .inr (4, [.int 0, .int 0, .int 0, .int 0])), (q10, .inr (4, [.int 0, .int 0, .int 0, .int 0]))] rfl rfl (by decide) (by decide) rfl (Or.inr ⟨_, w_98⟩) w_99 w_48 w_100 hy_X4_init ⟨rfl, rfl, by decide, by decide⟩ (Nat.le_of_ble_eq_true rfl) ⟨by decide, by decide⟩ d3_init_68 (fun u13 hu13 => ?_)
  refine k_show [(h, .inr (3, [.ref q0, .ref q1, .ref q2, .int 0, .int 0, .int 0, .int 0])), (q0, .inl (qC X 4, 6, .inr (.inr (.inr (.inr (va_up (va_up (va_up (va_up (fun _ => none) 0 (some q4)) 1 (some q6)) 2 (some q8)) 3 (some q10))))))), (q1, .inl (qC X 0, 3, .inl (fun _ => 0))), (q2, .inr (0, [.ref (u3 1), .int 0, .int 0, .int 0])), ((u3 1), .inl (qC X 0, 7, .inl (fun _ => 0))), (q4, .inr (4, [.int 0, .int 0, .int 0, .int 0])), (q6, .inr (4, [.int 0, .int 0, .int 0, .int 0])), (q8, .inr (4, [.int 0, .int 0, .int 0, .int 0])), (q10, .inr (4, [.int 0, .int 0, .int 0, .int 0])), (q12, .inr (4, [.int 0, .int 0, .int 0, .int 0]))] (by simp only [mk_X4, hu13, List.cons_append, List.nil_append]) ?_
  refine k_astq O (t0 := 4) (ci := 4) 1 9 [(h, .inr (3, [.ref q0, .ref q1, .ref q2, .int 0, .int 0, .int 0, .int 0])), (q0, .inl (qC X 4, 6, .inr (.inr (.inr (.inr (va_up (va_up (va_up (va_up (va_up (fun _ => none) 0 (some q4)) 1 (some q6)) 2 (some q8)) 3 (some q10)) 4 (some q12))))))), (q1, .inl (qC X 0, 3, .inl (fun _ => 0))), (q2, .inr (0, [.ref (u3 1), .int 0, .int 0, .int 0])), ((u3 1), .inl (qC X 0, 7, .inl (fun _ => 0))), (q4, .inr (4, [.int 0, .int 0, .int 0, .int 0])), (q6, .inr (4, [.int 0, .int 0, .int 0, .int 0])), (q8, .inr (4, [.int 0, .int 0, .int 0, .int 0])), (q10, .inr (4, [.int 0, .int 0, .int 0, .int 0])), (q12, .inr (4, [.int 0, .int 0, .int 0, .int 0]))] rfl rfl rfl rfl (vin rfl) rfl d3_init_71 ?_
  refine k_iinc O d3_init_72 0 (v := 5) rfl (by decide) [(1, .int 5), (0, .ref h)] (by decide) rfl ?_
  refine k_goto O 53 d3_init_75 (by decide) ?_
  refine k_iload_n O d3_init_53 0 rfl ?_
  refine k_bipush O d3_init_54 (v := 6) (by decide) ?_
  refine k_ge_n O 78 d3_init_56 (by decide) (by decide) ?_
  refine k_aload_n O d3_init_59 1 rfl ?_
  refine k_get O (ci := 3) (f := 0) 0 rfl in_X3 (by decide) w_125 rfl rfl d3_init_60 ?_
  refine k_iload_n O d3_init_63 0 rfl ?_
  refine k_new O (ci := 4) [.int 0, .int 0, .int 0, .int 0] rfl in_X4 tyX4_ok w_72 w_97 w_48 (fun j hj => by rcases (show j = 0 ∨ j = 1 ∨ j = 2 ∨ j = 3 by omega) with rfl | rfl | rfl | rfl <;> rfl) (by decide) (by decide) d3_init_64 (fun q14 => ?_)
  refine k_show [(h, .inr (3, [.ref q0, .ref q1, .ref q2, .int 0, .int 0, .int 0, .int 0])), (q0, .inl (qC X 4, 6, .inr (.inr (.inr (.inr (va_up (va_up (va_up (va_up (va_up (fun _ => none) 0 (some q4)) 1 (some q6)) 2 (some q8)) 3 (some q10)) 4 (some q12))))))), (q1, .inl (qC X 0, 3, .inl (fun _ => 0))), (q2, .inr (0, [.ref (u3 1), .int 0, .int 0, .int 0])), ((u3 1), .inl (qC X 0, 7, .inl (fun _ => 0))), (q4, .inr (4, [.int 0, .int 0, .int 0, .int 0])), (q6, .inr (4, [.int 0, .int 0, .int 0, .int 0])), (q8, .inr (4, [.int 0, .int 0, .int 0, .int 0])), (q10, .inr (4, [.int 0, .int 0, .int 0, .int 0])), (q12, .inr (4, [.int 0, .int 0, .int 0, .int 0])), (q14, .inr (4, [.int 0, .int 0, .int 0, .int 0]))] rfl ?_
  refine k_dup O d3_init_67 rfl ?_
  refine k_init O (con_X4 (qL X)) 10 [0, 1, 2, 3, 4, 5, 6, 7, 8, 9] [(h, .inr (3, [.ref q0, .ref q1, .ref q2, .int 0, .int 0, .int 0, .int 0])), (q0, .inl (qC X 4, 6, .inr (.inr (.inr (.inr (va_up (va_up (va_up (va_up (va_up (fun _ => none) 0 (some q4)) 1 (some q6)) 2 (some q8)) 3 (some q10)) 4 (some q12))))))), (q1, .inl (qC X 0, 3, .inl (fun _ => 0))), (q2, .inr (0, [.ref (u3 1), .int 0, .int 0, .int 0])), ((u3 1), .inl (qC X 0, 7, .inl (fun _ => 0))), (q4, .inr (4, [.int 0, .int 0, .int 0, .int 0])), (q6, .inr (4, [.int 0, .int 0, .int 0, .int 0])), (q8, .inr (4, [.int 0, .int 0, .int 0, .int 0])), (q10, .inr (4, [.int 0, .int 0, .int 0, .int 0])), (q12, .inr (4, [.int 0, .int 0, .int 0, .int 0]))] rfl rfl (by decide) (by decide) rfl (Or.inr ⟨_, w_98⟩) w_99 w_48 w_100 hy_X4_init ⟨rfl, rfl, by decide, by decide⟩ (Nat.le_of_ble_eq_true rfl) ⟨by decide, by decide⟩ d3_init_68 (fun u15 hu15 => ?_)
  refine k_show [(h, .inr (3, [.ref q0, .ref q1, .ref q2, .int 0, .int 0, .int 0, .int 0])), (q0, .inl (qC X 4, 6, .inr (.inr (.inr (.inr (va_up (va_up (va_up (va_up (va_up (fun _ => none) 0 (some q4)) 1 (some q6)) 2 (some q8)) 3 (some q10)) 4 (some q12))))))), (q1, .inl (qC X 0, 3, .inl (fun _ => 0))), (q2, .inr (0, [.ref (u3 1), .int 0, .int 0, .int 0])), ((u3 1), .inl (qC X 0, 7, .inl (fun _ => 0))), (q4, .inr (4, [.int 0, .int 0, .int 0, .int 0])), (q6, .inr (4, [.int 0, .int 0, .int 0, .int 0])), (q8, .inr (4, [.int 0, .int 0, .int 0, .int 0])), (q10, .inr (4, [.int 0, .int 0, .int 0, .int 0])), (q12, .inr (4, [.int 0, .int 0, .int 0, .int 0])), (q14, .inr (4, [.int 0, .int 0, .int 0, .int 0]))] (by simp only [mk_X4, hu15, List.cons_append, List.nil_append]) ?_
  refine k_astq O (t0 := 4) (ci := 4) 1 10 [(h, .inr (3, [.ref q0, .ref q1, .ref q2, .int 0, .int 0, .int 0, .int 0])), (q0, .inl (qC X 4, 6, .inr (.inr (.inr (.inr (va_up (va_up (va_up (va_up (va_up (va_up (fun _ => none) 0 (some q4)) 1 (some q6)) 2 (some q8)) 3 (some q10)) 4 (some q12)) 5 (some q14))))))), (q1, .inl (qC X 0, 3, .inl (fun _ => 0))), (q2, .inr (0, [.ref (u3 1), .int 0, .int 0, .int 0])), ((u3 1), .inl (qC X 0, 7, .inl (fun _ => 0))), (q4, .inr (4, [.int 0, .int 0, .int 0, .int 0])), (q6, .inr (4, [.int 0, .int 0, .int 0, .int 0])), (q8, .inr (4, [.int 0, .int 0, .int 0, .int 0])), (q10, .inr (4, [.int 0, .int 0, .int 0, .int 0])), (q12, .inr (4, [.int 0, .int 0, .int 0, .int 0])), (q14, .inr (4, [.int 0, .int 0, .int 0, .int 0]))] rfl rfl rfl rfl (vin rfl) rfl d3_init_71 ?_
  refine k_iinc O d3_init_72 0 (v := 6) rfl (by decide) [(1, .int 6), (0, .ref h)] (by decide) rfl ?_
  refine k_goto O 53 d3_init_75 (by decide) ?_
  refine k_iload_n O d3_init_53 0 rfl ?_
  refine k_bipush O d3_init_54 (v := 6) (by decide) ?_
  refine k_ge_y O 78 d3_init_56 (by decide) (by decide) ?_
  refine k_conv 1 (fun k => some (([h, q0, q1, q2, (u3 1), q4, q6, q8, q10, q12, q14] : List Nat).getD (5 + k) 0)) [(h, .inr (3, [.ref q0, .ref q1, .ref q2, .int 0, .int 0, .int 0, .int 0])), (q0, .inl (qC X 4, 6, .inr (.inr (.inr (.inr (fun k => some (([h, q0, q1, q2, (u3 1), q4, q6, q8, q10, q12, q14] : List Nat).getD (5 + k) 0))))))), (q1, .inl (qC X 0, 3, .inl (fun _ => 0))), (q2, .inr (0, [.ref (u3 1), .int 0, .int 0, .int 0])), ((u3 1), .inl (qC X 0, 7, .inl (fun _ => 0))), (q4, .inr (4, [.int 0, .int 0, .int 0, .int 0])), (q6, .inr (4, [.int 0, .int 0, .int 0, .int 0])), (q8, .inr (4, [.int 0, .int 0, .int 0, .int 0])), (q10, .inr (4, [.int 0, .int 0, .int 0, .int 0])), (q12, .inr (4, [.int 0, .int 0, .int 0, .int 0])), (q14, .inr (4, [.int 0, .int 0, .int 0, .int 0]))] rfl (fun j hj => by rcases (show j = 0 ∨ j = 1 ∨ j = 2 ∨ j = 3 ∨ j = 4 ∨ j = 5 by omega) with rfl | rfl | rfl | rfl | rfl | rfl <;> rfl) rfl ?_
  exact k_ret O hQ (fun j => ([h, q0, q1, q2, (u3 1), q4, q6, q8, q10, q12, q14] : List Nat).getD j 0) rfl rfl rfl (fun D H h => h.sub [0, 1, 2, 3, 4, 5, 6, 7, 8, 9, 10] rfl) (fun A h => h.sub [0, 1, 2, 3, 4, 5, 6, 7, 8, 9, 10] (by decide) rfl) d3_init_78
theorem d5_init_0 : decode cX5_init 0 = .ok (.aload_n 0, 1) := by decide +kernel
theorem d5_init_1 : decode cX5_init 1 = .ok (.invokespecial 5, 3) := by decide +kernel
theorem d5_init_4 : decode cX5_init 4 = .ok (.aload_n 0, 1) := by decide +kernel
theorem d5_init_5 : decode cX5_init 5 = .ok (.iconst 4, 1) := by decide +kernel
theorem d5_init_6 : decode cX5_init 6 = .ok (.anewarray 11, 3) := by decide +kernel
theorem d5_init_9 : decode cX5_init 9 = .ok (.putfield 13, 3) := by decide +kernel
theorem d5_init_12 : decode cX5_init 12 = .ok (.aload_n 0, 1) := by decide +kernel
theorem d5_init_13 : decode cX5_init 13 = .ok (.new 17, 3) := by decide +kernel
theorem d5_init_16 : decode cX5_init 16 = .ok (.dup, 1) := by decide +kernel
theorem d5_init_17 : decode cX5_init 17 = .ok (.invokespecial 19, 3) := by decide +kernel
theorem d5_init_20 : decode cX5_init 20 = .ok (.putfield 20, 3) := by decide +kernel
theorem d5_init_23 : decode cX5_init 23 = .ok (.aload_n 0, 1) := by decide +kernel
theorem d5_init_24 : decode cX5_init 24 = .ok (.new 24, 3) := by decide +kernel
theorem d5_init_27 : decode cX5_init 27 = .ok (.dup, 1) := by decide +kernel
theorem d5_init_28 : decode cX5_init 28 = .ok (.invokespecial 26, 3) := by decide +kernel
theorem d5_init_31 : decode cX5_init 31 = .ok (.putfield 27, 3) := by decide +kernel
theorem d5_init_34 : decode cX5_init 34 = .ok (.aload_n 0, 1) := by decide +kernel
theorem d5_init_35 : decode cX5_init 35 = .ok (.bipush 8, 2) := by decide +kernel
theorem d5_init_37 : decode cX5_init 37 = .ok (.newarray .int, 2) := by decide +kernel
theorem d5_init_39 : decode cX5_init 39 = .ok (.putfield 31, 3) := by decide +kernel
theorem d5_init_42 : decode cX5_init 42 = .ok (.aload_n 0, 1) := by decide +kernel
theorem d5_init_43 : decode cX5_init 43 = .ok (.iconst 0, 1) := by decide +kernel
theorem d5_init_44 : decode cX5_init 44 = .ok (.putfield 35, 3) := by decide +kernel
theorem d5_init_47 : decode cX5_init 47 = .ok (.aload_n 0, 1) := by decide +kernel
theorem d5_init_48 : decode cX5_init 48 = .ok (.iconst 0, 1) := by decide +kernel
theorem d5_init_49 : decode cX5_init 49 = .ok (.putfield 39, 3) := by decide +kernel
theorem d5_init_52 : decode cX5_init 52 = .ok (.aload_n 0, 1) := by decide +kernel
theorem d5_init_53 : decode cX5_init 53 = .ok (.iconst 0, 1) := by decide +kernel
theorem d5_init_54 : decode cX5_init 54 = .ok (.putfield 42, 3) := by decide +kernel
theorem d5_init_57 : decode cX5_init 57 = .ok (.iconst 0, 1) := by decide +kernel
theorem d5_init_58 : decode cX5_init 58 = .ok (.istore_n 1, 1) := by decide +kernel
theorem d5_init_59 : decode cX5_init 59 = .ok (.iload_n 1, 1) := by decide +kernel
theorem d5_init_60 : decode cX5_init 60 = .ok (.iconst 4, 1) := by decide +kernel
theorem d5_init_61 : decode cX5_init 61 = .ok (.if_icmp .ge 22, 3) := by decide +kernel
theorem d5_init_64 : decode cX5_init 64 = .ok (.aload_n 0, 1) := by decide +kernel
theorem d5_init_65 : decode cX5_init 65 = .ok (.getfield 13, 3) := by decide +kernel
theorem d5_init_68 : decode cX5_init 68 = .ok (.iload_n 1, 1) := by decide +kernel
theorem d5_init_69 : decode cX5_init 69 = .ok (.new 11, 3) := by decide +kernel
theorem d5_init_72 : decode cX5_init 72 = .ok (.dup, 1) := by decide +kernel
theorem d5_init_73 : decode cX5_init 73 = .ok (.invokespecial 45, 3) := by decide +kernel
theorem d5_init_76 : decode cX5_init 76 = .ok (.aastore, 1) := by decide +kernel
theorem d5_init_77 : decode cX5_init 77 = .ok (.iinc 1 1, 3) := by decide +kernel
theorem d5_init_80 : decode cX5_init 80 = .ok (.goto (-21), 3) := by decide +kernel
theorem d5_init_83 : decode cX5_init 83 = .ok (.return_, 1) := by decide +kernel
set_option maxHeartbeats 4000000 in
set_option maxRecDepth 100000 in
theorem con_X5 (l : Launch) : CtC l yX5_init cX5_init 2 (rmC 3 58 29 4098) (.inr (5, [.null, .null, .null, .null, .int 0, .int 0, .int 0])) mk_X5 29 4098 := by
  refine CtC.of (by decide) (by decide) rfl (fun X h _ O hQ => ?_)
  have O : OC X RX5 cX5_init 2 (rmC 3 58 29 4098) := O
  refine k_aload_n O d5_init_0 0 rfl ?_
  refine k_obj O w_61 w_62 w_63 (by decide) (Nat.le_of_ble_eq_true rfl) d5_init_1 ?_
  refine k_aload_n O d5_init_4 0 rfl ?_
  refine k_iconst O d5_init_5 (v := 4) (by decide) ?_
  refine k_newq O (C := "BallastSteps$Row") 3 rfl (by decide) w_64 (N' := 4) (by decide) (by decide) (by decide) (by decide) (by decide) d5_init_6 (fun q0 => ?_)
  refine k_show [(h, .inr (5, [.null, .null, .null, .null, .int 0, .int 0, .int 0])), (q0, .inl (qC X 3, 4, .inr (.inr (.inr (.inr (fun _ => none))))))] rfl ?_
  refine k_putF O (ci := 5) (f := 0) (ty := .array (.object "BallastSteps$Row")) 0 [(h, .inr (5, [.ref q0, .null, .null, .null, .int 0, .int 0, .int 0])), (q0, .inl (qC X 3, 4, .inr (.inr (.inr (.inr (fun _ => none))))))] rfl in_X5 tyX5_ok nmX5 (by decide) w_214 rfl rfl rfl (by decide +kernel) rfl rfl (Nat.le_of_ble_eq_true rfl) rfl d5_init_9 ?_
  refine k_aload_n O d5_init_12 0 rfl ?_
  refine k_new O (ci := 3) [.null, .null, .null, .int 0, .int 0, .int 0, .int 0] rfl in_X3 tyX3_ok w_66 w_67 w_46 (fun j hj => by rcases (show j = 0 ∨ j = 1 ∨ j = 2 ∨ j = 3 ∨ j = 4 ∨ j = 5 ∨ j = 6 by omega) with rfl | rfl | rfl | rfl | rfl | rfl | rfl <;> rfl) (by decide) (by decide) d5_init_13 (fun q1 => ?_)
  refine k_show [(h, .inr (5, [.ref q0, .null, .null, .null, .int 0, .int 0, .int 0])), (q0, .inl (qC X 3, 4, .inr (.inr (.inr (.inr (fun _ => none)))))), (q1, .inr (3, [.null, .null, .null, .int 0, .int 0, .int 0, .int 0]))] rfl ?_
  refine k_dup O d5_init_16 rfl ?_
  refine k_init O (con_X3 (qL X)) 2 [0, 1] [(h, .inr (5, [.ref q0, .null, .null, .null, .int 0, .int 0, .int 0])), (q0, .inl (qC X 3, 4, .inr (.inr (.inr (.inr (fun _ => none))))))] rfl rfl (by decide) (by decide) rfl (Or.inl w_68) w_69 w_46 w_70 hy_X3_init ⟨rfl, rfl, by decide, by decide⟩ (Nat.le_of_ble_eq_true rfl) ⟨by decide, by decide⟩ d5_init_17 (fun u2 hu2 => ?_)
  refine k_show [(h, .inr (5, [.ref q0, .null, .null, .null, .int 0, .int 0, .int 0])), (q0, .inl (qC X 3, 4, .inr (.inr (.inr (.inr (fun _ => none)))))), (q1, .inr (3, [.ref (u2 1), .ref (u2 2), .ref (u2 3), .int 0, .int 0, .int 0, .int 0])), ((u2 1), .inl (qC X 4, 6, .inr (.inr (.inr (.inr (fun k => some (u2 (5 + k)))))))), ((u2 2), .inl (qC X 0, 3, .inl (fun _ => 0))), ((u2 3), .inr (0, [.ref (u2 4), .int 0, .int 0, .int 0])), ((u2 4), .inl (qC X 0, 7, .inl (fun _ => 0))), ((u2 5), .inr (4, [.int 0, .int 0, .int 0, .int 0])), ((u2 6), .inr (4, [.int 0, .int 0, .int 0, .int 0])), ((u2 7), .inr (4, [.int 0, .int 0, .int 0, .int 0])), ((u2 8), .inr (4, [.int 0, .int 0, .int 0, .int 0])), ((u2 9), .inr (4, [.int 0, .int 0, .int 0, .int 0])), ((u2 10), .inr (4, [.int 0, .int 0, .int 0, .int 0]))] (by simp only [mk_X3, hu2, List.cons_append, List.nil_append]) ?_
  refine k_putF O (ci := 5) (f := 1) (ty := .object "BallastSteps$Ship") 0 [(h, .inr (5, [.ref q0, .ref q1, .null, .null, .int 0, .int 0, .int 0])), (q0, .inl (qC X 3, 4, .inr (.inr (.inr (.inr (fun _ => none)))))), (q1, .inr (3, [.ref (u2 1), .ref (u2 2), .ref (u2 3), .int 0, .int 0, .int 0, .int 0])), ((u2 1), .inl (qC X 4, 6, .inr (.inr (.inr (.inr (fun k => some (u2 (5 + k)))))))), ((u2 2), .inl (qC X 0, 3, .inl (fun _ => 0))), ((u2 3), .inr (0, [.ref (u2 4), .int 0, .int 0, .int 0])), ((u2 4), .inl (qC X 0, 7, .inl (fun _ => 0))), ((u2 5), .inr (4, [.int 0, .int 0, .int 0, .int 0])), ((u2 6), .inr (4, [.int 0, .int 0, .int 0, .int 0])), ((u2 7), .inr (4, [.int 0, .int 0, .int 0, .int 0])), ((u2 8), .inr (4, [.int 0, .int 0, .int 0, .int 0])), ((u2 9), .inr (4, [.int 0, .int 0, .int 0, .int 0])), ((u2 10), .inr (4, [.int 0, .int 0, .int 0, .int 0]))] rfl in_X5 tyX5_ok nmX5 (by decide) w_215 rfl rfl rfl (by decide +kernel) rfl rfl (Nat.le_of_ble_eq_true rfl) rfl d5_init_20 ?_
  refine k_aload_n O d5_init_23 0 rfl ?_
  refine k_new O (ci := 2) [.null, .null, .null, .null, .null, .null, .null, .int 0, .int 0, .int 0] rfl in_X2 tyX2_ok w_156 w_157 w_49 (fun j hj => by rcases (show j = 0 ∨ j = 1 ∨ j = 2 ∨ j = 3 ∨ j = 4 ∨ j = 5 ∨ j = 6 ∨ j = 7 ∨ j = 8 ∨ j = 9 by omega) with rfl | rfl | rfl | rfl | rfl | rfl | rfl | rfl | rfl | rfl <;> rfl) (by decide) (by decide) d5_init_24 (fun q3 => ?_)
  refine k_show [(h, .inr (5, [.ref q0, .ref q1, .null, .null, .int 0, .int 0, .int 0])), (q0, .inl (qC X 3, 4, .inr (.inr (.inr (.inr (fun _ => none)))))), (q1, .inr (3, [.ref (u2 1), .ref (u2 2), .ref (u2 3), .int 0, .int 0, .int 0, .int 0])), ((u2 1), .inl (qC X 4, 6, .inr (.inr (.inr (.inr (fun k => some (u2 (5 + k)))))))), ((u2 2), .inl (qC X 0, 3, .inl (fun _ => 0))), ((u2 3), .inr (0, [.ref (u2 4), .int 0, .int 0, .int 0])), ((u2 4), .inl (qC X 0, 7, .inl (fun _ => 0))), ((u2 5), .inr (4, [.int 0, .int 0, .int 0, .int 0])), ((u2 6), .inr (4, [.int 0, .int 0, .int 0, .int 0])), ((u2 7), .inr (4, [.int 0, .int 0, .int 0, .int 0])), ((u2 8), .inr (4, [.int 0, .int 0, .int 0, .int 0])), ((u2 9), .inr (4, [.int 0, .int 0, .int 0, .int 0])), ((u2 10), .inr (4, [.int 0, .int 0, .int 0, .int 0])), (q3, .inr (2, [.null, .null, .null, .null, .null, .null, .null, .int 0, .int 0, .int 0]))] rfl ?_
  refine k_dup O d5_init_27 rfl ?_
  refine k_init O (con_X2 (qL X)) 13 [0, 1, 2, 3, 4, 5, 6, 7, 8, 9, 10, 11, 12] [(h, .inr (5, [.ref q0, .ref q1, .null, .null, .int 0, .int 0, .int 0])), (q0, .inl (qC X 3, 4, .inr (.inr (.inr (.inr (fun _ => none)))))), (q1, .inr (3, [.ref (u2 1), .ref (u2 2), .ref (u2 3), .int 0, .int 0, .int 0, .int 0])), ((u2 1), .inl (qC X 4, 6, .inr (.inr (.inr (.inr (fun k => some (u2 (5 + k)))))))), ((u2 2), .inl (qC X 0, 3, .inl (fun _ => 0))), ((u2 3), .inr (0, [.ref (u2 4), .int 0, .int 0, .int 0])), ((u2 4), .inl (qC X 0, 7, .inl (fun _ => 0))), ((u2 5), .inr (4, [.int 0, .int 0, .int 0, .int 0])), ((u2 6), .inr (4, [.int 0, .int 0, .int 0, .int 0])), ((u2 7), .inr (4, [.int 0, .int 0, .int 0, .int 0])), ((u2 8), .inr (4, [.int 0, .int 0, .int 0, .int 0])), ((u2 9), .inr (4, [.int 0, .int 0, .int 0, .int 0])), ((u2 10), .inr (4, [.int 0, .int 0, .int 0, .int 0]))] rfl rfl (by decide) (by decide) rfl (Or.inr ⟨_, w_158⟩) w_159 w_49 w_160 hy_X2_init ⟨rfl, rfl, by decide, by decide⟩ (Nat.le_of_ble_eq_true rfl) ⟨by decide, by decide⟩ d5_init_28 (fun u4 hu4 => ?_)
  refine k_show [(h, .inr (5, [.ref q0, .ref q1, .null, .null, .int 0, .int 0, .int 0])), (q0, .inl (qC X 3, 4, .inr (.inr (.inr (.inr (fun _ => none)))))), (q1, .inr (3, [.ref (u2 1), .ref (u2 2), .ref (u2 3), .int 0, .int 0, .int 0, .int 0])), ((u2 1), .inl (qC X 4, 6, .inr (.inr (.inr (.inr (fun k => some (u2 (5 + k)))))))), ((u2 2), .inl (qC X 0, 3, .inl (fun _ => 0))), ((u2 3), .inr (0, [.ref (u2 4), .int 0, .int 0, .int 0])), ((u2 4), .inl (qC X 0, 7, .inl (fun _ => 0))), ((u2 5), .inr (4, [.int 0, .int 0, .int 0, .int 0])), ((u2 6), .inr (4, [.int 0, .int 0, .int 0, .int 0])), ((u2 7), .inr (4, [.int 0, .int 0, .int 0, .int 0])), ((u2 8), .inr (4, [.int 0, .int 0, .int 0, .int 0])), ((u2 9), .inr (4, [.int 0, .int 0, .int 0, .int 0])), ((u2 10), .inr (4, [.int 0, .int 0, .int 0, .int 0])), (q3, .inr (2, [.ref (u4 1), .ref (u4 2), .ref (u4 3), .ref (u4 4), .ref (u4 5), .ref (u4 6), .ref (u4 7), .int 0, .int 0, .int (-9)])), ((u4 1), .inl (qC X 0, 729, .inl (fun _ => 0))), ((u4 2), .inl (qC X 0, 729, .inl (fun _ => 0))), ((u4 3), .inl (qC X 0, 729, .inl (fun _ => 0))), ((u4 4), .inl (qC X 0, 729, .inl (fun _ => 0))), ((u4 5), .inl (qC X 1, 729, .inr (.inl (fun _ => 0)))), ((u4 6), .inl (qC X 2, 64, .inl (fun _ => 0))), ((u4 7), .inl (qC X 0, 64, .inl (fun _ => 0)))] (by simp only [mk_X2, hu4, List.cons_append, List.nil_append]) ?_
  refine k_putF O (ci := 5) (f := 2) (ty := .object "BallastSteps$Search") 0 [(h, .inr (5, [.ref q0, .ref q1, .ref q3, .null, .int 0, .int 0, .int 0])), (q0, .inl (qC X 3, 4, .inr (.inr (.inr (.inr (fun _ => none)))))), (q1, .inr (3, [.ref (u2 1), .ref (u2 2), .ref (u2 3), .int 0, .int 0, .int 0, .int 0])), ((u2 1), .inl (qC X 4, 6, .inr (.inr (.inr (.inr (fun k => some (u2 (5 + k)))))))), ((u2 2), .inl (qC X 0, 3, .inl (fun _ => 0))), ((u2 3), .inr (0, [.ref (u2 4), .int 0, .int 0, .int 0])), ((u2 4), .inl (qC X 0, 7, .inl (fun _ => 0))), ((u2 5), .inr (4, [.int 0, .int 0, .int 0, .int 0])), ((u2 6), .inr (4, [.int 0, .int 0, .int 0, .int 0])), ((u2 7), .inr (4, [.int 0, .int 0, .int 0, .int 0])), ((u2 8), .inr (4, [.int 0, .int 0, .int 0, .int 0])), ((u2 9), .inr (4, [.int 0, .int 0, .int 0, .int 0])), ((u2 10), .inr (4, [.int 0, .int 0, .int 0, .int 0])), (q3, .inr (2, [.ref (u4 1), .ref (u4 2), .ref (u4 3), .ref (u4 4), .ref (u4 5), .ref (u4 6), .ref (u4 7), .int 0, .int 0, .int (-9)])), ((u4 1), .inl (qC X 0, 729, .inl (fun _ => 0))), ((u4 2), .inl (qC X 0, 729, .inl (fun _ => 0))), ((u4 3), .inl (qC X 0, 729, .inl (fun _ => 0))), ((u4 4), .inl (qC X 0, 729, .inl (fun _ => 0))), ((u4 5), .inl (qC X 1, 729, .inr (.inl (fun _ => 0)))), ((u4 6), .inl (qC X 2, 64, .inl (fun _ => 0))), ((u4 7), .inl (qC X 0, 64, .inl (fun _ => 0)))] rfl in_X5 tyX5_ok nmX5 (by decide) w_216 rfl rfl rfl (by decide +kernel) rfl rfl (Nat.le_of_ble_eq_true rfl) rfl d5_init_31 ?_
  refine k_aload_n O d5_init_34 0 rfl ?_
  refine k_bipush O d5_init_35 (v := 8) (by decide) ?_
  refine k_newa O (atype := .int) (ty := .int) 0 rfl rfl (fun _ h => by cases h) w_96 (N' := 8) (8, .inl (fun _ => 0)) (fun _ => rfl) (by decide) (by decide) (by decide) (by decide) (by decide) d5_init_37 (fun q5 => ?_)
  refine k_show [(h, .inr (5, [.ref q0, .ref q1, .ref q3, .null, .int 0, .int 0, .int 0])), (q0, .inl (qC X 3, 4, .inr (.inr (.inr (.inr (fun _ => none)))))), (q1, .inr (3, [.ref (u2 1), .ref (u2 2), .ref (u2 3), .int 0, .int 0, .int 0, .int 0])), ((u2 1), .inl (qC X 4, 6, .inr (.inr (.inr (.inr (fun k => some (u2 (5 + k)))))))), ((u2 2), .inl (qC X 0, 3, .inl (fun _ => 0))), ((u2 3), .inr (0, [.ref (u2 4), .int 0, .int 0, .int 0])), ((u2 4), .inl (qC X 0, 7, .inl (fun _ => 0))), ((u2 5), .inr (4, [.int 0, .int 0, .int 0, .int 0])), ((u2 6), .inr (4, [.int 0, .int 0, .int 0, .int 0])), ((u2 7), .inr (4, [.int 0, .int 0, .int 0, .int 0])), ((u2 8), .inr (4, [.int 0, .int 0, .int 0, .int 0])), ((u2 9), .inr (4, [.int 0, .int 0, .int 0, .int 0])), ((u2 10), .inr (4, [.int 0, .int 0, .int 0, .int 0])), (q3, .inr (2, [.ref (u4 1), .ref (u4 2), .ref (u4 3), .ref (u4 4), .ref (u4 5), .ref (u4 6), .ref (u4 7), .int 0, .int 0, .int (-9)])), ((u4 1), .inl (qC X 0, 729, .inl (fun _ => 0))), ((u4 2), .inl (qC X 0, 729, .inl (fun _ => 0))), ((u4 3), .inl (qC X 0, 729, .inl (fun _ => 0))), ((u4 4), .inl (qC X 0, 729, .inl (fun _ => 0))), ((u4 5), .inl (qC X 1, 729, .inr (.inl (fun _ => 0)))), ((u4 6), .inl (qC X 2, 64, .inl (fun _ => 0))), ((u4 7), .inl (qC X 0, 64, .inl (fun _ => 0))), (q5, .inl (qC X 0, 8, .inl (fun _ => 0)))] rfl ?_
  refine k_putF O (ci := 5) (f := 3) (ty := .array .int) 0 [(h, .inr (5, [.ref q0, .ref q1, .ref q3, .ref q5, .int 0, .int 0, .int 0])), (q0, .inl (qC X 3, 4, .inr (.inr (.inr (.inr (fun _ => none)))))), (q1, .inr (3, [.ref (u2 1), .ref (u2 2), .ref (u2 3), .int 0, .int 0, .int 0, .int 0])), ((u2 1), .inl (qC X 4, 6, .inr (.inr (.inr (.inr (fun k => some (u2 (5 + k)))))))), ((u2 2), .inl (qC X 0, 3, .inl (fun _ => 0))), ((u2 3), .inr (0, [.ref (u2 4), .int 0, .int 0, .int 0])), ((u2 4), .inl (qC X 0, 7, .inl (fun _ => 0))), ((u2 5), .inr (4, [.int 0, .int 0, .int 0, .int 0])), ((u2 6), .inr (4, [.int 0, .int 0, .int 0, .int 0])), ((u2 7), .inr (4, [.int 0, .int 0, .int 0, .int 0])), ((u2 8), .inr (4, [.int 0, .int 0, .int 0, .int 0])), ((u2 9), .inr (4, [.int 0, .int 0, .int 0, .int 0])), ((u2 10), .inr (4, [.int 0, .int 0, .int 0, .int 0])), (q3, .inr (2, [.ref (u4 1), .ref (u4 2), .ref (u4 3), .ref (u4 4), .ref (u4 5), .ref (u4 6), .ref (u4 7), .int 0, .int 0, .int (-9)])), ((u4 1), .inl (qC X 0, 729, .inl (fun _ => 0))), ((u4 2), .inl (qC X 0, 729, .inl (fun _ => 0))), ((u4 3), .inl (qC X 0, 729, .inl (fun _ => 0))), ((u4 4), .inl (qC X 0, 729, .inl (fun _ => 0))), ((u4 5), .inl (qC X 1, 729, .inr (.inl (fun _ => 0)))), ((u4 6), .inl (qC X 2, 64, .inl (fun _ => 0))), ((u4 7), .inl (qC X 0, 64, .inl (fun _ => 0))), (q5, .inl (qC X 0, 8, .inl (fun _ => 0)))] rfl in_X5 tyX5_ok nmX5 (by decide) w_217 rfl rfl rfl (by decide +kernel) rfl rfl (Nat.le_of_ble_eq_true rfl) rfl d5_init_39 ?_
  refine k_aload_n O d5_init_42 0 rfl ?_
  refine k_iconst O d5_init_43 (v := 0) (by decide) ?_
  refine k_put O (ci := 5) (f := 4) (ty := .int) 0 [(h, .inr (5, [.ref q0, .ref q1, .ref q3, .ref q5, .int 0, .int 0, .int 0])), (q0, .inl (qC X 3, 4, .inr (.inr (.inr (.inr (fun _ => none)))))), (q1, .inr (3, [.ref (u2 1), .ref (u2 2), .ref (u2 3), .int 0, .int 0, .int 0, .int 0])), ((u2 1), .inl (qC X 4, 6, .inr (.inr (.inr (.inr (fun k => some (u2 (5 + k)))))))), ((u2 2), .inl (qC X 0, 3, .inl (fun _ => 0))), ((u2 3), .inr (0, [.ref (u2 4), .int 0, .int 0, .int 0])), ((u2 4), .inl (qC X 0, 7, .inl (fun _ => 0))), ((u2 5), .inr (4, [.int 0, .int 0, .int 0, .int 0])), ((u2 6), .inr (4, [.int 0, .int 0, .int 0, .int 0])), ((u2 7), .inr (4, [.int 0, .int 0, .int 0, .int 0])), ((u2 8), .inr (4, [.int 0, .int 0, .int 0, .int 0])), ((u2 9), .inr (4, [.int 0, .int 0, .int 0, .int 0])), ((u2 10), .inr (4, [.int 0, .int 0, .int 0, .int 0])), (q3, .inr (2, [.ref (u4 1), .ref (u4 2), .ref (u4 3), .ref (u4 4), .ref (u4 5), .ref (u4 6), .ref (u4 7), .int 0, .int 0, .int (-9)])), ((u4 1), .inl (qC X 0, 729, .inl (fun _ => 0))), ((u4 2), .inl (qC X 0, 729, .inl (fun _ => 0))), ((u4 3), .inl (qC X 0, 729, .inl (fun _ => 0))), ((u4 4), .inl (qC X 0, 729, .inl (fun _ => 0))), ((u4 5), .inl (qC X 1, 729, .inr (.inl (fun _ => 0)))), ((u4 6), .inl (qC X 2, 64, .inl (fun _ => 0))), ((u4 7), .inl (qC X 0, 64, .inl (fun _ => 0))), (q5, .inl (qC X 0, 8, .inl (fun _ => 0)))] rfl in_X5 tyX5_ok nmX5 (by decide) w_218 rfl rfl (by decide +kernel) rfl rfl (Nat.le_of_ble_eq_true rfl) rfl d5_init_44 ?_
  refine k_aload_n O d5_init_47 0 rfl ?_
  refine k_iconst O d5_init_48 (v := 0) (by decide) ?_
  refine k_put O (ci := 5) (f := 5) (ty := .int) 0 [(h, .inr (5, [.ref q0, .ref q1, .ref q3, .ref q5, .int 0, .int 0, .int 0])), (q0, .inl (qC X 3, 4, .inr (.inr (.inr (.inr (fun _ => none)))))), (q1, .inr (3, [.ref (u2 1), .ref (u2 2), .ref (u2 3), .int 0, .int 0, .int 0, .int 0])), ((u2 1), .inl (qC X 4, 6, .inr (.inr (.inr (.inr (fun k => some (u2 (5 + k)))))))), ((u2 2), .inl (qC X 0, 3, .inl (fun _ => 0))), ((u2 3), .inr (0, [.ref (u2 4), .int 0, .int 0, .int 0])), ((u2 4), .inl (qC X 0, 7, .inl (fun _ => 0))), ((u2 5), .inr (4, [.int 0, .int 0, .int 0, .int 0])), ((u2 6), .inr (4, [.int 0, .int 0, .int 0, .int 0])), ((u2 7), .inr (4, [.int 0, .int 0, .int 0, .int 0])), ((u2 8), .inr (4, [.int 0, .int 0, .int 0, .int 0])), ((u2 9), .inr (4, [.int 0, .int 0, .int 0, .int 0])), ((u2 10), .inr (4, [.int 0, .int 0, .int 0, .int 0])), (q3, .inr (2, [.ref (u4 1), .ref (u4 2), .ref (u4 3), .ref (u4 4), .ref (u4 5), .ref (u4 6), .ref (u4 7), .int 0, .int 0, .int (-9)])), ((u4 1), .inl (qC X 0, 729, .inl (fun _ => 0))), ((u4 2), .inl (qC X 0, 729, .inl (fun _ => 0))), ((u4 3), .inl (qC X 0, 729, .inl (fun _ => 0))), ((u4 4), .inl (qC X 0, 729, .inl (fun _ => 0))), ((u4 5), .inl (qC X 1, 729, .inr (.inl (fun _ => 0)))), ((u4 6), .inl (qC X 2, 64, .inl (fun _ => 0))), ((u4 7), .inl (qC X 0, 64, .inl (fun _ => 0))), (q5, .inl (qC X 0, 8, .inl (fun _ => 0)))] rfl in_X5 tyX5_ok nmX5 (by decide) w_219 rfl rfl (by decide +kernel) rfl rfl (Nat.le_of_ble_eq_true rfl) rfl d5_init_49 ?_
  refine k_aload_n O d5_init_52 0 rfl ?_
  refine k_iconst O d5_init_53 (v := 0) (by decide) ?_
  refine k_put O (ci := 5) (f := 6) (ty := .int) 0 [(h, .inr (5, [.ref q0, .ref q1, .ref q3, .ref q5, .int 0, .int 0, .int 0])), (q0, .inl (qC X 3, 4, .inr (.inr (.inr (.inr (fun _ => none)))))), (q1, .inr (3, [.ref (u2 1), .ref (u2 2), .ref (u2 3), .int 0, .int 0, .int 0, .int 0])), ((u2 1), .inl (qC X 4, 6, .inr (.inr (.inr (.inr (fun k => some (u2 (5 + k)))))))), ((u2 2), .inl (qC X 0, 3, .inl (fun _ => 0))), ((u2 3), .inr (0, [.ref (u2 4), .int 0, .int 0, .int 0])), ((u2 4), .inl (qC X 0, 7, .inl (fun _ => 0))), ((u2 5), .inr (4, [.int 0, .int 0, .int 0, .int 0])), ((u2 6), .inr (4, [.int 0, .int 0, .int 0, .int 0])), ((u2 7), .inr (4, [.int 0, .int 0, .int 0, .int 0])), ((u2 8), .inr (4, [.int 0, .int 0, .int 0, .int 0])), ((u2 9), .inr (4, [.int 0, .int 0, .int 0, .int 0])), ((u2 10), .inr (4, [.int 0, .int 0, .int 0, .int 0])), (q3, .inr (2, [.ref (u4 1), .ref (u4 2), .ref (u4 3), .ref (u4 4), .ref (u4 5), .ref (u4 6), .ref (u4 7), .int 0, .int 0, .int (-9)])), ((u4 1), .inl (qC X 0, 729, .inl (fun _ => 0))), ((u4 2), .inl (qC X 0, 729, .inl (fun _ => 0))), ((u4 3), .inl (qC X 0, 729, .inl (fun _ => 0))), ((u4 4), .inl (qC X 0, 729, .inl (fun _ => 0))), ((u4 5), .inl (qC X 1, 729, .inr (.inl (fun _ => 0)))), ((u4 6), .inl (qC X 2, 64, .inl (fun _ => 0))), ((u4 7), .inl (qC X 0, 64, .inl (fun _ => 0))), (q5, .inl (qC X 0, 8, .inl (fun _ => 0)))] rfl in_X5 tyX5_ok nmX5 (by decide) w_220 rfl rfl (by decide +kernel) rfl rfl (Nat.le_of_ble_eq_true rfl) rfl d5_init_54 ?_
  refine k_iconst O d5_init_57 (v := 0) (by decide) ?_
  refine k_istore_n O d5_init_58 [(1, .int 0), (0, .ref h)] (by decide) rfl ?_
  refine k_iload_n O d5_init_59 0 rfl ?_
  refine k_iconst O d5_init_60 (v := 4) (by decide) ?_
  refine k_ge_n O 83 d5_init_61 (by decide) (by decide) ?_
  refine k_aload_n O d5_init_64 1 rfl ?_
  refine k_get O (ci := 5) (f := 0) 0 rfl in_X5 (by decide) w_214 rfl rfl d5_init_65 ?_
  refine k_iload_n O d5_init_68 0 rfl ?_
  refine k_new O (ci := 1) [.null, .int 0, .int 0] rfl in_X1 tyX1_ok w_64 w_196 w_50 (fun j hj => by rcases (show j = 0 ∨ j = 1 ∨ j = 2 by omega) with rfl | rfl | rfl <;> rfl) (by decide) (by decide) d5_init_69 (fun q6 => ?_)
  refine k_show [(h, .inr (5, [.ref q0, .ref q1, .ref q3, .ref q5, .int 0, .int 0, .int 0])), (q0, .inl (qC X 3, 4, .inr (.inr (.inr (.inr (fun _ => none)))))), (q1, .inr (3, [.ref (u2 1), .ref (u2 2), .ref (u2 3), .int 0, .int 0, .int 0, .int 0])), ((u2 1), .inl (qC X 4, 6, .inr (.inr (.inr (.inr (fun k => some (u2 (5 + k)))))))), ((u2 2), .inl (qC X 0, 3, .inl (fun _ => 0))), ((u2 3), .inr (0, [.ref (u2 4), .int 0, .int 0, .int 0])), ((u2 4), .inl (qC X 0, 7, .inl (fun _ => 0))), ((u2 5), .inr (4, [.int 0, .int 0, .int 0, .int 0])), ((u2 6), .inr (4, [.int 0, .int 0, .int 0, .int 0])), ((u2 7), .inr (4, [.int 0, .int 0, .int 0, .int 0])), ((u2 8), .inr (4, [.int 0, .int 0, .int 0, .int 0])), ((u2 9), .inr (4, [.int 0, .int 0, .int 0, .int 0])), ((u2 10), .inr (4, [.int 0, .int 0, .int 0, .int 0])), (q3, .inr (2, [.ref (u4 1), .ref (u4 2), .ref (u4 3), .ref (u4 4), .ref (u4 5), .ref (u4 6), .ref (u4 7), .int 0, .int 0, .int (-9)])), ((u4 1), .inl (qC X 0, 729, .inl (fun _ => 0))), ((u4 2), .inl (qC X 0, 729, .inl (fun _ => 0))), ((u4 3), .inl (qC X 0, 729, .inl (fun _ => 0))), ((u4 4), .inl (qC X 0, 729, .inl (fun _ => 0))), ((u4 5), .inl (qC X 1, 729, .inr (.inl (fun _ => 0)))), ((u4 6), .inl (qC X 2, 64, .inl (fun _ => 0))), ((u4 7), .inl (qC X 0, 64, .inl (fun _ => 0))), (q5, .inl (qC X 0, 8, .inl (fun _ => 0))), (q6, .inr (1, [.null, .int 0, .int 0]))] rfl ?_
  refine k_dup O d5_init_72 rfl ?_
  refine k_init O (con_X1 (qL X)) 22 [0, 1, 2, 3, 4, 5, 6, 7, 8, 9, 10, 11, 12, 13, 14, 15, 16, 17, 18, 19, 20, 21] [(h, .inr (5, [.ref q0, .ref q1, .ref q3, .ref q5, .int 0, .int 0, .int 0])), (q0, .inl (qC X 3, 4, .inr (.inr (.inr (.inr (fun _ => none)))))), (q1, .inr (3, [.ref (u2 1), .ref (u2 2), .ref (u2 3), .int 0, .int 0, .int 0, .int 0])), ((u2 1), .inl (qC X 4, 6, .inr (.inr (.inr (.inr (fun k => some (u2 (5 + k)))))))), ((u2 2), .inl (qC X 0, 3, .inl (fun _ => 0))), ((u2 3), .inr (0, [.ref (u2 4), .int 0, .int 0, .int 0])), ((u2 4), .inl (qC X 0, 7, .inl (fun _ => 0))), ((u2 5), .inr (4, [.int 0, .int 0, .int 0, .int 0])), ((u2 6), .inr (4, [.int 0, .int 0, .int 0, .int 0])), ((u2 7), .inr (4, [.int 0, .int 0, .int 0, .int 0])), ((u2 8), .inr (4, [.int 0, .int 0, .int 0, .int 0])), ((u2 9), .inr (4, [.int 0, .int 0, .int 0, .int 0])), ((u2 10), .inr (4, [.int 0, .int 0, .int 0, .int 0])), (q3, .inr (2, [.ref (u4 1), .ref (u4 2), .ref (u4 3), .ref (u4 4), .ref (u4 5), .ref (u4 6), .ref (u4 7), .int 0, .int 0, .int (-9)])), ((u4 1), .inl (qC X 0, 729, .inl (fun _ => 0))), ((u4 2), .inl (qC X 0, 729, .inl (fun _ => 0))), ((u4 3), .inl (qC X 0, 729, .inl (fun _ => 0))), ((u4 4), .inl (qC X 0, 729, .inl (fun _ => 0))), ((u4 5), .inl (qC X 1, 729, .inr (.inl (fun _ => 0)))), ((u4 6), .inl (qC X 2, 64, .inl (fun _ => 0))), ((u4 7), .inl (qC X 0, 64, .inl (fun _ => 0))), (q5, .inl (qC X 0, 8, .inl (fun _ => 0)))] rfl rfl (by decide) (by decide) rfl (Or.inr ⟨_, w_197⟩) w_198 w_50 w_199 hy_X1_init ⟨rfl, rfl, by decide, by decide⟩ (Nat.le_of_ble_eq_true rfl) ⟨by decide, by decide⟩ d5_init_73 (fun u7 hu7 => ?_)
  refine k_show [(h, .inr (5, [.ref q0, .ref q1, .ref q3, .ref q5, .int 0, .int 0, .int 0])), (q0, .inl (qC X 3, 4, .inr (.inr (.inr (.inr (fun _ => none)))))), (q1, .inr (3, [.ref (u2 1), .ref (u2 2), .ref (u2 3), .int 0, .int 0, .int 0, .int 0])), ((u2 1), .inl (qC X 4, 6, .inr (.inr (.inr (.inr (fun k => some (u2 (5 + k)))))))), ((u2 2), .inl (qC X 0, 3, .inl (fun _ => 0))), ((u2 3), .inr (0, [.ref (u2 4), .int 0, .int 0, .int 0])), ((u2 4), .inl (qC X 0, 7, .inl (fun _ => 0))), ((u2 5), .inr (4, [.int 0, .int 0, .int 0, .int 0])), ((u2 6), .inr (4, [.int 0, .int 0, .int 0, .int 0])), ((u2 7), .inr (4, [.int 0, .int 0, .int 0, .int 0])), ((u2 8), .inr (4, [.int 0, .int 0, .int 0, .int 0])), ((u2 9), .inr (4, [.int 0, .int 0, .int 0, .int 0])), ((u2 10), .inr (4, [.int 0, .int 0, .int 0, .int 0])), (q3, .inr (2, [.ref (u4 1), .ref (u4 2), .ref (u4 3), .ref (u4 4), .ref (u4 5), .ref (u4 6), .ref (u4 7), .int 0, .int 0, .int (-9)])), ((u4 1), .inl (qC X 0, 729, .inl (fun _ => 0))), ((u4 2), .inl (qC X 0, 729, .inl (fun _ => 0))), ((u4 3), .inl (qC X 0, 729, .inl (fun _ => 0))), ((u4 4), .inl (qC X 0, 729, .inl (fun _ => 0))), ((u4 5), .inl (qC X 1, 729, .inr (.inl (fun _ => 0)))), ((u4 6), .inl (qC X 2, 64, .inl (fun _ => 0))), ((u4 7), .inl (qC X 0, 64, .inl (fun _ => 0))), (q5, .inl (qC X 0, 8, .inl (fun _ => 0))), (q6, .inr (1, [.ref (u7 1), .int (-1), .int 0])), ((u7 1), .inl (qC X 0, 60, .inl (fun _ => 0)))] (by simp only [mk_X1, hu7, List.cons_append, List.nil_append]) ?_
  refine k_astq O (t0 := 3) (ci := 1) 1 22 [(h, .inr (5, [.ref q0, .ref q1, .ref q3, .ref q5, .int 0, .int 0, .int 0])), (q0, .inl (qC X 3, 4, .inr (.inr (.inr (.inr (va_up (fun _ => none) 0 (some q6))))))), (q1, .inr (3, [.ref (u2 1), .ref (u2 2), .ref (u2 3), .int 0, .int 0, .int 0, .int 0])), ((u2 1), .inl (qC X 4, 6, .inr (.inr (.inr (.inr (fun k => some (u2 (5 + k)))))))), ((u2 2), .inl (qC X 0, 3, .inl (fun _ => 0))), ((u2 3), .inr (0, [.ref (u2 4), .int 0, .int 0, .int 0])), ((u2 4), .inl (qC X 0, 7, .inl (fun _ => 0))), ((u2 5), .inr (4, [.int 0, .int 0, .int 0, .int 0])), ((u2 6), .inr (4, [.int 0, .int 0, .int 0, .int 0])), ((u2 7), .inr (4, [.int 0, .int 0, .int 0, .int 0])), ((u2 8), .inr (4, [.int 0, .int 0, .int 0, .int 0])), ((u2 9), .inr (4, [.int 0, .int 0, .int 0, .int 0])), ((u2 10), .inr (4, [.int 0, .int 0, .int 0, .int 0])), (q3, .inr (2, [.ref (u4 1), .ref (u4 2), .ref (u4 3), .ref (u4 4), .ref (u4 5), .ref (u4 6), .ref (u4 7), .int 0, .int 0, .int (-9)])), ((u4 1), .inl (qC X 0, 729, .inl (fun _ => 0))), ((u4 2), .inl (qC X 0, 729, .inl (fun _ => 0))), ((u4 3), .inl (qC X 0, 729, .inl (fun _ => 0))), ((u4 4), .inl (qC X 0, 729, .inl (fun _ => 0))), ((u4 5), .inl (qC X 1, 729, .inr (.inl (fun _ => 0)))), ((u4 6), .inl (qC X 2, 64, .inl (fun _ => 0))), ((u4 7), .inl (qC X 0, 64, .inl (fun _ => 0))), (q5, .inl (qC X 0, 8, .inl (fun _ => 0))), (q6, .inr (1, [.ref (u7 1), .int (-1), .int 0])), ((u7 1), .inl (qC X 0, 60, .inl (fun _ => 0)))] rfl rfl rfl rfl (vin rfl) rfl d5_init_76 ?_
  refine k_iinc O d5_init_77 0 (v := 1) rfl (by decide) [(1, .int 1), (0, .ref h)] (by decide) rfl ?_
  refine k_goto O 59 d5_init_80 (by decide) ?_
  refine k_iload_n O d5_init_59 0 rfl ?_
  refine k_iconst O d5_init_60 (v := 4) (by decide) ?_
  refine k_ge_n O 83 d5_init_61 (by decide) (by decide) ?_
  refine k_aload_n O d5_init_64 1 rfl ?_
  refine k_get O (ci := 5) (f := 0) 0 rfl in_X5 (by decide) w_214 rfl rfl d5_init_65 ?_
  refine k_iload_n O d5_init_68 0 rfl ?_
  refine k_new O (ci := 1) [.null, .int 0, .int 0] rfl in_X1 tyX1_ok w_64 w_196 w_50 (fun j hj => by rcases (show j = 0 ∨ j = 1 ∨ j = 2 by omega) with rfl | rfl | rfl <;> rfl) (by decide) (by decide) d5_init_69 (fun q8 => ?_)
  refine k_show [(h, .inr (5, [.ref q0, .ref q1, .ref q3, .ref q5, .int 0, .int 0, .int 0])), (q0, .inl (qC X 3, 4, .inr (.inr (.inr (.inr (va_up (fun _ => none) 0 (some q6))))))), (q1, .inr (3, [.ref (u2 1), .ref (u2 2), .ref (u2 3), .int 0, .int 0, .int 0, .int 0])), ((u2 1), .inl (qC X 4, 6, .inr (.inr (.inr (.inr (fun k => some (u2 (5 + k)))))))), ((u2 2), .inl (qC X 0, 3, .inl (fun _ => 0))), ((u2 3), .inr (0, [.ref (u2 4), .int 0, .int 0, .int 0])), ((u2 4), .inl (qC X 0, 7, .inl (fun _ => 0))), ((u2 5), .inr (4, [.int 0, .int 0, .int 0, .int 0])), ((u2 6), .inr (4, [.int 0, .int 0, .int 0, .int 0])), ((u2 7), .inr (4, [.int 0, .int 0, .int 0, .int 0])), ((u2 8), .inr (4, [.int 0, .int 0, .int 0, .int 0])), ((u2 9), .inr (4, [.int 0, .int 0, .int 0, .int 0])), ((u2 10), .inr (4, [.int 0, .int 0, .int 0, .int 0])), (q3, .inr (2, [.ref (u4 1), .ref (u4 2), .ref (u4 3), .ref (u4 4), .ref (u4 5), .ref (u4 6), .ref (u4 7), .int 0, .int 0, .int (-9)])), ((u4 1), .inl (qC X 0, 729, .inl (fun _ => 0))), ((u4 2), .inl (qC X 0, 729, .inl (fun _ => 0))), ((u4 3), .inl (qC X 0, 729, .inl (fun _ => 0))), ((u4 4), .inl (qC X 0, 729, .inl (fun _ => 0))), ((u4 5), .inl (qC X 1, 729, .inr (.inl (fun _ => 0)))), ((u4 6), .inl (qC X 2, 64, .inl (fun _ => 0))), ((u4 7), .inl (qC X 0, 64, .inl (fun _ => 0))), (q5, .inl (qC X 0, 8, .inl (fun _ => 0))), (q6, .inr (1, [.ref (u7 1), .int (-1), .int 0])), ((u7 1), .inl (qC X 0, 60, .inl (fun _ => 0))), (q8, .inr (1, [.null, .int 0, .int 0]))] rfl ?_
  refine k_dup O d5_init_72 rfl ?_
  refine k_init O (con_X1 (qL X)) 24 [0, 1, 2, 3, 4, 5, 6, 7, 8, 9, 10, 11, 12, 13, 14, 15, 16, 17, 18, 19, 20, 21, 22, 23] [(h, .inr (5, [.ref q0, .ref q1, .ref q3, .ref q5, .int 0, .int 0, .int 0])), (q0, .inl (qC X 3, 4, .inr (.inr (.inr (.inr (va_up (fun _ => none) 0 (some q6))))))), (q1, .inr (3, [.ref (u2 1), .ref (u2 2), .ref (u2 3), .int 0, .int 0, .int 0, .int 0])), ((u2 1), .inl (qC X 4, 6, .inr (.inr (.inr (.inr (fun k => some (u2 (5 + k)))))))), ((u2 2), .inl (qC X 0, 3, .inl (fun _ => 0))), ((u2 3), .inr (0, [.ref (u2 4), .int 0, .int 0, .int 0])), ((u2 4), .inl (qC X 0, 7, .inl (fun _ => 0))), ((u2 5), .inr (4, [.int 0, .int 0, .int 0, .int 0])), ((u2 6), .inr (4, [.int 0, .int 0, .int 0, .int 0])), ((u2 7), .inr (4, [.int 0, .int 0, .int 0, .int 0])), ((u2 8), .inr (4, [.int 0, .int 0, .int 0, .int 0])), ((u2 9), .inr (4, [.int 0, .int 0, .int 0, .int 0])), ((u2 10), .inr (4, [.int 0, .int 0, .int 0, .int 0])), (q3, .inr (2, [.ref (u4 1), .ref (u4 2), .ref (u4 3), .ref (u4 4), .ref (u4 5), .ref (u4 6), .ref (u4 7), .int 0, .int 0, .int (-9)])), ((u4 1), .inl (qC X 0, 729, .inl (fun _ => 0))), ((u4 2), .inl (qC X 0, 729, .inl (fun _ => 0))), ((u4 3), .inl (qC X 0, 729, .inl (fun _ => 0))), ((u4 4), .inl (qC X 0, 729, .inl (fun _ => 0))), ((u4 5), .inl (qC X 1, 729, .inr (.inl (fun _ => 0)))), ((u4 6), .inl (qC X 2, 64, .inl (fun _ => 0))), ((u4 7), .inl (qC X 0, 64, .inl (fun _ => 0))), (q5, .inl (qC X 0, 8, .inl (fun _ => 0))), (q6, .inr (1, [.ref (u7 1), .int (-1), .int 0])), ((u7 1), .inl (qC X 0, 60, .inl (fun _ => 0)))] rfl rfl (by decide) (by decide) rfl (Or.inr ⟨_, w_197⟩) w_198 w_50 w_199 hy_X1_init ⟨rfl, rfl, by decide, by decide⟩ (Nat.le_of_ble_eq_true rfl) ⟨by decide, by decide⟩ d5_init_73 (fun u9 hu9 => ?_)
  refine k_show [(h, .inr (5, [.ref q0, .ref q1, .ref q3, .ref q5, .int 0, .int 0, .int 0])), (q0, .inl (qC X 3, 4, .inr (.inr (.inr (.inr (va_up (fun _ => none) 0 (some q6))))))), (q1, .inr (3, [.ref (u2 1), .ref (u2 2), .ref (u2 3), .int 0, .int 0, .int 0, .int 0])), ((u2 1), .inl (qC X 4, 6, .inr (.inr (.inr (.inr (fun k => some (u2 (5 + k)))))))), ((u2 2), .inl (qC X 0, 3, .inl (fun _ => 0))), ((u2 3), .inr (0, [.ref (u2 4), .int 0, .int 0, .int 0])), ((u2 4), .inl (qC X 0, 7, .inl (fun _ => 0))), ((u2 5), .inr (4, [.int 0, .int 0, .int 0, .int 0])), ((u2 6), .inr (4, [.int 0, .int 0, .int 0, .int 0])), ((u2 7), .inr (4, [.int 0, .int 0, .int 0, .int 0])), ((u2 8), .inr (4, [.int 0, .int 0, .int 0, .int 0])), ((u2 9), .inr (4, [.int 0, .int 0, .int 0, .int 0])), ((u2 10), .inr (4, [.int 0, .int 0, .int 0, .int 0])), (q3, .inr (2, [.ref (u4 1), .ref (u4 2), .ref (u4 3), .ref (u4 4), .ref (u4 5), .ref (u4 6), .ref (u4 7), .int 0, .int 0, .int (-9)])), ((u4 1), .inl (qC X 0, 729, .inl (fun _ => 0))), ((u4 2), .inl (qC X 0, 729, .inl (fun _ => 0))), ((u4 3), .inl (qC X 0, 729, .inl (fun _ => 0))), ((u4 4), .inl (qC X 0, 729, .inl (fun _ => 0))), ((u4 5), .inl (qC X 1, 729, .inr (.inl (fun _ => 0)))), ((u4 6), .inl (qC X 2, 64, .inl (fun _ => 0))), ((u4 7), .inl (qC X 0, 64, .inl (fun _ => 0))), (q5, .inl (qC X 0, 8, .inl (fun _ => 0))), (q6, .inr (1, [.ref (u7 1), .int (-1), .int 0])), ((u7 1), .inl (qC X 0, 60, .inl (fun _ => 0))), (q8, .inr (1, [.ref (u9 1), .int (-1), .int 0])), ((u9 1), .inl (qC X 0, 60, .inl (fun _ => 0)))] (by simp only [mk_X1, hu9, List.cons_append, List.nil_append]) ?_
  refine k_astq O (t0 := 3) (ci := 1) 1 24 [(h, .inr (5, [.ref q0, .ref q1, .ref q3, .ref q5, .int 0, .int 0, .int 0])), (q0, .inl (qC X 3, 4, .inr (.inr (.inr (.inr (va_up (va_up (fun _ => none) 0 (some q6)) 1 (some q8))))))), (q1, .inr (3, [.ref (u2 1), .ref (u2 2), .ref (u2 3), .int 0, .int 0, .int 0, .int 0])), ((u2 1), .inl (qC X 4, 6, .inr (.inr (.inr (.inr (fun k => some (u2 (5 + k)))))))), ((u2 2), .inl (qC X 0, 3, .inl (fun _ => 0))), ((u2 3), .inr (0, [.ref (u2 4), .int 0, .int 0, .int 0])), ((u2 4), .inl (qC X 0, 7, .inl (fun _ => 0))), ((u2 5), .inr (4, [.int 0, .int 0, .int 0, .int 0])), ((u2 6), .inr (4, [.int 0, .int 0, .int 0, .int 0])), ((u2 7), .inr (4, [.int 0, .int 0, .int 0, .int 0])), ((u2 8), .inr (4, [.int 0, .int 0, .int 0, .int 0])), ((u2 9), .inr (4, [.int 0, .int 0, .int 0, .int 0])), ((u2 10), .inr (4, [.int 0, .int 0, .int 0, .int 0])), (q3, .inr (2, [.ref (u4 1), .ref (u4 2), .ref (u4 3), .ref (u4 4), .ref (u4 5), .ref (u4 6), .ref (u4 7), .int 0, .int 0, .int (-9)])), ((u4 1), .inl (qC X 0, 729, .inl (fun _ => 0))), ((u4 2), .inl (qC X 0, 729, .inl (fun _ => 0))), ((u4 3), .inl (qC X 0, 729, .inl (fun _ => 0))), ((u4 4), .inl (qC X 0, 729, .inl (fun _ => 0))), ((u4 5), .inl (qC X 1, 729, .inr (.inl (fun _ => 0)))), ((u4 6), .inl (qC X 2, 64, .inl (fun _ => 0))), ((u4 7), .inl (qC X 0, 64, .inl (fun _ => 0))), (q5, .inl (qC X 0, 8, .inl (fun _ => 0))), (q6, .inr (1, [.ref (u7 1), .int (-1), .int 0])), ((u7 1), .inl (qC X 0, 60, .inl (fun _ => 0))), (q8, .inr (1, [.ref (u9 1), .int (-1), .int 0])), ((u9 1), .inl (qC X 0, 60, .inl (fun _ => 0)))] rfl rfl rfl rfl (vin rfl) rfl d5_init_76 ?_
  refine k_iinc O d5_init_77 0 (v := 2) rfl (by decide) [(1, .int 2), (0, .ref h)] (by decide) rfl ?_
  refine k_goto O 59 d5_init_80 (by decide) ?_
  refine k_iload_n O d5_init_59 0 rfl ?_
  refine k_iconst O d5_init_60 (v := 4) (by decide) ?_
  refine k_ge_n O 83 d5_init_61 (by decide) (by decide) ?_
  refine k_aload_n O d5_init_64 1 rfl ?_
  refine k_get O (ci := 5) (f := 0) 0 rfl in_X5 (by decide) w_214 rfl rfl d5_init_65 ?_
  refine k_iload_n O d5_init_68 0 rfl ?_
  refine k_new O (ci := 1) [.null, .int 0, .int 0] rfl in_X1 tyX1_ok w_64 w_196 w_50 (fun j hj => by rcases (show j = 0 ∨ j = 1 ∨ j = 2 by omega) with rfl | rfl | rfl <;> rfl) (by decide) (by decide) d5_init_69 (fun q10 => ?_)
  refine k_show [(h, .inr (5, [.ref q0, .ref q1, .ref q3, .ref q5, .int 0, .int 0, .int 0])), (q0, .inl (qC X 3, 4, .inr (.inr (.inr (.inr (va_up (va_up (fun _ => none) 0 (some q6)) 1 (some q8))))))), (q1, .inr (3, [.ref (u2 1), .ref (u2 2), .ref (u2 3), .int 0, .int 0, .int 0, .int 0])), ((u2 1), .inl (qC X 4, 6, .inr (.inr (.inr (.inr (fun k => some (u2 (5 + k)))))))), ((u2 2), .inl (qC X 0, 3, .inl (fun _ => 0))), ((u2 3), .inr (0, [.ref (u2 4), .int 0, .int 0, .int 0])), ((u2 4), .inl (qC X 0, 7, .inl (fun _ => 0))), ((u2 5), .inr (4, [.int 0, .int 0, .int 0, .int 0])), ((u2 6), .inr (4, [.int 0, .int 0, .int 0, .int 0])), ((u2 7), .inr (4, [.int 0, .int 0, .int 0, .int 0])), ((u2 8), .inr (4, [.int 0, .int 0, .int 0, .int 0])), ((u2 9), .inr (4, [.int 0, .int 0, .int 0, .int 0])), ((u2 10), .inr (4, [.int 0, .int 0, .int 0, .int 0])), (q3, .inr (2, [.ref (u4 1), .ref (u4 2), .ref (u4 3), .ref (u4 4), .ref (u4 5), .ref (u4 6), .ref (u4 7), .int 0, .int 0, .int (-9)])), ((u4 1), .inl (qC X 0, 729, .inl (fun _ => 0))), ((u4 2), .inl (qC X 0, 729, .inl (fun _ => 0))), ((u4 3), .inl (qC X 0, 729, .inl (fun _ => 0))), ((u4 4), .inl (qC X 0, 729, .inl (fun _ => 0))), ((u4 5), .inl (qC X 1, 729, .inr (.inl (fun _ => 0)))), ((u4 6), .inl (qC X 2, 64, .inl (fun _ => 0))), ((u4 7), .inl (qC X 0, 64, .inl (fun _ => 0))), (q5, .inl (qC X 0, 8, .inl (fun _ => 0))), (q6, .inr (1, [.ref (u7 1), .int (-1), .int 0])), ((u7 1), .inl (qC X 0, 60, .inl (fun _ => 0))), (q8, .inr (1, [.ref (u9 1), .int (-1), .int 0])), ((u9 1), .inl (qC X 0, 60, .inl (fun _ => 0))), (q10, .inr (1, [.null, .int 0, .int 0]))] rfl ?_
  refine k_dup O d5_init_72 rfl ?_
  refine k_init O (con_X1 (qL X)) 26 [0, 1, 2, 3, 4, 5, 6, 7, 8, 9, 10, 11, 12, 13, 14, 15, 16, 17, 18, 19, 20, 21, 22, 23, 24, 25] [(h, .inr (5, [.ref q0, .ref q1, .ref q3, .ref q5, .int 0, .int 0, .int 0])), (q0, .inl (qC X 3, 4, .inr (.inr (.inr (.inr (va_up (va_up (fun _ => none) 0 (some q6)) 1 (some q8))))))), (q1, .inr (3, [.ref (u2 1), .ref (u2 2), .ref (u2 3), .int 0, .int 0, .int 0, .int 0])), ((u2 1), .inl (qC X 4, 6, .inr (.inr (.inr (.inr (fun k => some (u2 (5 + k)))))))), ((u2 2), .inl (qC X 0, 3, .inl (fun _ => 0))), ((u2 3), .inr (0, [.ref (u2 4), .int 0, .int 0, .int 0])), ((u2 4), .inl (qC X 0, 7, .inl (fun _ => 0))), ((u2 5), .inr (4, [.int 0, .int 0, .int 0, .int 0])), ((u2 6), .inr (4, [.int 0, .int 0, .int 0, .int 0])), ((u2 7), .inr (4, [.int 0, .int 0, .int 0, .int 0])), ((u2 8), .inr (4, [.int 0, .int 0, .int 0, .int 0])), ((u2 9), .inr (4, [.int 0, .int 0, .int 0, .int 0])), ((u2 10), .inr (4, [.int 0, .int 0, .int 0, .int 0])), (q3, .inr (2, [.ref (u4 1), .ref (u4 2), .ref (u4 3), .ref (u4 4), .ref (u4 5), .ref (u4 6), .ref (u4 7), .int 0, .int 0, .int (-9)])), ((u4 1), .inl (qC X 0, 729, .inl (fun _ => 0))), ((u4 2), .inl (qC X 0, 729, .inl (fun _ => 0))), ((u4 3), .inl (qC X 0, 729, .inl (fun _ => 0))), ((u4 4), .inl (qC X 0, 729, .inl (fun _ => 0))), ((u4 5), .inl (qC X 1, 729, .inr (.inl (fun _ => 0)))), ((u4 6), .inl (qC X 2, 64, .inl (fun _ => 0))), ((u4 7), .inl (qC X 0, 64, .inl (fun _ => 0))), (q5, .inl (qC X 0, 8, .inl (fun _ => 0))), (q6, .inr (1, [.ref (u7 1), .int (-1), .int 0])), ((u7 1), .inl (qC X 0, 60, .inl (fun _ => 0))), (q8, .inr (1, [.ref (u9 1), .int (-1), .int 0])), ((u9 1), .inl (qC X 0, 60, .inl (fun _ => 0)))] rfl rfl (by decide) (by decide) rfl (Or.inr ⟨_, w_197⟩) w_198 w_50 w_199 hy_X1_init ⟨rfl, rfl, by decide, by decide⟩ (Nat.le_of_ble_eq_true rfl) ⟨by decide, by decide⟩ d5_init_73 (fun u11 hu11 => ?_)
  refine k_show [(h, .inr (5, [.ref q0, .ref q1, .ref q3, .ref q5, .int 0, .int 0, .int 0])), (q0, .inl (qC X 3, 4, .inr (.inr (.inr (.inr (va_up (va_up (fun _ => none) 0 (some q6)) 1 (some q8))))))), (q1, .inr (3, [.ref (u2 1), .ref (u2 2), .ref (u2 3), .int 0, .int 0, .int 0, .int 0])), ((u2 1), .inl (qC X 4, 6, .inr (.inr (.inr (.inr (fun k => some (u2 (5 + k)))))))), ((u2 2), .inl (qC X 0, 3, .inl (fun _ => 0))), ((u2 3), .inr (0, [.ref (u2 4), .int 0, .int 0, .int 0])), ((u2 4), .inl (qC X 0, 7, .inl (fun _ => 0))), ((u2 5), .inr (4, [.int 0, .int 0, .int 0, .int 0])), ((u2 6), .inr (4, [.int 0, .int 0, .int 0, .int 0])), ((u2 7), .inr (4, [.int 0, .int 0, .int 0, .int 0])), ((u2 8), .inr (4, [.int 0, .int 0, .int 0, .int 0])), ((u2 9), .inr (4, [.int 0, .int 0, .int 0, .int 0])), ((u2 10), .inr (4, [.int 0, .int 0, .int 0, .int 0])), (q3, .inr (2, [.ref (u4 1), .ref (u4 2), .ref (u4 3), .ref (u4 4), .ref (u4 5), .ref (u4 6), .ref (u4 7), .int 0, .int 0, .int (-9)])), ((u4 1), .inl (qC X 0, 729, .inl (fun _ => 0))), ((u4 2), .inl (qC X 0, 729, .inl (fun _ => 0))), ((u4 3), .inl (qC X 0, 729, .inl (fun _ => 0))), ((u4 4), .inl (qC X 0, 729, .inl (fun _ => 0))), ((u4 5), .inl (qC X 1, 729, .inr (.inl (fun _ => 0)))), ((u4 6), .inl (qC X 2, 64, .inl (fun _ => 0))), ((u4 7), .inl (qC X 0, 64, .inl (fun _ => 0))), (q5, .inl (qC X 0, 8, .inl (fun _ => 0))), (q6, .inr (1, [.ref (u7 1), .int (-1), .int 0])), ((u7 1), .inl (qC X 0, 60, .inl (fun _ => 0))), (q8, .inr (1, [.ref (u9 1), .int (-1), .int 0])), ((u9 1), .inl (qC X 0, 60, .inl (fun _ => 0))), (q10, .inr (1, [.ref (u11 1), .int (-1), .int 0])), ((u11 1), .inl (qC X 0, 60, .inl (fun _ => 0)))] (by simp only [mk_X1, hu11, List.cons_append, List.nil_append]) ?_
  refine k_astq O (t0 := 3) (ci := 1) 1 26 [(h, .inr (5, [.ref q0, .ref q1, .ref q3, .ref q5, .int 0, .int 0, .int 0])), (q0, .inl (qC X 3, 4, .inr (.inr (.inr (.inr (va_up (va_up (va_up (fun _ => none) 0 (some q6)) 1 (some q8)) 2 (some q10))))))), (q1, .inr (3, [.ref (u2 1), .ref (u2 2), .ref (u2 3), .int 0, .int 0, .int 0, .int 0])), ((u2 1), .inl (qC X 4, 6, .inr (.inr (.inr (.inr (fun k => some (u2 (5 + k)))))))), ((u2 2), .inl (qC X 0, 3, .inl (fun _ => 0))), ((u2 3), .inr (0, [.ref (u2 4), .int 0, .int 0, .int 0])), ((u2 4), .inl (qC X 0, 7, .inl (fun _ => 0))), ((u2 5), .inr (4, [.int 0, .int 0, .int 0, .int 0])), ((u2 6), .inr (4, [.int 0, .int 0, .int 0, .int 0])), ((u2 7), .inr (4, [.int 0, .int 0, .int 0, .int 0])), ((u2 8), .inr (4, [.int 0, .int 0, .int 0, .int 0])), ((u2 9), .inr (4, [.int 0, .int 0, .int 0, .int 0])), ((u2 10), .inr (4, [.int 0, .int 0, .int 0, .int 0])), (q3, .inr (2, [.ref (u4 1), .ref (u4 2), .ref (u4 3), .ref (u4 4), .ref (u4 5), .ref (u4 6), .ref (u4 7), .int 0, .int 0, .int (-9)])), ((u4 1), .inl (qC X 0, 729, .inl (fun _ => 0))), ((u4 2), .inl (qC X 0, 729, .inl (fun _ => 0))), ((u4 3), .inl (qC X 0, 729, .inl (fun _ => 0))), ((u4 4), .inl (qC X 0, 729, .inl (fun _ => 0))), ((u4 5), .inl (qC X 1, 729, .inr (.inl (fun _ => 0)))), ((u4 6), .inl (qC X 2, 64, .inl (fun _ => 0))), ((u4 7), .inl (qC X 0, 64, .inl (fun _ => 0))), (q5, .inl (qC X 0, 8, .inl (fun _ => 0))), (q6, .inr (1, [.ref (u7 1), .int (-1), .int 0])), ((u7 1), .inl (qC X 0, 60, .inl (fun _ => 0))), (q8, .inr (1, [.ref (u9 1), .int (-1), .int 0])), ((u9 1), .inl (qC X 0, 60, .inl (fun _ => 0))), (q10, .inr (1, [.ref (u11 1), .int (-1), .int 0])), ((u11 1), .inl (qC X 0, 60, .inl (fun _ => 0)))] rfl rfl rfl rfl (vin rfl) rfl d5_init_76 ?_
  refine k_iinc O d5_init_77 0 (v := 3) rfl (by decide) [(1, .int 3), (0, .ref h)] (by decide) rfl ?_
  refine k_goto O 59 d5_init_80 (by decide) ?_
  refine k_iload_n O d5_init_59 0 rfl ?_
  refine k_iconst O d5_init_60 (v := 4) (by decide) ?_
  refine k_ge_n O 83 d5_init_61 (by decide) (by decide) ?_
  refine k_aload_n O d5_init_64 1 rfl ?_
  refine k_get O (ci := 5) (f := 0) 0 rfl in_X5 (by decide) w_214 rfl rfl d5_init_65 ?_
  refine k_iload_n O d5_init_68 0 rfl ?_
  refine k_new O (ci := 1) [.null, .int 0, .int 0] rfl in_X1 tyX1_ok w_64 w_196 w_50 (fun j hj => by rcases (show j = 0 ∨ j = 1 ∨ j = 2 by omega) with rfl | rfl | rfl <;> rfl) (by decide) (by decide) d5_init_69 (fun q12 => ?_)
  refine k_show [(h, .inr (5, [.ref q0, .ref q1, .ref q3, .ref q5, .int 0, .int 0, .int 0])), (q0, .inl (qC X 3, 4, .inr (.inr (.inr (.inr (va_up (va_up (va_up (fun _ => none) 0 (some q6)) 1 (some q8)) 2 (some q10))))))), (q1, .inr (3, [.ref (u2 1), .ref (u2 2), .ref (u2 3), .int 0, .int 0, .int 0, .int 0])), ((u2 1), .inl (qC X 4, 6, .inr (.inr (.inr (.inr (fun k => some (u2 (5 + k)))))))), ((u2 2), .inl (qC X 0, 3, .inl (fun _ => 0))), ((u2 3), .inr (0, [.ref (u2 4), .int 0, .int 0, .int 0])), ((u2 4), .inl (qC X 0, 7, .inl (fun _ => 0))), ((u2 5), .inr (4, [.int 0, .int 0, .int 0, .int 0])), ((u2 6), .inr (4, [.int 0, .int 0, .int 0, .int 0])), ((u2 7), .inr (4, [.int 0, .int 0, .int 0, .int 0])), ((u2 8), .inr (4, [.int 0, .int 0, .int 0, .int 0])), ((u2 9), .inr (4, [.int 0, .int 0, .int 0, .int 0])), ((u2 10), .inr (4, [.int 0, .int 0, .int 0, .int 0])), (q3, .inr (2, [.ref (u4 1), .ref (u4 2), .ref (u4 3), .ref (u4 4), .ref (u4 5), .ref (u4 6), .ref (u4 7), .int 0, .int 0, .int (-9)])), ((u4 1), .inl (qC X 0, 729, .inl (fun _ => 0))), ((u4 2), .inl (qC X 0, 729, .inl (fun _ => 0))), ((u4 3), .inl (qC X 0, 729, .inl (fun _ => 0))), ((u4 4), .inl (qC X 0, 729, .inl (fun _ => 0))), ((u4 5), .inl (qC X 1, 729, .inr (.inl (fun _ => 0)))), ((u4 6), .inl (qC X 2, 64, .inl (fun _ => 0))), ((u4 7), .inl (qC X 0, 64, .inl (fun _ => 0))), (q5, .inl (qC X 0, 8, .inl (fun _ => 0))), (q6, .inr (1, [.ref (u7 1), .int (-1), .int 0])), ((u7 1), .inl (qC X 0, 60, .inl (fun _ => 0))), (q8, .inr (1, [.ref (u9 1), .int (-1), .int 0])), ((u9 1), .inl (qC X 0, 60, .inl (fun _ => 0))), (q10, .inr (1, [.ref (u11 1), .int (-1), .int 0])), ((u11 1), .inl (qC X 0, 60, .inl (fun _ => 0))), (q12, .inr (1, [.null, .int 0, .int 0]))] rfl ?_
  refine k_dup O d5_init_72 rfl ?_
  refine k_init O (con_X1 (qL X)) 28 [0, 1, 2, 3, 4, 5, 6, 7, 8, 9, 10, 11, 12, 13, 14, 15, 16, 17, 18, 19, 20, 21, 22, 23, 24, 25, 26, 27] [(h, .inr (5, [.ref q0, .ref q1, .ref q3, .ref q5, .int 0, .int 0, .int 0])), (q0, .inl (qC X 3, 4, .inr (.inr (.inr (.inr (va_up (va_up (va_up (fun _ => none) 0 (some q6)) 1 (some q8)) 2 (some q10))))))), (q1, .inr (3, [.ref (u2 1), .ref (u2 2), .ref (u2 3), .int 0, .int 0, .int 0, .int 0])), ((u2 1), .inl (qC X 4, 6, .inr (.inr (.inr (.inr (fun k => some (u2 (5 + k)))))))), ((u2 2), .inl (qC X 0, 3, .inl (fun _ => 0))), ((u2 3), .inr (0, [.ref (u2 4), .int 0, .int 0, .int 0])), ((u2 4), .inl (qC X 0, 7, .inl (fun _ => 0))), ((u2 5), .inr (4, [.int 0, .int 0, .int 0, .int 0])), ((u2 6), .inr (4, [.int 0, .int 0, .int 0, .int 0])), ((u2 7), .inr (4, [.int 0, .int 0, .int 0, .int 0])), ((u2 8), .inr (4, [.int 0, .int 0, .int 0, .int 0])), ((u2 9), .inr (4, [.int 0, .int 0, .int 0, .int 0])), ((u2 10), .inr (4, [.int 0, .int 0, .int 0, .int 0])), (q3, .inr (2, [.ref (u4 1), .ref (u4 2), .ref (u4 3), .ref (u4 4), .ref (u4 5), .ref (u4 6), .ref (u4 7), .int 0, .int 0, .int (-9)])), ((u4 1), .inl (qC X 0, 729, .inl (fun _ => 0))), ((u4 2), .inl (qC X 0, 729, .inl (fun _ => 0))), ((u4 3), .inl (qC X 0, 729, .inl (fun _ => 0))), ((u4 4), .inl (qC X 0, 729, .inl (fun _ => 0))), ((u4 5), .inl (qC X 1, 729, .inr (.inl (fun _ => 0)))), ((u4 6), .inl (qC X 2, 64, .inl (fun _ => 0))), ((u4 7), .inl (qC X 0, 64, .inl (fun _ => 0))), (q5, .inl (qC X 0, 8, .inl (fun _ => 0))), (q6, .inr (1, [.ref (u7 1), .int (-1), .int 0])), ((u7 1), .inl (qC X 0, 60, .inl (fun _ => 0))), (q8, .inr (1, [.ref (u9 1), .int (-1), .int 0])), ((u9 1), .inl (qC X 0, 60, .inl (fun _ => 0))), (q10, .inr (1, [.ref (u11 1), .int (-1), .int 0])), ((u11 1), .inl (qC X 0, 60, .inl (fun _ => 0)))] rfl rfl (by decide) (by decide) rfl (Or.inr ⟨_, w_197⟩) w_198 w_50 w_199 hy_X1_init ⟨rfl, rfl, by decide, by decide⟩ (Nat.le_of_ble_eq_true rfl) ⟨by decide, by decide⟩ d5_init_73 (fun u13 hu13 => ?_)
  refine k_show [(h, .inr (5, [.ref q0, .ref q1, .ref q3, .ref q5, .int 0, .int 0, .int 0])), (q0, .inl (qC X 3, 4, .inr (.inr (.inr (.inr (va_up (va_up (va_up (fun _ => none) 0 (some q6)) 1 (some q8)) 2 (some q10))))))), (q1, .inr (3, [.ref (u2 1), .ref (u2 2), .ref (u2 3), .int 0, .int 0, .int 0, .int 0])), ((u2 1), .inl (qC X 4, 6, .inr (.inr (.inr (.inr (fun k => some (u2 (5 + k)))))))), ((u2 2), .inl (qC X 0, 3, .inl (fun _ => 0))), ((u2 3), .inr (0, [.ref (u2 4), .int 0, .int 0, .int 0])), ((u2 4), .inl (qC X 0, 7, .inl (fun _ => 0))), ((u2 5), .inr (4, [.int 0, .int 0, .int 0, .int 0])), ((u2 6), .inr (4, [.int 0, .int 0, .int 0, .int 0])), ((u2 7), .inr (4, [.int 0, .int 0, .int 0, .int 0])), ((u2 8), .inr (4, [.int 0, .int 0, .int 0, .int 0])), ((u2 9), .inr (4, [.int 0, .int 0, .int 0, .int 0])), ((u2 10), .inr (4, [.int 0, .int 0, .int 0, .int 0])), (q3, .inr (2, [.ref (u4 1), .ref (u4 2), .ref (u4 3), .ref (u4 4), .ref (u4 5), .ref (u4 6), .ref (u4 7), .int 0, .int 0, .int (-9)])), ((u4 1), .inl (qC X 0, 729, .inl (fun _ => 0))), ((u4 2), .inl (qC X 0, 729, .inl (fun _ => 0))), ((u4 3), .inl (qC X 0, 729, .inl (fun _ => 0))), ((u4 4), .inl (qC X 0, 729, .inl (fun _ => 0))), ((u4 5), .inl (qC X 1, 729, .inr (.inl (fun _ => 0)))), ((u4 6), .inl (qC X 2, 64, .inl (fun _ => 0))), ((u4 7), .inl (qC X 0, 64, .inl (fun _ => 0))), (q5, .inl (qC X 0, 8, .inl (fun _ => 0))), (q6, .inr (1, [.ref (u7 1), .int (-1), .int 0])), ((u7 1), .inl (qC X 0, 60, .inl (fun _ => 0))), (q8, .inr (1, [.ref (u9 1), .int (-1), .int 0])), ((u9 1), .inl (qC X 0, 60, .inl (fun _ => 0))), (q10, .inr (1, [.ref (u11 1), .int (-1), .int 0])), ((u11 1), .inl (qC X 0, 60, .inl (fun _ => 0))), (q12, .inr (1, [.ref (u13 1), .int (-1), .int 0])), ((u13 1), .inl (qC X 0, 60, .inl (fun _ => 0)))] (by simp only [mk_X1, hu13, List.cons_append, List.nil_append]) ?_
  refine k_astq O (t0 := 3) (ci := 1) 1 28 [(h, .inr (5, [.ref q0, .ref q1, .ref q3, .ref q5, .int 0, .int 0, .int 0])), (q0, .inl (qC X 3, 4, .inr (.inr (.inr (.inr (va_up (va_up (va_up (va_up (fun _ => none) 0 (some q6)) 1 (some q8)) 2 (some q10)) 3 (some q12))))))), (q1, .inr (3, [.ref (u2 1), .ref (u2 2), .ref (u2 3), .int 0, .int 0, .int 0, .int 0])), ((u2 1), .inl (qC X 4, 6, .inr (.inr (.inr (.inr (fun k => some (u2 (5 + k)))))))), ((u2 2), .inl (qC X 0, 3, .inl (fun _ => 0))), ((u2 3), .inr (0, [.ref (u2 4), .int 0, .int 0, .int 0])), ((u2 4), .inl (qC X 0, 7, .inl (fun _ => 0))), ((u2 5), .inr (4, [.int 0, .int 0, .int 0, .int 0])), ((u2 6), .inr (4, [.int 0, .int 0, .int 0, .int 0])), ((u2 7), .inr (4, [.int 0, .int 0, .int 0, .int 0])), ((u2 8), .inr (4, [.int 0, .int 0, .int 0, .int 0])), ((u2 9), .inr (4, [.int 0, .int 0, .int 0, .int 0])), ((u2 10), .inr (4, [.int 0, .int 0, .int 0, .int 0])), (q3, .inr (2, [.ref (u4 1), .ref (u4 2), .ref (u4 3), .ref (u4 4), .ref (u4 5), .ref (u4 6), .ref (u4 7), .int 0, .int 0, .int (-9)])), ((u4 1), .inl (qC X 0, 729, .inl (fun _ => 0))), ((u4 2), .inl (qC X 0, 729, .inl (fun _ => 0))), ((u4 3), .inl (qC X 0, 729, .inl (fun _ => 0))), ((u4 4), .inl (qC X 0, 729, .inl (fun _ => 0))), ((u4 5), .inl (qC X 1, 729, .inr (.inl (fun _ => 0)))), ((u4 6), .inl (qC X 2, 64, .inl (fun _ => 0))), ((u4 7), .inl (qC X 0, 64, .inl (fun _ => 0))), (q5, .inl (qC X 0, 8, .inl (fun _ => 0))), (q6, .inr (1, [.ref (u7 1), .int (-1), .int 0])), ((u7 1), .inl (qC X 0, 60, .inl (fun _ => 0))), (q8, .inr (1, [.ref (u9 1), .int (-1), .int 0])), ((u9 1), .inl (qC X 0, 60, .inl (fun _ => 0))), (q10, .inr (1, [.ref (u11 1), .int (-1), .int 0])), ((u11 1), .inl (qC X 0, 60, .inl (fun _ => 0))), (q12, .inr (1, [.ref (u13 1), .int (-1), .int 0])), ((u13 1), .inl (qC X 0, 60, .inl (fun _ => 0)))] rfl rfl rfl rfl (vin rfl) rfl d5_init_76 ?_
  refine k_iinc O d5_init_77 0 (v := 4) rfl (by decide) [(1, .int 4), (0, .ref h)] (by decide) rfl ?_
  refine k_goto O 59 d5_init_80 (by decide) ?_
  refine k_iload_n O d5_init_59 0 rfl ?_
  refine k_iconst O d5_init_60 (v := 4) (by decide) ?_
  refine k_ge_y O 83 d5_init_61 (by decide) (by decide) ?_
  refine k_conv 1 (fun k => some (([h, q0, q1, q3, q5, (u2 3), (u2 4), (u2 1), (u2 2), (u4 1), (u4 2), (u4 3), (u4 4), (u4 5), (u4 6), (u4 7), q6, q8, q10, q12, (u7 1), (u9 1), (u11 1), (u13 1), (u2 5), (u2 6), (u2 7), (u2 8), (u2 9), (u2 10)] : List Nat).getD (16 + k) 0)) [(h, .inr (5, [.ref q0, .ref q1, .ref q3, .ref q5, .int 0, .int 0, .int 0])), (q0, .inl (qC X 3, 4, .inr (.inr (.inr (.inr (fun k => some (([h, q0, q1, q3, q5, (u2 3), (u2 4), (u2 1), (u2 2), (u4 1), (u4 2), (u4 3), (u4 4), (u4 5), (u4 6), (u4 7), q6, q8, q10, q12, (u7 1), (u9 1), (u11 1), (u13 1), (u2 5), (u2 6), (u2 7), (u2 8), (u2 9), (u2 10)] : List Nat).getD (16 + k) 0))))))), (q1, .inr (3, [.ref (u2 1), .ref (u2 2), .ref (u2 3), .int 0, .int 0, .int 0, .int 0])), ((u2 1), .inl (qC X 4, 6, .inr (.inr (.inr (.inr (fun k => some (u2 (5 + k)))))))), ((u2 2), .inl (qC X 0, 3, .inl (fun _ => 0))), ((u2 3), .inr (0, [.ref (u2 4), .int 0, .int 0, .int 0])), ((u2 4), .inl (qC X 0, 7, .inl (fun _ => 0))), ((u2 5), .inr (4, [.int 0, .int 0, .int 0, .int 0])), ((u2 6), .inr (4, [.int 0, .int 0, .int 0, .int 0])), ((u2 7), .inr (4, [.int 0, .int 0, .int 0, .int 0])), ((u2 8), .inr (4, [.int 0, .int 0, .int 0, .int 0])), ((u2 9), .inr (4, [.int 0, .int 0, .int 0, .int 0])), ((u2 10), .inr (4, [.int 0, .int 0, .int 0, .int 0])), (q3, .inr (2, [.ref (u4 1), .ref (u4 2), .ref (u4 3), .ref (u4 4), .ref (u4 5), .ref (u4 6), .ref (u4 7), .int 0, .int 0, .int (-9)])), ((u4 1), .inl (qC X 0, 729, .inl (fun _ => 0))), ((u4 2), .inl (qC X 0, 729, .inl (fun _ => 0))), ((u4 3), .inl (qC X 0, 729, .inl (fun _ => 0))), ((u4 4), .inl (qC X 0, 729, .inl (fun _ => 0))), ((u4 5), .inl (qC X 1, 729, .inr (.inl (fun _ => 0)))), ((u4 6), .inl (qC X 2, 64, .inl (fun _ => 0))), ((u4 7), .inl (qC X 0, 64, .inl (fun _ => 0))), (q5, .inl (qC X 0, 8, .inl (fun _ => 0))), (q6, .inr (1, [.ref (u7 1), .int (-1), .int 0])), ((u7 1), .inl (qC X 0, 60, .inl (fun _ => 0))), (q8, .inr (1, [.ref (u9 1), .int (-1), .int 0])), ((u9 1), .inl (qC X 0, 60, .inl (fun _ => 0))), (q10, .inr (1, [.ref (u11 1), .int (-1), .int 0])), ((u11 1), .inl (qC X 0, 60, .inl (fun _ => 0))), (q12, .inr (1, [.ref (u13 1), .int (-1), .int 0])), ((u13 1), .inl (qC X 0, 60, .inl (fun _ => 0)))] rfl (fun j hj => by rcases (show j = 0 ∨ j = 1 ∨ j = 2 ∨ j = 3 by omega) with rfl | rfl | rfl | rfl <;> rfl) rfl ?_
  refine k_conv 3 (fun k => some (([h, q0, q1, q3, q5, (u2 3), (u2 4), (u2 1), (u2 2), (u4 1), (u4 2), (u4 3), (u4 4), (u4 5), (u4 6), (u4 7), q6, q8, q10, q12, (u7 1), (u9 1), (u11 1), (u13 1), (u2 5), (u2 6), (u2 7), (u2 8), (u2 9), (u2 10)] : List Nat).getD (24 + k) 0)) [(h, .inr (5, [.ref q0, .ref q1, .ref q3, .ref q5, .int 0, .int 0, .int 0])), (q0, .inl (qC X 3, 4, .inr (.inr (.inr (.inr (fun k => some (([h, q0, q1, q3, q5, (u2 3), (u2 4), (u2 1), (u2 2), (u4 1), (u4 2), (u4 3), (u4 4), (u4 5), (u4 6), (u4 7), q6, q8, q10, q12, (u7 1), (u9 1), (u11 1), (u13 1), (u2 5), (u2 6), (u2 7), (u2 8), (u2 9), (u2 10)] : List Nat).getD (16 + k) 0))))))), (q1, .inr (3, [.ref (u2 1), .ref (u2 2), .ref (u2 3), .int 0, .int 0, .int 0, .int 0])), ((u2 1), .inl (qC X 4, 6, .inr (.inr (.inr (.inr (fun k => some (([h, q0, q1, q3, q5, (u2 3), (u2 4), (u2 1), (u2 2), (u4 1), (u4 2), (u4 3), (u4 4), (u4 5), (u4 6), (u4 7), q6, q8, q10, q12, (u7 1), (u9 1), (u11 1), (u13 1), (u2 5), (u2 6), (u2 7), (u2 8), (u2 9), (u2 10)] : List Nat).getD (24 + k) 0))))))), ((u2 2), .inl (qC X 0, 3, .inl (fun _ => 0))), ((u2 3), .inr (0, [.ref (u2 4), .int 0, .int 0, .int 0])), ((u2 4), .inl (qC X 0, 7, .inl (fun _ => 0))), ((u2 5), .inr (4, [.int 0, .int 0, .int 0, .int 0])), ((u2 6), .inr (4, [.int 0, .int 0, .int 0, .int 0])), ((u2 7), .inr (4, [.int 0, .int 0, .int 0, .int 0])), ((u2 8), .inr (4, [.int 0, .int 0, .int 0, .int 0])), ((u2 9), .inr (4, [.int 0, .int 0, .int 0, .int 0])), ((u2 10), .inr (4, [.int 0, .int 0, .int 0, .int 0])), (q3, .inr (2, [.ref (u4 1), .ref (u4 2), .ref (u4 3), .ref (u4 4), .ref (u4 5), .ref (u4 6), .ref (u4 7), .int 0, .int 0, .int (-9)])), ((u4 1), .inl (qC X 0, 729, .inl (fun _ => 0))), ((u4 2), .inl (qC X 0, 729, .inl (fun _ => 0))), ((u4 3), .inl (qC X 0, 729, .inl (fun _ => 0))), ((u4 4), .inl (qC X 0, 729, .inl (fun _ => 0))), ((u4 5), .inl (qC X 1, 729, .inr (.inl (fun _ => 0)))), ((u4 6), .inl (qC X 2, 64, .inl (fun _ => 0))), ((u4 7), .inl (qC X 0, 64, .inl (fun _ => 0))), (q5, .inl (qC X 0, 8, .inl (fun _ => 0))), (q6, .inr (1, [.ref (u7 1), .int (-1), .int 0])), ((u7 1), .inl (qC X 0, 60, .inl (fun _ => 0))), (q8, .inr (1, [.ref (u9 1), .int (-1), .int 0])), ((u9 1), .inl (qC X 0, 60, .inl (fun _ => 0))), (q10, .inr (1, [.ref (u11 1), .int (-1), .int 0])), ((u11 1), .inl (qC X 0, 60, .inl (fun _ => 0))), (q12, .inr (1, [.ref (u13 1), .int (-1), .int 0])), ((u13 1), .inl (qC X 0, 60, .inl (fun _ => 0)))] rfl (fun j hj => by rcases (show j = 0 ∨ j = 1 ∨ j = 2 ∨ j = 3 ∨ j = 4 ∨ j = 5 by omega) with rfl | rfl | rfl | rfl | rfl | rfl <;> rfl) rfl ?_
  refine k_ret O hQ (fun j => ([h, q0, q1, q3, q5, (u2 3), (u2 4), (u2 1), (u2 2), (u4 1), (u4 2), (u4 3), (u4 4), (u4 5), (u4 6), (u4 7), q6, q8, q10, q12, (u7 1), (u9 1), (u11 1), (u13 1), (u2 5), (u2 6), (u2 7), (u2 8), (u2 9), (u2 10)] : List Nat).getD j 0) rfl rfl rfl (fun D H h => ?_) (fun A h => ?_) d5_init_83
  · intro j q hj
    obtain ⟨hj1, rfl⟩ := wG_inv hj
    rcases (show j = 0 ∨ j = 1 ∨ j = 2 ∨ j = 3 ∨ j = 4 ∨ j = 5 ∨ j = 6 ∨ j = 7 ∨ j = 8 ∨ j = 9 ∨ j = 10 ∨ j = 11 ∨ j = 12 ∨ j = 13 ∨ j = 14 ∨ j = 15 ∨ j = 16 ∨ j = 17 ∨ j = 18 ∨ j = 19 ∨ j = 20 ∨ j = 21 ∨ j = 22 ∨ j = 23 ∨ j = 24 ∨ j = 25 ∨ j = 26 ∨ j = 27 ∨ j = 28 ∨ j = 29 by omega) with rfl | rfl | rfl | rfl | rfl | rfl | rfl | rfl | rfl | rfl | rfl | rfl | rfl | rfl | rfl | rfl | rfl | rfl | rfl | rfl | rfl | rfl | rfl | rfl | rfl | rfl | rfl | rfl | rfl | rfl
    · exact h 0 _ rfl
    · exact h 1 _ rfl
    · exact h 2 _ rfl
    · exact h 13 _ rfl
    · exact h 21 _ rfl
    · exact h 5 _ rfl
    · exact h 6 _ rfl
    · exact h 3 _ rfl
    · exact h 4 _ rfl
    · exact h 14 _ rfl
    · exact h 15 _ rfl
    · exact h 16 _ rfl
    · exact h 17 _ rfl
    · exact h 18 _ rfl
    · exact h 19 _ rfl
    · exact h 20 _ rfl
    · exact h 22 _ rfl
    · exact h 24 _ rfl
    · exact h 26 _ rfl
    · exact h 28 _ rfl
    · exact h 23 _ rfl
    · exact h 25 _ rfl
    · exact h 27 _ rfl
    · exact h 29 _ rfl
    · exact h 7 _ rfl
    · exact h 8 _ rfl
    · exact h 9 _ rfl
    · exact h 10 _ rfl
    · exact h 11 _ rfl
    · exact h 12 _ rfl
  · refine wG_D_of h [0, 1, 2, 13, 21, 5, 6, 3, 4, 14, 15, 16, 17, 18, 19, 20, 22, 24, 26, 28, 23, 25, 27, 29, 7, 8, 9, 10, 11, 12] (by decide) (fun j hj => ?_)
    rcases (show j = 0 ∨ j = 1 ∨ j = 2 ∨ j = 3 ∨ j = 4 ∨ j = 5 ∨ j = 6 ∨ j = 7 ∨ j = 8 ∨ j = 9 ∨ j = 10 ∨ j = 11 ∨ j = 12 ∨ j = 13 ∨ j = 14 ∨ j = 15 ∨ j = 16 ∨ j = 17 ∨ j = 18 ∨ j = 19 ∨ j = 20 ∨ j = 21 ∨ j = 22 ∨ j = 23 ∨ j = 24 ∨ j = 25 ∨ j = 26 ∨ j = 27 ∨ j = 28 ∨ j = 29 by omega) with rfl | rfl | rfl | rfl | rfl | rfl | rfl | rfl | rfl | rfl | rfl | rfl | rfl | rfl | rfl | rfl | rfl | rfl | rfl | rfl | rfl | rfl | rfl | rfl | rfl | rfl | rfl | rfl | rfl | rfl
    · exact ⟨_, _, rfl, rfl⟩
    · exact ⟨_, _, rfl, rfl⟩
    · exact ⟨_, _, rfl, rfl⟩
    · exact ⟨_, _, rfl, rfl⟩
    · exact ⟨_, _, rfl, rfl⟩
    · exact ⟨_, _, rfl, rfl⟩
    · exact ⟨_, _, rfl, rfl⟩
    · exact ⟨_, _, rfl, rfl⟩
    · exact ⟨_, _, rfl, rfl⟩
    · exact ⟨_, _, rfl, rfl⟩
    · exact ⟨_, _, rfl, rfl⟩
    · exact ⟨_, _, rfl, rfl⟩
    · exact ⟨_, _, rfl, rfl⟩
    · exact ⟨_, _, rfl, rfl⟩
    · exact ⟨_, _, rfl, rfl⟩
    · exact ⟨_, _, rfl, rfl⟩
    · exact ⟨_, _, rfl, rfl⟩
    · exact ⟨_, _, rfl, rfl⟩
    · exact ⟨_, _, rfl, rfl⟩
    · exact ⟨_, _, rfl, rfl⟩
    · exact ⟨_, _, rfl, rfl⟩
    · exact ⟨_, _, rfl, rfl⟩
    · exact ⟨_, _, rfl, rfl⟩
    · exact ⟨_, _, rfl, rfl⟩
    · exact ⟨_, _, rfl, rfl⟩
    · exact ⟨_, _, rfl, rfl⟩
    · exact ⟨_, _, rfl, rfl⟩
    · exact ⟨_, _, rfl, rfl⟩
    · exact ⟨_, _, rfl, rfl⟩
    · exact ⟨_, _, rfl, rfl⟩
theorem d6_init_0 : decode cX6_init 0 = .ok (.aload_n 0, 1) := by decide +kernel
theorem d6_init_1 : decode cX6_init 1 = .ok (.invokespecial 1, 3) := by decide +kernel
theorem d6_init_4 : decode cX6_init 4 = .ok (.aload_n 0, 1) := by decide +kernel
theorem d6_init_5 : decode cX6_init 5 = .ok (.iconst 4, 1) := by decide +kernel
theorem d6_init_6 : decode cX6_init 6 = .ok (.newarray .int, 2) := by decide +kernel
theorem d6_init_8 : decode cX6_init 8 = .ok (.dup, 1) := by decide +kernel
theorem d6_init_9 : decode cX6_init 9 = .ok (.iconst 0, 1) := by decide +kernel
theorem d6_init_10 : decode cX6_init 10 = .ok (.bipush (-9), 2) := by decide +kernel
theorem d6_init_12 : decode cX6_init 12 = .ok (.iastore, 1) := by decide +kernel
theorem d6_init_13 : decode cX6_init 13 = .ok (.dup, 1) := by decide +kernel
theorem d6_init_14 : decode cX6_init 14 = .ok (.iconst 1, 1) := by decide +kernel
theorem d6_init_15 : decode cX6_init 15 = .ok (.bipush (-9), 2) := by decide +kernel
theorem d6_init_17 : decode cX6_init 17 = .ok (.iastore, 1) := by decide +kernel
theorem d6_init_18 : decode cX6_init 18 = .ok (.dup, 1) := by decide +kernel
theorem d6_init_19 : decode cX6_init 19 = .ok (.iconst 2, 1) := by decide +kernel
theorem d6_init_20 : decode cX6_init 20 = .ok (.bipush (-9), 2) := by decide +kernel
theorem d6_init_22 : decode cX6_init 22 = .ok (.iastore, 1) := by decide +kernel
theorem d6_init_23 : decode cX6_init 23 = .ok (.dup, 1) := by decide +kernel
theorem d6_init_24 : decode cX6_init 24 = .ok (.iconst 3, 1) := by decide +kernel
theorem d6_init_25 : decode cX6_init 25 = .ok (.bipush (-9), 2) := by decide +kernel
theorem d6_init_27 : decode cX6_init 27 = .ok (.iastore, 1) := by decide +kernel
theorem d6_init_28 : decode cX6_init 28 = .ok (.putfield 9, 3) := by decide +kernel
theorem d6_init_31 : decode cX6_init 31 = .ok (.aload_n 0, 1) := by decide +kernel
theorem d6_init_32 : decode cX6_init 32 = .ok (.iconst 4, 1) := by decide +kernel
theorem d6_init_33 : decode cX6_init 33 = .ok (.newarray .int, 2) := by decide +kernel
theorem d6_init_35 : decode cX6_init 35 = .ok (.putfield 13, 3) := by decide +kernel
theorem d6_init_38 : decode cX6_init 38 = .ok (.aload_n 0, 1) := by decide +kernel
theorem d6_init_39 : decode cX6_init 39 = .ok (.sipush 240, 3) := by decide +kernel
theorem d6_init_42 : decode cX6_init 42 = .ok (.newarray .int, 2) := by decide +kernel
theorem d6_init_44 : decode cX6_init 44 = .ok (.putfield 16, 3) := by decide +kernel
theorem d6_init_47 : decode cX6_init 47 = .ok (.aload_n 0, 1) := by decide +kernel
theorem d6_init_48 : decode cX6_init 48 = .ok (.bipush 7, 2) := by decide +kernel
theorem d6_init_50 : decode cX6_init 50 = .ok (.newarray .int, 2) := by decide +kernel
theorem d6_init_52 : decode cX6_init 52 = .ok (.dup, 1) := by decide +kernel
theorem d6_init_53 : decode cX6_init 53 = .ok (.iconst 0, 1) := by decide +kernel
theorem d6_init_54 : decode cX6_init 54 = .ok (.iconst 1, 1) := by decide +kernel
theorem d6_init_55 : decode cX6_init 55 = .ok (.iastore, 1) := by decide +kernel
theorem d6_init_56 : decode cX6_init 56 = .ok (.dup, 1) := by decide +kernel
theorem d6_init_57 : decode cX6_init 57 = .ok (.iconst 1, 1) := by decide +kernel
theorem d6_init_58 : decode cX6_init 58 = .ok (.iconst 3, 1) := by decide +kernel
theorem d6_init_59 : decode cX6_init 59 = .ok (.iastore, 1) := by decide +kernel
theorem d6_init_60 : decode cX6_init 60 = .ok (.dup, 1) := by decide +kernel
theorem d6_init_61 : decode cX6_init 61 = .ok (.iconst 2, 1) := by decide +kernel
theorem d6_init_62 : decode cX6_init 62 = .ok (.bipush 9, 2) := by decide +kernel
theorem d6_init_64 : decode cX6_init 64 = .ok (.iastore, 1) := by decide +kernel
theorem d6_init_65 : decode cX6_init 65 = .ok (.dup, 1) := by decide +kernel
theorem d6_init_66 : decode cX6_init 66 = .ok (.iconst 3, 1) := by decide +kernel
theorem d6_init_67 : decode cX6_init 67 = .ok (.bipush 27, 2) := by decide +kernel
theorem d6_init_69 : decode cX6_init 69 = .ok (.iastore, 1) := by decide +kernel
theorem d6_init_70 : decode cX6_init 70 = .ok (.dup, 1) := by decide +kernel
theorem d6_init_71 : decode cX6_init 71 = .ok (.iconst 4, 1) := by decide +kernel
theorem d6_init_72 : decode cX6_init 72 = .ok (.bipush 81, 2) := by decide +kernel
theorem d6_init_74 : decode cX6_init 74 = .ok (.iastore, 1) := by decide +kernel
theorem d6_init_75 : decode cX6_init 75 = .ok (.dup, 1) := by decide +kernel
theorem d6_init_76 : decode cX6_init 76 = .ok (.iconst 5, 1) := by decide +kernel
theorem d6_init_77 : decode cX6_init 77 = .ok (.sipush 243, 3) := by decide +kernel
theorem d6_init_80 : decode cX6_init 80 = .ok (.iastore, 1) := by decide +kernel
theorem d6_init_81 : decode cX6_init 81 = .ok (.dup, 1) := by decide +kernel
theorem d6_init_82 : decode cX6_init 82 = .ok (.bipush 6, 2) := by decide +kernel
theorem d6_init_84 : decode cX6_init 84 = .ok (.sipush 729, 3) := by decide +kernel
theorem d6_init_87 : decode cX6_init 87 = .ok (.iastore, 1) := by decide +kernel
theorem d6_init_88 : decode cX6_init 88 = .ok (.putfield 19, 3) := by decide +kernel
theorem d6_init_91 : decode cX6_init 91 = .ok (.aload_n 0, 1) := by decide +kernel
theorem d6_init_92 : decode cX6_init 92 = .ok (.bipush 6, 2) := by decide +kernel
theorem d6_init_94 : decode cX6_init 94 = .ok (.newarray .int, 2) := by decide +kernel
theorem d6_init_96 : decode cX6_init 96 = .ok (.putfield 22, 3) := by decide +kernel
theorem d6_init_99 : decode cX6_init 99 = .ok (.aload_n 0, 1) := by decide +kernel
theorem d6_init_100 : decode cX6_init 100 = .ok (.bipush 6, 2) := by decide +kernel
theorem d6_init_102 : decode cX6_init 102 = .ok (.newarray .int, 2) := by decide +kernel
theorem d6_init_104 : decode cX6_init 104 = .ok (.putfield 25, 3) := by decide +kernel
theorem d6_init_107 : decode cX6_init 107 = .ok (.aload_n 0, 1) := by decide +kernel
theorem d6_init_108 : decode cX6_init 108 = .ok (.bipush 6, 2) := by decide +kernel
theorem d6_init_110 : decode cX6_init 110 = .ok (.newarray .int, 2) := by decide +kernel
theorem d6_init_112 : decode cX6_init 112 = .ok (.putfield 28, 3) := by decide +kernel
theorem d6_init_115 : decode cX6_init 115 = .ok (.aload_n 0, 1) := by decide +kernel
theorem d6_init_116 : decode cX6_init 116 = .ok (.bipush 6, 2) := by decide +kernel
theorem d6_init_118 : decode cX6_init 118 = .ok (.newarray .int, 2) := by decide +kernel
theorem d6_init_120 : decode cX6_init 120 = .ok (.putfield 31, 3) := by decide +kernel
theorem d6_init_123 : decode cX6_init 123 = .ok (.aload_n 0, 1) := by decide +kernel
theorem d6_init_124 : decode cX6_init 124 = .ok (.bipush 6, 2) := by decide +kernel
theorem d6_init_126 : decode cX6_init 126 = .ok (.newarray .boolean, 2) := by decide +kernel
theorem d6_init_128 : decode cX6_init 128 = .ok (.putfield 34, 3) := by decide +kernel
theorem d6_init_131 : decode cX6_init 131 = .ok (.aload_n 0, 1) := by decide +kernel
theorem d6_init_132 : decode cX6_init 132 = .ok (.iconst 3, 1) := by decide +kernel
theorem d6_init_133 : decode cX6_init 133 = .ok (.newarray .int, 2) := by decide +kernel
theorem d6_init_135 : decode cX6_init 135 = .ok (.putfield 38, 3) := by decide +kernel
theorem d6_init_138 : decode cX6_init 138 = .ok (.aload_n 0, 1) := by decide +kernel
theorem d6_init_139 : decode cX6_init 139 = .ok (.bipush 6, 2) := by decide +kernel
theorem d6_init_141 : decode cX6_init 141 = .ok (.newarray .int, 2) := by decide +kernel
theorem d6_init_143 : decode cX6_init 143 = .ok (.putfield 41, 3) := by decide +kernel
theorem d6_init_146 : decode cX6_init 146 = .ok (.aload_n 0, 1) := by decide +kernel
theorem d6_init_147 : decode cX6_init 147 = .ok (.bipush 6, 2) := by decide +kernel
theorem d6_init_149 : decode cX6_init 149 = .ok (.newarray .int, 2) := by decide +kernel
theorem d6_init_151 : decode cX6_init 151 = .ok (.putfield 44, 3) := by decide +kernel
theorem d6_init_154 : decode cX6_init 154 = .ok (.aload_n 0, 1) := by decide +kernel
theorem d6_init_155 : decode cX6_init 155 = .ok (.bipush 6, 2) := by decide +kernel
theorem d6_init_157 : decode cX6_init 157 = .ok (.newarray .int, 2) := by decide +kernel
theorem d6_init_159 : decode cX6_init 159 = .ok (.putfield 47, 3) := by decide +kernel
theorem d6_init_162 : decode cX6_init 162 = .ok (.aload_n 0, 1) := by decide +kernel
theorem d6_init_163 : decode cX6_init 163 = .ok (.bipush 6, 2) := by decide +kernel
theorem d6_init_165 : decode cX6_init 165 = .ok (.newarray .int, 2) := by decide +kernel
theorem d6_init_167 : decode cX6_init 167 = .ok (.putfield 50, 3) := by decide +kernel
theorem d6_init_170 : decode cX6_init 170 = .ok (.aload_n 0, 1) := by decide +kernel
theorem d6_init_171 : decode cX6_init 171 = .ok (.bipush 7, 2) := by decide +kernel
theorem d6_init_173 : decode cX6_init 173 = .ok (.newarray .int, 2) := by decide +kernel
theorem d6_init_175 : decode cX6_init 175 = .ok (.putfield 53, 3) := by decide +kernel
theorem d6_init_178 : decode cX6_init 178 = .ok (.aload_n 0, 1) := by decide +kernel
theorem d6_init_179 : decode cX6_init 179 = .ok (.bipush 7, 2) := by decide +kernel
theorem d6_init_181 : decode cX6_init 181 = .ok (.newarray .int, 2) := by decide +kernel
theorem d6_init_183 : decode cX6_init 183 = .ok (.putfield 56, 3) := by decide +kernel
theorem d6_init_186 : decode cX6_init 186 = .ok (.aload_n 0, 1) := by decide +kernel
theorem d6_init_187 : decode cX6_init 187 = .ok (.sipush 729, 3) := by decide +kernel
theorem d6_init_190 : decode cX6_init 190 = .ok (.newarray .int, 2) := by decide +kernel
theorem d6_init_192 : decode cX6_init 192 = .ok (.putfield 59, 3) := by decide +kernel
theorem d6_init_195 : decode cX6_init 195 = .ok (.aload_n 0, 1) := by decide +kernel
theorem d6_init_196 : decode cX6_init 196 = .ok (.sipush 729, 3) := by decide +kernel
theorem d6_init_199 : decode cX6_init 199 = .ok (.newarray .int, 2) := by decide +kernel
theorem d6_init_201 : decode cX6_init 201 = .ok (.putfield 62, 3) := by decide +kernel
theorem d6_init_204 : decode cX6_init 204 = .ok (.aload_n 0, 1) := by decide +kernel
theorem d6_init_205 : decode cX6_init 205 = .ok (.sipush 729, 3) := by decide +kernel
theorem d6_init_208 : decode cX6_init 208 = .ok (.newarray .long, 2) := by decide +kernel
theorem d6_init_210 : decode cX6_init 210 = .ok (.putfield 65, 3) := by decide +kernel
theorem d6_init_213 : decode cX6_init 213 = .ok (.aload_n 0, 1) := by decide +kernel
theorem d6_init_214 : decode cX6_init 214 = .ok (.sipush 729, 3) := by decide +kernel
theorem d6_init_217 : decode cX6_init 217 = .ok (.newarray .boolean, 2) := by decide +kernel
theorem d6_init_219 : decode cX6_init 219 = .ok (.putfield 69, 3) := by decide +kernel
theorem d6_init_222 : decode cX6_init 222 = .ok (.aload_n 0, 1) := by decide +kernel
theorem d6_init_223 : decode cX6_init 223 = .ok (.bipush 8, 2) := by decide +kernel
theorem d6_init_225 : decode cX6_init 225 = .ok (.newarray .int, 2) := by decide +kernel
theorem d6_init_227 : decode cX6_init 227 = .ok (.putfield 72, 3) := by decide +kernel
theorem d6_init_230 : decode cX6_init 230 = .ok (.return_, 1) := by decide +kernel
set_option maxHeartbeats 4000000 in
set_option maxRecDepth 100000 in
theorem con_X6 (l : Launch) : CtC l yX6_init cX6_init 1 (rmC 1 13 21 3250) (.inr (6, [.int 0, .int 0, .null, .null, .null, .null, .int 0, .null, .null, .null, .null, .null, .null, .int 0, .int 0, .int 0, .int 0, .int 0, .int 0, .null, .null, .null, .null, .null, .null, .int 0, .int 0, .int 0, .int 0, .null, .null, .null, .int 0, .null, .int 0, .null])) mk_X6 21 3250 := by
  refine CtC.of (by decide) (by decide) rfl (fun X h _ O hQ => ?_)
  have O : OC X RX6 cX6_init 1 (rmC 1 13 21 3250) := O
  refine k_aload_n O d6_init_0 0 rfl ?_
  refine k_obj O w_635 w_62 w_63 (by decide) (Nat.le_of_ble_eq_true rfl) d6_init_1 ?_
  refine k_aload_n O d6_init_4 0 rfl ?_
  refine k_iconst O d6_init_5 (v := 4) (by decide) ?_
  refine k_newa O (atype := .int) (ty := .int) 0 rfl rfl (fun _ h => by cases h) w_96 (N' := 4) (4, .inl (fun _ => 0)) (fun _ => rfl) (by decide) (by decide) (by decide) (by decide) (by decide) d6_init_6 (fun q0 => ?_)
  refine k_show [(h, .inr (6, [.int 0, .int 0, .null, .null, .null, .null, .int 0, .null, .null, .null, .null, .null, .null, .int 0, .int 0, .int 0, .int 0, .int 0, .int 0, .null, .null, .null, .null, .null, .null, .int 0, .int 0, .int 0, .int 0, .null, .null, .null, .int 0, .null, .int 0, .null])), (q0, .inl (qC X 0, 4, .inl (fun _ => 0)))] rfl ?_
  refine k_dup O d6_init_8 rfl ?_
  refine k_iconst O d6_init_9 (v := 0) (by decide) ?_
  refine k_bipush O d6_init_10 (v := (-9)) (by decide) ?_
  refine k_iast O 1 [(h, .inr (6, [.int 0, .int 0, .null, .null, .null, .null, .int 0, .null, .null, .null, .null, .null, .null, .int 0, .int 0, .int 0, .int 0, .int 0, .int 0, .null, .null, .null, .null, .null, .null, .int 0, .int 0, .int 0, .int 0, .null, .null, .null, .int 0, .null, .int 0, .null])), (q0, .inl (qC X 0, 4, .inl (upd (fun _ => 0) 0 (-9))))] rfl (vin rfl) rfl d6_init_12 ?_
  refine k_dup O d6_init_13 rfl ?_
  refine k_iconst O d6_init_14 (v := 1) (by decide) ?_
  refine k_bipush O d6_init_15 (v := (-9)) (by decide) ?_
  refine k_iast O 1 [(h, .inr (6, [.int 0, .int 0, .null, .null, .null, .null, .int 0, .null, .null, .null, .null, .null, .null, .int 0, .int 0, .int 0, .int 0, .int 0, .int 0, .null, .null, .null, .null, .null, .null, .int 0, .int 0, .int 0, .int 0, .null, .null, .null, .int 0, .null, .int 0, .null])), (q0, .inl (qC X 0, 4, .inl (upd (upd (fun _ => 0) 0 (-9)) 1 (-9))))] rfl (vin rfl) rfl d6_init_17 ?_
  refine k_dup O d6_init_18 rfl ?_
  refine k_iconst O d6_init_19 (v := 2) (by decide) ?_
  refine k_bipush O d6_init_20 (v := (-9)) (by decide) ?_
  refine k_iast O 1 [(h, .inr (6, [.int 0, .int 0, .null, .null, .null, .null, .int 0, .null, .null, .null, .null, .null, .null, .int 0, .int 0, .int 0, .int 0, .int 0, .int 0, .null, .null, .null, .null, .null, .null, .int 0, .int 0, .int 0, .int 0, .null, .null, .null, .int 0, .null, .int 0, .null])), (q0, .inl (qC X 0, 4, .inl (upd (upd (upd (fun _ => 0) 0 (-9)) 1 (-9)) 2 (-9))))] rfl (vin rfl) rfl d6_init_22 ?_
  refine k_dup O d6_init_23 rfl ?_
  refine k_iconst O d6_init_24 (v := 3) (by decide) ?_
  refine k_bipush O d6_init_25 (v := (-9)) (by decide) ?_
  refine k_iast O 1 [(h, .inr (6, [.int 0, .int 0, .null, .null, .null, .null, .int 0, .null, .null, .null, .null, .null, .null, .int 0, .int 0, .int 0, .int 0, .int 0, .int 0, .null, .null, .null, .null, .null, .null, .int 0, .int 0, .int 0, .int 0, .null, .null, .null, .int 0, .null, .int 0, .null])), (q0, .inl (qC X 0, 4, .inl (upd (upd (upd (upd (fun _ => 0) 0 (-9)) 1 (-9)) 2 (-9)) 3 (-9))))] rfl (vin rfl) rfl d6_init_27 ?_
  refine k_putF O (ci := 6) (f := 2) (ty := .array .int) 0 [(h, .inr (6, [.int 0, .int 0, .ref q0, .null, .null, .null, .int 0, .null, .null, .null, .null, .null, .null, .int 0, .int 0, .int 0, .int 0, .int 0, .int 0, .null, .null, .null, .null, .null, .null, .int 0, .int 0, .int 0, .int 0, .null, .null, .null, .int 0, .null, .int 0, .null])), (q0, .inl (qC X 0, 4, .inl (upd (upd (upd (upd (fun _ => 0) 0 (-9)) 1 (-9)) 2 (-9)) 3 (-9))))] rfl in_X6 tyX6_ok nmX6 (by decide) w_638 rfl rfl rfl (by decide +kernel) rfl rfl (Nat.le_of_ble_eq_true rfl) rfl d6_init_28 ?_
  refine k_aload_n O d6_init_31 0 rfl ?_
  refine k_iconst O d6_init_32 (v := 4) (by decide) ?_
  refine k_newa O (atype := .int) (ty := .int) 0 rfl rfl (fun _ h => by cases h) w_96 (N' := 4) (4, .inl (fun _ => 0)) (fun _ => rfl) (by decide) (by decide) (by decide) (by decide) (by decide) d6_init_33 (fun q1 => ?_)
  refine k_show [(h, .inr (6, [.int 0, .int 0, .ref q0, .null, .null, .null, .int 0, .null, .null, .null, .null, .null, .null, .int 0, .int 0, .int 0, .int 0, .int 0, .int 0, .null, .null, .null, .null, .null, .null, .int 0, .int 0, .int 0, .int 0, .null, .null, .null, .int 0, .null, .int 0, .null])), (q0, .inl (qC X 0, 4, .inl (upd (upd (upd (upd (fun _ => 0) 0 (-9)) 1 (-9)) 2 (-9)) 3 (-9)))), (q1, .inl (qC X 0, 4, .inl (fun _ => 0)))] rfl ?_
  refine k_putF O (ci := 6) (f := 3) (ty := .array .int) 0 [(h, .inr (6, [.int 0, .int 0, .ref q0, .ref q1, .null, .null, .int 0, .null, .null, .null, .null, .null, .null, .int 0, .int 0, .int 0, .int 0, .int 0, .int 0, .null, .null, .null, .null, .null, .null, .int 0, .int 0, .int 0, .int 0, .null, .null, .null, .int 0, .null, .int 0, .null])), (q0, .inl (qC X 0, 4, .inl (upd (upd (upd (upd (fun _ => 0) 0 (-9)) 1 (-9)) 2 (-9)) 3 (-9)))), (q1, .inl (qC X 0, 4, .inl (fun _ => 0)))] rfl in_X6 tyX6_ok nmX6 (by decide) w_639 rfl rfl rfl (by decide +kernel) rfl rfl (Nat.le_of_ble_eq_true rfl) rfl d6_init_35 ?_
  refine k_aload_n O d6_init_38 0 rfl ?_
  refine k_sipush O d6_init_39 (v := 240) (by decide) ?_
  refine k_newa O (atype := .int) (ty := .int) 0 rfl rfl (fun _ h => by cases h) w_96 (N' := 240) (240, .inl (fun _ => 0)) (fun _ => rfl) (by decide) (by decide) (by decide) (by decide) (by decide) d6_init_42 (fun q2 => ?_)
  refine k_show [(h, .inr (6, [.int 0, .int 0, .ref q0, .ref q1, .null, .null, .int 0, .null, .null, .null, .null, .null, .null, .int 0, .int 0, .int 0, .int 0, .int 0, .int 0, .null, .null, .null, .null, .null, .null, .int 0, .int 0, .int 0, .int 0, .null, .null, .null, .int 0, .null, .int 0, .null])), (q0, .inl (qC X 0, 4, .inl (upd (upd (upd (upd (fun _ => 0) 0 (-9)) 1 (-9)) 2 (-9)) 3 (-9)))), (q1, .inl (qC X 0, 4, .inl (fun _ => 0))), (q2, .inl (qC X 0, 240, .inl (fun _ => 0)))] rfl ?_
  refine k_putF O (ci := 6) (f := 4) (ty := .array .int) 0 [(h, .inr (6, [.int 0, .int 0, .ref q0, .ref q1, .ref q2, .null, .int 0, .null, .null, .null, .null, .null, .null, .int 0, .int 0, .int 0, .int 0, .int 0, .int 0, .null, .null, .null, .null, .null, .null, .int 0, .int 0, .int 0, .int 0, .null, .null, .null, .int 0, .null, .int 0, .null])), (q0, .inl (qC X 0, 4, .inl (upd (upd (upd (upd (fun _ => 0) 0 (-9)) 1 (-9)) 2 (-9)) 3 (-9)))), (q1, .inl (qC X 0, 4, .inl (fun _ => 0))), (q2, .inl (qC X 0, 240, .inl (fun _ => 0)))] rfl in_X6 tyX6_ok nmX6 (by decide) w_640 rfl rfl rfl (by decide +kernel) rfl rfl (Nat.le_of_ble_eq_true rfl) rfl d6_init_44 ?_
  refine k_aload_n O d6_init_47 0 rfl ?_
  refine k_bipush O d6_init_48 (v := 7) (by decide) ?_
  refine k_newa O (atype := .int) (ty := .int) 0 rfl rfl (fun _ h => by cases h) w_96 (N' := 7) (7, .inl (fun _ => 0)) (fun _ => rfl) (by decide) (by decide) (by decide) (by decide) (by decide) d6_init_50 (fun q3 => ?_)
  refine k_show [(h, .inr (6, [.int 0, .int 0, .ref q0, .ref q1, .ref q2, .null, .int 0, .null, .null, .null, .null, .null, .null, .int 0, .int 0, .int 0, .int 0, .int 0, .int 0, .null, .null, .null, .null, .null, .null, .int 0, .int 0, .int 0, .int 0, .null, .null, .null, .int 0, .null, .int 0, .null])), (q0, .inl (qC X 0, 4, .inl (upd (upd (upd (upd (fun _ => 0) 0 (-9)) 1 (-9)) 2 (-9)) 3 (-9)))), (q1, .inl (qC X 0, 4, .inl (fun _ => 0))), (q2, .inl (qC X 0, 240, .inl (fun _ => 0))), (q3, .inl (qC X 0, 7, .inl (fun _ => 0)))] rfl ?_
  refine k_dup O d6_init_52 rfl ?_
  refine k_iconst O d6_init_53 (v := 0) (by decide) ?_
  refine k_iconst O d6_init_54 (v := 1) (by decide) ?_
  refine k_iast O 4 [(h, .inr (6, [.int 0, .int 0, .ref q0, .ref q1, .ref q2, .null, .int 0, .null, .null, .null, .null, .null, .null, .int 0, .int 0, .int 0, .int 0, .int 0, .int 0, .null, .null, .null, .null, .null, .null, .int 0, .int 0, .int 0, .int 0, .null, .null, .null, .int 0, .null, .int 0, .null])), (q0, .inl (qC X 0, 4, .inl (upd (upd (upd (upd (fun _ => 0) 0 (-9)) 1 (-9)) 2 (-9)) 3 (-9)))), (q1, .inl (qC X 0, 4, .inl (fun _ => 0))), (q2, .inl (qC X 0, 240, .inl (fun _ => 0))), (q3, .inl (qC X 0, 7, .inl (upd (fun _ => 0) 0 1)))] rfl (vin rfl) rfl d6_init_55 ?_
  refine k_dup O d6_init_56 rfl ?_
  refine k_iconst O d6_init_57 (v := 1) (by decide) ?_
  refine k_iconst O d6_init_58 (v := 3) (by decide) ?_
  refine k_iast O 4 [(h, .inr (6, [.int 0, .int 0, .ref q0, .ref q1, .ref q2, .null, .int 0, .null, .null, .null, .null, .null, .null, .int 0, .int 0, .int 0, .int 0, .int 0, .int 0, .null, .null, .null, .null, .null, .null, .int 0, .int 0, .int 0, .int 0, .null, .null, .null, .int 0, .null, .int 0, .null])), (q0, .inl (qC X 0, 4, .inl (upd (upd (upd (upd (fun _ => 0) 0 (-9)) 1 (-9)) 2 (-9)) 3 (-9)))), (q1, .inl (qC X 0, 4, .inl (fun _ => 0))), (q2, .inl (qC X 0, 240, .inl (fun _ => 0))), (q3, .inl (qC X 0, 7, .inl (upd (upd (fun _ => 0) 0 1) 1 3)))] rfl (vin rfl) rfl d6_init_59 ?_
  refine k_dup O d6_init_60 rfl ?_
  refine k_iconst O d6_init_61 (v := 2) (by decide) ?_
  refine k_bipush O d6_init_62 (v := 9) (by decide) ?_
  refine k_iast O 4 [(h, .inr (6, [.int 0, .int 0, .ref q0, .ref q1, .ref q2, .null, .int 0, .null, .null, .null, .null, .null, .null, .int 0, .int 0, .int 0, .int 0, .int 0, .int 0, .null, .null, .null, .null, .null, .null, .int 0, .int 0, .int 0, .int 0, .null, .null, .null, .int 0, .null, .int 0, .null])), (q0, .inl (qC X 0, 4, .inl (upd (upd (upd (upd (fun _ => 0) 0 (-9)) 1 (-9)) 2 (-9)) 3 (-9)))), (q1, .inl (qC X 0, 4, .inl (fun _ => 0))), (q2, .inl (qC X 0, 240, .inl (fun _ => 0))), (q3, .inl (qC X 0, 7, .inl (upd (upd (upd (fun _ => 0) 0 1) 1 3) 2 9)))] rfl (vin rfl) rfl d6_init_64 ?_
  refine k_dup O d6_init_65 rfl ?_
  refine k_iconst O d6_init_66 (v := 3) (by decide) ?_
  refine k_bipush O d6_init_67 (v := 27) (by decide) ?_
  refine k_iast O 4 [(h, .inr (6, [.int 0, .int 0, .ref q0, .ref q1, .ref q2, .null, .int 0, .null, .null, .null, .null, .null, .null, .int 0, .int 0, .int 0, .int 0, .int 0, .int 0, .null, .null, .null, .null, .null, .null, .int 0, .int 0, .int 0, .int 0, .null, .null, .null, .int 0, .null, .int 0, .null])), (q0, .inl (qC X 0, 4, .inl (upd (upd (upd (upd (fun _ => 0) 0 (-9)) 1 (-9)) 2 (-9)) 3 (-9)))), (q1, .inl (qC X 0, 4, .inl (fun _ => 0))), (q2, .inl (qC X 0, 240, .inl (fun _ => 0))), (q3, .inl (qC X 0, 7, .inl (upd (upd (upd (upd (fun _ => 0) 0 1) 1 3) 2 9) 3 27)))] rfl (vin rfl) rfl d6_init_69 ?_
  refine k_dup O d6_init_70 rfl ?_
  refine k_iconst O d6_init_71 (v := 4) (by decide) ?_
  refine k_bipush O d6_init_72 (v := 81) (by decide) ?_
  refine k_iast O 4 [(h, .inr (6, [.int 0, .int 0, .ref q0, .ref q1, .ref q2, .null, .int 0, .null, .null, .null, .null, .null, .null, .int 0, .int 0, .int 0, .int 0, .int 0, .int 0, .null, .null, .null, .null, .null, .null, .int 0, .int 0, .int 0, .int 0, .null, .null, .null, .int 0, .null, .int 0, .null])), (q0, .inl (qC X 0, 4, .inl (upd (upd (upd (upd (fun _ => 0) 0 (-9)) 1 (-9)) 2 (-9)) 3 (-9)))), (q1, .inl (qC X 0, 4, .inl (fun _ => 0))), (q2, .inl (qC X 0, 240, .inl (fun _ => 0))), (q3, .inl (qC X 0, 7, .inl (upd (upd (upd (upd (upd (fun _ => 0) 0 1) 1 3) 2 9) 3 27) 4 81)))] rfl (vin rfl) rfl d6_init_74 ?_
  refine k_dup O d6_init_75 rfl ?_
  refine k_iconst O d6_init_76 (v := 5) (by decide) ?_
  refine k_sipush O d6_init_77 (v := 243) (by decide) ?_
  refine k_iast O 4 [(h, .inr (6, [.int 0, .int 0, .ref q0, .ref q1, .ref q2, .null, .int 0, .null, .null, .null, .null, .null, .null, .int 0, .int 0, .int 0, .int 0, .int 0, .int 0, .null, .null, .null, .null, .null, .null, .int 0, .int 0, .int 0, .int 0, .null, .null, .null, .int 0, .null, .int 0, .null])), (q0, .inl (qC X 0, 4, .inl (upd (upd (upd (upd (fun _ => 0) 0 (-9)) 1 (-9)) 2 (-9)) 3 (-9)))), (q1, .inl (qC X 0, 4, .inl (fun _ => 0))), (q2, .inl (qC X 0, 240, .inl (fun _ => 0))), (q3, .inl (qC X 0, 7, .inl (upd (upd (upd (upd (upd (upd (fun _ => 0) 0 1) 1 3) 2 9) 3 27) 4 81) 5 243)))] rfl (vin rfl) rfl d6_init_80 ?_
  refine k_dup O d6_init_81 rfl ?_
  refine k_bipush O d6_init_82 (v := 6) (by decide) ?_
  refine k_sipush O d6_init_84 (v := 729) (by decide) ?_
  refine k_iast O 4 [(h, .inr (6, [.int 0, .int 0, .ref q0, .ref q1, .ref q2, .null, .int 0, .null, .null, .null, .null, .null, .null, .int 0, .int 0, .int 0, .int 0, .int 0, .int 0, .null, .null, .null, .null, .null, .null, .int 0, .int 0, .int 0, .int 0, .null, .null, .null, .int 0, .null, .int 0, .null])), (q0, .inl (qC X 0, 4, .inl (upd (upd (upd (upd (fun _ => 0) 0 (-9)) 1 (-9)) 2 (-9)) 3 (-9)))), (q1, .inl (qC X 0, 4, .inl (fun _ => 0))), (q2, .inl (qC X 0, 240, .inl (fun _ => 0))), (q3, .inl (qC X 0, 7, .inl (upd (upd (upd (upd (upd (upd (upd (fun _ => 0) 0 1) 1 3) 2 9) 3 27) 4 81) 5 243) 6 729)))] rfl (vin rfl) rfl d6_init_87 ?_
  refine k_putF O (ci := 6) (f := 5) (ty := .array .int) 0 [(h, .inr (6, [.int 0, .int 0, .ref q0, .ref q1, .ref q2, .ref q3, .int 0, .null, .null, .null, .null, .null, .null, .int 0, .int 0, .int 0, .int 0, .int 0, .int 0, .null, .null, .null, .null, .null, .null, .int 0, .int 0, .int 0, .int 0, .null, .null, .null, .int 0, .null, .int 0, .null])), (q0, .inl (qC X 0, 4, .inl (upd (upd (upd (upd (fun _ => 0) 0 (-9)) 1 (-9)) 2 (-9)) 3 (-9)))), (q1, .inl (qC X 0, 4, .inl (fun _ => 0))), (q2, .inl (qC X 0, 240, .inl (fun _ => 0))), (q3, .inl (qC X 0, 7, .inl (upd (upd (upd (upd (upd (upd (upd (fun _ => 0) 0 1) 1 3) 2 9) 3 27) 4 81) 5 243) 6 729)))] rfl in_X6 tyX6_ok nmX6 (by decide) w_641 rfl rfl rfl (by decide +kernel) rfl rfl (Nat.le_of_ble_eq_true rfl) rfl d6_init_88 ?_
  refine k_aload_n O d6_init_91 0 rfl ?_
  refine k_bipush O d6_init_92 (v := 6) (by decide) ?_
  refine k_newa O (atype := .int) (ty := .int) 0 rfl rfl (fun _ h => by cases h) w_96 (N' := 6) (6, .inl (fun _ => 0)) (fun _ => rfl) (by decide) (by decide) (by decide) (by decide) (by decide) d6_init_94 (fun q4 => ?_)
  refine k_show [(h, .inr (6, [.int 0, .int 0, .ref q0, .ref q1, .ref q2, .ref q3, .int 0, .null, .null, .null, .null, .null, .null, .int 0, .int 0, .int 0, .int 0, .int 0, .int 0, .null, .null, .null, .null, .null, .null, .int 0, .int 0, .int 0, .int 0, .null, .null, .null, .int 0, .null, .int 0, .null])), (q0, .inl (qC X 0, 4, .inl (upd (upd (upd (upd (fun _ => 0) 0 (-9)) 1 (-9)) 2 (-9)) 3 (-9)))), (q1, .inl (qC X 0, 4, .inl (fun _ => 0))), (q2, .inl (qC X 0, 240, .inl (fun _ => 0))), (q3, .inl (qC X 0, 7, .inl (upd (upd (upd (upd (upd (upd (upd (fun _ => 0) 0 1) 1 3) 2 9) 3 27) 4 81) 5 243) 6 729))), (q4, .inl (qC X 0, 6, .inl (fun _ => 0)))] rfl ?_
  refine k_putF O (ci := 6) (f := 7) (ty := .array .int) 0 [(h, .inr (6, [.int 0, .int 0, .ref q0, .ref q1, .ref q2, .ref q3, .int 0, .ref q4, .null, .null, .null, .null, .null, .int 0, .int 0, .int 0, .int 0, .int 0, .int 0, .null, .null, .null, .null, .null, .null, .int 0, .int 0, .int 0, .int 0, .null, .null, .null, .int 0, .null, .int 0, .null])), (q0, .inl (qC X 0, 4, .inl (upd (upd (upd (upd (fun _ => 0) 0 (-9)) 1 (-9)) 2 (-9)) 3 (-9)))), (q1, .inl (qC X 0, 4, .inl (fun _ => 0))), (q2, .inl (qC X 0, 240, .inl (fun _ => 0))), (q3, .inl (qC X 0, 7, .inl (upd (upd (upd (upd (upd (upd (upd (fun _ => 0) 0 1) 1 3) 2 9) 3 27) 4 81) 5 243) 6 729))), (q4, .inl (qC X 0, 6, .inl (fun _ => 0)))] rfl in_X6 tyX6_ok nmX6 (by decide) w_643 rfl rfl rfl (by decide +kernel) rfl rfl (Nat.le_of_ble_eq_true rfl) rfl d6_init_96 ?_
  refine k_aload_n O d6_init_99 0 rfl ?_
  refine k_bipush O d6_init_100 (v := 6) (by decide) ?_
  refine k_newa O (atype := .int) (ty := .int) 0 rfl rfl (fun _ h => by cases h) w_96 (N' := 6) (6, .inl (fun _ => 0)) (fun _ => rfl) (by decide) (by decide) (by decide) (by decide) (by decide) d6_init_102 (fun q5 => ?_)
  refine k_show [(h, .inr (6, [.int 0, .int 0, .ref q0, .ref q1, .ref q2, .ref q3, .int 0, .ref q4, .null, .null, .null, .null, .null, .int 0, .int 0, .int 0, .int 0, .int 0, .int 0, .null, .null, .null, .null, .null, .null, .int 0, .int 0, .int 0, .int 0, .null, .null, .null, .int 0, .null, .int 0, .null])), (q0, .inl (qC X 0, 4, .inl (upd (upd (upd (upd (fun _ => 0) 0 (-9)) 1 (-9)) 2 (-9)) 3 (-9)))), (q1, .inl (qC X 0, 4, .inl (fun _ => 0))), (q2, .inl (qC X 0, 240, .inl (fun _ => 0))), (q3, .inl (qC X 0, 7, .inl (upd (upd (upd (upd (upd (upd (upd (fun _ => 0) 0 1) 1 3) 2 9) 3 27) 4 81) 5 243) 6 729))), (q4, .inl (qC X 0, 6, .inl (fun _ => 0))), (q5, .inl (qC X 0, 6, .inl (fun _ => 0)))] rfl ?_
  refine k_putF O (ci := 6) (f := 8) (ty := .array .int) 0 [(h, .inr (6, [.int 0, .int 0, .ref q0, .ref q1, .ref q2, .ref q3, .int 0, .ref q4, .ref q5, .null, .null, .null, .null, .int 0, .int 0, .int 0, .int 0, .int 0, .int 0, .null, .null, .null, .null, .null, .null, .int 0, .int 0, .int 0, .int 0, .null, .null, .null, .int 0, .null, .int 0, .null])), (q0, .inl (qC X 0, 4, .inl (upd (upd (upd (upd (fun _ => 0) 0 (-9)) 1 (-9)) 2 (-9)) 3 (-9)))), (q1, .inl (qC X 0, 4, .inl (fun _ => 0))), (q2, .inl (qC X 0, 240, .inl (fun _ => 0))), (q3, .inl (qC X 0, 7, .inl (upd (upd (upd (upd (upd (upd (upd (fun _ => 0) 0 1) 1 3) 2 9) 3 27) 4 81) 5 243) 6 729))), (q4, .inl (qC X 0, 6, .inl (fun _ => 0))), (q5, .inl (qC X 0, 6, .inl (fun _ => 0)))] rfl in_X6 tyX6_ok nmX6 (by decide) w_644 rfl rfl rfl (by decide +kernel) rfl rfl (Nat.le_of_ble_eq_true rfl) rfl d6_init_104 ?_
  refine k_aload_n O d6_init_107 0 rfl ?_
  refine k_bipush O d6_init_108 (v := 6) (by decide) ?_
  refine k_newa O (atype := .int) (ty := .int) 0 rfl rfl (fun _ h => by cases h) w_96 (N' := 6) (6, .inl (fun _ => 0)) (fun _ => rfl) (by decide) (by decide) (by decide) (by decide) (by decide) d6_init_110 (fun q6 => ?_)
  refine k_show [(h, .inr (6, [.int 0, .int 0, .ref q0, .ref q1, .ref q2, .ref q3, .int 0, .ref q4, .ref q5, .null, .null, .null, .null, .int 0, .int 0, .int 0, .int 0, .int 0, .int 0, .null, .null, .null, .null, .null, .null, .int 0, .int 0, .int 0, .int 0, .null, .null, .null, .int 0, .null, .int 0, .null])), (q0, .inl (qC X 0, 4, .inl (upd (upd (upd (upd (fun _ => 0) 0 (-9)) 1 (-9)) 2 (-9)) 3 (-9)))), (q1, .inl (qC X 0, 4, .inl (fun _ => 0))), (q2, .inl (qC X 0, 240, .inl (fun _ => 0))), (q3, .inl (qC X 0, 7, .inl (upd (upd (upd (upd (upd (upd (upd (fun _ => 0) 0 1) 1 3) 2 9) 3 27) 4 81) 5 243) 6 729))), (q4, .inl (qC X 0, 6, .inl (fun _ => 0))), (q5, .inl (qC X 0, 6, .inl (fun _ => 0))), (q6, .inl (qC X 0, 6, .inl (fun _ => 0)))] rfl ?_
  refine k_putF O (ci := 6) (f := 9) (ty := .array .int) 0 [(h, .inr (6, [.int 0, .int 0, .ref q0, .ref q1, .ref q2, .ref q3, .int 0, .ref q4, .ref q5, .ref q6, .null, .null, .null, .int 0, .int 0, .int 0, .int 0, .int 0, .int 0, .null, .null, .null, .null, .null, .null, .int 0, .int 0, .int 0, .int 0, .null, .null, .null, .int 0, .null, .int 0, .null])), (q0, .inl (qC X 0, 4, .inl (upd (upd (upd (upd (fun _ => 0) 0 (-9)) 1 (-9)) 2 (-9)) 3 (-9)))), (q1, .inl (qC X 0, 4, .inl (fun _ => 0))), (q2, .inl (qC X 0, 240, .inl (fun _ => 0))), (q3, .inl (qC X 0, 7, .inl (upd (upd (upd (upd (upd (upd (upd (fun _ => 0) 0 1) 1 3) 2 9) 3 27) 4 81) 5 243) 6 729))), (q4, .inl (qC X 0, 6, .inl (fun _ => 0))), (q5, .inl (qC X 0, 6, .inl (fun _ => 0))), (q6, .inl (qC X 0, 6, .inl (fun _ => 0)))] rfl in_X6 tyX6_ok nmX6 (by decide) w_645 rfl rfl rfl (by decide +kernel) rfl rfl (Nat.le_of_ble_eq_true rfl) rfl d6_init_112 ?_
  refine k_aload_n O d6_init_115 0 rfl ?_
  refine k_bipush O d6_init_116 (v := 6) (by decide) ?_
  refine k_newa O (atype := .int) (ty := .int) 0 rfl rfl (fun _ h => by cases h) w_96 (N' := 6) (6, .inl (fun _ => 0)) (fun _ => rfl) (by decide) (by decide) (by decide) (by decide) (by decide) d6_init_118 (fun q7 => ?_)
  refine k_show [(h, .inr (6, [.int 0, .int 0, .ref q0, .ref q1, .ref q2, .ref q3, .int 0, .ref q4, .ref q5, .ref q6, .null, .null, .null, .int 0, .int 0, .int 0, .int 0, .int 0, .int 0, .null, .null, .null, .null, .null, .null, .int 0, .int 0, .int 0, .int 0, .null, .null, .null, .int 0, .null, .int 0, .null])), (q0, .inl (qC X 0, 4, .inl (upd (upd (upd (upd (fun _ => 0) 0 (-9)) 1 (-9)) 2 (-9)) 3 (-9)))), (q1, .inl (qC X 0, 4, .inl (fun _ => 0))), (q2, .inl (qC X 0, 240, .inl (fun _ => 0))), (q3, .inl (qC X 0, 7, .inl (upd (upd (upd (upd (upd (upd (upd (fun _ => 0) 0 1) 1 3) 2 9) 3 27) 4 81) 5 243) 6 729))), (q4, .inl (qC X 0, 6, .inl (fun _ => 0))), (q5, .inl (qC X 0, 6, .inl (fun _ => 0))), (q6, .inl (qC X 0, 6, .inl (fun _ => 0))), (q7, .inl (qC X 0, 6, .inl (fun _ => 0)))] rfl ?_
  refine k_putF O (ci := 6) (f := 10) (ty := .array .int) 0 [(h, .inr (6, [.int 0, .int 0, .ref q0, .ref q1, .ref q2, .ref q3, .int 0, .ref q4, .ref q5, .ref q6, .ref q7, .null, .null, .int 0, .int 0, .int 0, .int 0, .int 0, .int 0, .null, .null, .null, .null, .null, .null, .int 0, .int 0, .int 0, .int 0, .null, .null, .null, .int 0, .null, .int 0, .null])), (q0, .inl (qC X 0, 4, .inl (upd (upd (upd (upd (fun _ => 0) 0 (-9)) 1 (-9)) 2 (-9)) 3 (-9)))), (q1, .inl (qC X 0, 4, .inl (fun _ => 0))), (q2, .inl (qC X 0, 240, .inl (fun _ => 0))), (q3, .inl (qC X 0, 7, .inl (upd (upd (upd (upd (upd (upd (upd (fun _ => 0) 0 1) 1 3) 2 9) 3 27) 4 81) 5 243) 6 729))), (q4, .inl (qC X 0, 6, .inl (fun _ => 0))), (q5, .inl (qC X 0, 6, .inl (fun _ => 0))), (q6, .inl (qC X 0, 6, .inl (fun _ => 0))), (q7, .inl (qC X 0, 6, .inl (fun _ => 0)))] rfl in_X6 tyX6_ok nmX6 (by decide) w_646 rfl rfl rfl (by decide +kernel) rfl rfl (Nat.le_of_ble_eq_true rfl) rfl d6_init_120 ?_
  refine k_aload_n O d6_init_123 0 rfl ?_
  refine k_bipush O d6_init_124 (v := 6) (by decide) ?_
  refine k_newa O (atype := .boolean) (ty := .boolean) 2 rfl rfl (fun _ h => by cases h) w_195 (N' := 6) (6, .inl (fun _ => 0)) (fun _ => rfl) (by decide) (by decide) (by decide) (by decide) (by decide) d6_init_126 (fun q8 => ?_)
  refine k_show [(h, .inr (6, [.int 0, .int 0, .ref q0, .ref q1, .ref q2, .ref q3, .int 0, .ref q4, .ref q5, .ref q6, .ref q7, .null, .null, .int 0, .int 0, .int 0, .int 0, .int 0, .int 0, .null, .null, .null, .null, .null, .null, .int 0, .int 0, .int 0, .int 0, .null, .null, .null, .int 0, .null, .int 0, .null])), (q0, .inl (qC X 0, 4, .inl (upd (upd (upd (upd (fun _ => 0) 0 (-9)) 1 (-9)) 2 (-9)) 3 (-9)))), (q1, .inl (qC X 0, 4, .inl (fun _ => 0))), (q2, .inl (qC X 0, 240, .inl (fun _ => 0))), (q3, .inl (qC X 0, 7, .inl (upd (upd (upd (upd (upd (upd (upd (fun _ => 0) 0 1) 1 3) 2 9) 3 27) 4 81) 5 243) 6 729))), (q4, .inl (qC X 0, 6, .inl (fun _ => 0))), (q5, .inl (qC X 0, 6, .inl (fun _ => 0))), (q6, .inl (qC X 0, 6, .inl (fun _ => 0))), (q7, .inl (qC X 0, 6, .inl (fun _ => 0))), (q8, .inl (qC X 2, 6, .inl (fun _ => 0)))] rfl ?_
  refine k_putF O (ci := 6) (f := 11) (ty := .array .boolean) 0 [(h, .inr (6, [.int 0, .int 0, .ref q0, .ref q1, .ref q2, .ref q3, .int 0, .ref q4, .ref q5, .ref q6, .ref q7, .ref q8, .null, .int 0, .int 0, .int 0, .int 0, .int 0, .int 0, .null, .null, .null, .null, .null, .null, .int 0, .int 0, .int 0, .int 0, .null, .null, .null, .int 0, .null, .int 0, .null])), (q0, .inl (qC X 0, 4, .inl (upd (upd (upd (upd (fun _ => 0) 0 (-9)) 1 (-9)) 2 (-9)) 3 (-9)))), (q1, .inl (qC X 0, 4, .inl (fun _ => 0))), (q2, .inl (qC X 0, 240, .inl (fun _ => 0))), (q3, .inl (qC X 0, 7, .inl (upd (upd (upd (upd (upd (upd (upd (fun _ => 0) 0 1) 1 3) 2 9) 3 27) 4 81) 5 243) 6 729))), (q4, .inl (qC X 0, 6, .inl (fun _ => 0))), (q5, .inl (qC X 0, 6, .inl (fun _ => 0))), (q6, .inl (qC X 0, 6, .inl (fun _ => 0))), (q7, .inl (qC X 0, 6, .inl (fun _ => 0))), (q8, .inl (qC X 2, 6, .inl (fun _ => 0)))] rfl in_X6 tyX6_ok nmX6 (by decide) w_647 rfl rfl rfl (by decide +kernel) rfl rfl (Nat.le_of_ble_eq_true rfl) rfl d6_init_128 ?_
  refine k_aload_n O d6_init_131 0 rfl ?_
  refine k_iconst O d6_init_132 (v := 3) (by decide) ?_
  refine k_newa O (atype := .int) (ty := .int) 0 rfl rfl (fun _ h => by cases h) w_96 (N' := 3) (3, .inl (fun _ => 0)) (fun _ => rfl) (by decide) (by decide) (by decide) (by decide) (by decide) d6_init_133 (fun q9 => ?_)
  refine k_show [(h, .inr (6, [.int 0, .int 0, .ref q0, .ref q1, .ref q2, .ref q3, .int 0, .ref q4, .ref q5, .ref q6, .ref q7, .ref q8, .null, .int 0, .int 0, .int 0, .int 0, .int 0, .int 0, .null, .null, .null, .null, .null, .null, .int 0, .int 0, .int 0, .int 0, .null, .null, .null, .int 0, .null, .int 0, .null])), (q0, .inl (qC X 0, 4, .inl (upd (upd (upd (upd (fun _ => 0) 0 (-9)) 1 (-9)) 2 (-9)) 3 (-9)))), (q1, .inl (qC X 0, 4, .inl (fun _ => 0))), (q2, .inl (qC X 0, 240, .inl (fun _ => 0))), (q3, .inl (qC X 0, 7, .inl (upd (upd (upd (upd (upd (upd (upd (fun _ => 0) 0 1) 1 3) 2 9) 3 27) 4 81) 5 243) 6 729))), (q4, .inl (qC X 0, 6, .inl (fun _ => 0))), (q5, .inl (qC X 0, 6, .inl (fun _ => 0))), (q6, .inl (qC X 0, 6, .inl (fun _ => 0))), (q7, .inl (qC X 0, 6, .inl (fun _ => 0))), (q8, .inl (qC X 2, 6, .inl (fun _ => 0))), (q9, .inl (qC X 0, 3, .inl (fun _ => 0)))] rfl ?_
  refine k_putF O (ci := 6) (f := 12) (ty := .array .int) 0 [(h, .inr (6, [.int 0, .int 0, .ref q0, .ref q1, .ref q2, .ref q3, .int 0, .ref q4, .ref q5, .ref q6, .ref q7, .ref q8, .ref q9, .int 0, .int 0, .int 0, .int 0, .int 0, .int 0, .null, .null, .null, .null, .null, .null, .int 0, .int 0, .int 0, .int 0, .null, .null, .null, .int 0, .null, .int 0, .null])), (q0, .inl (qC X 0, 4, .inl (upd (upd (upd (upd (fun _ => 0) 0 (-9)) 1 (-9)) 2 (-9)) 3 (-9)))), (q1, .inl (qC X 0, 4, .inl (fun _ => 0))), (q2, .inl (qC X 0, 240, .inl (fun _ => 0))), (q3, .inl (qC X 0, 7, .inl (upd (upd (upd (upd (upd (upd (upd (fun _ => 0) 0 1) 1 3) 2 9) 3 27) 4 81) 5 243) 6 729))), (q4, .inl (qC X 0, 6, .inl (fun _ => 0))), (q5, .inl (qC X 0, 6, .inl (fun _ => 0))), (q6, .inl (qC X 0, 6, .inl (fun _ => 0))), (q7, .inl (qC X 0, 6, .inl (fun _ => 0))), (q8, .inl (qC X 2, 6, .inl (fun _ => 0))), (q9, .inl (qC X 0, 3, .inl (fun _ => 0)))] rfl in_X6 tyX6_ok nmX6 (by decide) w_648 rfl rfl rfl (by decide +kernel) rfl rfl (Nat.le_of_ble_eq_true rfl) rfl d6_init_135 ?_
  refine k_aload_n O d6_init_138 0 rfl ?_
  refine k_bipush O d6_init_139 (v := 6) (by decide) ?_
  refine k_newa O (atype := .int) (ty := .int) 0 rfl rfl (fun _ h => by cases h) w_96 (N' := 6) (6, .inl (fun _ => 0)) (fun _ => rfl) (by decide) (by decide) (by decide) (by decide) (by decide) d6_init_141 (fun q10 => ?_)
  refine k_show [(h, .inr (6, [.int 0, .int 0, .ref q0, .ref q1, .ref q2, .ref q3, .int 0, .ref q4, .ref q5, .ref q6, .ref q7, .ref q8, .ref q9, .int 0, .int 0, .int 0, .int 0, .int 0, .int 0, .null, .null, .null, .null, .null, .null, .int 0, .int 0, .int 0, .int 0, .null, .null, .null, .int 0, .null, .int 0, .null])), (q0, .inl (qC X 0, 4, .inl (upd (upd (upd (upd (fun _ => 0) 0 (-9)) 1 (-9)) 2 (-9)) 3 (-9)))), (q1, .inl (qC X 0, 4, .inl (fun _ => 0))), (q2, .inl (qC X 0, 240, .inl (fun _ => 0))), (q3, .inl (qC X 0, 7, .inl (upd (upd (upd (upd (upd (upd (upd (fun _ => 0) 0 1) 1 3) 2 9) 3 27) 4 81) 5 243) 6 729))), (q4, .inl (qC X 0, 6, .inl (fun _ => 0))), (q5, .inl (qC X 0, 6, .inl (fun _ => 0))), (q6, .inl (qC X 0, 6, .inl (fun _ => 0))), (q7, .inl (qC X 0, 6, .inl (fun _ => 0))), (q8, .inl (qC X 2, 6, .inl (fun _ => 0))), (q9, .inl (qC X 0, 3, .inl (fun _ => 0))), (q10, .inl (qC X 0, 6, .inl (fun _ => 0)))] rfl ?_
  refine k_putF O (ci := 6) (f := 19) (ty := .array .int) 0 [(h, .inr (6, [.int 0, .int 0, .ref q0, .ref q1, .ref q2, .ref q3, .int 0, .ref q4, .ref q5, .ref q6, .ref q7, .ref q8, .ref q9, .int 0, .int 0, .int 0, .int 0, .int 0, .int 0, .ref q10, .null, .null, .null, .null, .null, .int 0, .int 0, .int 0, .int 0, .null, .null, .null, .int 0, .null, .int 0, .null])), (q0, .inl (qC X 0, 4, .inl (upd (upd (upd (upd (fun _ => 0) 0 (-9)) 1 (-9)) 2 (-9)) 3 (-9)))), (q1, .inl (qC X 0, 4, .inl (fun _ => 0))), (q2, .inl (qC X 0, 240, .inl (fun _ => 0))), (q3, .inl (qC X 0, 7, .inl (upd (upd (upd (upd (upd (upd (upd (fun _ => 0) 0 1) 1 3) 2 9) 3 27) 4 81) 5 243) 6 729))), (q4, .inl (qC X 0, 6, .inl (fun _ => 0))), (q5, .inl (qC X 0, 6, .inl (fun _ => 0))), (q6, .inl (qC X 0, 6, .inl (fun _ => 0))), (q7, .inl (qC X 0, 6, .inl (fun _ => 0))), (q8, .inl (qC X 2, 6, .inl (fun _ => 0))), (q9, .inl (qC X 0, 3, .inl (fun _ => 0))), (q10, .inl (qC X 0, 6, .inl (fun _ => 0)))] rfl in_X6 tyX6_ok nmX6 (by decide) w_655 rfl rfl rfl (by decide +kernel) rfl rfl (Nat.le_of_ble_eq_true rfl) rfl d6_init_143 ?_
  refine k_aload_n O d6_init_146 0 rfl ?_
  refine k_bipush O d6_init_147 (v := 6) (by decide) ?_
  refine k_newa O (atype := .int) (ty := .int) 0 rfl rfl (fun _ h => by cases h) w_96 (N' := 6) (6, .inl (fun _ => 0)) (fun _ => rfl) (by decide) (by decide) (by decide) (by decide) (by decide) d6_init_149 (fun q11 => ?_)
  refine k_show [(h, .inr (6, [.int 0, .int 0, .ref q0, .ref q1, .ref q2, .ref q3, .int 0, .ref q4, .ref q5, .ref q6, .ref q7, .ref q8, .ref q9, .int 0, .int 0, .int 0, .int 0, .int 0, .int 0, .ref q10, .null, .null, .null, .null, .null, .int 0, .int 0, .int 0, .int 0, .null, .null, .null, .int 0, .null, .int 0, .null])), (q0, .inl (qC X 0, 4, .inl (upd (upd (upd (upd (fun _ => 0) 0 (-9)) 1 (-9)) 2 (-9)) 3 (-9)))), (q1, .inl (qC X 0, 4, .inl (fun _ => 0))), (q2, .inl (qC X 0, 240, .inl (fun _ => 0))), (q3, .inl (qC X 0, 7, .inl (upd (upd (upd (upd (upd (upd (upd (fun _ => 0) 0 1) 1 3) 2 9) 3 27) 4 81) 5 243) 6 729))), (q4, .inl (qC X 0, 6, .inl (fun _ => 0))), (q5, .inl (qC X 0, 6, .inl (fun _ => 0))), (q6, .inl (qC X 0, 6, .inl (fun _ => 0))), (q7, .inl (qC X 0, 6, .inl (fun _ => 0))), (q8, .inl (qC X 2, 6, .inl (fun _ => 0))), (q9, .inl (qC X 0, 3, .inl (fun _ => 0))), (q10, .inl (qC X 0, 6, .inl (fun _ => 0))), (q11, .inl (qC X 0, 6, .inl (fun _ => 0)))] rfl ?_
  refine k_putF O (ci := 6) (f := 20) (ty := .array .int) 0 [(h, .inr (6, [.int 0, .int 0, .ref q0, .ref q1, .ref q2, .ref q3, .int 0, .ref q4, .ref q5, .ref q6, .ref q7, .ref q8, .ref q9, .int 0, .int 0, .int 0, .int 0, .int 0, .int 0, .ref q10, .ref q11, .null, .null, .null, .null, .int 0, .int 0, .int 0, .int 0, .null, .null, .null, .int 0, .null, .int 0, .null])), (q0, .inl (qC X 0, 4, .inl (upd (upd (upd (upd (fun _ => 0) 0 (-9)) 1 (-9)) 2 (-9)) 3 (-9)))), (q1, .inl (qC X 0, 4, .inl (fun _ => 0))), (q2, .inl (qC X 0, 240, .inl (fun _ => 0))), (q3, .inl (qC X 0, 7, .inl (upd (upd (upd (upd (upd (upd (upd (fun _ => 0) 0 1) 1 3) 2 9) 3 27) 4 81) 5 243) 6 729))), (q4, .inl (qC X 0, 6, .inl (fun _ => 0))), (q5, .inl (qC X 0, 6, .inl (fun _ => 0))), (q6, .inl (qC X 0, 6, .inl (fun _ => 0))), (q7, .inl (qC X 0, 6, .inl (fun _ => 0))), (q8, .inl (qC X 2, 6, .inl (fun _ => 0))), (q9, .inl (qC X 0, 3, .inl (fun _ => 0))), (q10, .inl (qC X 0, 6, .inl (fun _ => 0))), (q11, .inl (qC X 0, 6, .inl (fun _ => 0)))] rfl in_X6 tyX6_ok nmX6 (by decide) w_656 rfl rfl rfl (by decide +kernel) rfl rfl (Nat.le_of_ble_eq_true rfl) rfl d6_init_151 ?_
  refine k_aload_n O d6_init_154 0 rfl ?_
  refine k_bipush O d6_init_155 (v := 6) (by decide) ?_
  refine k_newa O (atype := .int) (ty := .int) 0 rfl rfl (fun _ h => by cases h) w_96 (N' := 6) (6, .inl (fun _ => 0)) (fun _ => rfl) (by decide) (by decide) (by decide) (by decide) (by decide) d6_init_157 (fun q12 => ?_)
  refine k_show [(h, .inr (6, [.int 0, .int 0, .ref q0, .ref q1, .ref q2, .ref q3, .int 0, .ref q4, .ref q5, .ref q6, .ref q7, .ref q8, .ref q9, .int 0, .int 0, .int 0, .int 0, .int 0, .int 0, .ref q10, .ref q11, .null, .null, .null, .null, .int 0, .int 0, .int 0, .int 0, .null, .null, .null, .int 0, .null, .int 0, .null])), (q0, .inl (qC X 0, 4, .inl (upd (upd (upd (upd (fun _ => 0) 0 (-9)) 1 (-9)) 2 (-9)) 3 (-9)))), (q1, .inl (qC X 0, 4, .inl (fun _ => 0))), (q2, .inl (qC X 0, 240, .inl (fun _ => 0))), (q3, .inl (qC X 0, 7, .inl (upd (upd (upd (upd (upd (upd (upd (fun _ => 0) 0 1) 1 3) 2 9) 3 27) 4 81) 5 243) 6 729))), (q4, .inl (qC X 0, 6, .inl (fun _ => 0))), (q5, .inl (qC X 0, 6, .inl (fun _ => 0))), (q6, .inl (qC X 0, 6, .inl (fun _ => 0))), (q7, .inl (qC X 0, 6, .inl (fun _ => 0))), (q8, .inl (qC X 2, 6, .inl (fun _ => 0))), (q9, .inl (qC X 0, 3, .inl (fun _ => 0))), (q10, .inl (qC X 0, 6, .inl (fun _ => 0))), (q11, .inl (qC X 0, 6, .inl (fun _ => 0))), (q12, .inl (qC X 0, 6, .inl (fun _ => 0)))] rfl ?_
  refine k_putF O (ci := 6) (f := 21) (ty := .array .int) 0 [(h, .inr (6, [.int 0, .int 0, .ref q0, .ref q1, .ref q2, .ref q3, .int 0, .ref q4, .ref q5, .ref q6, .ref q7, .ref q8, .ref q9, .int 0, .int 0, .int 0, .int 0, .int 0, .int 0, .ref q10, .ref q11, .ref q12, .null, .null, .null, .int 0, .int 0, .int 0, .int 0, .null, .null, .null, .int 0, .null, .int 0, .null])), (q0, .inl (qC X 0, 4, .inl (upd (upd (upd (upd (fun _ => 0) 0 (-9)) 1 (-9)) 2 (-9)) 3 (-9)))), (q1, .inl (qC X 0, 4, .inl (fun _ => 0))), (q2, .inl (qC X 0, 240, .inl (fun _ => 0))), (q3, .inl (qC X 0, 7, .inl (upd (upd (upd (upd (upd (upd (upd (fun _ => 0) 0 1) 1 3) 2 9) 3 27) 4 81) 5 243) 6 729))), (q4, .inl (qC X 0, 6, .inl (fun _ => 0))), (q5, .inl (qC X 0, 6, .inl (fun _ => 0))), (q6, .inl (qC X 0, 6, .inl (fun _ => 0))), (q7, .inl (qC X 0, 6, .inl (fun _ => 0))), (q8, .inl (qC X 2, 6, .inl (fun _ => 0))), (q9, .inl (qC X 0, 3, .inl (fun _ => 0))), (q10, .inl (qC X 0, 6, .inl (fun _ => 0))), (q11, .inl (qC X 0, 6, .inl (fun _ => 0))), (q12, .inl (qC X 0, 6, .inl (fun _ => 0)))] rfl in_X6 tyX6_ok nmX6 (by decide) w_657 rfl rfl rfl (by decide +kernel) rfl rfl (Nat.le_of_ble_eq_true rfl) rfl d6_init_159 ?_
  refine k_aload_n O d6_init_162 0 rfl ?_
  refine k_bipush O d6_init_163 (v := 6) (by decide) ?_
  refine k_newa O (atype := .int) (ty := .int) 0 rfl rfl (fun _ h => by cases h) w_96 (N' := 6) (6, .inl (fun _ => 0)) (fun _ => rfl) (by decide) (by decide) (by decide) (by decide) (by decide) d6_init_165 (fun q13 => ?_)
  refine k_show [(h, .inr (6, [.int 0, .int 0, .ref q0, .ref q1, .ref q2, .ref q3, .int 0, .ref q4, .ref q5, .ref q6, .ref q7, .ref q8, .ref q9, .int 0, .int 0, .int 0, .int 0, .int 0, .int 0, .ref q10, .ref q11, .ref q12, .null, .null, .null, .int 0, .int 0, .int 0, .int 0, .null, .null, .null, .int 0, .null, .int 0, .null])), (q0, .inl (qC X 0, 4, .inl (upd (upd (upd (upd (fun _ => 0) 0 (-9)) 1 (-9)) 2 (-9)) 3 (-9)))), (q1, .inl (qC X 0, 4, .inl (fun _ => 0))), (q2, .inl (qC X 0, 240, .inl (fun _ => 0))), (q3, .inl (qC X 0, 7, .inl (upd (upd (upd (upd (upd (upd (upd (fun _ => 0) 0 1) 1 3) 2 9) 3 27) 4 81) 5 243) 6 729))), (q4, .inl (qC X 0, 6, .inl (fun _ => 0))), (q5, .inl (qC X 0, 6, .inl (fun _ => 0))), (q6, .inl (qC X 0, 6, .inl (fun _ => 0))), (q7, .inl (qC X 0, 6, .inl (fun _ => 0))), (q8, .inl (qC X 2, 6, .inl (fun _ => 0))), (q9, .inl (qC X 0, 3, .inl (fun _ => 0))), (q10, .inl (qC X 0, 6, .inl (fun _ => 0))), (q11, .inl (qC X 0, 6, .inl (fun _ => 0))), (q12, .inl (qC X 0, 6, .inl (fun _ => 0))), (q13, .inl (qC X 0, 6, .inl (fun _ => 0)))] rfl ?_
  refine k_putF O (ci := 6) (f := 22) (ty := .array .int) 0 [(h, .inr (6, [.int 0, .int 0, .ref q0, .ref q1, .ref q2, .ref q3, .int 0, .ref q4, .ref q5, .ref q6, .ref q7, .ref q8, .ref q9, .int 0, .int 0, .int 0, .int 0, .int 0, .int 0, .ref q10, .ref q11, .ref q12, .ref q13, .null, .null, .int 0, .int 0, .int 0, .int 0, .null, .null, .null, .int 0, .null, .int 0, .null])), (q0, .inl (qC X 0, 4, .inl (upd (upd (upd (upd (fun _ => 0) 0 (-9)) 1 (-9)) 2 (-9)) 3 (-9)))), (q1, .inl (qC X 0, 4, .inl (fun _ => 0))), (q2, .inl (qC X 0, 240, .inl (fun _ => 0))), (q3, .inl (qC X 0, 7, .inl (upd (upd (upd (upd (upd (upd (upd (fun _ => 0) 0 1) 1 3) 2 9) 3 27) 4 81) 5 243) 6 729))), (q4, .inl (qC X 0, 6, .inl (fun _ => 0))), (q5, .inl (qC X 0, 6, .inl (fun _ => 0))), (q6, .inl (qC X 0, 6, .inl (fun _ => 0))), (q7, .inl (qC X 0, 6, .inl (fun _ => 0))), (q8, .inl (qC X 2, 6, .inl (fun _ => 0))), (q9, .inl (qC X 0, 3, .inl (fun _ => 0))), (q10, .inl (qC X 0, 6, .inl (fun _ => 0))), (q11, .inl (qC X 0, 6, .inl (fun _ => 0))), (q12, .inl (qC X 0, 6, .inl (fun _ => 0))), (q13, .inl (qC X 0, 6, .inl (fun _ => 0)))] rfl in_X6 tyX6_ok nmX6 (by decide) w_658 rfl rfl rfl (by decide +kernel) rfl rfl (Nat.le_of_ble_eq_true rfl) rfl d6_init_167 ?_
  refine k_aload_n O d6_init_170 0 rfl ?_
  refine k_bipush O d6_init_171 (v := 7) (by decide) ?_
  refine k_newa O (atype := .int) (ty := .int) 0 rfl rfl (fun _ h => by cases h) w_96 (N' := 7) (7, .inl (fun _ => 0)) (fun _ => rfl) (by decide) (by decide) (by decide) (by decide) (by decide) d6_init_173 (fun q14 => ?_)
  refine k_show [(h, .inr (6, [.int 0, .int 0, .ref q0, .ref q1, .ref q2, .ref q3, .int 0, .ref q4, .ref q5, .ref q6, .ref q7, .ref q8, .ref q9, .int 0, .int 0, .int 0, .int 0, .int 0, .int 0, .ref q10, .ref q11, .ref q12, .ref q13, .null, .null, .int 0, .int 0, .int 0, .int 0, .null, .null, .null, .int 0, .null, .int 0, .null])), (q0, .inl (qC X 0, 4, .inl (upd (upd (upd (upd (fun _ => 0) 0 (-9)) 1 (-9)) 2 (-9)) 3 (-9)))), (q1, .inl (qC X 0, 4, .inl (fun _ => 0))), (q2, .inl (qC X 0, 240, .inl (fun _ => 0))), (q3, .inl (qC X 0, 7, .inl (upd (upd (upd (upd (upd (upd (upd (fun _ => 0) 0 1) 1 3) 2 9) 3 27) 4 81) 5 243) 6 729))), (q4, .inl (qC X 0, 6, .inl (fun _ => 0))), (q5, .inl (qC X 0, 6, .inl (fun _ => 0))), (q6, .inl (qC X 0, 6, .inl (fun _ => 0))), (q7, .inl (qC X 0, 6, .inl (fun _ => 0))), (q8, .inl (qC X 2, 6, .inl (fun _ => 0))), (q9, .inl (qC X 0, 3, .inl (fun _ => 0))), (q10, .inl (qC X 0, 6, .inl (fun _ => 0))), (q11, .inl (qC X 0, 6, .inl (fun _ => 0))), (q12, .inl (qC X 0, 6, .inl (fun _ => 0))), (q13, .inl (qC X 0, 6, .inl (fun _ => 0))), (q14, .inl (qC X 0, 7, .inl (fun _ => 0)))] rfl ?_
  refine k_putF O (ci := 6) (f := 23) (ty := .array .int) 0 [(h, .inr (6, [.int 0, .int 0, .ref q0, .ref q1, .ref q2, .ref q3, .int 0, .ref q4, .ref q5, .ref q6, .ref q7, .ref q8, .ref q9, .int 0, .int 0, .int 0, .int 0, .int 0, .int 0, .ref q10, .ref q11, .ref q12, .ref q13, .ref q14, .null, .int 0, .int 0, .int 0, .int 0, .null, .null, .null, .int 0, .null, .int 0, .null])), (q0, .inl (qC X 0, 4, .inl (upd (upd (upd (upd (fun _ => 0) 0 (-9)) 1 (-9)) 2 (-9)) 3 (-9)))), (q1, .inl (qC X 0, 4, .inl (fun _ => 0))), (q2, .inl (qC X 0, 240, .inl (fun _ => 0))), (q3, .inl (qC X 0, 7, .inl (upd (upd (upd (upd (upd (upd (upd (fun _ => 0) 0 1) 1 3) 2 9) 3 27) 4 81) 5 243) 6 729))), (q4, .inl (qC X 0, 6, .inl (fun _ => 0))), (q5, .inl (qC X 0, 6, .inl (fun _ => 0))), (q6, .inl (qC X 0, 6, .inl (fun _ => 0))), (q7, .inl (qC X 0, 6, .inl (fun _ => 0))), (q8, .inl (qC X 2, 6, .inl (fun _ => 0))), (q9, .inl (qC X 0, 3, .inl (fun _ => 0))), (q10, .inl (qC X 0, 6, .inl (fun _ => 0))), (q11, .inl (qC X 0, 6, .inl (fun _ => 0))), (q12, .inl (qC X 0, 6, .inl (fun _ => 0))), (q13, .inl (qC X 0, 6, .inl (fun _ => 0))), (q14, .inl (qC X 0, 7, .inl (fun _ => 0)))] rfl in_X6 tyX6_ok nmX6 (by decide) w_659 rfl rfl rfl (by decide +kernel) rfl rfl (Nat.le_of_ble_eq_true rfl) rfl d6_init_175 ?_
  refine k_aload_n O d6_init_178 0 rfl ?_
  refine k_bipush O d6_init_179 (v := 7) (by decide) ?_
  refine k_newa O (atype := .int) (ty := .int) 0 rfl rfl (fun _ h => by cases h) w_96 (N' := 7) (7, .inl (fun _ => 0)) (fun _ => rfl) (by decide) (by decide) (by decide) (by decide) (by decide) d6_init_181 (fun q15 => ?_)
  refine k_show [(h, .inr (6, [.int 0, .int 0, .ref q0, .ref q1, .ref q2, .ref q3, .int 0, .ref q4, .ref q5, .ref q6, .ref q7, .ref q8, .ref q9, .int 0, .int 0, .int 0, .int 0, .int 0, .int 0, .ref q10, .ref q11, .ref q12, .ref q13, .ref q14, .null, .int 0, .int 0, .int 0, .int 0, .null, .null, .null, .int 0, .null, .int 0, .null])), (q0, .inl (qC X 0, 4, .inl (upd (upd (upd (upd (fun _ => 0) 0 (-9)) 1 (-9)) 2 (-9)) 3 (-9)))), (q1, .inl (qC X 0, 4, .inl (fun _ => 0))), (q2, .inl (qC X 0, 240, .inl (fun _ => 0))), (q3, .inl (qC X 0, 7, .inl (upd (upd (upd (upd (upd (upd (upd (fun _ => 0) 0 1) 1 3) 2 9) 3 27) 4 81) 5 243) 6 729))), (q4, .inl (qC X 0, 6, .inl (fun _ => 0))), (q5, .inl (qC X 0, 6, .inl (fun _ => 0))), (q6, .inl (qC X 0, 6, .inl (fun _ => 0))), (q7, .inl (qC X 0, 6, .inl (fun _ => 0))), (q8, .inl (qC X 2, 6, .inl (fun _ => 0))), (q9, .inl (qC X 0, 3, .inl (fun _ => 0))), (q10, .inl (qC X 0, 6, .inl (fun _ => 0))), (q11, .inl (qC X 0, 6, .inl (fun _ => 0))), (q12, .inl (qC X 0, 6, .inl (fun _ => 0))), (q13, .inl (qC X 0, 6, .inl (fun _ => 0))), (q14, .inl (qC X 0, 7, .inl (fun _ => 0))), (q15, .inl (qC X 0, 7, .inl (fun _ => 0)))] rfl ?_
  refine k_putF O (ci := 6) (f := 24) (ty := .array .int) 0 [(h, .inr (6, [.int 0, .int 0, .ref q0, .ref q1, .ref q2, .ref q3, .int 0, .ref q4, .ref q5, .ref q6, .ref q7, .ref q8, .ref q9, .int 0, .int 0, .int 0, .int 0, .int 0, .int 0, .ref q10, .ref q11, .ref q12, .ref q13, .ref q14, .ref q15, .int 0, .int 0, .int 0, .int 0, .null, .null, .null, .int 0, .null, .int 0, .null])), (q0, .inl (qC X 0, 4, .inl (upd (upd (upd (upd (fun _ => 0) 0 (-9)) 1 (-9)) 2 (-9)) 3 (-9)))), (q1, .inl (qC X 0, 4, .inl (fun _ => 0))), (q2, .inl (qC X 0, 240, .inl (fun _ => 0))), (q3, .inl (qC X 0, 7, .inl (upd (upd (upd (upd (upd (upd (upd (fun _ => 0) 0 1) 1 3) 2 9) 3 27) 4 81) 5 243) 6 729))), (q4, .inl (qC X 0, 6, .inl (fun _ => 0))), (q5, .inl (qC X 0, 6, .inl (fun _ => 0))), (q6, .inl (qC X 0, 6, .inl (fun _ => 0))), (q7, .inl (qC X 0, 6, .inl (fun _ => 0))), (q8, .inl (qC X 2, 6, .inl (fun _ => 0))), (q9, .inl (qC X 0, 3, .inl (fun _ => 0))), (q10, .inl (qC X 0, 6, .inl (fun _ => 0))), (q11, .inl (qC X 0, 6, .inl (fun _ => 0))), (q12, .inl (qC X 0, 6, .inl (fun _ => 0))), (q13, .inl (qC X 0, 6, .inl (fun _ => 0))), (q14, .inl (qC X 0, 7, .inl (fun _ => 0))), (q15, .inl (qC X 0, 7, .inl (fun _ => 0)))] rfl in_X6 tyX6_ok nmX6 (by decide) w_660 rfl rfl rfl (by decide +kernel) rfl rfl (Nat.le_of_ble_eq_true rfl) rfl d6_init_183 ?_
  refine k_aload_n O d6_init_186 0 rfl ?_
  refine k_sipush O d6_init_187 (v := 729) (by decide) ?_
  refine k_newa O (atype := .int) (ty := .int) 0 rfl rfl (fun _ h => by cases h) w_96 (N' := 729) (729, .inl (fun _ => 0)) (fun _ => rfl) (by decide) (by decide) (by decide) (by decide) (by decide) d6_init_190 (fun q16 => ?_)
  refine k_show [(h, .inr (6, [.int 0, .int 0, .ref q0, .ref q1, .ref q2, .ref q3, .int 0, .ref q4, .ref q5, .ref q6, .ref q7, .ref q8, .ref q9, .int 0, .int 0, .int 0, .int 0, .int 0, .int 0, .ref q10, .ref q11, .ref q12, .ref q13, .ref q14, .ref q15, .int 0, .int 0, .int 0, .int 0, .null, .null, .null, .int 0, .null, .int 0, .null])), (q0, .inl (qC X 0, 4, .inl (upd (upd (upd (upd (fun _ => 0) 0 (-9)) 1 (-9)) 2 (-9)) 3 (-9)))), (q1, .inl (qC X 0, 4, .inl (fun _ => 0))), (q2, .inl (qC X 0, 240, .inl (fun _ => 0))), (q3, .inl (qC X 0, 7, .inl (upd (upd (upd (upd (upd (upd (upd (fun _ => 0) 0 1) 1 3) 2 9) 3 27) 4 81) 5 243) 6 729))), (q4, .inl (qC X 0, 6, .inl (fun _ => 0))), (q5, .inl (qC X 0, 6, .inl (fun _ => 0))), (q6, .inl (qC X 0, 6, .inl (fun _ => 0))), (q7, .inl (qC X 0, 6, .inl (fun _ => 0))), (q8, .inl (qC X 2, 6, .inl (fun _ => 0))), (q9, .inl (qC X 0, 3, .inl (fun _ => 0))), (q10, .inl (qC X 0, 6, .inl (fun _ => 0))), (q11, .inl (qC X 0, 6, .inl (fun _ => 0))), (q12, .inl (qC X 0, 6, .inl (fun _ => 0))), (q13, .inl (qC X 0, 6, .inl (fun _ => 0))), (q14, .inl (qC X 0, 7, .inl (fun _ => 0))), (q15, .inl (qC X 0, 7, .inl (fun _ => 0))), (q16, .inl (qC X 0, 729, .inl (fun _ => 0)))] rfl ?_
  refine k_putF O (ci := 6) (f := 29) (ty := .array .int) 0 [(h, .inr (6, [.int 0, .int 0, .ref q0, .ref q1, .ref q2, .ref q3, .int 0, .ref q4, .ref q5, .ref q6, .ref q7, .ref q8, .ref q9, .int 0, .int 0, .int 0, .int 0, .int 0, .int 0, .ref q10, .ref q11, .ref q12, .ref q13, .ref q14, .ref q15, .int 0, .int 0, .int 0, .int 0, .ref q16, .null, .null, .int 0, .null, .int 0, .null])), (q0, .inl (qC X 0, 4, .inl (upd (upd (upd (upd (fun _ => 0) 0 (-9)) 1 (-9)) 2 (-9)) 3 (-9)))), (q1, .inl (qC X 0, 4, .inl (fun _ => 0))), (q2, .inl (qC X 0, 240, .inl (fun _ => 0))), (q3, .inl (qC X 0, 7, .inl (upd (upd (upd (upd (upd (upd (upd (fun _ => 0) 0 1) 1 3) 2 9) 3 27) 4 81) 5 243) 6 729))), (q4, .inl (qC X 0, 6, .inl (fun _ => 0))), (q5, .inl (qC X 0, 6, .inl (fun _ => 0))), (q6, .inl (qC X 0, 6, .inl (fun _ => 0))), (q7, .inl (qC X 0, 6, .inl (fun _ => 0))), (q8, .inl (qC X 2, 6, .inl (fun _ => 0))), (q9, .inl (qC X 0, 3, .inl (fun _ => 0))), (q10, .inl (qC X 0, 6, .inl (fun _ => 0))), (q11, .inl (qC X 0, 6, .inl (fun _ => 0))), (q12, .inl (qC X 0, 6, .inl (fun _ => 0))), (q13, .inl (qC X 0, 6, .inl (fun _ => 0))), (q14, .inl (qC X 0, 7, .inl (fun _ => 0))), (q15, .inl (qC X 0, 7, .inl (fun _ => 0))), (q16, .inl (qC X 0, 729, .inl (fun _ => 0)))] rfl in_X6 tyX6_ok nmX6 (by decide) w_665 rfl rfl rfl (by decide +kernel) rfl rfl (Nat.le_of_ble_eq_true rfl) rfl d6_init_192 ?_
  refine k_aload_n O d6_init_195 0 rfl ?_
  refine k_sipush O d6_init_196 (v := 729) (by decide) ?_
  refine k_newa O (atype := .int) (ty := .int) 0 rfl rfl (fun _ h => by cases h) w_96 (N' := 729) (729, .inl (fun _ => 0)) (fun _ => rfl) (by decide) (by decide) (by decide) (by decide) (by decide) d6_init_199 (fun q17 => ?_)
  refine k_show [(h, .inr (6, [.int 0, .int 0, .ref q0, .ref q1, .ref q2, .ref q3, .int 0, .ref q4, .ref q5, .ref q6, .ref q7, .ref q8, .ref q9, .int 0, .int 0, .int 0, .int 0, .int 0, .int 0, .ref q10, .ref q11, .ref q12, .ref q13, .ref q14, .ref q15, .int 0, .int 0, .int 0, .int 0, .ref q16, .null, .null, .int 0, .null, .int 0, .null])), (q0, .inl (qC X 0, 4, .inl (upd (upd (upd (upd (fun _ => 0) 0 (-9)) 1 (-9)) 2 (-9)) 3 (-9)))), (q1, .inl (qC X 0, 4, .inl (fun _ => 0))), (q2, .inl (qC X 0, 240, .inl (fun _ => 0))), (q3, .inl (qC X 0, 7, .inl (upd (upd (upd (upd (upd (upd (upd (fun _ => 0) 0 1) 1 3) 2 9) 3 27) 4 81) 5 243) 6 729))), (q4, .inl (qC X 0, 6, .inl (fun _ => 0))), (q5, .inl (qC X 0, 6, .inl (fun _ => 0))), (q6, .inl (qC X 0, 6, .inl (fun _ => 0))), (q7, .inl (qC X 0, 6, .inl (fun _ => 0))), (q8, .inl (qC X 2, 6, .inl (fun _ => 0))), (q9, .inl (qC X 0, 3, .inl (fun _ => 0))), (q10, .inl (qC X 0, 6, .inl (fun _ => 0))), (q11, .inl (qC X 0, 6, .inl (fun _ => 0))), (q12, .inl (qC X 0, 6, .inl (fun _ => 0))), (q13, .inl (qC X 0, 6, .inl (fun _ => 0))), (q14, .inl (qC X 0, 7, .inl (fun _ => 0))), (q15, .inl (qC X 0, 7, .inl (fun _ => 0))), (q16, .inl (qC X 0, 729, .inl (fun _ => 0))), (q17, .inl (qC X 0, 729, .inl (fun _ => 0)))] rfl ?_
  refine k_putF O (ci := 6) (f := 30) (ty := .array .int) 0 [(h, .inr (6, [.int 0, .int 0, .ref q0, .ref q1, .ref q2, .ref q3, .int 0, .ref q4, .ref q5, .ref q6, .ref q7, .ref q8, .ref q9, .int 0, .int 0, .int 0, .int 0, .int 0, .int 0, .ref q10, .ref q11, .ref q12, .ref q13, .ref q14, .ref q15, .int 0, .int 0, .int 0, .int 0, .ref q16, .ref q17, .null, .int 0, .null, .int 0, .null])), (q0, .inl (qC X 0, 4, .inl (upd (upd (upd (upd (fun _ => 0) 0 (-9)) 1 (-9)) 2 (-9)) 3 (-9)))), (q1, .inl (qC X 0, 4, .inl (fun _ => 0))), (q2, .inl (qC X 0, 240, .inl (fun _ => 0))), (q3, .inl (qC X 0, 7, .inl (upd (upd (upd (upd (upd (upd (upd (fun _ => 0) 0 1) 1 3) 2 9) 3 27) 4 81) 5 243) 6 729))), (q4, .inl (qC X 0, 6, .inl (fun _ => 0))), (q5, .inl (qC X 0, 6, .inl (fun _ => 0))), (q6, .inl (qC X 0, 6, .inl (fun _ => 0))), (q7, .inl (qC X 0, 6, .inl (fun _ => 0))), (q8, .inl (qC X 2, 6, .inl (fun _ => 0))), (q9, .inl (qC X 0, 3, .inl (fun _ => 0))), (q10, .inl (qC X 0, 6, .inl (fun _ => 0))), (q11, .inl (qC X 0, 6, .inl (fun _ => 0))), (q12, .inl (qC X 0, 6, .inl (fun _ => 0))), (q13, .inl (qC X 0, 6, .inl (fun _ => 0))), (q14, .inl (qC X 0, 7, .inl (fun _ => 0))), (q15, .inl (qC X 0, 7, .inl (fun _ => 0))), (q16, .inl (qC X 0, 729, .inl (fun _ => 0))), (q17, .inl (qC X 0, 729, .inl (fun _ => 0)))] rfl in_X6 tyX6_ok nmX6 (by decide) w_666 rfl rfl rfl (by decide +kernel) rfl rfl (Nat.le_of_ble_eq_true rfl) rfl d6_init_201 ?_
  refine k_aload_n O d6_init_204 0 rfl ?_
  refine k_sipush O d6_init_205 (v := 729) (by decide) ?_
  refine k_newa O (atype := .long) (ty := .long) 1 rfl rfl (fun _ h => by cases h) w_194 (N' := 729) (729, .inr (.inl (fun _ => 0))) (fun _ => rfl) (by decide) (by decide) (by decide) (by decide) (by decide) d6_init_208 (fun q18 => ?_)
  refine k_show [(h, .inr (6, [.int 0, .int 0, .ref q0, .ref q1, .ref q2, .ref q3, .int 0, .ref q4, .ref q5, .ref q6, .ref q7, .ref q8, .ref q9, .int 0, .int 0, .int 0, .int 0, .int 0, .int 0, .ref q10, .ref q11, .ref q12, .ref q13, .ref q14, .ref q15, .int 0, .int 0, .int 0, .int 0, .ref q16, .ref q17, .null, .int 0, .null, .int 0, .null])), (q0, .inl (qC X 0, 4, .inl (upd (upd (upd (upd (fun _ => 0) 0 (-9)) 1 (-9)) 2 (-9)) 3 (-9)))), (q1, .inl (qC X 0, 4, .inl (fun _ => 0))), (q2, .inl (qC X 0, 240, .inl (fun _ => 0))), (q3, .inl (qC X 0, 7, .inl (upd (upd (upd (upd (upd (upd (upd (fun _ => 0) 0 1) 1 3) 2 9) 3 27) 4 81) 5 243) 6 729))), (q4, .inl (qC X 0, 6, .inl (fun _ => 0))), (q5, .inl (qC X 0, 6, .inl (fun _ => 0))), (q6, .inl (qC X 0, 6, .inl (fun _ => 0))), (q7, .inl (qC X 0, 6, .inl (fun _ => 0))), (q8, .inl (qC X 2, 6, .inl (fun _ => 0))), (q9, .inl (qC X 0, 3, .inl (fun _ => 0))), (q10, .inl (qC X 0, 6, .inl (fun _ => 0))), (q11, .inl (qC X 0, 6, .inl (fun _ => 0))), (q12, .inl (qC X 0, 6, .inl (fun _ => 0))), (q13, .inl (qC X 0, 6, .inl (fun _ => 0))), (q14, .inl (qC X 0, 7, .inl (fun _ => 0))), (q15, .inl (qC X 0, 7, .inl (fun _ => 0))), (q16, .inl (qC X 0, 729, .inl (fun _ => 0))), (q17, .inl (qC X 0, 729, .inl (fun _ => 0))), (q18, .inl (qC X 1, 729, .inr (.inl (fun _ => 0))))] rfl ?_
  refine k_putF O (ci := 6) (f := 31) (ty := .array .long) 0 [(h, .inr (6, [.int 0, .int 0, .ref q0, .ref q1, .ref q2, .ref q3, .int 0, .ref q4, .ref q5, .ref q6, .ref q7, .ref q8, .ref q9, .int 0, .int 0, .int 0, .int 0, .int 0, .int 0, .ref q10, .ref q11, .ref q12, .ref q13, .ref q14, .ref q15, .int 0, .int 0, .int 0, .int 0, .ref q16, .ref q17, .ref q18, .int 0, .null, .int 0, .null])), (q0, .inl (qC X 0, 4, .inl (upd (upd (upd (upd (fun _ => 0) 0 (-9)) 1 (-9)) 2 (-9)) 3 (-9)))), (q1, .inl (qC X 0, 4, .inl (fun _ => 0))), (q2, .inl (qC X 0, 240, .inl (fun _ => 0))), (q3, .inl (qC X 0, 7, .inl (upd (upd (upd (upd (upd (upd (upd (fun _ => 0) 0 1) 1 3) 2 9) 3 27) 4 81) 5 243) 6 729))), (q4, .inl (qC X 0, 6, .inl (fun _ => 0))), (q5, .inl (qC X 0, 6, .inl (fun _ => 0))), (q6, .inl (qC X 0, 6, .inl (fun _ => 0))), (q7, .inl (qC X 0, 6, .inl (fun _ => 0))), (q8, .inl (qC X 2, 6, .inl (fun _ => 0))), (q9, .inl (qC X 0, 3, .inl (fun _ => 0))), (q10, .inl (qC X 0, 6, .inl (fun _ => 0))), (q11, .inl (qC X 0, 6, .inl (fun _ => 0))), (q12, .inl (qC X 0, 6, .inl (fun _ => 0))), (q13, .inl (qC X 0, 6, .inl (fun _ => 0))), (q14, .inl (qC X 0, 7, .inl (fun _ => 0))), (q15, .inl (qC X 0, 7, .inl (fun _ => 0))), (q16, .inl (qC X 0, 729, .inl (fun _ => 0))), (q17, .inl (qC X 0, 729, .inl (fun _ => 0))), (q18, .inl (qC X 1, 729, .inr (.inl (fun _ => 0))))] rfl in_X6 tyX6_ok nmX6 (by decide) w_667 rfl rfl rfl (by decide +kernel) rfl rfl (Nat.le_of_ble_eq_true rfl) rfl d6_init_210 ?_
  refine k_aload_n O d6_init_213 0 rfl ?_
  refine k_sipush O d6_init_214 (v := 729) (by decide) ?_
  refine k_newa O (atype := .boolean) (ty := .boolean) 2 rfl rfl (fun _ h => by cases h) w_195 (N' := 729) (729, .inl (fun _ => 0)) (fun _ => rfl) (by decide) (by decide) (by decide) (by decide) (by decide) d6_init_217 (fun q19 => ?_)
  refine k_show [(h, .inr (6, [.int 0, .int 0, .ref q0, .ref q1, .ref q2, .ref q3, .int 0, .ref q4, .ref q5, .ref q6, .ref q7, .ref q8, .ref q9, .int 0, .int 0, .int 0, .int 0, .int 0, .int 0, .ref q10, .ref q11, .ref q12, .ref q13, .ref q14, .ref q15, .int 0, .int 0, .int 0, .int 0, .ref q16, .ref q17, .ref q18, .int 0, .null, .int 0, .null])), (q0, .inl (qC X 0, 4, .inl (upd (upd (upd (upd (fun _ => 0) 0 (-9)) 1 (-9)) 2 (-9)) 3 (-9)))), (q1, .inl (qC X 0, 4, .inl (fun _ => 0))), (q2, .inl (qC X 0, 240, .inl (fun _ => 0))), (q3, .inl (qC X 0, 7, .inl (upd (upd (upd (upd (upd (upd (upd (fun _ => 0) 0 1) 1 3) 2 9) 3 27) 4 81) 5 243) 6 729))), (q4, .inl (qC X 0, 6, .inl (fun _ => 0))), (q5, .inl (qC X 0, 6, .inl (fun _ => 0))), (q6, .inl (qC X 0, 6, .inl (fun _ => 0))), (q7, .inl (qC X 0, 6, .inl (fun _ => 0))), (q8, .inl (qC X 2, 6, .inl (fun _ => 0))), (q9, .inl (qC X 0, 3, .inl (fun _ => 0))), (q10, .inl (qC X 0, 6, .inl (fun _ => 0))), (q11, .inl (qC X 0, 6, .inl (fun _ => 0))), (q12, .inl (qC X 0, 6, .inl (fun _ => 0))), (q13, .inl (qC X 0, 6, .inl (fun _ => 0))), (q14, .inl (qC X 0, 7, .inl (fun _ => 0))), (q15, .inl (qC X 0, 7, .inl (fun _ => 0))), (q16, .inl (qC X 0, 729, .inl (fun _ => 0))), (q17, .inl (qC X 0, 729, .inl (fun _ => 0))), (q18, .inl (qC X 1, 729, .inr (.inl (fun _ => 0)))), (q19, .inl (qC X 2, 729, .inl (fun _ => 0)))] rfl ?_
  refine k_putF O (ci := 6) (f := 33) (ty := .array .boolean) 0 [(h, .inr (6, [.int 0, .int 0, .ref q0, .ref q1, .ref q2, .ref q3, .int 0, .ref q4, .ref q5, .ref q6, .ref q7, .ref q8, .ref q9, .int 0, .int 0, .int 0, .int 0, .int 0, .int 0, .ref q10, .ref q11, .ref q12, .ref q13, .ref q14, .ref q15, .int 0, .int 0, .int 0, .int 0, .ref q16, .ref q17, .ref q18, .int 0, .ref q19, .int 0, .null])), (q0, .inl (qC X 0, 4, .inl (upd (upd (upd (upd (fun _ => 0) 0 (-9)) 1 (-9)) 2 (-9)) 3 (-9)))), (q1, .inl (qC X 0, 4, .inl (fun _ => 0))), (q2, .inl (qC X 0, 240, .inl (fun _ => 0))), (q3, .inl (qC X 0, 7, .inl (upd (upd (upd (upd (upd (upd (upd (fun _ => 0) 0 1) 1 3) 2 9) 3 27) 4 81) 5 243) 6 729))), (q4, .inl (qC X 0, 6, .inl (fun _ => 0))), (q5, .inl (qC X 0, 6, .inl (fun _ => 0))), (q6, .inl (qC X 0, 6, .inl (fun _ => 0))), (q7, .inl (qC X 0, 6, .inl (fun _ => 0))), (q8, .inl (qC X 2, 6, .inl (fun _ => 0))), (q9, .inl (qC X 0, 3, .inl (fun _ => 0))), (q10, .inl (qC X 0, 6, .inl (fun _ => 0))), (q11, .inl (qC X 0, 6, .inl (fun _ => 0))), (q12, .inl (qC X 0, 6, .inl (fun _ => 0))), (q13, .inl (qC X 0, 6, .inl (fun _ => 0))), (q14, .inl (qC X 0, 7, .inl (fun _ => 0))), (q15, .inl (qC X 0, 7, .inl (fun _ => 0))), (q16, .inl (qC X 0, 729, .inl (fun _ => 0))), (q17, .inl (qC X 0, 729, .inl (fun _ => 0))), (q18, .inl (qC X 1, 729, .inr (.inl (fun _ => 0)))), (q19, .inl (qC X 2, 729, .inl (fun _ => 0)))] rfl in_X6 tyX6_ok nmX6 (by decide) w_669 rfl rfl rfl (by decide +kernel) rfl rfl (Nat.le_of_ble_eq_true rfl) rfl d6_init_219 ?_
  refine k_aload_n O d6_init_222 0 rfl ?_
  refine k_bipush O d6_init_223 (v := 8) (by decide) ?_
  refine k_newa O (atype := .int) (ty := .int) 0 rfl rfl (fun _ h => by cases h) w_96 (N' := 8) (8, .inl (fun _ => 0)) (fun _ => rfl) (by decide) (by decide) (by decide) (by decide) (by decide) d6_init_225 (fun q20 => ?_)
  refine k_show [(h, .inr (6, [.int 0, .int 0, .ref q0, .ref q1, .ref q2, .ref q3, .int 0, .ref q4, .ref q5, .ref q6, .ref q7, .ref q8, .ref q9, .int 0, .int 0, .int 0, .int 0, .int 0, .int 0, .ref q10, .ref q11, .ref q12, .ref q13, .ref q14, .ref q15, .int 0, .int 0, .int 0, .int 0, .ref q16, .ref q17, .ref q18, .int 0, .ref q19, .int 0, .null])), (q0, .inl (qC X 0, 4, .inl (upd (upd (upd (upd (fun _ => 0) 0 (-9)) 1 (-9)) 2 (-9)) 3 (-9)))), (q1, .inl (qC X 0, 4, .inl (fun _ => 0))), (q2, .inl (qC X 0, 240, .inl (fun _ => 0))), (q3, .inl (qC X 0, 7, .inl (upd (upd (upd (upd (upd (upd (upd (fun _ => 0) 0 1) 1 3) 2 9) 3 27) 4 81) 5 243) 6 729))), (q4, .inl (qC X 0, 6, .inl (fun _ => 0))), (q5, .inl (qC X 0, 6, .inl (fun _ => 0))), (q6, .inl (qC X 0, 6, .inl (fun _ => 0))), (q7, .inl (qC X 0, 6, .inl (fun _ => 0))), (q8, .inl (qC X 2, 6, .inl (fun _ => 0))), (q9, .inl (qC X 0, 3, .inl (fun _ => 0))), (q10, .inl (qC X 0, 6, .inl (fun _ => 0))), (q11, .inl (qC X 0, 6, .inl (fun _ => 0))), (q12, .inl (qC X 0, 6, .inl (fun _ => 0))), (q13, .inl (qC X 0, 6, .inl (fun _ => 0))), (q14, .inl (qC X 0, 7, .inl (fun _ => 0))), (q15, .inl (qC X 0, 7, .inl (fun _ => 0))), (q16, .inl (qC X 0, 729, .inl (fun _ => 0))), (q17, .inl (qC X 0, 729, .inl (fun _ => 0))), (q18, .inl (qC X 1, 729, .inr (.inl (fun _ => 0)))), (q19, .inl (qC X 2, 729, .inl (fun _ => 0))), (q20, .inl (qC X 0, 8, .inl (fun _ => 0)))] rfl ?_
  refine k_putF O (ci := 6) (f := 35) (ty := .array .int) 0 [(h, .inr (6, [.int 0, .int 0, .ref q0, .ref q1, .ref q2, .ref q3, .int 0, .ref q4, .ref q5, .ref q6, .ref q7, .ref q8, .ref q9, .int 0, .int 0, .int 0, .int 0, .int 0, .int 0, .ref q10, .ref q11, .ref q12, .ref q13, .ref q14, .ref q15, .int 0, .int 0, .int 0, .int 0, .ref q16, .ref q17, .ref q18, .int 0, .ref q19, .int 0, .ref q20])), (q0, .inl (qC X 0, 4, .inl (upd (upd (upd (upd (fun _ => 0) 0 (-9)) 1 (-9)) 2 (-9)) 3 (-9)))), (q1, .inl (qC X 0, 4, .inl (fun _ => 0))), (q2, .inl (qC X 0, 240, .inl (fun _ => 0))), (q3, .inl (qC X 0, 7, .inl (upd (upd (upd (upd (upd (upd (upd (fun _ => 0) 0 1) 1 3) 2 9) 3 27) 4 81) 5 243) 6 729))), (q4, .inl (qC X 0, 6, .inl (fun _ => 0))), (q5, .inl (qC X 0, 6, .inl (fun _ => 0))), (q6, .inl (qC X 0, 6, .inl (fun _ => 0))), (q7, .inl (qC X 0, 6, .inl (fun _ => 0))), (q8, .inl (qC X 2, 6, .inl (fun _ => 0))), (q9, .inl (qC X 0, 3, .inl (fun _ => 0))), (q10, .inl (qC X 0, 6, .inl (fun _ => 0))), (q11, .inl (qC X 0, 6, .inl (fun _ => 0))), (q12, .inl (qC X 0, 6, .inl (fun _ => 0))), (q13, .inl (qC X 0, 6, .inl (fun _ => 0))), (q14, .inl (qC X 0, 7, .inl (fun _ => 0))), (q15, .inl (qC X 0, 7, .inl (fun _ => 0))), (q16, .inl (qC X 0, 729, .inl (fun _ => 0))), (q17, .inl (qC X 0, 729, .inl (fun _ => 0))), (q18, .inl (qC X 1, 729, .inr (.inl (fun _ => 0)))), (q19, .inl (qC X 2, 729, .inl (fun _ => 0))), (q20, .inl (qC X 0, 8, .inl (fun _ => 0)))] rfl in_X6 tyX6_ok nmX6 (by decide) w_671 rfl rfl rfl (by decide +kernel) rfl rfl (Nat.le_of_ble_eq_true rfl) rfl d6_init_227 ?_
  refine k_ret O hQ (fun j => ([h, q0, q1, q2, q3, q4, q5, q6, q7, q8, q9, q10, q11, q12, q13, q14, q15, q16, q17, q18, q19, q20] : List Nat).getD j 0) rfl rfl rfl (fun D H h => ?_) (fun A h => ?_) d6_init_230
  · intro j q hj
    obtain ⟨hj1, rfl⟩ := wG_inv hj
    rcases (show j = 0 ∨ j = 1 ∨ j = 2 ∨ j = 3 ∨ j = 4 ∨ j = 5 ∨ j = 6 ∨ j = 7 ∨ j = 8 ∨ j = 9 ∨ j = 10 ∨ j = 11 ∨ j = 12 ∨ j = 13 ∨ j = 14 ∨ j = 15 ∨ j = 16 ∨ j = 17 ∨ j = 18 ∨ j = 19 ∨ j = 20 ∨ j = 21 by omega) with rfl | rfl | rfl | rfl | rfl | rfl | rfl | rfl | rfl | rfl | rfl | rfl | rfl | rfl | rfl | rfl | rfl | rfl | rfl | rfl | rfl | rfl
    · exact h 0 _ rfl
    · exact h 1 _ rfl
    · exact h 2 _ rfl
    · exact h 3 _ rfl
    · exact h 4 _ rfl
    · exact h 5 _ rfl
    · exact h 6 _ rfl
    · exact h 7 _ rfl
    · exact h 8 _ rfl
    · exact h 9 _ rfl
    · exact h 10 _ rfl
    · exact h 11 _ rfl
    · exact h 12 _ rfl
    · exact h 13 _ rfl
    · exact h 14 _ rfl
    · exact h 15 _ rfl
    · exact h 16 _ rfl
    · exact h 17 _ rfl
    · exact h 18 _ rfl
    · exact h 19 _ rfl
    · exact h 20 _ rfl
    · exact h 21 _ rfl
  · refine wG_D_of h [0, 1, 2, 3, 4, 5, 6, 7, 8, 9, 10, 11, 12, 13, 14, 15, 16, 17, 18, 19, 20, 21] (by decide) (fun j hj => ?_)
    rcases (show j = 0 ∨ j = 1 ∨ j = 2 ∨ j = 3 ∨ j = 4 ∨ j = 5 ∨ j = 6 ∨ j = 7 ∨ j = 8 ∨ j = 9 ∨ j = 10 ∨ j = 11 ∨ j = 12 ∨ j = 13 ∨ j = 14 ∨ j = 15 ∨ j = 16 ∨ j = 17 ∨ j = 18 ∨ j = 19 ∨ j = 20 ∨ j = 21 by omega) with rfl | rfl | rfl | rfl | rfl | rfl | rfl | rfl | rfl | rfl | rfl | rfl | rfl | rfl | rfl | rfl | rfl | rfl | rfl | rfl | rfl | rfl
    · exact ⟨_, _, rfl, rfl⟩
    · exact ⟨_, _, rfl, rfl⟩
    · exact ⟨_, _, rfl, rfl⟩
    · exact ⟨_, _, rfl, rfl⟩
    · exact ⟨_, _, rfl, rfl⟩
    · exact ⟨_, _, rfl, rfl⟩
    · exact ⟨_, _, rfl, rfl⟩
    · exact ⟨_, _, rfl, rfl⟩
    · exact ⟨_, _, rfl, rfl⟩
    · exact ⟨_, _, rfl, rfl⟩
    · exact ⟨_, _, rfl, rfl⟩
    · exact ⟨_, _, rfl, rfl⟩
    · exact ⟨_, _, rfl, rfl⟩
    · exact ⟨_, _, rfl, rfl⟩
    · exact ⟨_, _, rfl, rfl⟩
    · exact ⟨_, _, rfl, rfl⟩
    · exact ⟨_, _, rfl, rfl⟩
    · exact ⟨_, _, rfl, rfl⟩
    · exact ⟨_, _, rfl, rfl⟩
    · exact ⟨_, _, rfl, rfl⟩
    · exact ⟨_, _, rfl, rfl⟩
    · exact ⟨_, _, rfl, rfl⟩
