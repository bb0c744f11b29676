/-! AUX: fewer locals, fuel, switches, the copy of a row, Arrays.fill, facts of the names -/
theorem FU_ex : ∃ n : Nat, n = 800 := ⟨800, rfl⟩
noncomputable def FU : Nat := Classical.choose FU_ex
theorem FU_eq : FU = 800 := Classical.choose_spec FU_ex
section Aux
variable {α : Type} {N : Nat} {E : (Nat → ClassId) → EG} {X : GX α} {own : String} {cc : ByteArray} {nL : Nat} {ret : Option FieldType} {rm : Room} {P : Option α} {S : MS} {pc : Nat} {lv : List (Nat × Value)} {st : List Value}
theorem r_sub {lv' : List (Nat × Value)} (ks : List Nat) (hl : lv_pick lv ks = lv') (K : GM N E X P S pc lv' st) : GM N E X P S pc lv st := by
  obtain ⟨p, l, e, R, s, m, args, below, meth, c, Q, out, D, cy, ad⟩ := X
  exact fun H locs ls h1 h2 h3 h4 => K H locs ls h1 h2 h3 (lv_sub h4 ks hl)
theorem i32_ne {x : Int32} {n : Int} (v : Int32) (hn : v.toInt = n) (h : ¬ x = v) : ¬ x.toInt = n := fun e => h (Int32.toInt_inj.mp (e.trans hn.symm))
def cp {α : Type} (S : MS) (j1 j2 : Nat) (sp dp n : Int32) (P : MS → Option α) : Option α := if sp < 0 ∨ dp < 0 ∨ n < 0 ∨ 60 < sp.toNatClampNeg + n.toNatClampNeg ∨ 60 < dp.toNatClampNeg + n.toNatClampNeg then none else P (sR S j2 (va_cpy (S.1 j1) (S.1 j2) sp.toNatClampNeg dp.toNatClampNeg n.toNatClampNeg))
theorem r_copy {P : MS → Option α} (O : OK 30 X own cc nL ret rm) {k1 k2 idx : Nat} {sp dp n : Int32} (hk1 : k1 < 4) (hk2 : k2 < 4) (w1 : Cond.methodLink own idx arraycopyName ∈ lw_gd) (w2 : Cond.native arraycopyName ∈ lw_gd) (w3 : Cond.static arraycopyName ∈ lw_gd) (w4 : Cond.initialized "java/lang/System" ∈ lw_gd) (hlo : 1 ≤ rm.frames ∧ (st.map fun v => v.category).sum + (nativeFrameWords "java/lang/System" "arraycopy" 5 + 11) ≤ rm.locals) (hd : decode cc pc = .ok (.invokestatic idx, 3)) (K : ∀ S, GM 30 eX X (P S) S (pc + 3) lv st) : GM 30 eX X (cp S (20 + k1) (20 + k2) sp dp n P) S pc lv (.int n :: .int dp :: .ref (aX X (20 + k2)) :: .int sp :: .ref (aX X (20 + k1)) :: st) := by
  unfold cp
  refine r_ite (fun _ => r_none) (fun h => ?_)
  obtain ⟨p, l, e, R, s, m, args, below, meth, c, Q, out, D, cy, ad⟩ := X
  obtain ⟨hx, hb, hr, hml, hown, hts, hK, hI, hZ, hN, hlk, hR⟩ := O
  have q1 : ¬ sp < 0 := fun z => h (Or.inl z)
  have q2 : ¬ dp < 0 := fun z => h (Or.inr (Or.inl z))
  have q3 : ¬ n < 0 := fun z => h (Or.inr (Or.inr (Or.inl z)))
  have q4 : sp.toNatClampNeg + n.toNatClampNeg ≤ 60 := Nat.not_lt.mp fun z => h (Or.inr (Or.inr (Or.inr (Or.inl z))))
  have q5 : dp.toNatClampNeg + n.toNatClampNeg ≤ 60 := Nat.not_lt.mp fun z => h (Or.inr (Or.inr (Or.inr (Or.inr z))))
  have e1 : ∀ r, eX cy ad (20 + k1) r (S.2 (20 + k1)) = .inl (cy 0, 60, .inl r) := fun _ => eX_cel hk1
  have e2 : ∀ r, eX cy ad (20 + k2) r (S.2 (20 + k2)) = .inl (cy 0, 60, .inl r) := fun _ => eX_cel hk2
  exact fun H locs ls h1 h2 h3 h4 => va_copyi hx hb h4.1.symm hown (hts _ w1) (hts _ w2) (hts _ w3) (hts _ w4) hK h2 (wG_D hI) h3 (20 + k1) (20 + k2) 0 0 ((wG_at (by omega)).trans (congrArg (fun z => some (ad (20 + k1), z)) (e1 _))) ((wG_at (by omega)).trans (congrArg (fun z => some (ad (20 + k2), z)) (e2 _))) rfl rfl rfl q1 q2 q3 q4 q5 (fun _ _ => rfl) (by rw [hR]; exact hlo.1) (by rw [hR]; exact hlo.2) hd (fun H1 locs1 g1 _ g3 => K _ H1 locs1 ls h1 (by rw [← wG_setR (E := eX cy) (ad := ad) (e2 _)]; exact g1) g3 h4)
end Aux
theorem hy_J6_bitCount_0f7a4 : yJ6_bitCount_0f7a4.cls ≠ "java/lang/invoke/MethodHandle" ∧ yJ6_bitCount_0f7a4.cls ≠ "java/lang/invoke/VarHandle" ∧ (parseMethodDescriptor yJ6_bitCount_0f7a4.desc).map (fun d => d.parameters.length) = some 1 := by decide +kernel
theorem hy_J7_fill_53178 : yJ7_fill_53178.cls ≠ "java/lang/invoke/MethodHandle" ∧ yJ7_fill_53178.cls ≠ "java/lang/invoke/VarHandle" ∧ (parseMethodDescriptor yJ7_fill_53178.desc).map (fun d => d.parameters.length) = some 2 := by decide +kernel
theorem hy_J9_abs_0f7a4 : yJ9_abs_0f7a4.cls ≠ "java/lang/invoke/MethodHandle" ∧ yJ9_abs_0f7a4.cls ≠ "java/lang/invoke/VarHandle" ∧ (parseMethodDescriptor yJ9_abs_0f7a4.desc).map (fun d => d.parameters.length) = some 1 := by decide +kernel
theorem hy_J9_max_7cf53 : yJ9_max_7cf53.cls ≠ "java/lang/invoke/MethodHandle" ∧ yJ9_max_7cf53.cls ≠ "java/lang/invoke/VarHandle" ∧ (parseMethodDescriptor yJ9_max_7cf53.desc).map (fun d => d.parameters.length) = some 2 := by decide +kernel
theorem hy_J9_min_7cf53 : yJ9_min_7cf53.cls ≠ "java/lang/invoke/MethodHandle" ∧ yJ9_min_7cf53.cls ≠ "java/lang/invoke/VarHandle" ∧ (parseMethodDescriptor yJ9_min_7cf53.desc).map (fun d => d.parameters.length) = some 2 := by decide +kernel
theorem hy_X0_add : yX0_add.cls ≠ "java/lang/invoke/MethodHandle" ∧ yX0_add.cls ≠ "java/lang/invoke/VarHandle" ∧ (parseMethodDescriptor yX0_add.desc).map (fun d => d.parameters.length) = some 2 := by decide +kernel
theorem hy_X0_bending : yX0_bending.cls ≠ "java/lang/invoke/MethodHandle" ∧ yX0_bending.cls ≠ "java/lang/invoke/VarHandle" ∧ (parseMethodDescriptor yX0_bending.desc).map (fun d => d.parameters.length) = some 0 := by decide +kernel
theorem hy_X0_bounded : yX0_bounded.cls ≠ "java/lang/invoke/MethodHandle" ∧ yX0_bounded.cls ≠ "java/lang/invoke/VarHandle" ∧ (parseMethodDescriptor yX0_bounded.desc).map (fun d => d.parameters.length) = some 1 := by decide +kernel
theorem hy_X0_clear : yX0_clear.cls ≠ "java/lang/invoke/MethodHandle" ∧ yX0_clear.cls ≠ "java/lang/invoke/VarHandle" ∧ (parseMethodDescriptor yX0_clear.desc).map (fun d => d.parameters.length) = some 0 := by decide +kernel
theorem hy_X0_init : yX0_init.cls ≠ "java/lang/invoke/MethodHandle" ∧ yX0_init.cls ≠ "java/lang/invoke/VarHandle" ∧ (parseMethodDescriptor yX0_init.desc).map (fun d => d.parameters.length) = some 0 := by decide +kernel
theorem hy_X0_isWithin : yX0_isWithin.cls ≠ "java/lang/invoke/MethodHandle" ∧ yX0_isWithin.cls ≠ "java/lang/invoke/VarHandle" ∧ (parseMethodDescriptor yX0_isWithin.desc).map (fun d => d.parameters.length) = some 2 := by decide +kernel
theorem hy_X0_momentOf : yX0_momentOf.cls ≠ "java/lang/invoke/MethodHandle" ∧ yX0_momentOf.cls ≠ "java/lang/invoke/VarHandle" ∧ (parseMethodDescriptor yX0_momentOf.desc).map (fun d => d.parameters.length) = some 1 := by decide +kernel
theorem hy_X1_drop : yX1_drop.cls ≠ "java/lang/invoke/MethodHandle" ∧ yX1_drop.cls ≠ "java/lang/invoke/VarHandle" ∧ (parseMethodDescriptor yX1_drop.desc).map (fun d => d.parameters.length) = some 0 := by decide +kernel
theorem hy_X1_faultAs : yX1_faultAs.cls ≠ "java/lang/invoke/MethodHandle" ∧ yX1_faultAs.cls ≠ "java/lang/invoke/VarHandle" ∧ (parseMethodDescriptor yX1_faultAs.desc).map (fun d => d.parameters.length) = some 1 := by decide +kernel
theorem hy_X1_hasCells : yX1_hasCells.cls ≠ "java/lang/invoke/MethodHandle" ∧ yX1_hasCells.cls ≠ "java/lang/invoke/VarHandle" ∧ (parseMethodDescriptor yX1_hasCells.desc).map (fun d => d.parameters.length) = some 2 := by decide +kernel
theorem hy_X1_init : yX1_init.cls ≠ "java/lang/invoke/MethodHandle" ∧ yX1_init.cls ≠ "java/lang/invoke/VarHandle" ∧ (parseMethodDescriptor yX1_init.desc).map (fun d => d.parameters.length) = some 0 := by decide +kernel
theorem hy_X1_isNothing : yX1_isNothing.cls ≠ "java/lang/invoke/MethodHandle" ∧ yX1_isNothing.cls ≠ "java/lang/invoke/VarHandle" ∧ (parseMethodDescriptor yX1_isNothing.desc).map (fun d => d.parameters.length) = some 0 := by decide +kernel
theorem hy_X1_renew : yX1_renew.cls ≠ "java/lang/invoke/MethodHandle" ∧ yX1_renew.cls ≠ "java/lang/invoke/VarHandle" ∧ (parseMethodDescriptor yX1_renew.desc).map (fun d => d.parameters.length) = some 2 := by decide +kernel
theorem hy_X1_write : yX1_write.cls ≠ "java/lang/invoke/MethodHandle" ∧ yX1_write.cls ≠ "java/lang/invoke/VarHandle" ∧ (parseMethodDescriptor yX1_write.desc).map (fun d => d.parameters.length) = some 2 := by decide +kernel
theorem hy_X2_explore : yX2_explore.cls ≠ "java/lang/invoke/MethodHandle" ∧ yX2_explore.cls ≠ "java/lang/invoke/VarHandle" ∧ (parseMethodDescriptor yX2_explore.desc).map (fun d => d.parameters.length) = some 1 := by decide +kernel
theorem hy_X2_findEnd : yX2_findEnd.cls ≠ "java/lang/invoke/MethodHandle" ∧ yX2_findEnd.cls ≠ "java/lang/invoke/VarHandle" ∧ (parseMethodDescriptor yX2_findEnd.desc).map (fun d => d.parameters.length) = some 1 := by decide +kernel
theorem hy_X2_findPumpable : yX2_findPumpable.cls ≠ "java/lang/invoke/MethodHandle" ∧ yX2_findPumpable.cls ≠ "java/lang/invoke/VarHandle" ∧ (parseMethodDescriptor yX2_findPumpable.desc).map (fun d => d.parameters.length) = some 1 := by decide +kernel
theorem hy_X2_forget : yX2_forget.cls ≠ "java/lang/invoke/MethodHandle" ∧ yX2_forget.cls ≠ "java/lang/invoke/VarHandle" ∧ (parseMethodDescriptor yX2_forget.desc).map (fun d => d.parameters.length) = some 0 := by decide +kernel
theorem hy_X2_init : yX2_init.cls ≠ "java/lang/invoke/MethodHandle" ∧ yX2_init.cls ≠ "java/lang/invoke/VarHandle" ∧ (parseMethodDescriptor yX2_init.desc).map (fun d => d.parameters.length) = some 0 := by decide +kernel
theorem hy_X2_planLength : yX2_planLength.cls ≠ "java/lang/invoke/MethodHandle" ∧ yX2_planLength.cls ≠ "java/lang/invoke/VarHandle" ∧ (parseMethodDescriptor yX2_planLength.desc).map (fun d => d.parameters.length) = some 0 := by decide +kernel
theorem hy_X2_planTank : yX2_planTank.cls ≠ "java/lang/invoke/MethodHandle" ∧ yX2_planTank.cls ≠ "java/lang/invoke/VarHandle" ∧ (parseMethodDescriptor yX2_planTank.desc).map (fun d => d.parameters.length) = some 1 := by decide +kernel
theorem hy_X2_refresh : yX2_refresh.cls ≠ "java/lang/invoke/MethodHandle" ∧ yX2_refresh.cls ≠ "java/lang/invoke/VarHandle" ∧ (parseMethodDescriptor yX2_refresh.desc).map (fun d => d.parameters.length) = some 1 := by decide +kernel
theorem hy_X2_shortestPlans : yX2_shortestPlans.cls ≠ "java/lang/invoke/MethodHandle" ∧ yX2_shortestPlans.cls ≠ "java/lang/invoke/VarHandle" ∧ (parseMethodDescriptor yX2_shortestPlans.desc).map (fun d => d.parameters.length) = some 1 := by decide +kernel
theorem hy_X2_step : yX2_step.cls ≠ "java/lang/invoke/MethodHandle" ∧ yX2_step.cls ≠ "java/lang/invoke/VarHandle" ∧ (parseMethodDescriptor yX2_step.desc).map (fun d => d.parameters.length) = some 2 := by decide +kernel
theorem hy_X2_worstOfPlan : yX2_worstOfPlan.cls ≠ "java/lang/invoke/MethodHandle" ∧ yX2_worstOfPlan.cls ≠ "java/lang/invoke/VarHandle" ∧ (parseMethodDescriptor yX2_worstOfPlan.desc).map (fun d => d.parameters.length) = some 2 := by decide +kernel
theorem hy_X3_build : yX3_build.cls ≠ "java/lang/invoke/MethodHandle" ∧ yX3_build.cls ≠ "java/lang/invoke/VarHandle" ∧ (parseMethodDescriptor yX3_build.desc).map (fun d => d.parameters.length) = some 3 := by decide +kernel
theorem hy_X3_canPump : yX3_canPump.cls ≠ "java/lang/invoke/MethodHandle" ∧ yX3_canPump.cls ≠ "java/lang/invoke/VarHandle" ∧ (parseMethodDescriptor yX3_canPump.desc).map (fun d => d.parameters.length) = some 2 := by decide +kernel
theorem hy_X3_fullSet : yX3_fullSet.cls ≠ "java/lang/invoke/MethodHandle" ∧ yX3_fullSet.cls ≠ "java/lang/invoke/VarHandle" ∧ (parseMethodDescriptor yX3_fullSet.desc).map (fun d => d.parameters.length) = some 1 := by decide +kernel
theorem hy_X3_init : yX3_init.cls ≠ "java/lang/invoke/MethodHandle" ∧ yX3_init.cls ≠ "java/lang/invoke/VarHandle" ∧ (parseMethodDescriptor yX3_init.desc).map (fun d => d.parameters.length) = some 0 := by decide +kernel
theorem hy_X3_isChanged : yX3_isChanged.cls ≠ "java/lang/invoke/MethodHandle" ∧ yX3_isChanged.cls ≠ "java/lang/invoke/VarHandle" ∧ (parseMethodDescriptor yX3_isChanged.desc).map (fun d => d.parameters.length) = some 1 := by decide +kernel
theorem hy_X3_isSafe : yX3_isSafe.cls ≠ "java/lang/invoke/MethodHandle" ∧ yX3_isSafe.cls ≠ "java/lang/invoke/VarHandle" ∧ (parseMethodDescriptor yX3_isSafe.desc).map (fun d => d.parameters.length) = some 1 := by decide +kernel
theorem hy_X3_isSafeHalfway : yX3_isSafeHalfway.cls ≠ "java/lang/invoke/MethodHandle" ∧ yX3_isSafeHalfway.cls ≠ "java/lang/invoke/VarHandle" ∧ (parseMethodDescriptor yX3_isSafeHalfway.desc).map (fun d => d.parameters.length) = some 2 := by decide +kernel
theorem hy_X3_loadHalfway : yX3_loadHalfway.cls ≠ "java/lang/invoke/MethodHandle" ∧ yX3_loadHalfway.cls ≠ "java/lang/invoke/VarHandle" ∧ (parseMethodDescriptor yX3_loadHalfway.desc).map (fun d => d.parameters.length) = some 2 := by decide +kernel
theorem hy_X3_loadOf : yX3_loadOf.cls ≠ "java/lang/invoke/MethodHandle" ∧ yX3_loadOf.cls ≠ "java/lang/invoke/VarHandle" ∧ (parseMethodDescriptor yX3_loadOf.desc).map (fun d => d.parameters.length) = some 1 := by decide +kernel
theorem hy_X3_safeLoads : yX3_safeLoads.cls ≠ "java/lang/invoke/MethodHandle" ∧ yX3_safeLoads.cls ≠ "java/lang/invoke/VarHandle" ∧ (parseMethodDescriptor yX3_safeLoads.desc).map (fun d => d.parameters.length) = some 0 := by decide +kernel
theorem hy_X3_trimWith : yX3_trimWith.cls ≠ "java/lang/invoke/MethodHandle" ∧ yX3_trimWith.cls ≠ "java/lang/invoke/VarHandle" ∧ (parseMethodDescriptor yX3_trimWith.desc).map (fun d => d.parameters.length) = some 2 := by decide +kernel
theorem hy_X4_init : yX4_init.cls ≠ "java/lang/invoke/MethodHandle" ∧ yX4_init.cls ≠ "java/lang/invoke/VarHandle" ∧ (parseMethodDescriptor yX4_init.desc).map (fun d => d.parameters.length) = some 0 := by decide +kernel
theorem hy_X4_weight : yX4_weight.cls ≠ "java/lang/invoke/MethodHandle" ∧ yX4_weight.cls ≠ "java/lang/invoke/VarHandle" ∧ (parseMethodDescriptor yX4_weight.desc).map (fun d => d.parameters.length) = some 0 := by decide +kernel
theorem hy_X5_areTankNumbers : yX5_areTankNumbers.cls ≠ "java/lang/invoke/MethodHandle" ∧ yX5_areTankNumbers.cls ≠ "java/lang/invoke/VarHandle" ∧ (parseMethodDescriptor yX5_areTankNumbers.desc).map (fun d => d.parameters.length) = some 3 := by decide +kernel
theorem hy_X5_as : yX5_as.cls ≠ "java/lang/invoke/MethodHandle" ∧ yX5_as.cls ≠ "java/lang/invoke/VarHandle" ∧ (parseMethodDescriptor yX5_as.desc).map (fun d => d.parameters.length) = some 2 := by decide +kernel
theorem hy_X5_back : yX5_back.cls ≠ "java/lang/invoke/MethodHandle" ∧ yX5_back.cls ≠ "java/lang/invoke/VarHandle" ∧ (parseMethodDescriptor yX5_back.desc).map (fun d => d.parameters.length) = some 1 := by decide +kernel
theorem hy_X5_bound : yX5_bound.cls ≠ "java/lang/invoke/MethodHandle" ∧ yX5_bound.cls ≠ "java/lang/invoke/VarHandle" ∧ (parseMethodDescriptor yX5_bound.desc).map (fun d => d.parameters.length) = some 2 := by decide +kernel
theorem hy_X5_cell : yX5_cell.cls ≠ "java/lang/invoke/MethodHandle" ∧ yX5_cell.cls ≠ "java/lang/invoke/VarHandle" ∧ (parseMethodDescriptor yX5_cell.desc).map (fun d => d.parameters.length) = some 3 := by decide +kernel
theorem hy_X5_copy : yX5_copy.cls ≠ "java/lang/invoke/MethodHandle" ∧ yX5_copy.cls ≠ "java/lang/invoke/VarHandle" ∧ (parseMethodDescriptor yX5_copy.desc).map (fun d => d.parameters.length) = some 5 := by decide +kernel
theorem hy_X5_day : yX5_day.cls ≠ "java/lang/invoke/MethodHandle" ∧ yX5_day.cls ≠ "java/lang/invoke/VarHandle" ∧ (parseMethodDescriptor yX5_day.desc).map (fun d => d.parameters.length) = some 5 := by decide +kernel
theorem hy_X5_doubleTelling : yX5_doubleTelling.cls ≠ "java/lang/invoke/MethodHandle" ∧ yX5_doubleTelling.cls ≠ "java/lang/invoke/VarHandle" ∧ (parseMethodDescriptor yX5_doubleTelling.desc).map (fun d => d.parameters.length) = some 1 := by decide +kernel
theorem hy_X5_due : yX5_due.cls ≠ "java/lang/invoke/MethodHandle" ∧ yX5_due.cls ≠ "java/lang/invoke/VarHandle" ∧ (parseMethodDescriptor yX5_due.desc).map (fun d => d.parameters.length) = some 1 := by decide +kernel
theorem hy_X5_fail : yX5_fail.cls ≠ "java/lang/invoke/MethodHandle" ∧ yX5_fail.cls ≠ "java/lang/invoke/VarHandle" ∧ (parseMethodDescriptor yX5_fail.desc).map (fun d => d.parameters.length) = some 1 := by decide +kernel
theorem hy_X5_fault : yX5_fault.cls ≠ "java/lang/invoke/MethodHandle" ∧ yX5_fault.cls ≠ "java/lang/invoke/VarHandle" ∧ (parseMethodDescriptor yX5_fault.desc).map (fun d => d.parameters.length) = some 0 := by decide +kernel
theorem hy_X5_faulted : yX5_faulted.cls ≠ "java/lang/invoke/MethodHandle" ∧ yX5_faulted.cls ≠ "java/lang/invoke/VarHandle" ∧ (parseMethodDescriptor yX5_faulted.desc).map (fun d => d.parameters.length) = some 1 := by decide +kernel
theorem hy_X5_firstFault : yX5_firstFault.cls ≠ "java/lang/invoke/MethodHandle" ∧ yX5_firstFault.cls ≠ "java/lang/invoke/VarHandle" ∧ (parseMethodDescriptor yX5_firstFault.desc).map (fun d => d.parameters.length) = some 3 := by decide +kernel
theorem hy_X5_firstWrong : yX5_firstWrong.cls ≠ "java/lang/invoke/MethodHandle" ∧ yX5_firstWrong.cls ≠ "java/lang/invoke/VarHandle" ∧ (parseMethodDescriptor yX5_firstWrong.desc).map (fun d => d.parameters.length) = some 3 := by decide +kernel
theorem hy_X5_goesOn : yX5_goesOn.cls ≠ "java/lang/invoke/MethodHandle" ∧ yX5_goesOn.cls ≠ "java/lang/invoke/VarHandle" ∧ (parseMethodDescriptor yX5_goesOn.desc).map (fun d => d.parameters.length) = some 2 := by decide +kernel
theorem hy_X5_hasNoShip : yX5_hasNoShip.cls ≠ "java/lang/invoke/MethodHandle" ∧ yX5_hasNoShip.cls ≠ "java/lang/invoke/VarHandle" ∧ (parseMethodDescriptor yX5_hasNoShip.desc).map (fun d => d.parameters.length) = some 0 := by decide +kernel
theorem hy_X5_holds : yX5_holds.cls ≠ "java/lang/invoke/MethodHandle" ∧ yX5_holds.cls ≠ "java/lang/invoke/VarHandle" ∧ (parseMethodDescriptor yX5_holds.desc).map (fun d => d.parameters.length) = some 2 := by decide +kernel
theorem hy_X5_init : yX5_init.cls ≠ "java/lang/invoke/MethodHandle" ∧ yX5_init.cls ≠ "java/lang/invoke/VarHandle" ∧ (parseMethodDescriptor yX5_init.desc).map (fun d => d.parameters.length) = some 0 := by decide +kernel
theorem hy_X5_isAskedOfDay : yX5_isAskedOfDay.cls ≠ "java/lang/invoke/MethodHandle" ∧ yX5_isAskedOfDay.cls ≠ "java/lang/invoke/VarHandle" ∧ (parseMethodDescriptor yX5_isAskedOfDay.desc).map (fun d => d.parameters.length) = some 1 := by decide +kernel
theorem hy_X5_isLane : yX5_isLane.cls ≠ "java/lang/invoke/MethodHandle" ∧ yX5_isLane.cls ≠ "java/lang/invoke/VarHandle" ∧ (parseMethodDescriptor yX5_isLane.desc).map (fun d => d.parameters.length) = some 1 := by decide +kernel
theorem hy_X5_isSheet : yX5_isSheet.cls ≠ "java/lang/invoke/MethodHandle" ∧ yX5_isSheet.cls ≠ "java/lang/invoke/VarHandle" ∧ (parseMethodDescriptor yX5_isSheet.desc).map (fun d => d.parameters.length) = some 1 := by decide +kernel
theorem hy_X5_isTank : yX5_isTank.cls ≠ "java/lang/invoke/MethodHandle" ∧ yX5_isTank.cls ≠ "java/lang/invoke/VarHandle" ∧ (parseMethodDescriptor yX5_isTank.desc).map (fun d => d.parameters.length) = some 1 := by decide +kernel
theorem hy_X5_kindOf : yX5_kindOf.cls ≠ "java/lang/invoke/MethodHandle" ∧ yX5_kindOf.cls ≠ "java/lang/invoke/VarHandle" ∧ (parseMethodDescriptor yX5_kindOf.desc).map (fun d => d.parameters.length) = some 1 := by decide +kernel
theorem hy_X5_kinds : yX5_kinds.cls ≠ "java/lang/invoke/MethodHandle" ∧ yX5_kinds.cls ≠ "java/lang/invoke/VarHandle" ∧ (parseMethodDescriptor yX5_kinds.desc).map (fun d => d.parameters.length) = some 1 := by decide +kernel
theorem hy_X5_leave : yX5_leave.cls ≠ "java/lang/invoke/MethodHandle" ∧ yX5_leave.cls ≠ "java/lang/invoke/VarHandle" ∧ (parseMethodDescriptor yX5_leave.desc).map (fun d => d.parameters.length) = some 1 := by decide +kernel
theorem hy_X5_lentSounding : yX5_lentSounding.cls ≠ "java/lang/invoke/MethodHandle" ∧ yX5_lentSounding.cls ≠ "java/lang/invoke/VarHandle" ∧ (parseMethodDescriptor yX5_lentSounding.desc).map (fun d => d.parameters.length) = some 1 := by decide +kernel
theorem hy_X5_lose : yX5_lose.cls ≠ "java/lang/invoke/MethodHandle" ∧ yX5_lose.cls ≠ "java/lang/invoke/VarHandle" ∧ (parseMethodDescriptor yX5_lose.desc).map (fun d => d.parameters.length) = some 1 := by decide +kernel
theorem hy_X5_many : yX5_many.cls ≠ "java/lang/invoke/MethodHandle" ∧ yX5_many.cls ≠ "java/lang/invoke/VarHandle" ∧ (parseMethodDescriptor yX5_many.desc).map (fun d => d.parameters.length) = some 1 := by decide +kernel
theorem hy_X5_mass : yX5_mass.cls ≠ "java/lang/invoke/MethodHandle" ∧ yX5_mass.cls ≠ "java/lang/invoke/VarHandle" ∧ (parseMethodDescriptor yX5_mass.desc).map (fun d => d.parameters.length) = some 2 := by decide +kernel
theorem hy_X5_masses : yX5_masses.cls ≠ "java/lang/invoke/MethodHandle" ∧ yX5_masses.cls ≠ "java/lang/invoke/VarHandle" ∧ (parseMethodDescriptor yX5_masses.desc).map (fun d => d.parameters.length) = some 1 := by decide +kernel
theorem hy_X5_measure : yX5_measure.cls ≠ "java/lang/invoke/MethodHandle" ∧ yX5_measure.cls ≠ "java/lang/invoke/VarHandle" ∧ (parseMethodDescriptor yX5_measure.desc).map (fun d => d.parameters.length) = some 1 := by decide +kernel
theorem hy_X5_moment : yX5_moment.cls ≠ "java/lang/invoke/MethodHandle" ∧ yX5_moment.cls ≠ "java/lang/invoke/VarHandle" ∧ (parseMethodDescriptor yX5_moment.desc).map (fun d => d.parameters.length) = some 1 := by decide +kernel
theorem hy_X5_newWaters : yX5_newWaters.cls ≠ "java/lang/invoke/MethodHandle" ∧ yX5_newWaters.cls ≠ "java/lang/invoke/VarHandle" ∧ (parseMethodDescriptor yX5_newWaters.desc).map (fun d => d.parameters.length) = some 1 := by decide +kernel
theorem hy_X5_odds : yX5_odds.cls ≠ "java/lang/invoke/MethodHandle" ∧ yX5_odds.cls ≠ "java/lang/invoke/VarHandle" ∧ (parseMethodDescriptor yX5_odds.desc).map (fun d => d.parameters.length) = some 1 := by decide +kernel
theorem hy_X5_ofTank : yX5_ofTank.cls ≠ "java/lang/invoke/MethodHandle" ∧ yX5_ofTank.cls ≠ "java/lang/invoke/VarHandle" ∧ (parseMethodDescriptor yX5_ofTank.desc).map (fun d => d.parameters.length) = some 2 := by decide +kernel
theorem hy_X5_ofWaters : yX5_ofWaters.cls ≠ "java/lang/invoke/MethodHandle" ∧ yX5_ofWaters.cls ≠ "java/lang/invoke/VarHandle" ∧ (parseMethodDescriptor yX5_ofWaters.desc).map (fun d => d.parameters.length) = some 2 := by decide +kernel
theorem hy_X5_oneIf : yX5_oneIf.cls ≠ "java/lang/invoke/MethodHandle" ∧ yX5_oneIf.cls ≠ "java/lang/invoke/VarHandle" ∧ (parseMethodDescriptor yX5_oneIf.desc).map (fun d => d.parameters.length) = some 1 := by decide +kernel
theorem hy_X5_plainTelling : yX5_plainTelling.cls ≠ "java/lang/invoke/MethodHandle" ∧ yX5_plainTelling.cls ≠ "java/lang/invoke/VarHandle" ∧ (parseMethodDescriptor yX5_plainTelling.desc).map (fun d => d.parameters.length) = some 1 := by decide +kernel
theorem hy_X5_plan : yX5_plan.cls ≠ "java/lang/invoke/MethodHandle" ∧ yX5_plan.cls ≠ "java/lang/invoke/VarHandle" ∧ (parseMethodDescriptor yX5_plan.desc).map (fun d => d.parameters.length) = some 1 := by decide +kernel
theorem hy_X5_plans : yX5_plans.cls ≠ "java/lang/invoke/MethodHandle" ∧ yX5_plans.cls ≠ "java/lang/invoke/VarHandle" ∧ (parseMethodDescriptor yX5_plans.desc).map (fun d => d.parameters.length) = some 0 := by decide +kernel
theorem hy_X5_pump : yX5_pump.cls ≠ "java/lang/invoke/MethodHandle" ∧ yX5_pump.cls ≠ "java/lang/invoke/VarHandle" ∧ (parseMethodDescriptor yX5_pump.desc).map (fun d => d.parameters.length) = some 1 := by decide +kernel
theorem hy_X5_pumped : yX5_pumped.cls ≠ "java/lang/invoke/MethodHandle" ∧ yX5_pumped.cls ≠ "java/lang/invoke/VarHandle" ∧ (parseMethodDescriptor yX5_pumped.desc).map (fun d => d.parameters.length) = some 2 := by decide +kernel
theorem hy_X5_put : yX5_put.cls ≠ "java/lang/invoke/MethodHandle" ∧ yX5_put.cls ≠ "java/lang/invoke/VarHandle" ∧ (parseMethodDescriptor yX5_put.desc).map (fun d => d.parameters.length) = some 3 := by decide +kernel
theorem hy_X5_reading : yX5_reading.cls ≠ "java/lang/invoke/MethodHandle" ∧ yX5_reading.cls ≠ "java/lang/invoke/VarHandle" ∧ (parseMethodDescriptor yX5_reading.desc).map (fun d => d.parameters.length) = some 1 := by decide +kernel
theorem hy_X5_readingsHoldWith : yX5_readingsHoldWith.cls ≠ "java/lang/invoke/MethodHandle" ∧ yX5_readingsHoldWith.cls ≠ "java/lang/invoke/VarHandle" ∧ (parseMethodDescriptor yX5_readingsHoldWith.desc).map (fun d => d.parameters.length) = some 2 := by decide +kernel
theorem hy_X5_sheet : yX5_sheet.cls ≠ "java/lang/invoke/MethodHandle" ∧ yX5_sheet.cls ≠ "java/lang/invoke/VarHandle" ∧ (parseMethodDescriptor yX5_sheet.desc).map (fun d => d.parameters.length) = some 3 := by decide +kernel
theorem hy_X5_ship : yX5_ship.cls ≠ "java/lang/invoke/MethodHandle" ∧ yX5_ship.cls ≠ "java/lang/invoke/VarHandle" ∧ (parseMethodDescriptor yX5_ship.desc).map (fun d => d.parameters.length) = some 4 := by decide +kernel
theorem hy_X5_sideOf : yX5_sideOf.cls ≠ "java/lang/invoke/MethodHandle" ∧ yX5_sideOf.cls ≠ "java/lang/invoke/VarHandle" ∧ (parseMethodDescriptor yX5_sideOf.desc).map (fun d => d.parameters.length) = some 1 := by decide +kernel
theorem hy_X5_sound : yX5_sound.cls ≠ "java/lang/invoke/MethodHandle" ∧ yX5_sound.cls ≠ "java/lang/invoke/VarHandle" ∧ (parseMethodDescriptor yX5_sound.desc).map (fun d => d.parameters.length) = some 1 := by decide +kernel
theorem hy_X5_soundingOfDouble : yX5_soundingOfDouble.cls ≠ "java/lang/invoke/MethodHandle" ∧ yX5_soundingOfDouble.cls ≠ "java/lang/invoke/VarHandle" ∧ (parseMethodDescriptor yX5_soundingOfDouble.desc).map (fun d => d.parameters.length) = some 1 := by decide +kernel
theorem hy_X5_states : yX5_states.cls ≠ "java/lang/invoke/MethodHandle" ∧ yX5_states.cls ≠ "java/lang/invoke/VarHandle" ∧ (parseMethodDescriptor yX5_states.desc).map (fun d => d.parameters.length) = some 0 := by decide +kernel
theorem hy_X5_tell : yX5_tell.cls ≠ "java/lang/invoke/MethodHandle" ∧ yX5_tell.cls ≠ "java/lang/invoke/VarHandle" ∧ (parseMethodDescriptor yX5_tell.desc).map (fun d => d.parameters.length) = some 1 := by decide +kernel
theorem hy_X5_trace : yX5_trace.cls ≠ "java/lang/invoke/MethodHandle" ∧ yX5_trace.cls ≠ "java/lang/invoke/VarHandle" ∧ (parseMethodDescriptor yX5_trace.desc).map (fun d => d.parameters.length) = some 0 := by decide +kernel
theorem hy_X5_waterIn : yX5_waterIn.cls ≠ "java/lang/invoke/MethodHandle" ∧ yX5_waterIn.cls ≠ "java/lang/invoke/VarHandle" ∧ (parseMethodDescriptor yX5_waterIn.desc).map (fun d => d.parameters.length) = some 2 := by decide +kernel
theorem hy_X5_watersBehind : yX5_watersBehind.cls ≠ "java/lang/invoke/MethodHandle" ∧ yX5_watersBehind.cls ≠ "java/lang/invoke/VarHandle" ∧ (parseMethodDescriptor yX5_watersBehind.desc).map (fun d => d.parameters.length) = some 3 := by decide +kernel
theorem hy_X5_weightOf : yX5_weightOf.cls ≠ "java/lang/invoke/MethodHandle" ∧ yX5_weightOf.cls ≠ "java/lang/invoke/VarHandle" ∧ (parseMethodDescriptor yX5_weightOf.desc).map (fun d => d.parameters.length) = some 2 := by decide +kernel
theorem hy_X5_wideTelling : yX5_wideTelling.cls ≠ "java/lang/invoke/MethodHandle" ∧ yX5_wideTelling.cls ≠ "java/lang/invoke/VarHandle" ∧ (parseMethodDescriptor yX5_wideTelling.desc).map (fun d => d.parameters.length) = some 1 := by decide +kernel
theorem hy_X5_worst : yX5_worst.cls ≠ "java/lang/invoke/MethodHandle" ∧ yX5_worst.cls ≠ "java/lang/invoke/VarHandle" ∧ (parseMethodDescriptor yX5_worst.desc).map (fun d => d.parameters.length) = some 1 := by decide +kernel
theorem hy_X6_against : yX6_against.cls ≠ "java/lang/invoke/MethodHandle" ∧ yX6_against.cls ≠ "java/lang/invoke/VarHandle" ∧ (parseMethodDescriptor yX6_against.desc).map (fun d => d.parameters.length) = some 4 := by decide +kernel
theorem hy_X6_areSo : yX6_areSo.cls ≠ "java/lang/invoke/MethodHandle" ∧ yX6_areSo.cls ≠ "java/lang/invoke/VarHandle" ∧ (parseMethodDescriptor yX6_areSo.desc).map (fun d => d.parameters.length) = some 0 := by decide +kernel
theorem hy_X6_as : yX6_as.cls ≠ "java/lang/invoke/MethodHandle" ∧ yX6_as.cls ≠ "java/lang/invoke/VarHandle" ∧ (parseMethodDescriptor yX6_as.desc).map (fun d => d.parameters.length) = some 2 := by decide +kernel
theorem hy_X6_back : yX6_back.cls ≠ "java/lang/invoke/MethodHandle" ∧ yX6_back.cls ≠ "java/lang/invoke/VarHandle" ∧ (parseMethodDescriptor yX6_back.desc).map (fun d => d.parameters.length) = some 1 := by decide +kernel
theorem hy_X6_begins : yX6_begins.cls ≠ "java/lang/invoke/MethodHandle" ∧ yX6_begins.cls ≠ "java/lang/invoke/VarHandle" ∧ (parseMethodDescriptor yX6_begins.desc).map (fun d => d.parameters.length) = some 1 := by decide +kernel
theorem hy_X6_bound : yX6_bound.cls ≠ "java/lang/invoke/MethodHandle" ∧ yX6_bound.cls ≠ "java/lang/invoke/VarHandle" ∧ (parseMethodDescriptor yX6_bound.desc).map (fun d => d.parameters.length) = some 2 := by decide +kernel
theorem hy_X6_canPump : yX6_canPump.cls ≠ "java/lang/invoke/MethodHandle" ∧ yX6_canPump.cls ≠ "java/lang/invoke/VarHandle" ∧ (parseMethodDescriptor yX6_canPump.desc).map (fun d => d.parameters.length) = some 2 := by decide +kernel
theorem hy_X6_cell : yX6_cell.cls ≠ "java/lang/invoke/MethodHandle" ∧ yX6_cell.cls ≠ "java/lang/invoke/VarHandle" ∧ (parseMethodDescriptor yX6_cell.desc).map (fun d => d.parameters.length) = some 3 := by decide +kernel
theorem hy_X6_code : yX6_code.cls ≠ "java/lang/invoke/MethodHandle" ∧ yX6_code.cls ≠ "java/lang/invoke/VarHandle" ∧ (parseMethodDescriptor yX6_code.desc).map (fun d => d.parameters.length) = some 1 := by decide +kernel
theorem hy_X6_copy : yX6_copy.cls ≠ "java/lang/invoke/MethodHandle" ∧ yX6_copy.cls ≠ "java/lang/invoke/VarHandle" ∧ (parseMethodDescriptor yX6_copy.desc).map (fun d => d.parameters.length) = some 5 := by decide +kernel
theorem hy_X6_countOf : yX6_countOf.cls ≠ "java/lang/invoke/MethodHandle" ∧ yX6_countOf.cls ≠ "java/lang/invoke/VarHandle" ∧ (parseMethodDescriptor yX6_countOf.desc).map (fun d => d.parameters.length) = some 2 := by decide +kernel
theorem hy_X6_day : yX6_day.cls ≠ "java/lang/invoke/MethodHandle" ∧ yX6_day.cls ≠ "java/lang/invoke/VarHandle" ∧ (parseMethodDescriptor yX6_day.desc).map (fun d => d.parameters.length) = some 5 := by decide +kernel
theorem hy_X6_digitBy : yX6_digitBy.cls ≠ "java/lang/invoke/MethodHandle" ∧ yX6_digitBy.cls ≠ "java/lang/invoke/VarHandle" ∧ (parseMethodDescriptor yX6_digitBy.desc).map (fun d => d.parameters.length) = some 3 := by decide +kernel
theorem hy_X6_due : yX6_due.cls ≠ "java/lang/invoke/MethodHandle" ∧ yX6_due.cls ≠ "java/lang/invoke/VarHandle" ∧ (parseMethodDescriptor yX6_due.desc).map (fun d => d.parameters.length) = some 1 := by decide +kernel
theorem hy_X6_fail : yX6_fail.cls ≠ "java/lang/invoke/MethodHandle" ∧ yX6_fail.cls ≠ "java/lang/invoke/VarHandle" ∧ (parseMethodDescriptor yX6_fail.desc).map (fun d => d.parameters.length) = some 1 := by decide +kernel
theorem hy_X6_fails : yX6_fails.cls ≠ "java/lang/invoke/MethodHandle" ∧ yX6_fails.cls ≠ "java/lang/invoke/VarHandle" ∧ (parseMethodDescriptor yX6_fails.desc).map (fun d => d.parameters.length) = some 1 := by decide +kernel
theorem hy_X6_fault : yX6_fault.cls ≠ "java/lang/invoke/MethodHandle" ∧ yX6_fault.cls ≠ "java/lang/invoke/VarHandle" ∧ (parseMethodDescriptor yX6_fault.desc).map (fun d => d.parameters.length) = some 0 := by decide +kernel
theorem hy_X6_findLeft : yX6_findLeft.cls ≠ "java/lang/invoke/MethodHandle" ∧ yX6_findLeft.cls ≠ "java/lang/invoke/VarHandle" ∧ (parseMethodDescriptor yX6_findLeft.desc).map (fun d => d.parameters.length) = some 0 := by decide +kernel
theorem hy_X6_findNext : yX6_findNext.cls ≠ "java/lang/invoke/MethodHandle" ∧ yX6_findNext.cls ≠ "java/lang/invoke/VarHandle" ∧ (parseMethodDescriptor yX6_findNext.desc).map (fun d => d.parameters.length) = some 1 := by decide +kernel
theorem hy_X6_firstOf : yX6_firstOf.cls ≠ "java/lang/invoke/MethodHandle" ∧ yX6_firstOf.cls ≠ "java/lang/invoke/VarHandle" ∧ (parseMethodDescriptor yX6_firstOf.desc).map (fun d => d.parameters.length) = some 1 := by decide +kernel
theorem hy_X6_goDay : yX6_goDay.cls ≠ "java/lang/invoke/MethodHandle" ∧ yX6_goDay.cls ≠ "java/lang/invoke/VarHandle" ∧ (parseMethodDescriptor yX6_goDay.desc).map (fun d => d.parameters.length) = some 2 := by decide +kernel
theorem hy_X6_inLeastTerms : yX6_inLeastTerms.cls ≠ "java/lang/invoke/MethodHandle" ∧ yX6_inLeastTerms.cls ≠ "java/lang/invoke/VarHandle" ∧ (parseMethodDescriptor yX6_inLeastTerms.desc).map (fun d => d.parameters.length) = some 3 := by decide +kernel
theorem hy_X6_init : yX6_init.cls ≠ "java/lang/invoke/MethodHandle" ∧ yX6_init.cls ≠ "java/lang/invoke/VarHandle" ∧ (parseMethodDescriptor yX6_init.desc).map (fun d => d.parameters.length) = some 0 := by decide +kernel
theorem hy_X6_isEnd : yX6_isEnd.cls ≠ "java/lang/invoke/MethodHandle" ∧ yX6_isEnd.cls ≠ "java/lang/invoke/VarHandle" ∧ (parseMethodDescriptor yX6_isEnd.desc).map (fun d => d.parameters.length) = some 1 := by decide +kernel
theorem hy_X6_isSafe : yX6_isSafe.cls ≠ "java/lang/invoke/MethodHandle" ∧ yX6_isSafe.cls ≠ "java/lang/invoke/VarHandle" ∧ (parseMethodDescriptor yX6_isSafe.desc).map (fun d => d.parameters.length) = some 2 := by decide +kernel
theorem hy_X6_isSheet : yX6_isSheet.cls ≠ "java/lang/invoke/MethodHandle" ∧ yX6_isSheet.cls ≠ "java/lang/invoke/VarHandle" ∧ (parseMethodDescriptor yX6_isSheet.desc).map (fun d => d.parameters.length) = some 1 := by decide +kernel
theorem hy_X6_isSort : yX6_isSort.cls ≠ "java/lang/invoke/MethodHandle" ∧ yX6_isSort.cls ≠ "java/lang/invoke/VarHandle" ∧ (parseMethodDescriptor yX6_isSort.desc).map (fun d => d.parameters.length) = some 1 := by decide +kernel
theorem hy_X6_isTank : yX6_isTank.cls ≠ "java/lang/invoke/MethodHandle" ∧ yX6_isTank.cls ≠ "java/lang/invoke/VarHandle" ∧ (parseMethodDescriptor yX6_isTank.desc).map (fun d => d.parameters.length) = some 1 := by decide +kernel
theorem hy_X6_kindBy : yX6_kindBy.cls ≠ "java/lang/invoke/MethodHandle" ∧ yX6_kindBy.cls ≠ "java/lang/invoke/VarHandle" ∧ (parseMethodDescriptor yX6_kindBy.desc).map (fun d => d.parameters.length) = some 1 := by decide +kernel
theorem hy_X6_kinds : yX6_kinds.cls ≠ "java/lang/invoke/MethodHandle" ∧ yX6_kinds.cls ≠ "java/lang/invoke/VarHandle" ∧ (parseMethodDescriptor yX6_kinds.desc).map (fun d => d.parameters.length) = some 1 := by decide +kernel
theorem hy_X6_lose : yX6_lose.cls ≠ "java/lang/invoke/MethodHandle" ∧ yX6_lose.cls ≠ "java/lang/invoke/VarHandle" ∧ (parseMethodDescriptor yX6_lose.desc).map (fun d => d.parameters.length) = some 1 := by decide +kernel
theorem hy_X6_lost : yX6_lost.cls ≠ "java/lang/invoke/MethodHandle" ∧ yX6_lost.cls ≠ "java/lang/invoke/VarHandle" ∧ (parseMethodDescriptor yX6_lost.desc).map (fun d => d.parameters.length) = some 1 := by decide +kernel
theorem hy_X6_many : yX6_many.cls ≠ "java/lang/invoke/MethodHandle" ∧ yX6_many.cls ≠ "java/lang/invoke/VarHandle" ∧ (parseMethodDescriptor yX6_many.desc).map (fun d => d.parameters.length) = some 1 := by decide +kernel
theorem hy_X6_mass : yX6_mass.cls ≠ "java/lang/invoke/MethodHandle" ∧ yX6_mass.cls ≠ "java/lang/invoke/VarHandle" ∧ (parseMethodDescriptor yX6_mass.desc).map (fun d => d.parameters.length) = some 2 := by decide +kernel
theorem hy_X6_masses : yX6_masses.cls ≠ "java/lang/invoke/MethodHandle" ∧ yX6_masses.cls ≠ "java/lang/invoke/VarHandle" ∧ (parseMethodDescriptor yX6_masses.desc).map (fun d => d.parameters.length) = some 1 := by decide +kernel
theorem hy_X6_measure : yX6_measure.cls ≠ "java/lang/invoke/MethodHandle" ∧ yX6_measure.cls ≠ "java/lang/invoke/VarHandle" ∧ (parseMethodDescriptor yX6_measure.desc).map (fun d => d.parameters.length) = some 1 := by decide +kernel
theorem hy_X6_measured : yX6_measured.cls ≠ "java/lang/invoke/MethodHandle" ∧ yX6_measured.cls ≠ "java/lang/invoke/VarHandle" ∧ (parseMethodDescriptor yX6_measured.desc).map (fun d => d.parameters.length) = some 2 := by decide +kernel
theorem hy_X6_moment : yX6_moment.cls ≠ "java/lang/invoke/MethodHandle" ∧ yX6_moment.cls ≠ "java/lang/invoke/VarHandle" ∧ (parseMethodDescriptor yX6_moment.desc).map (fun d => d.parameters.length) = some 1 := by decide +kernel
theorem hy_X6_odds : yX6_odds.cls ≠ "java/lang/invoke/MethodHandle" ∧ yX6_odds.cls ≠ "java/lang/invoke/VarHandle" ∧ (parseMethodDescriptor yX6_odds.desc).map (fun d => d.parameters.length) = some 1 := by decide +kernel
theorem hy_X6_ofTank : yX6_ofTank.cls ≠ "java/lang/invoke/MethodHandle" ∧ yX6_ofTank.cls ≠ "java/lang/invoke/VarHandle" ∧ (parseMethodDescriptor yX6_ofTank.desc).map (fun d => d.parameters.length) = some 2 := by decide +kernel
theorem hy_X6_plain : yX6_plain.cls ≠ "java/lang/invoke/MethodHandle" ∧ yX6_plain.cls ≠ "java/lang/invoke/VarHandle" ∧ (parseMethodDescriptor yX6_plain.desc).map (fun d => d.parameters.length) = some 1 := by decide +kernel
theorem hy_X6_plan : yX6_plan.cls ≠ "java/lang/invoke/MethodHandle" ∧ yX6_plan.cls ≠ "java/lang/invoke/VarHandle" ∧ (parseMethodDescriptor yX6_plan.desc).map (fun d => d.parameters.length) = some 1 := by decide +kernel
theorem hy_X6_plans : yX6_plans.cls ≠ "java/lang/invoke/MethodHandle" ∧ yX6_plans.cls ≠ "java/lang/invoke/VarHandle" ∧ (parseMethodDescriptor yX6_plans.desc).map (fun d => d.parameters.length) = some 0 := by decide +kernel
theorem hy_X6_prepare : yX6_prepare.cls ≠ "java/lang/invoke/MethodHandle" ∧ yX6_prepare.cls ≠ "java/lang/invoke/VarHandle" ∧ (parseMethodDescriptor yX6_prepare.desc).map (fun d => d.parameters.length) = some 0 := by decide +kernel
theorem hy_X6_pump : yX6_pump.cls ≠ "java/lang/invoke/MethodHandle" ∧ yX6_pump.cls ≠ "java/lang/invoke/VarHandle" ∧ (parseMethodDescriptor yX6_pump.desc).map (fun d => d.parameters.length) = some 1 := by decide +kernel
theorem hy_X6_pumped : yX6_pumped.cls ≠ "java/lang/invoke/MethodHandle" ∧ yX6_pumped.cls ≠ "java/lang/invoke/VarHandle" ∧ (parseMethodDescriptor yX6_pumped.desc).map (fun d => d.parameters.length) = some 2 := by decide +kernel
theorem hy_X6_put : yX6_put.cls ≠ "java/lang/invoke/MethodHandle" ∧ yX6_put.cls ≠ "java/lang/invoke/VarHandle" ∧ (parseMethodDescriptor yX6_put.desc).map (fun d => d.parameters.length) = some 3 := by decide +kernel
theorem hy_X6_readAll : yX6_readAll.cls ≠ "java/lang/invoke/MethodHandle" ∧ yX6_readAll.cls ≠ "java/lang/invoke/VarHandle" ∧ (parseMethodDescriptor yX6_readAll.desc).map (fun d => d.parameters.length) = some 1 := by decide +kernel
theorem hy_X6_readTank : yX6_readTank.cls ≠ "java/lang/invoke/MethodHandle" ∧ yX6_readTank.cls ≠ "java/lang/invoke/VarHandle" ∧ (parseMethodDescriptor yX6_readTank.desc).map (fun d => d.parameters.length) = some 1 := by decide +kernel
theorem hy_X6_reading : yX6_reading.cls ≠ "java/lang/invoke/MethodHandle" ∧ yX6_reading.cls ≠ "java/lang/invoke/VarHandle" ∧ (parseMethodDescriptor yX6_reading.desc).map (fun d => d.parameters.length) = some 1 := by decide +kernel
theorem hy_X6_seesMore : yX6_seesMore.cls ≠ "java/lang/invoke/MethodHandle" ∧ yX6_seesMore.cls ≠ "java/lang/invoke/VarHandle" ∧ (parseMethodDescriptor yX6_seesMore.desc).map (fun d => d.parameters.length) = some 0 := by decide +kernel
theorem hy_X6_sheet : yX6_sheet.cls ≠ "java/lang/invoke/MethodHandle" ∧ yX6_sheet.cls ≠ "java/lang/invoke/VarHandle" ∧ (parseMethodDescriptor yX6_sheet.desc).map (fun d => d.parameters.length) = some 3 := by decide +kernel
theorem hy_X6_ship : yX6_ship.cls ≠ "java/lang/invoke/MethodHandle" ∧ yX6_ship.cls ≠ "java/lang/invoke/VarHandle" ∧ (parseMethodDescriptor yX6_ship.desc).map (fun d => d.parameters.length) = some 4 := by decide +kernel
theorem hy_X6_sideBy : yX6_sideBy.cls ≠ "java/lang/invoke/MethodHandle" ∧ yX6_sideBy.cls ≠ "java/lang/invoke/VarHandle" ∧ (parseMethodDescriptor yX6_sideBy.desc).map (fun d => d.parameters.length) = some 1 := by decide +kernel
theorem hy_X6_sizeOf : yX6_sizeOf.cls ≠ "java/lang/invoke/MethodHandle" ∧ yX6_sizeOf.cls ≠ "java/lang/invoke/VarHandle" ∧ (parseMethodDescriptor yX6_sizeOf.desc).map (fun d => d.parameters.length) = some 1 := by decide +kernel
theorem hy_X6_sound : yX6_sound.cls ≠ "java/lang/invoke/MethodHandle" ∧ yX6_sound.cls ≠ "java/lang/invoke/VarHandle" ∧ (parseMethodDescriptor yX6_sound.desc).map (fun d => d.parameters.length) = some 1 := by decide +kernel
theorem hy_X6_states : yX6_states.cls ≠ "java/lang/invoke/MethodHandle" ∧ yX6_states.cls ≠ "java/lang/invoke/VarHandle" ∧ (parseMethodDescriptor yX6_states.desc).map (fun d => d.parameters.length) = some 0 := by decide +kernel
theorem hy_X6_takes : yX6_takes.cls ≠ "java/lang/invoke/MethodHandle" ∧ yX6_takes.cls ≠ "java/lang/invoke/VarHandle" ∧ (parseMethodDescriptor yX6_takes.desc).map (fun d => d.parameters.length) = some 1 := by decide +kernel
theorem hy_X6_tell : yX6_tell.cls ≠ "java/lang/invoke/MethodHandle" ∧ yX6_tell.cls ≠ "java/lang/invoke/VarHandle" ∧ (parseMethodDescriptor yX6_tell.desc).map (fun d => d.parameters.length) = some 1 := by decide +kernel
theorem hy_X6_tellDay : yX6_tellDay.cls ≠ "java/lang/invoke/MethodHandle" ∧ yX6_tellDay.cls ≠ "java/lang/invoke/VarHandle" ∧ (parseMethodDescriptor yX6_tellDay.desc).map (fun d => d.parameters.length) = some 1 := by decide +kernel
theorem hy_X6_trace : yX6_trace.cls ≠ "java/lang/invoke/MethodHandle" ∧ yX6_trace.cls ≠ "java/lang/invoke/VarHandle" ∧ (parseMethodDescriptor yX6_trace.desc).map (fun d => d.parameters.length) = some 0 := by decide +kernel
theorem hy_X6_waterIn : yX6_waterIn.cls ≠ "java/lang/invoke/MethodHandle" ∧ yX6_waterIn.cls ≠ "java/lang/invoke/VarHandle" ∧ (parseMethodDescriptor yX6_waterIn.desc).map (fun d => d.parameters.length) = some 2 := by decide +kernel
theorem hy_X6_weigh : yX6_weigh.cls ≠ "java/lang/invoke/MethodHandle" ∧ yX6_weigh.cls ≠ "java/lang/invoke/VarHandle" ∧ (parseMethodDescriptor yX6_weigh.desc).map (fun d => d.parameters.length) = some 2 := by decide +kernel
theorem hy_X6_weightOf : yX6_weightOf.cls ≠ "java/lang/invoke/MethodHandle" ∧ yX6_weightOf.cls ≠ "java/lang/invoke/VarHandle" ∧ (parseMethodDescriptor yX6_weightOf.desc).map (fun d => d.parameters.length) = some 1 := by decide +kernel
theorem hy_X6_within : yX6_within.cls ≠ "java/lang/invoke/MethodHandle" ∧ yX6_within.cls ≠ "java/lang/invoke/VarHandle" ∧ (parseMethodDescriptor yX6_within.desc).map (fun d => d.parameters.length) = some 3 := by decide +kernel
theorem hy_X6_worst : yX6_worst.cls ≠ "java/lang/invoke/MethodHandle" ∧ yX6_worst.cls ≠ "java/lang/invoke/VarHandle" ∧ (parseMethodDescriptor yX6_worst.desc).map (fun d => d.parameters.length) = some 1 := by decide +kernel
theorem dJ7_fill_0 : decode cJ7_fill_53178 0 = .ok (.iconst 0, 1) := by decide +kernel
theorem dJ7_fill_1 : decode cJ7_fill_53178 1 = .ok (.istore_n 2, 1) := by decide +kernel
theorem dJ7_fill_2 : decode cJ7_fill_53178 2 = .ok (.aload_n 0, 1) := by decide +kernel
theorem dJ7_fill_3 : decode cJ7_fill_53178 3 = .ok (.arraylength, 1) := by decide +kernel
theorem dJ7_fill_4 : decode cJ7_fill_53178 4 = .ok (.istore_n 3, 1) := by decide +kernel
theorem dJ7_fill_5 : decode cJ7_fill_53178 5 = .ok (.iload_n 2, 1) := by decide +kernel
theorem dJ7_fill_6 : decode cJ7_fill_53178 6 = .ok (.iload_n 3, 1) := by decide +kernel
theorem dJ7_fill_7 : decode cJ7_fill_53178 7 = .ok (.if_icmp .ge 13, 3) := by decide +kernel
theorem dJ7_fill_10 : decode cJ7_fill_53178 10 = .ok (.aload_n 0, 1) := by decide +kernel
theorem dJ7_fill_11 : decode cJ7_fill_53178 11 = .ok (.iload_n 2, 1) := by decide +kernel
theorem dJ7_fill_12 : decode cJ7_fill_53178 12 = .ok (.iload_n 1, 1) := by decide +kernel
theorem dJ7_fill_13 : decode cJ7_fill_53178 13 = .ok (.iastore, 1) := by decide +kernel
theorem dJ7_fill_14 : decode cJ7_fill_53178 14 = .ok (.iinc 2 1, 3) := by decide +kernel
theorem dJ7_fill_17 : decode cJ7_fill_53178 17 = .ok (.goto (-12), 3) := by decide +kernel
theorem dJ7_fill_20 : decode cJ7_fill_53178 20 = .ok (.return_, 1) := by decide +kernel
noncomputable def fJ7_fill_L5 {α : Type} (j n : Nat) (c1 c3 : Int32) (KX : Int32 → MS → Option α) : Nat → Int32 → MS → Option α
  | 0, _, _ => none
  | m + 1, v2, S => if c3 ≤ v2 then (KX v2 S) else (ck v2 n fun k1 => nm (sI S j k1 c1) fun S1 => nm (v2 + 1) fun x2_1 => fJ7_fill_L5 j n c1 c3 KX m x2_1 S1)
noncomputable def fJ7_fill {α : Type} (j n : Nat) (p1 : Int32) (S : MS) (K : MS → Option α) : Option α := nm (Int32.ofNat n) fun x3 => fJ7_fill_L5 j n p1 x3 (fun _ S1 => K S1) FU 0 S
theorem lJ7_fill_5 {α : Type} {X : GX α} (O : OK 30 X RJ7 cJ7_fill_53178 4 none (rmG 0 0)) {j n : Nat} {c1 c3 : Int32} (hj : j < 30) (hE : ∀ cy ad r w, eX cy ad j r w = .inl (cy 0, n, .inl r)) {KX : Int32 → MS → Option α} (hX : ∀ v2 S, GM 30 eX X (KX v2 S) S 20 [(0, .ref (aX X j)), (1, .int c1), (2, .int v2), (3, .int c3)] []) : ∀ m v2 S, GM 30 eX X (fJ7_fill_L5 j n c1 c3 KX m v2 S) S 5 [(0, .ref (aX X j)), (1, .int c1), (2, .int v2), (3, .int c3)] [] := by
  intro m
  induction m with
  | zero => intro v2 S; exact r_none
  | succ m ih =>
    intro v2 S
    rw [fJ7_fill_L5]
    refine r_iload_n O dJ7_fill_5 2 rfl ?_
    refine r_iload_n O dJ7_fill_6 3 rfl ?_
    refine r_icmp_ge O 20 dJ7_fill_7 (by decide) ?_ ?_
    · exact hX _ _
    · refine r_aload_n O dJ7_fill_10 0 rfl ?_
      refine r_iload_n O dJ7_fill_11 2 rfl ?_
      refine r_iload_n O dJ7_fill_12 1 rfl ?_
      refine r_iast O (j := j) hj (fun _ => hE _ _ _ _) dJ7_fill_13 (fun S1 => ?_)
      refine r_iinc O dJ7_fill_14 2 (c0 := 1) rfl (by decide) (fun x2_1 => [(2, .int x2_1), (0, .ref (aX X j)), (1, .int c1), (3, .int c3)]) (by decide) (fun _ => rfl) (fun x2_1 => ?_)
      refine r_goto O 5 dJ7_fill_17 (by decide) ?_
      refine r_sub [1, 2, 0, 3] rfl ?_
      exact ih _ _
theorem cJ7_fill (l : Launch) (j n : Nat) (p1 : Int32) (S : MS) (hj : j < 30) (hE : ∀ cy ad r w, eX cy ad j r w = .inl (cy 0, n, .inl r)) (_ : n ≤ 1000) {α : Type} : CtV 30 eX l yJ7_fill_53178 cJ7_fill_53178 4 none (rmG 0 0) S (fun ad => [.ref (ad j), .int p1]) (α := α) (fJ7_fill j n p1 S) := by
  refine CtV.of (by decide) (fun _ => Nat.le_of_ble_eq_true rfl) (fun X K _ O hQ => ?_)
  have O : OK 30 X RJ7 cJ7_fill_53178 4 none (rmG 0 0) := O
  show GM 30 eX X (fJ7_fill j n p1 S K) S 0 [(0, .ref (aX X j)), (1, .int p1)] []
  unfold fJ7_fill
  refine r_iconst O dJ7_fill_0 (v := 0) (by decide) ?_
  refine r_istore_n O dJ7_fill_1 [(2, .int 0), (0, .ref (aX X j)), (1, .int p1)] (by decide) rfl ?_
  refine r_aload_n O dJ7_fill_2 1 rfl ?_
  refine r_alen O (n := n) (t0 := 0) (ty := .int) (v := Int32.ofNat n) hj (hE _ _ _ _) rfl rfl dJ7_fill_3 ?_
  refine r_istore_n_nm O dJ7_fill_4 (fun x3 => [(3, .int x3), (2, .int 0), (0, .ref (aX X j)), (1, .int p1)]) (by decide) (fun _ => rfl) (fun x3 => ?_)
  refine r_sub [2, 3, 1, 0] rfl ?_
  refine lJ7_fill_5 O hj hE (fun v2 S1 => ?_) _ _ _
  exact r_vret O hQ dJ7_fill_20
