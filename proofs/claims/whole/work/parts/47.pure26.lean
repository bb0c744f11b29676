/-! PURE PART 26: ship -/
theorem M_readAll {z : Nat → Int} (hz : ∀ p, rg (z p)) {A n : Nat} (hA : A + n ≤ 240) {SM : MS} (hc : ∀ p, p < n → SM.1 3 (A + p) = iI (z p)) (h4 : ∀ j, j ≤ 6 → SM.1 4 j = iI ((3 ^ j : Nat) : Int)) : ∃ S', ScM SM S' ∧ ((∃ p, p ≤ n ∧ (∀ q, q < p → GO q (z q)) ∧ ¬ GO p (zz n z p) ∧ ¬ (p = n ∧ 1 < n ∧ n % 6 = 1) ∧ S'.1 0 15 = iI ((A + p : Nat) : Int) ∧ ∀ (α : Type) (K : Int32 → MS → Option α), f6_readAll (iI ((A + n : Nat) : Int)) (sI SM 0 15 (iI (A : Nat))) K = K (iI 0) S') ∨ (∃ t', 1 ≤ t' ∧ t' ≤ 6 ∧ n = 1 + 6 * t' ∧ (∀ q, q < n → GO q (z q)) ∧ RQ A n z t' n S' ∧ ∀ (α : Type) (K : Int32 → MS → Option α), f6_readAll (iI ((A + n : Nat) : Int)) (sI SM 0 15 (iI (A : Nat))) K = K (iI 1) S')) := by
  have sc : ScM SM (sI (sI (sI (sI SM 0 15 (iI (A : Nat))) 0 16 (iI 0)) 0 17 (iI 0)) 0 18 (iI 0)) := (ScM.one _ _ (by omega)).tr ((ScM.one _ _ (by omega)).tr ((ScM.one _ _ (by omega)).tr (ScM.one _ _ (by omega))))
  have R15 : (sI (sI (sI (sI SM 0 15 (iI (A : Nat))) 0 16 (iI 0)) 0 17 (iI 0)) 0 18 (iI 0)).1 0 15 = iI ((A + 0 : Nat) : Int) := by simp (disch := omega) only [rfS_cell, sI_cell, sI_place, sI_same, sI_2]; rfl
  have R3 : ∀ p, p < n → (sI (sI (sI (sI SM 0 15 (iI (A : Nat))) 0 16 (iI 0)) 0 17 (iI 0)) 0 18 (iI 0)).1 3 (A + p) = iI (z p) := fun p hp => by simp (disch := omega) only [rfS_cell, sI_cell, sI_place, sI_same, sI_2]; exact hc p hp
  have E0 : ∀ (α : Type) (K : Int32 → MS → Option α), f6_readAll (iI ((A + n : Nat) : Int)) (sI SM 0 15 (iI (A : Nat))) K = if iI (zz n z 0) = 115 then (nm (sI (sI (sI (sI (sI SM 0 15 (iI (A : Nat))) 0 16 (iI 0)) 0 17 (iI 0)) 0 18 (iI 0)) 0 15 (((sI (sI (sI (sI SM 0 15 (iI (A : Nat))) 0 16 (iI 0)) 0 17 (iI 0)) 0 18 (iI 0)).1 0 15) + 1)) fun S6 => f6_readAll_L37 (iI ((A + n : Nat) : Int)) K (fun S14 => if (S14.1 0 15) = (iI ((A + n : Nat) : Int)) then (K 1 S14) else (K 0 S14)) FU S6) else (K 0 (sI (sI (sI (sI SM 0 15 (iI (A : Nat))) 0 16 (iI 0)) 0 17 (iI 0)) 0 18 (iI 0))) := by
    intro α K
    unfold f6_readAll
    rw [nm_eq, nm_eq, nm_eq, show (0 : Int32) = iI 0 from rfl, f6_code_eq hA R15 (by omega) R3]
  by_cases c : zz n z 0 = 115
  · have g0 : GO 0 (zz n z 0) := by unfold GO; rw [if_pos rfl]; exact c
    obtain ⟨l0, e0⟩ := zz_lt g0
    rw [e0] at g0
    have hQ : RQ A n z 0 (1 + 6 * 0) (sI (sI (sI (sI (sI SM 0 15 (iI (A : Nat))) 0 16 (iI 0)) 0 17 (iI 0)) 0 18 (iI 0)) 0 15 (iI ((A + 1 : Nat) : Int))) := by
      refine ⟨sI_same _ _ _ _, by simp (disch := omega) only [rfS_cell, sI_cell, sI_place, sI_same, sI_2]; rfl, by simp (disch := omega) only [rfS_cell, sI_cell, sI_place, sI_same, sI_2]; rfl, by simp (disch := omega) only [rfS_cell, sI_cell, sI_place, sI_same, sI_2]; rfl, fun q hq => by omega, fun p hp => ?_, fun j hj => ?_⟩
      · simp (disch := omega) only [rfS_cell, sI_cell, sI_place, sI_same, sI_2]; exact hc p hp
      · simp (disch := omega) only [rfS_cell, sI_cell, sI_place, sI_same, sI_2]; exact h4 j hj
    obtain ⟨S', s1, r⟩ := M_all hz hA 6 0 _ (by omega) (by omega) (fun q hq => by rw [show q = 0 by omega]; exact g0) hQ
    have E1 : ∀ (α : Type) (K : Int32 → MS → Option α), f6_readAll (iI ((A + n : Nat) : Int)) (sI SM 0 15 (iI (A : Nat))) K = f6_readAll_L37 (iI ((A + n : Nat) : Int)) K (fun S14 => if (S14.1 0 15) = (iI ((A + n : Nat) : Int)) then (K 1 S14) else (K 0 S14)) FU (sI (sI (sI (sI (sI SM 0 15 (iI (A : Nat))) 0 16 (iI 0)) 0 17 (iI 0)) 0 18 (iI 0)) 0 15 (iI ((A + 1 : Nat) : Int))) := by
      intro α K
      rw [E0, c, if_pos (show iI 115 = (115 : Int32) from rfl), nm_eq, R15, show (1 : Int32) = iI 1 from rfl, iI_add]
      rfl
    refine ⟨S', (sc.tr (ScM.one _ _ (by omega))).tr s1, ?_⟩
    rcases r with ⟨p, a1, a2, a3, a4, a5, a6⟩ | ⟨t', a1, a2, a3, a4, a5, a6⟩
    · exact Or.inl ⟨p, a1, a2, a3, a4, a5, fun α K => by rw [E1]; exact a6 α K FU (by rw [FU_eq]; omega)⟩
    · exact Or.inr ⟨t', a1, a2, a3, a4, a5, fun α K => by rw [E1]; exact a6 α K FU (by rw [FU_eq]; omega)⟩
  · refine ⟨_, sc, Or.inl ⟨0, by omega, fun q hq => by omega, ?_, by omega, R15, fun α K => ?_⟩⟩
    · intro g; unfold GO at g; rw [if_pos rfl] at g; exact c g
    · rw [E0, if_neg]
      · rfl
      · intro q
        exact c ((iI_eq (zz_rg hz n 0) (by decide)).mp q)
section Ops13
variable {PX PM : Sg → MS → Prop} {σ : Sg} {SX SM : MS}
theorem ship_body (cX : ClX PX) (h : RelS PX PM σ SX SM) {k i n len : Nat} (hk : k < 4) (hlen : len ≤ 60) (hi : i + n ≤ len) (g7 : ∀ i, i < len → SX.1 (20 + k) i = SM.1 3 (60 * k + i)) : ∃ r SX' SM', f5_ship_J72 k (iI i) (iI n) (iI 0) SX (fun r u => some (r, u)) = some (r, SX') ∧ (f6_readAll (iI ((60 * k + i + n : Nat) : Int)) (sI SM 0 15 (iI (60 * k + i : Nat))) fun r11 S10 => if r11 = 0 then some ((-100) - ((S10.1 0 15) - (iI (60 * k + i : Nat))), S10) else (nm (sI S10 0 6 (S10.1 0 16)) fun S12 => f6_ship_L95 (fun v7_29 S28 => f6_ship_L177 (fun v7_34 S33 => nm (sI S33 0 14 (S33.1 0 17)) fun S35 => nm (sI S35 0 13 (S35.1 0 18)) fun S36 => nm (sI S36 0 34 0) fun S37 => nm (sI S37 0 28 0) fun S38 => some (S38.1 0 6, S38)) FU 0 S28) FU 0 S12)) = some (r, SM') ∧ RelP PX PM SX' SM' := by
  have hM := h.2.2.1
  have hzz : ∀ p, rg ((fun p => (SX.1 (20 + k) (i + p)).toInt) p) := fun p => ⟨Int32.le_toInt _, Int32.toInt_lt _⟩
  have hcx : ∀ p, p < n → SX.1 (20 + k) (i + p) = iI ((fun p => (SX.1 (20 + k) (i + p)).toInt) p) := fun p hp => (Int32.ofInt_toInt _).symm
  have hcm : ∀ p, p < n → SM.1 3 (60 * k + i + p) = iI ((fun p => (SX.1 (20 + k) (i + p)).toInt) p) := fun p hp => by
    rw [← hcx p hp, g7 (i + p) (by omega), Nat.add_assoc]
  generalize (fun p => (SX.1 (20 + k) (i + p)).toInt) = z at hzz hcx hcm
  obtain ⟨S', s1, r⟩ := M_readAll hzz (show 60 * k + i + n ≤ 240 by omega) hcm hM.2.2.2.2.2.2
  have n6 : iI n - iI n / 6 * 6 = iI (n % 6 : Nat) := by
    rw [show (6 : Int32) = iI 6 from rfl, iI_div (by omega) (by omega) (by omega) (by omega), iI_mul, iI_sub]
    congr 1; omega
  have X0 : ∀ K : Int32 → MS → Option (Int32 × MS), f5_ship_J72 k (iI i) (iI n) (iI 0) SX K = f5_firstFault_L2 k (iI i) (iI n) (fun r10 S9 => if r10 = (-9) then (f3_build k (iI i) (iI n) S9 fun S11 => nm (sI S11 0 4 0) fun S13 => f2_forget S13 fun S14 => K (S14.1 2 3) S14) else (K ((-100) - r10) S9)) (fun v3_6 S5 => if iI n ≤ 1 then ((fun r10 S9 => if r10 = (-9) then (f3_build k (iI i) (iI n) S9 fun S11 => nm (sI S11 0 4 0) fun S13 => f2_forget S13 fun S14 => K (S14.1 2 3) S14) else (K ((-100) - r10) S9)) (iI n) S5) else (if (iI n - iI n / 6 * 6) = 1 then ((fun r10 S9 => if r10 = (-9) then (f3_build k (iI i) (iI n) S9 fun S11 => nm (sI S11 0 4 0) fun S13 => f2_forget S13 fun S14 => K (S14.1 2 3) S14) else (K ((-100) - r10) S9)) (-9) S5) else ((fun r10 S9 => if r10 = (-9) then (f3_build k (iI i) (iI n) S9 fun S11 => nm (sI S11 0 4 0) fun S13 => f2_forget S13 fun S14 => K (S14.1 2 3) S14) else (K ((-100) - r10) S9)) (iI n) S5))) FU (iI (0 : Nat)) SX := by
    intro K
    unfold f5_ship_J72
    rw [if_pos (show iI 0 = (0 : Int32) from rfl)]
    rfl
  rcases r with ⟨p, a1, a2, a3, a4, a5, a6⟩ | ⟨t, a1, a2, a3, a4, a5, a6⟩
  · have hr := rel_sc cX h (SmX.rf σ SX) s1
    refine ⟨iI (-100 - p), SX, S', ?_, ?_, σ, hr⟩
    · have ne9 : ¬ iI (p : Int) = (-9 : Int32) := fun q => by
        rw [show (-9 : Int32) = iI (-9) from rfl, iI_eq ⟨by omega, by omega⟩ ⟨by omega, by omega⟩] at q
        omega
      have fin : (if iI (p : Int) = (-9 : Int32) then (f3_build k (iI i) (iI n) SX fun S11 => nm (sI S11 0 4 0) fun S13 => f2_forget S13 fun S14 => (some (S14.1 2 3, S14) : Option (Int32 × MS))) else (some ((-100) - iI (p : Int), SX))) = some (iI (-100 - p), SX) := by
        rw [if_neg ne9, show (-100 : Int32) = iI (-100) from rfl, iI_sub]
      rw [X0]
      have xf := X_ff z hzz (show i + n ≤ 60 by omega) hcx (fun r10 S9 => if r10 = (-9) then (f3_build k (iI i) (iI n) S9 fun S11 => nm (sI S11 0 4 0) fun S13 => f2_forget S13 fun S14 => some (S14.1 2 3, S14)) else (some ((-100) - r10, S9))) (fun v3_6 S5 => if iI n ≤ 1 then ((fun r10 S9 => if r10 = (-9) then (f3_build k (iI i) (iI n) S9 fun S11 => nm (sI S11 0 4 0) fun S13 => f2_forget S13 fun S14 => some (S14.1 2 3, S14)) else (some ((-100) - r10, S9))) (iI n) S5) else (if (iI n - iI n / 6 * 6) = 1 then ((fun r10 S9 => if r10 = (-9) then (f3_build k (iI i) (iI n) S9 fun S11 => nm (sI S11 0 4 0) fun S13 => f2_forget S13 fun S14 => some (S14.1 2 3, S14)) else (some ((-100) - r10, S9))) (-9) S5) else ((fun r10 S9 => if r10 = (-9) then (f3_build k (iI i) (iI n) S9 fun S11 => nm (sI S11 0 4 0) fun S13 => f2_forget S13 fun S14 => some (S14.1 2 3, S14)) else (some ((-100) - r10, S9))) (iI n) S5))) a1 a2 p 0 FU (by omega) (by rw [FU_eq]; omega)
      by_cases c : p < n
      · have e : zz n z p = z p := if_pos c
        rw [e] at a3
        exact (xf.2 c a3).trans fin
      · obtain rfl : p = n := by omega
        refine (xf.1 rfl).trans ?_
        dsimp only
        rw [n6, show (1 : Int32) = iI 1 from rfl, ite_le ⟨⟨by omega, by omega⟩, by decide⟩, ite_eq ⟨⟨by omega, by omega⟩, by decide⟩]
        by_cases d : p ≤ 1
        · rw [if_pos (by omega)]; exact fin
        · rw [if_neg (by omega), if_neg (by omega)]; exact fin
    · rw [a6, if_pos (by decide), a5, iI_sub, show (-100 : Int32) = iI (-100) from rfl, iI_sub, show ((60 * k + i + p : Nat) : Int) - ((60 * k + i : Nat) : Int) = p by omega]
  · have hG := newS_Gd a2 a3 a4
    have hs := sm_fu t a2 (dueN z t) (dueN_lt z t)
    have h3 := p3_bd a2
    have h2 := p2_bd a2
    obtain ⟨y1, y2, y3, y4, y5, y6, y7⟩ := a5
    -- the class
    have ndiv : (if 6 < (iI n / 6) then (6 : Int32) else (iI n / 6)) = iI t := by
      rw [show (6 : Int32) = iI 6 from rfl, iI_div (by omega) (by omega) (by omega) (by omega), show ((n : Int) / 6) = (t : Int) by omega]
      have : ¬ (iI 6 < iI (t : Int)) := by rw [iI_lt ⟨by omega, by omega⟩ ⟨by omega, by omega⟩]; omega
      rw [if_neg this]
    have hB0 : BX z t SX 0 (sI (sI SX 2 3 (iI t)) 2 4 (iI 0)) := by
      refine ⟨by simp (disch := omega) only [rfS_cell, sI_cell, sI_place, sI_same, sI_2], by simp (disch := omega) only [rfS_cell, sI_cell, sI_place, sI_same, sI_2]; rfl, fun q hq => by omega, fun j h1 h2 => ?_, rfl⟩
      simp (disch := omega) only [rfS_cell, sI_cell, sI_place, sI_same, sI_2]
    obtain ⟨T, ⟨b1, b2, b3, b4, b5⟩, eT⟩ := X_build (α := Int32 × MS) hzz hk a2 a3 (by omega) a4 hcx hB0 (fun v4_27 S26 => f3_fullSet (S26.1 2 4) S26 fun r29 S28 => nm (sI S28 2 6 r29) fun S30 => nm (sI S30 2 5 (((1 : Int32) <<< ((S30.1 2 3) &&& 31)) - 1)) fun S31 => fJ7_fill 8 3 999 S31 fun S32 => nm (sI S32 0 4 0) fun S13 => f2_forget S13 fun S14 => some (S14.1 2 3, S14))
    have XE : f5_ship_J72 k (iI i) (iI n) (iI 0) SX (fun r u => some (r, u)) = some (iI t, sI (sI (rfS 8 0 3 (iI 999) (sI (sI T 2 6 (iI (dueN z t))) 2 5 (iI (2 ^ t - 1 : Nat)))) 0 4 (iI 0)) 3 7 (iI 0)) := by
      rw [X0]
      refine ((X_ff z hzz (show i + n ≤ 60 by omega) hcx _ _ (Nat.le_refl n) a4 n 0 FU (by omega) (by rw [FU_eq]; omega)).1 rfl).trans ?_
      dsimp only
      rw [n6, show (1 : Int32) = iI 1 from rfl, ite_le ⟨⟨by omega, by omega⟩, by decide⟩, if_neg (by omega), ite_eq ⟨⟨by omega, by omega⟩, by decide⟩, if_pos (by omega), if_pos rfl]
      unfold f3_build
      rw [ndiv, nm_eq, nm_eq, show (0 : Int32) = iI 0 from rfl]
      refine Eq.trans eT ?_
      rw [b2, f3_fullSet_n a2 b1 (by omega), hs.1, nm_eq, nm_eq, fill_eq _ _ (by omega)]
      have e23 : (sI T 2 6 (iI (dueN z t))).1 2 3 = iI t := by simp (disch := omega) only [rfS_cell, sI_cell, sI_place, sI_same, sI_2]; exact b1
      rw [e23, shl_all t a2, show (1 : Int32) = iI 1 from rfl, iI_sub, nm_eq, show ((2 ^ t : Nat) : Int) - 1 = ((2 ^ t - 1 : Nat) : Int) by omega]
      unfold f2_forget
      rw [nm_eq]
      have e23' : (sI (sI (rfS 8 0 3 (iI 999) (sI (sI T 2 6 (iI (dueN z t))) 2 5 (iI (2 ^ t - 1 : Nat)))) 0 4 (iI 0)) 3 7 (iI 0)).1 2 3 = iI t := by simp (disch := omega) only [rfS_cell, sI_cell, sI_place, sI_same, sI_2]; exact b1
      exact congrArg some (Prod.ext e23' rfl)
    -- the reference
    obtain ⟨V, ⟨w1, w2, w3, w4⟩, eV⟩ := M_build (α := Int32 × MS) (z := z) (t := t) a2 (S0 := sI S' 0 6 (iI t)) (sI_same _ _ _ _) (fun q hq => by simp (disch := omega) only [rfS_cell, sI_cell, sI_place, sI_same, sI_2]; exact y5 q hq) (fun v7_29 S28 => f6_ship_L177 (fun v7_34 S33 => nm (sI S33 0 14 (S33.1 0 17)) fun S35 => nm (sI S35 0 13 (S35.1 0 18)) fun S36 => nm (sI S36 0 34 0) fun S37 => nm (sI S37 0 28 0) fun S38 => some (S38.1 0 6, S38)) FU 0 S28)
    have v0 : ∀ f, f ≠ 6 → V.1 0 f = S'.1 0 f := fun f hf => by rw [w3 0 (by omega)]; simp (disch := omega) only [rfS_cell, sI_cell, sI_place, sI_same, sI_2]
    have v17 : V.1 0 17 = iI (smN (dueN z t) t) := (v0 17 (by omega)).trans y3
    have v18 : V.1 0 18 = iI (dueN z t) := (v0 18 (by omega)).trans y4
    have vc : ∀ j, j ≠ 0 → ¬ (5 ≤ j ∧ j ≤ 9) → V.1 j = S'.1 j := fun j h0 hj => by rw [w3 j hj]; simp (disch := omega) only [rfS_cell, sI_cell, sI_place, sI_same, sI_2]
    have ME : (f6_readAll (iI ((60 * k + i + n : Nat) : Int)) (sI SM 0 15 (iI (60 * k + i : Nat))) fun r11 S10 => if r11 = 0 then some ((-100) - ((S10.1 0 15) - (iI (60 * k + i : Nat))), S10) else (nm (sI S10 0 6 (S10.1 0 16)) fun S12 => f6_ship_L95 (fun v7_29 S28 => f6_ship_L177 (fun v7_34 S33 => nm (sI S33 0 14 (S33.1 0 17)) fun S35 => nm (sI S35 0 13 (S35.1 0 18)) fun S36 => nm (sI S36 0 34 0) fun S37 => nm (sI S37 0 28 0) fun S38 => some (S38.1 0 6, S38)) FU 0 S28) FU 0 S12)) = some (iI t, sI (sI (sI (sI (rfS 10 0 3 (iI 999) V) 0 14 (iI (smN (dueN z t) t))) 0 13 (iI (dueN z t))) 0 34 (iI 0)) 0 28 (iI 0)) := by
      rw [a6, if_neg (by decide), nm_eq, y2, show (0 : Int32) = iI 0 from rfl]
      refine Eq.trans eV ?_
      rw [show (0 : Int32) = iI 0 from rfl, M_bounds]
      simp only [nm_eq]
      have f17 : (rfS 10 0 3 (iI 999) V).1 0 17 = iI (smN (dueN z t) t) := by simp (disch := omega) only [rfS_cell, sI_cell, sI_place, sI_same, sI_2]; exact v17
      rw [f17]
      have f18 : (sI (rfS 10 0 3 (iI 999) V) 0 14 (iI (smN (dueN z t) t))).1 0 18 = iI (dueN z t) := by simp (disch := omega) only [rfS_cell, sI_cell, sI_place, sI_same, sI_2]; exact v18
      rw [f18]
      have f6 : (sI (sI (sI (sI (rfS 10 0 3 (iI 999) V) 0 14 (iI (smN (dueN z t) t))) 0 13 (iI (dueN z t))) 0 34 (iI 0)) 0 28 (iI 0)).1 0 6 = iI t := by simp (disch := omega) only [rfS_cell, sI_cell, sI_place, sI_same, sI_2]; exact w1
      exact congrArg some (Prod.ext f6 rfl)
    refine ⟨iI t, _, _, XE, ME, newS z t, hG, ?_, ?_, ?_, ?_, ?_, ?_, Or.inl ?_, Or.inl ?_⟩
    · refine ⟨by simp (disch := omega) only [rfS_cell, sI_cell, sI_place, sI_same, sI_2]; exact b1, by simp (disch := omega) only [rfS_cell, sI_cell, sI_place, sI_same, sI_2]; exact b2, by simp (disch := omega) only [rfS_cell, sI_cell, sI_place, sI_same, sI_2]; rfl, by simp (disch := omega) only [rfS_cell, sI_cell, sI_place, sI_same, sI_2]; rfl, fun q hq => ?_, fun q hq => ?_⟩
      · rw [sI_cell _ _ _ (by omega), sI_cell _ _ _ (by omega), rfS_at, if_pos (by omega)]; rfl
      · obtain ⟨u1, u2, u3, u4⟩ := newS_tank a2 a3 a4 (q := q) hq
        rw [u1, u2, u3, u4]
        simp (disch := omega) only [rfS_cell, sI_cell, sI_place, sI_same, sI_2]
        exact b3 q hq
    · refine ⟨by simp (disch := omega) only [rfS_cell, sI_cell, sI_place, sI_same, sI_2]; exact w1, by simp (disch := omega) only [rfS_cell, sI_cell, sI_place, sI_same, sI_2]; rfl, by simp (disch := omega) only [rfS_cell, sI_cell, sI_place, sI_same, sI_2]; rfl, fun q hq => ?_, fun q hq => ?_, fun q hq => ?_, fun j hj => ?_⟩
      · rw [show newS z t 0 3 = 2 ^ t - 1 from rfl, bt_all t a2 q hq, if_pos rfl]
        simp (disch := omega) only [rfS_cell, sI_cell, sI_place, sI_same, sI_2]
        exact (w2 q hq).2.2.2.2
      · rw [sI_cell _ _ _ (by omega), sI_cell _ _ _ (by omega), sI_cell _ _ _ (by omega), sI_cell _ _ _ (by omega), rfS_at, if_pos (by omega)]; rfl
      · obtain ⟨u1, u2, u3, u4⟩ := newS_tank a2 a3 a4 (q := q) hq
        rw [u1, u2, u3, u4]
        simp (disch := omega) only [rfS_cell, sI_cell, sI_place, sI_same, sI_2]
        obtain ⟨x1, x2, x3, x4, -⟩ := w2 q hq
        exact ⟨x1, x2, x3, x4⟩
      · simp (disch := omega) only [rfS_cell, sI_cell, sI_place, sI_same, sI_2]
        rw [vc 4 (by omega) (by omega)]
        exact y7 j hj
    · exact ⟨0, by omega, by simp (disch := omega) only [rfS_cell, sI_cell, sI_place, sI_same, sI_2]; rfl, by simp (disch := omega) only [rfS_cell, sI_cell, sI_place, sI_same, sI_2]; rfl, fun q hq => by omega⟩
    · simp (disch := omega) only [rfS_cell, sI_cell, sI_place, sI_same, sI_2]
      rw [b4 0 (by omega) (by omega), v0 1 (by omega), s1.2.1 1 (by omega)]
      exact h.2.2.2.2.1
    · simp (disch := omega) only [rfS_cell, sI_cell, sI_place, sI_same, sI_2]
      rw [b4 0 (by omega) (by omega), v0 0 (by omega), s1.2.1 0 (by omega)]
      exact h.2.2.2.2.2.1
    · refine sk_keep h.2.2.2.2.2.2.1 (fun j hj => ?_) (fun j hj => ?_)
      · simp (disch := omega) only [rfS_cell, sI_cell, sI_place, sI_same, sI_2]
        exact b4 j (by omega) (by omega)
      · simp (disch := omega) only [rfS_cell, sI_cell, sI_place, sI_same, sI_2]
        rw [vc j (by omega) (by omega)]
        exact s1.1 j (by omega) (by omega)
    · simp (disch := omega) only [rfS_cell, sI_cell, sI_place, sI_same, sI_2]; rfl
    · simp (disch := omega) only [rfS_cell, sI_cell, sI_place, sI_same, sI_2]; rfl
end Ops13
