/-! PURE PART 14: pumps, tanks asked, measures, counts -/
theorem xr_ltn : ∀ n, n ≤ 6 → ∀ m, m < 2 ^ n → ∀ t, t < n → xrN m t < 2 ^ n := by decide +kernel
def popN (F : Nat) : Nat := (if bt F 0 then 1 else 0) + (if bt F 1 then 1 else 0) + (if bt F 2 then 1 else 0) + (if bt F 3 then 1 else 0) + (if bt F 4 then 1 else 0) + (if bt F 5 then 1 else 0)
def bcE (p : Int32) : Int32 :=
  let a := p - (((p.toUInt32 >>> ((1 : Int32).toUInt32 &&& Int32.toUInt32 31)).toInt32) &&& 1431655765)
  let b := (a &&& 858993459) + (((a.toUInt32 >>> ((2 : Int32).toUInt32 &&& Int32.toUInt32 31)).toInt32) &&& 858993459)
  let c := (b + ((b.toUInt32 >>> ((4 : Int32).toUInt32 &&& Int32.toUInt32 31)).toInt32)) &&& 252645135
  let d := c + ((c.toUInt32 >>> ((8 : Int32).toUInt32 &&& Int32.toUInt32 31)).toInt32)
  let e := d + ((d.toUInt32 >>> ((16 : Int32).toUInt32 &&& Int32.toUInt32 31)).toInt32)
  e &&& 63
theorem bc_all : ∀ F, F < 64 → bcE (iI (F : Nat)) = iI (popN F) := by decide +kernel
theorem fJ6_bitCount_eq {α : Type} {F : Nat} (hF : F < 64) (S : MS) (K : Int32 → MS → Option α) : fJ6_bitCount (iI F) S K = K (iI (popN F)) S := by
  rw [← bc_all F hF]
  rfl
/-- how many tanks have water; how many have new water -/
def cnA (w : Nat) : Nat → Nat
  | 0 => 0
  | n + 1 => cnA w n + if dg w n = 0 then 0 else 1
def cnB (w : Nat) : Nat → Nat
  | 0 => 0
  | n + 1 => cnB w n + if dg w n = 2 then 1 else 0
theorem pop_fu : ∀ n, n ≤ 6 → ∀ w, w < 3 ^ n → popN (fuN w n) = cnA w n := by decide +kernel
theorem f5_newWaters_eq {α : Type} {σ : Sg} (h : Gd σ) {S : MS} (hS : ShX σ S) {w : Nat} (hw : w < 729) (K : Int32 → MS → Option α) : f5_newWaters (iI w) S K = K (iI (cnB w (σ 0 0))) S := by
  have hn6 := h.1
  unfold f5_newWaters
  have h1 := loop_eq (σ := Int32 × Int32) (L := fun fuel s => f5_newWaters_L4 (iI w) (fun v2 _ S1 => K v2 S1) fuel s.1 s.2 S) (KX := fun s => K s.1 S) (σ 0 0) (fun i => (iI (cnB w i), iI i))
    (by
      intro fuel i hi
      show f5_newWaters_L4 (iI w) _ (fuel + 1) (iI (cnB w i)) (iI i) S = f5_newWaters_L4 (iI w) _ fuel (iI (cnB w (i + 1))) (iI (i + 1 : Nat)) S
      have hd := dg_lt w i
      rw [f5_newWaters_L4, hS.1, ite_le ⟨⟨by omega, by omega⟩, ⟨by omega, by omega⟩⟩, if_neg (by omega), f5_waterIn_eq hw (by omega), show (2 : Int32) = iI 2 from rfl, ite_eq ⟨⟨by omega, by omega⟩, by decide⟩, show (1 : Int32) = iI 1 from rfl]
      by_cases hz : dg w i = 2
      · rw [if_pos (by omega), nm_eq, nm_eq, iI_add, iI_add, show cnB w (i + 1) = cnB w i + 1 by show cnB w i + _ = _; rw [if_pos hz]]
        rfl
      · rw [if_neg (by omega), nm_eq, iI_add, show cnB w (i + 1) = cnB w i by show cnB w i + _ = _; rw [if_neg hz, Nat.add_zero]]
        rfl)
    (by
      intro fuel
      show f5_newWaters_L4 (iI w) _ (fuel + 1) _ (iI (σ 0 0)) S = _
      rw [f5_newWaters_L4, hS.1, ite_le ⟨⟨by omega, by omega⟩, ⟨by omega, by omega⟩⟩, if_pos (by omega)])
    FU 0 (by omega) (by rw [FU_eq]; omega)
  exact h1
theorem f6_countA_eq {α : Type} {σ : Sg} (h : Gd σ) {S : MS} (hS : ShM σ S) {w : Nat} (hw : w < 729) (K : Int32 → MS → Option α) : f6_countOf (iI w) (iI 0) S K = K (iI (cnA w (σ 0 0))) S := by
  have hn6 := h.1
  unfold f6_countOf
  have h1 := loop_eq (σ := Int32 × Int32) (L := fun fuel s => f6_countOf_L5 (iI w) (iI 0) (fun v3 _ S1 => K v3 S1) fuel s.1 s.2 S) (KX := fun s => K s.1 S) (σ 0 0) (fun i => (iI (cnA w i), iI i))
    (by
      intro fuel i hi
      show f6_countOf_L5 (iI w) (iI 0) _ (fuel + 1) (iI (cnA w i)) (iI i) S = f6_countOf_L5 (iI w) (iI 0) _ fuel (iI (cnA w (i + 1))) (iI (i + 1 : Nat)) S
      have hd := dg_lt w i
      rw [f6_countOf_L5, hS.1, ite_le ⟨⟨by omega, by omega⟩, ⟨by omega, by omega⟩⟩, if_neg (by omega), f6_waterIn_eq hw (by omega) hS, show (0 : Int32) = iI 0 from rfl, if_pos rfl]
      unfold f6_countOf_J34
      rw [show (0 : Int32) = iI 0 from rfl, if_pos rfl, ite_eq ⟨⟨by omega, by omega⟩, by decide⟩, show (1 : Int32) = iI 1 from rfl]
      simp only [nm_eq, iI_add]
      by_cases hz : dg w i = 0
      · rw [if_pos (by omega), show cnA w (i + 1) = cnA w i by show cnA w i + _ = _; rw [if_pos hz, Nat.add_zero], Int.add_zero]
        rfl
      · rw [if_neg (by omega), show cnA w (i + 1) = cnA w i + 1 by show cnA w i + _ = _; rw [if_neg hz]]
        rfl)
    (by
      intro fuel
      show f6_countOf_L5 (iI w) (iI 0) _ (fuel + 1) _ (iI (σ 0 0)) S = _
      rw [f6_countOf_L5, hS.1, ite_le ⟨⟨by omega, by omega⟩, ⟨by omega, by omega⟩⟩, if_pos (by omega)])
    FU 0 (by omega) (by rw [FU_eq]; omega)
  exact h1
theorem f6_countB_eq {α : Type} {σ : Sg} (h : Gd σ) {S : MS} (hS : ShM σ S) {w : Nat} (hw : w < 729) (K : Int32 → MS → Option α) : f6_countOf (iI w) (iI 1) S K = K (iI (cnB w (σ 0 0))) S := by
  have hn6 := h.1
  unfold f6_countOf
  have h1 := loop_eq (σ := Int32 × Int32) (L := fun fuel s => f6_countOf_L5 (iI w) (iI 1) (fun v3 _ S1 => K v3 S1) fuel s.1 s.2 S) (KX := fun s => K s.1 S) (σ 0 0) (fun i => (iI (cnB w i), iI i))
    (by
      intro fuel i hi
      show f6_countOf_L5 (iI w) (iI 1) _ (fuel + 1) (iI (cnB w i)) (iI i) S = f6_countOf_L5 (iI w) (iI 1) _ fuel (iI (cnB w (i + 1))) (iI (i + 1 : Nat)) S
      have hd := dg_lt w i
      rw [f6_countOf_L5, hS.1, ite_le ⟨⟨by omega, by omega⟩, ⟨by omega, by omega⟩⟩, if_neg (by omega), f6_waterIn_eq hw (by omega) hS, if_neg (by decide), show (2 : Int32) = iI 2 from rfl, ite_eq ⟨⟨by omega, by omega⟩, by decide⟩]
      unfold f6_countOf_J34
      rw [if_neg (show ¬ iI 1 = 0 by decide), show (1 : Int32) = iI 1 from rfl, show (0 : Int32) = iI 0 from rfl]
      simp only [nm_eq, iI_add]
      by_cases hz : dg w i = 2
      · rw [if_pos (by omega), show cnB w (i + 1) = cnB w i + 1 by show cnB w i + _ = _; rw [if_pos hz]]
        rfl
      · rw [if_neg (by omega), show cnB w (i + 1) = cnB w i by show cnB w i + _ = _; rw [if_neg hz, Nat.add_zero], Int.add_zero]
        rfl)
    (by
      intro fuel
      show f6_countOf_L5 (iI w) (iI 1) _ (fuel + 1) _ (iI (σ 0 0)) S = _
      rw [f6_countOf_L5, hS.1, ite_le ⟨⟨by omega, by omega⟩, ⟨by omega, by omega⟩⟩, if_pos (by omega)])
    FU 0 (by omega) (by rw [FU_eq]; omega)
  exact h1
def popT (F : Nat) : Nat → Nat
  | 0 => 0
  | n + 1 => popT F n + if bt F n then 1 else 0
theorem f6_sizeOf_eq {α : Type} {F : Nat} (hF : F < 64) (S : MS) (K : Int32 → MS → Option α) : f6_sizeOf (iI F) S K = K (iI (popN F)) S := by
  unfold f6_sizeOf
  have h1 := loop_eq (σ := Int32 × Int32) (L := fun fuel s => f6_sizeOf_L4 (iI F) (fun v1 _ S1 => K v1 S1) fuel s.1 s.2 S) (KX := fun s => K s.1 S) 6 (fun i => (iI (popT F i), iI i))
    (by
      intro fuel i hi
      show f6_sizeOf_L4 (iI F) _ (fuel + 1) (iI (popT F i)) (iI i) S = f6_sizeOf_L4 (iI F) _ fuel (iI (popT F (i + 1))) (iI (i + 1 : Nat)) S
      rw [f6_sizeOf_L4, show (6 : Int32) = iI 6 from rfl, ite_le ⟨by decide, ⟨by omega, by omega⟩⟩, if_neg (by omega), bit_all F hF i hi, nm_eq, nm_eq]
      show f6_sizeOf_L4 (iI F) _ fuel (iI (popT F i) + if bt F i = true then 1 else 0) _ S = f6_sizeOf_L4 (iI F) _ fuel (iI ((popT F i + if bt F i = true then 1 else 0 : Nat) : Int)) _ S
      rw [show (1 : Int32) = iI 1 from rfl, iI_add]
      cases bt F i
      · rw [if_neg (by decide), if_neg (by decide), show (0 : Int32) = iI 0 from rfl, iI_add, Int.add_zero]; rfl
      · rw [if_pos rfl, if_pos rfl, iI_add]; rfl)
    (by
      intro fuel
      show f6_sizeOf_L4 (iI F) _ (fuel + 1) _ (iI (6 : Nat)) S = _
      rw [f6_sizeOf_L4, show (6 : Int32) = iI 6 from rfl, ite_le ⟨by decide, ⟨by omega, by omega⟩⟩, if_pos (by omega)])
    FU 0 (by omega) (by rw [FU_eq]; omega)
  have e : popT F 6 = popN F := by simp [popT, popN]
  rw [← e]
  exact h1
section Ops7
variable {PX PM : Sg → MS → Prop} {σ : Sg} {SX SM : MS}
theorem d64 (h : Gd σ) : σ 0 2 < 64 ∧ σ 0 3 < 64 := by
  have h1 := h.2.2.1
  have h2 := h.2.2.2.1
  have h3 := p2_bd h.1
  omega
theorem sim_many (a : Int32) : SimI (RelP PX PM) (f5_many a) (f6_many a) := by
  intro SX SM ⟨σ, h⟩
  obtain ⟨z1, rfl, hz1⟩ := iI_of a
  obtain ⟨rc, g1, g2, g3, g4⟩ := h.2.2.2.1
  have hn := h.1.1
  have hw := w729 h.1
  have hd := d64 h.1
  have hX := h.2.1
  have hM := h.2.2.1
  have x1 := hX.1
  have x2 := hX.2.1
  have x3 := hX.2.2.1
  have m1 := hM.1
  have m2 := hM.2.1
  have m3 := hM.2.2.1
  have hfu : fuN (σ 0 1) (σ 0 0) < 64 := by have := fuN_lt (σ 0 1) (σ 0 0); have := p2_bd hn; omega
  have e1 := pop_fu (σ 0 0) hn (σ 0 1) h.1.2.1
  by_cases c0 : z1 = 0
  · subst c0
    refine ⟨iI (σ 0 0), SX, SM, ?_, ?_, σ, h⟩
    · unfold f5_many; simp (disch := omega) only [x1, ↓reduceIte, ↓nm_eq, ↓ck_in, ck_in, il_0, il_1, il_2, il_3, il_4, il_5, il_6, il_7, il_8, il_9, il_10, il_15, il_20, il_31, il_30, il_37, il_48, il_49, il_54, il_57, il_59, il_60, il_68, il_80, il_87, il_99, il_100, il_101, il_111, il_112, il_115, il_243, il_500, il_729, il_999, il_1000, il_10000, il_m1, il_m2, il_m3, il_m4, il_m9, il_m10, il_m100, il_m500, iI_le', iI_lt', iI_eq', iI_add, iI_sub, iI_mul, iI_neg, dc_ltT, dc_ltF, dc_leT, dc_leF, dc_eqT, dc_eqF, ↓dc_andT, ↓dc_andF, dc_andT, dc_andF, and_self, and_true, true_and, and_false, false_and, or_self, or_true, true_or, or_false, false_or, not_true_eq_false, not_false_eq_true, Int.toNat_natCast, jl_0, jl_1, jl_2, jl_3, jl_4, jl_5, jl_6, jl_9, jl_10, jl_15, jl_19, jl_30, jl_500, jl_999, jl_m1, jl_m500, i64_of, ↓f6_within_eq, f6_within_eq]
    · unfold f6_many; simp (disch := omega) only [m1, ↓reduceIte, ↓nm_eq, ↓ck_in, ck_in, il_0, il_1, il_2, il_3, il_4, il_5, il_6, il_7, il_8, il_9, il_10, il_15, il_20, il_31, il_30, il_37, il_48, il_49, il_54, il_57, il_59, il_60, il_68, il_80, il_87, il_99, il_100, il_101, il_111, il_112, il_115, il_243, il_500, il_729, il_999, il_1000, il_10000, il_m1, il_m2, il_m3, il_m4, il_m9, il_m10, il_m100, il_m500, iI_le', iI_lt', iI_eq', iI_add, iI_sub, iI_mul, iI_neg, dc_ltT, dc_ltF, dc_leT, dc_leF, dc_eqT, dc_eqF, ↓dc_andT, ↓dc_andF, dc_andT, dc_andF, and_self, and_true, true_and, and_false, false_and, or_self, or_true, true_or, or_false, false_or, not_true_eq_false, not_false_eq_true, Int.toNat_natCast, jl_0, jl_1, jl_2, jl_3, jl_4, jl_5, jl_6, jl_9, jl_10, jl_15, jl_19, jl_30, jl_500, jl_999, jl_m1, jl_m500, i64_of, ↓f6_within_eq, f6_within_eq]
  · by_cases c1 : z1 = 1
    · subst c1
      refine ⟨iI (cnA (σ 0 1) (σ 0 0)), SX, SM, ?_, ?_, σ, h⟩
      · unfold f5_many; simp (disch := omega) only [x2, ↓f3_fullSet_eq h.1 hX hw, f3_fullSet_eq h.1 hX hw, ↓fJ6_bitCount_eq hfu, fJ6_bitCount_eq hfu, e1, ↓reduceIte, ↓nm_eq, ↓ck_in, ck_in, il_0, il_1, il_2, il_3, il_4, il_5, il_6, il_7, il_8, il_9, il_10, il_15, il_20, il_31, il_30, il_37, il_48, il_49, il_54, il_57, il_59, il_60, il_68, il_80, il_87, il_99, il_100, il_101, il_111, il_112, il_115, il_243, il_500, il_729, il_999, il_1000, il_10000, il_m1, il_m2, il_m3, il_m4, il_m9, il_m10, il_m100, il_m500, iI_le', iI_lt', iI_eq', iI_add, iI_sub, iI_mul, iI_neg, dc_ltT, dc_ltF, dc_leT, dc_leF, dc_eqT, dc_eqF, ↓dc_andT, ↓dc_andF, dc_andT, dc_andF, and_self, and_true, true_and, and_false, false_and, or_self, or_true, true_or, or_false, false_or, not_true_eq_false, not_false_eq_true, Int.toNat_natCast, jl_0, jl_1, jl_2, jl_3, jl_4, jl_5, jl_6, jl_9, jl_10, jl_15, jl_19, jl_30, jl_500, jl_999, jl_m1, jl_m500, i64_of, ↓f6_within_eq, f6_within_eq]
      · unfold f6_many; simp (disch := omega) only [m2, ↓f6_countA_eq h.1 hM hw, f6_countA_eq h.1 hM hw, ↓reduceIte, ↓nm_eq, ↓ck_in, ck_in, il_0, il_1, il_2, il_3, il_4, il_5, il_6, il_7, il_8, il_9, il_10, il_15, il_20, il_31, il_30, il_37, il_48, il_49, il_54, il_57, il_59, il_60, il_68, il_80, il_87, il_99, il_100, il_101, il_111, il_112, il_115, il_243, il_500, il_729, il_999, il_1000, il_10000, il_m1, il_m2, il_m3, il_m4, il_m9, il_m10, il_m100, il_m500, iI_le', iI_lt', iI_eq', iI_add, iI_sub, iI_mul, iI_neg, dc_ltT, dc_ltF, dc_leT, dc_leF, dc_eqT, dc_eqF, ↓dc_andT, ↓dc_andF, dc_andT, dc_andF, and_self, and_true, true_and, and_false, false_and, or_self, or_true, true_or, or_false, false_or, not_true_eq_false, not_false_eq_true, Int.toNat_natCast, jl_0, jl_1, jl_2, jl_3, jl_4, jl_5, jl_6, jl_9, jl_10, jl_15, jl_19, jl_30, jl_500, jl_999, jl_m1, jl_m500, i64_of, ↓f6_within_eq, f6_within_eq]
    · by_cases c2 : z1 = 2
      · subst c2
        refine ⟨iI (cnB (σ 0 1) (σ 0 0)), SX, SM, ?_, ?_, σ, h⟩
        · unfold f5_many; simp (disch := omega) only [x2, ↓f5_newWaters_eq h.1 hX hw, f5_newWaters_eq h.1 hX hw, ↓reduceIte, ↓nm_eq, ↓ck_in, ck_in, il_0, il_1, il_2, il_3, il_4, il_5, il_6, il_7, il_8, il_9, il_10, il_15, il_20, il_31, il_30, il_37, il_48, il_49, il_54, il_57, il_59, il_60, il_68, il_80, il_87, il_99, il_100, il_101, il_111, il_112, il_115, il_243, il_500, il_729, il_999, il_1000, il_10000, il_m1, il_m2, il_m3, il_m4, il_m9, il_m10, il_m100, il_m500, iI_le', iI_lt', iI_eq', iI_add, iI_sub, iI_mul, iI_neg, dc_ltT, dc_ltF, dc_leT, dc_leF, dc_eqT, dc_eqF, ↓dc_andT, ↓dc_andF, dc_andT, dc_andF, and_self, and_true, true_and, and_false, false_and, or_self, or_true, true_or, or_false, false_or, not_true_eq_false, not_false_eq_true, Int.toNat_natCast, jl_0, jl_1, jl_2, jl_3, jl_4, jl_5, jl_6, jl_9, jl_10, jl_15, jl_19, jl_30, jl_500, jl_999, jl_m1, jl_m500, i64_of, ↓f6_within_eq, f6_within_eq]
        · unfold f6_many; simp (disch := omega) only [m2, ↓f6_countB_eq h.1 hM hw, f6_countB_eq h.1 hM hw, ↓reduceIte, ↓nm_eq, ↓ck_in, ck_in, il_0, il_1, il_2, il_3, il_4, il_5, il_6, il_7, il_8, il_9, il_10, il_15, il_20, il_31, il_30, il_37, il_48, il_49, il_54, il_57, il_59, il_60, il_68, il_80, il_87, il_99, il_100, il_101, il_111, il_112, il_115, il_243, il_500, il_729, il_999, il_1000, il_10000, il_m1, il_m2, il_m3, il_m4, il_m9, il_m10, il_m100, il_m500, iI_le', iI_lt', iI_eq', iI_add, iI_sub, iI_mul, iI_neg, dc_ltT, dc_ltF, dc_leT, dc_leF, dc_eqT, dc_eqF, ↓dc_andT, ↓dc_andF, dc_andT, dc_andF, and_self, and_true, true_and, and_false, false_and, or_self, or_true, true_or, or_false, false_or, not_true_eq_false, not_false_eq_true, Int.toNat_natCast, jl_0, jl_1, jl_2, jl_3, jl_4, jl_5, jl_6, jl_9, jl_10, jl_15, jl_19, jl_30, jl_500, jl_999, jl_m1, jl_m500, i64_of, ↓f6_within_eq, f6_within_eq]
      · by_cases c3 : z1 = 3
        · subst c3
          refine ⟨iI (popN (σ 0 2)), SX, SM, ?_, ?_, σ, h⟩
          · unfold f5_many; simp (disch := omega) only [x3, ↓fJ6_bitCount_eq hd.1, fJ6_bitCount_eq hd.1, ↓reduceIte, ↓nm_eq, ↓ck_in, ck_in, il_0, il_1, il_2, il_3, il_4, il_5, il_6, il_7, il_8, il_9, il_10, il_15, il_20, il_31, il_30, il_37, il_48, il_49, il_54, il_57, il_59, il_60, il_68, il_80, il_87, il_99, il_100, il_101, il_111, il_112, il_115, il_243, il_500, il_729, il_999, il_1000, il_10000, il_m1, il_m2, il_m3, il_m4, il_m9, il_m10, il_m100, il_m500, iI_le', iI_lt', iI_eq', iI_add, iI_sub, iI_mul, iI_neg, dc_ltT, dc_ltF, dc_leT, dc_leF, dc_eqT, dc_eqF, ↓dc_andT, ↓dc_andF, dc_andT, dc_andF, and_self, and_true, true_and, and_false, false_and, or_self, or_true, true_or, or_false, false_or, not_true_eq_false, not_false_eq_true, Int.toNat_natCast, jl_0, jl_1, jl_2, jl_3, jl_4, jl_5, jl_6, jl_9, jl_10, jl_15, jl_19, jl_30, jl_500, jl_999, jl_m1, jl_m500, i64_of, ↓f6_within_eq, f6_within_eq]
          · unfold f6_many; simp (disch := omega) only [m3, ↓f6_sizeOf_eq hd.1, f6_sizeOf_eq hd.1, ↓reduceIte, ↓nm_eq, ↓ck_in, ck_in, il_0, il_1, il_2, il_3, il_4, il_5, il_6, il_7, il_8, il_9, il_10, il_15, il_20, il_31, il_30, il_37, il_48, il_49, il_54, il_57, il_59, il_60, il_68, il_80, il_87, il_99, il_100, il_101, il_111, il_112, il_115, il_243, il_500, il_729, il_999, il_1000, il_10000, il_m1, il_m2, il_m3, il_m4, il_m9, il_m10, il_m100, il_m500, iI_le', iI_lt', iI_eq', iI_add, iI_sub, iI_mul, iI_neg, dc_ltT, dc_ltF, dc_leT, dc_leF, dc_eqT, dc_eqF, ↓dc_andT, ↓dc_andF, dc_andT, dc_andF, and_self, and_true, true_and, and_false, false_and, or_self, or_true, true_or, or_false, false_or, not_true_eq_false, not_false_eq_true, Int.toNat_natCast, jl_0, jl_1, jl_2, jl_3, jl_4, jl_5, jl_6, jl_9, jl_10, jl_15, jl_19, jl_30, jl_500, jl_999, jl_m1, jl_m500, i64_of, ↓f6_within_eq, f6_within_eq]
        · by_cases c4 : z1 = 4
          · subst c4
            refine ⟨iI rc, SX, SM, ?_, ?_, σ, h⟩
            · unfold f5_many; simp (disch := omega) only [g2, ↓reduceIte, ↓nm_eq, ↓ck_in, ck_in, il_0, il_1, il_2, il_3, il_4, il_5, il_6, il_7, il_8, il_9, il_10, il_15, il_20, il_31, il_30, il_37, il_48, il_49, il_54, il_57, il_59, il_60, il_68, il_80, il_87, il_99, il_100, il_101, il_111, il_112, il_115, il_243, il_500, il_729, il_999, il_1000, il_10000, il_m1, il_m2, il_m3, il_m4, il_m9, il_m10, il_m100, il_m500, iI_le', iI_lt', iI_eq', iI_add, iI_sub, iI_mul, iI_neg, dc_ltT, dc_ltF, dc_leT, dc_leF, dc_eqT, dc_eqF, ↓dc_andT, ↓dc_andF, dc_andT, dc_andF, and_self, and_true, true_and, and_false, false_and, or_self, or_true, true_or, or_false, false_or, not_true_eq_false, not_false_eq_true, Int.toNat_natCast, jl_0, jl_1, jl_2, jl_3, jl_4, jl_5, jl_6, jl_9, jl_10, jl_15, jl_19, jl_30, jl_500, jl_999, jl_m1, jl_m500, i64_of, ↓f6_within_eq, f6_within_eq]
            · unfold f6_many; simp (disch := omega) only [g3, ↓reduceIte, ↓nm_eq, ↓ck_in, ck_in, il_0, il_1, il_2, il_3, il_4, il_5, il_6, il_7, il_8, il_9, il_10, il_15, il_20, il_31, il_30, il_37, il_48, il_49, il_54, il_57, il_59, il_60, il_68, il_80, il_87, il_99, il_100, il_101, il_111, il_112, il_115, il_243, il_500, il_729, il_999, il_1000, il_10000, il_m1, il_m2, il_m3, il_m4, il_m9, il_m10, il_m100, il_m500, iI_le', iI_lt', iI_eq', iI_add, iI_sub, iI_mul, iI_neg, dc_ltT, dc_ltF, dc_leT, dc_leF, dc_eqT, dc_eqF, ↓dc_andT, ↓dc_andF, dc_andT, dc_andF, and_self, and_true, true_and, and_false, false_and, or_self, or_true, true_or, or_false, false_or, not_true_eq_false, not_false_eq_true, Int.toNat_natCast, jl_0, jl_1, jl_2, jl_3, jl_4, jl_5, jl_6, jl_9, jl_10, jl_15, jl_19, jl_30, jl_500, jl_999, jl_m1, jl_m500, i64_of, ↓f6_within_eq, f6_within_eq]
          · refine ⟨iI (-2), SX, SM, ?_, ?_, σ, h⟩
            · unfold f5_many; simp (disch := omega) only [↓reduceIte, ↓nm_eq, ↓ck_in, ck_in, il_0, il_1, il_2, il_3, il_4, il_5, il_6, il_7, il_8, il_9, il_10, il_15, il_20, il_31, il_30, il_37, il_48, il_49, il_54, il_57, il_59, il_60, il_68, il_80, il_87, il_99, il_100, il_101, il_111, il_112, il_115, il_243, il_500, il_729, il_999, il_1000, il_10000, il_m1, il_m2, il_m3, il_m4, il_m9, il_m10, il_m100, il_m500, iI_le', iI_lt', iI_eq', iI_add, iI_sub, iI_mul, iI_neg, dc_ltT, dc_ltF, dc_leT, dc_leF, dc_eqT, dc_eqF, ↓dc_andT, ↓dc_andF, dc_andT, dc_andF, and_self, and_true, true_and, and_false, false_and, or_self, or_true, true_or, or_false, false_or, not_true_eq_false, not_false_eq_true, Int.toNat_natCast, jl_0, jl_1, jl_2, jl_3, jl_4, jl_5, jl_6, jl_9, jl_10, jl_15, jl_19, jl_30, jl_500, jl_999, jl_m1, jl_m500, i64_of, ↓f6_within_eq, f6_within_eq]
            · unfold f6_many; simp (disch := omega) only [↓reduceIte, ↓nm_eq, ↓ck_in, ck_in, il_0, il_1, il_2, il_3, il_4, il_5, il_6, il_7, il_8, il_9, il_10, il_15, il_20, il_31, il_30, il_37, il_48, il_49, il_54, il_57, il_59, il_60, il_68, il_80, il_87, il_99, il_100, il_101, il_111, il_112, il_115, il_243, il_500, il_729, il_999, il_1000, il_10000, il_m1, il_m2, il_m3, il_m4, il_m9, il_m10, il_m100, il_m500, iI_le', iI_lt', iI_eq', iI_add, iI_sub, iI_mul, iI_neg, dc_ltT, dc_ltF, dc_leT, dc_leF, dc_eqT, dc_eqF, ↓dc_andT, ↓dc_andF, dc_andT, dc_andF, and_self, and_true, true_and, and_false, false_and, or_self, or_true, true_or, or_false, false_or, not_true_eq_false, not_false_eq_true, Int.toNat_natCast, jl_0, jl_1, jl_2, jl_3, jl_4, jl_5, jl_6, jl_9, jl_10, jl_15, jl_19, jl_30, jl_500, jl_999, jl_m1, jl_m500, i64_of, ↓f6_within_eq, f6_within_eq]
theorem sim_fail (a : Int32) : SimI (RelP PX PM) (f5_fail a) (f6_fail a) := by
  intro SX SM ⟨σ, h⟩
  obtain ⟨z1, rfl, hz1⟩ := iI_of a
  have hn := h.1.1
  have hd := d64 h.1
  by_cases c1 : 0 ≤ z1 ∧ z1 < σ 0 0
  · obtain ⟨t, rfl⟩ : ∃ k : Nat, z1 = k := ⟨z1.toNat, by omega⟩
    have ht : t < σ 0 0 := by omega
    obtain ⟨q1, q2⟩ := xr_all _ hd.2 t (by omega)
    have q3 := xr_ltn (σ 0 0) hn (σ 0 3) h.1.2.2.2.1 t ht
    have x4 := h.2.1.2.2.2.1
    have m4 := h.2.2.1.2.2.2.1 t ht
    have n0 : vp_nar .boolean (iI 0) = iI 0 := by decide
    have n1 : vp_nar .boolean (iI 1) = iI 1 := by decide
    have xo : iI (σ 0 3) ^^^ (iI 1 <<< (iI t &&& iI 31)) = iI (xrN (σ 0 3) t) := xor_all _ hd.2 t (by omega)
    have b1 : bt (xrN (σ 0 3) t) t = !(bt (σ 0 3) t) := by rw [q2 t (by omega), if_pos rfl]
    have rel : RelS PX PM (upS σ 0 3 (xrN (σ 0 3) t)) (sI (sI SX 2 5 (iI (xrN (σ 0 3) t))) 3 7 (iI 0)) (sI (sI SM 9 t (if bt (σ 0 3) t then iI 1 else iI 0)) 0 28 (iI 0)) := by
      refine rel_new h ⟨hn, h.1.2.1, h.1.2.2.1, q3, h.1.2.2.2.2.1, h.1.2.2.2.2.2⟩ ?_ ?_ (fun j hj => by simp (disch := omega) only [rfS_cell, sI_cell, sI_place, sI_same, sI_2]) ⟨by simp (disch := omega) only [rfS_cell, sI_cell, sI_place, sI_same, sI_2], by simp (disch := omega) only [rfS_cell, sI_cell, sI_place, sI_same, sI_2], by simp (disch := omega) only [rfS_cell, sI_cell, sI_place, sI_same, sI_2]⟩ (fun j hj => by simp (disch := omega) only [rfS_cell, sI_cell, sI_place, sI_same, sI_2]) (by rw [sI_same]; rfl) (by rw [sI_same]; rfl)
      · obtain ⟨y1, y2, y3, y4, y5, y6⟩ := h.2.1
        refine ⟨?_, ?_, ?_, ?_, fun q hq => ?_, fun q hq => ?_⟩
        · simp (disch := omega) only [rfS_cell, sI_cell, sI_place, sI_same, sI_2]; exact y1
        · simp (disch := omega) only [rfS_cell, sI_cell, sI_place, sI_same, sI_2]; exact y2
        · simp (disch := omega) only [rfS_cell, sI_cell, sI_place, sI_same, sI_2]; exact y3
        · simp (disch := omega) only [rfS_cell, sI_cell, sI_place, sI_same, sI_2]; rfl
        · simp (disch := omega) only [rfS_cell, sI_cell, sI_place, sI_same, sI_2]; exact y5 q hq
        · simp (disch := omega) only [rfS_cell, sI_cell, sI_place, sI_same, sI_2]; exact y6 q hq
      · obtain ⟨y1, y2, y3, y4, y5, y6, y7⟩ := h.2.2.1
        refine ⟨?_, ?_, ?_, fun q hq => ?_, fun q hq => ?_, fun q hq => ?_, fun j hj => ?_⟩
        · simp (disch := omega) only [rfS_cell, sI_cell, sI_place, sI_same, sI_2]; exact y1
        · simp (disch := omega) only [rfS_cell, sI_cell, sI_place, sI_same, sI_2]; exact y2
        · simp (disch := omega) only [rfS_cell, sI_cell, sI_place, sI_same, sI_2]; exact y3
        · show _ = if bt (xrN (σ 0 3) t) q = true then (0 : Int32) else 1
          have hq' : q < σ 0 0 := hq
          rw [sI_cell _ _ _ (by omega), sI_at, q2 q (by omega)]
          by_cases e : q = t
          · rw [if_pos ⟨rfl, e⟩, if_pos e]
            cases bt (σ 0 3) t <;> rfl
          · rw [if_neg (by omega), if_neg e]; exact y4 q hq'
        · simp (disch := omega) only [rfS_cell, sI_cell, sI_place, sI_same, sI_2]; exact y5 q hq
        · simp (disch := omega) only [rfS_cell, sI_cell, sI_place, sI_same, sI_2]; exact y6 q hq
        · simp (disch := omega) only [rfS_cell, sI_cell, sI_place, sI_same, sI_2]; exact y7 j hj
    cases hb : bt (σ 0 3) t
    · rw [hb] at m4 b1 rel
      refine ⟨iI 1, _, _, ?_, ?_, _, rel⟩
      · unfold f5_fail f2_forget f5_oneIf
        have e2 : (sI (sI SX 2 5 (iI (xrN (σ 0 3) t))) 3 7 (iI 0)).1 2 5 = iI (xrN (σ 0 3) t) := by simp (disch := omega) only [rfS_cell, sI_cell, sI_place, sI_same, sI_2]
        simp (disch := omega) only [↓f5_isTank_eq hz1 hn h.2.1.1, f5_isTank_eq hz1 hn h.2.1.1, x4, xo, e2, ↓f5_holds_eq q1, f5_holds_eq q1, b1, ↓reduceIte, ↓nm_eq, ↓ck_in, ck_in, il_0, il_1, il_2, il_3, il_4, il_5, il_6, il_7, il_8, il_9, il_10, il_15, il_20, il_31, il_30, il_37, il_48, il_49, il_54, il_57, il_59, il_60, il_68, il_80, il_87, il_99, il_100, il_101, il_111, il_112, il_115, il_243, il_500, il_729, il_999, il_1000, il_10000, il_m1, il_m2, il_m3, il_m4, il_m9, il_m10, il_m100, il_m500, iI_le', iI_lt', iI_eq', iI_add, iI_sub, iI_mul, iI_neg, dc_ltT, dc_ltF, dc_leT, dc_leF, dc_eqT, dc_eqF, ↓dc_andT, ↓dc_andF, dc_andT, dc_andF, and_self, and_true, true_and, and_false, false_and, or_self, or_true, true_or, or_false, false_or, not_true_eq_false, not_false_eq_true, Int.toNat_natCast, jl_0, jl_1, jl_2, jl_3, jl_4, jl_5, jl_6, jl_9, jl_10, jl_15, jl_19, jl_30, jl_500, jl_999, jl_m1, jl_m500, i64_of, ↓f6_within_eq, f6_within_eq]
        rfl
      · unfold f6_fail
        have e2 : (sI (sI SM 9 t (iI 0)) 0 28 (iI 0)).1 9 t = iI 0 := by simp (disch := omega) only [rfS_cell, sI_cell, sI_place, sI_same, sI_2]
        have m5 : SM.1 9 t = iI 1 := m4
        simp (disch := omega) only [↓f6_isTank_eq hz1 hn h.2.2.1.1, f6_isTank_eq hz1 hn h.2.2.1.1, m5, n0, e2, ↓reduceIte, ↓nm_eq, ↓ck_in, ck_in, il_0, il_1, il_2, il_3, il_4, il_5, il_6, il_7, il_8, il_9, il_10, il_15, il_20, il_31, il_30, il_37, il_48, il_49, il_54, il_57, il_59, il_60, il_68, il_80, il_87, il_99, il_100, il_101, il_111, il_112, il_115, il_243, il_500, il_729, il_999, il_1000, il_10000, il_m1, il_m2, il_m3, il_m4, il_m9, il_m10, il_m100, il_m500, iI_le', iI_lt', iI_eq', iI_add, iI_sub, iI_mul, iI_neg, dc_ltT, dc_ltF, dc_leT, dc_leF, dc_eqT, dc_eqF, ↓dc_andT, ↓dc_andF, dc_andT, dc_andF, and_self, and_true, true_and, and_false, false_and, or_self, or_true, true_or, or_false, false_or, not_true_eq_false, not_false_eq_true, Int.toNat_natCast, jl_0, jl_1, jl_2, jl_3, jl_4, jl_5, jl_6, jl_9, jl_10, jl_15, jl_19, jl_30, jl_500, jl_999, jl_m1, jl_m500, i64_of, ↓f6_within_eq, f6_within_eq]
        rfl
    · rw [hb] at m4 b1 rel
      refine ⟨iI 0, _, _, ?_, ?_, _, rel⟩
      · unfold f5_fail f2_forget f5_oneIf
        have e2 : (sI (sI SX 2 5 (iI (xrN (σ 0 3) t))) 3 7 (iI 0)).1 2 5 = iI (xrN (σ 0 3) t) := by simp (disch := omega) only [rfS_cell, sI_cell, sI_place, sI_same, sI_2]
        simp (disch := omega) only [↓f5_isTank_eq hz1 hn h.2.1.1, f5_isTank_eq hz1 hn h.2.1.1, x4, xo, e2, ↓f5_holds_eq q1, f5_holds_eq q1, b1, ↓reduceIte, ↓nm_eq, ↓ck_in, ck_in, il_0, il_1, il_2, il_3, il_4, il_5, il_6, il_7, il_8, il_9, il_10, il_15, il_20, il_31, il_30, il_37, il_48, il_49, il_54, il_57, il_59, il_60, il_68, il_80, il_87, il_99, il_100, il_101, il_111, il_112, il_115, il_243, il_500, il_729, il_999, il_1000, il_10000, il_m1, il_m2, il_m3, il_m4, il_m9, il_m10, il_m100, il_m500, iI_le', iI_lt', iI_eq', iI_add, iI_sub, iI_mul, iI_neg, dc_ltT, dc_ltF, dc_leT, dc_leF, dc_eqT, dc_eqF, ↓dc_andT, ↓dc_andF, dc_andT, dc_andF, and_self, and_true, true_and, and_false, false_and, or_self, or_true, true_or, or_false, false_or, not_true_eq_false, not_false_eq_true, Int.toNat_natCast, jl_0, jl_1, jl_2, jl_3, jl_4, jl_5, jl_6, jl_9, jl_10, jl_15, jl_19, jl_30, jl_500, jl_999, jl_m1, jl_m500, i64_of, ↓f6_within_eq, f6_within_eq]
        rfl
      · unfold f6_fail
        have e2 : (sI (sI SM 9 t (iI 1)) 0 28 (iI 0)).1 9 t = iI 1 := by simp (disch := omega) only [rfS_cell, sI_cell, sI_place, sI_same, sI_2]
        have m5 : SM.1 9 t = iI 0 := m4
        simp (disch := omega) only [↓f6_isTank_eq hz1 hn h.2.2.1.1, f6_isTank_eq hz1 hn h.2.2.1.1, m5, n1, e2, ↓reduceIte, ↓nm_eq, ↓ck_in, ck_in, il_0, il_1, il_2, il_3, il_4, il_5, il_6, il_7, il_8, il_9, il_10, il_15, il_20, il_31, il_30, il_37, il_48, il_49, il_54, il_57, il_59, il_60, il_68, il_80, il_87, il_99, il_100, il_101, il_111, il_112, il_115, il_243, il_500, il_729, il_999, il_1000, il_10000, il_m1, il_m2, il_m3, il_m4, il_m9, il_m10, il_m100, il_m500, iI_le', iI_lt', iI_eq', iI_add, iI_sub, iI_mul, iI_neg, dc_ltT, dc_ltF, dc_leT, dc_leF, dc_eqT, dc_eqF, ↓dc_andT, ↓dc_andF, dc_andT, dc_andF, and_self, and_true, true_and, and_false, false_and, or_self, or_true, true_or, or_false, false_or, not_true_eq_false, not_false_eq_true, Int.toNat_natCast, jl_0, jl_1, jl_2, jl_3, jl_4, jl_5, jl_6, jl_9, jl_10, jl_15, jl_19, jl_30, jl_500, jl_999, jl_m1, jl_m500, i64_of, ↓f6_within_eq, f6_within_eq]
  · refine ⟨iI (-1), SX, SM, ?_, ?_, σ, h⟩
    · unfold f5_fail
      simp (disch := omega) only [↓f5_isTank_eq hz1 hn h.2.1.1, f5_isTank_eq hz1 hn h.2.1.1, ↓reduceIte, ↓nm_eq, ↓ck_in, ck_in, il_0, il_1, il_2, il_3, il_4, il_5, il_6, il_7, il_8, il_9, il_10, il_15, il_20, il_31, il_30, il_37, il_48, il_49, il_54, il_57, il_59, il_60, il_68, il_80, il_87, il_99, il_100, il_101, il_111, il_112, il_115, il_243, il_500, il_729, il_999, il_1000, il_10000, il_m1, il_m2, il_m3, il_m4, il_m9, il_m10, il_m100, il_m500, iI_le', iI_lt', iI_eq', iI_add, iI_sub, iI_mul, iI_neg, dc_ltT, dc_ltF, dc_leT, dc_leF, dc_eqT, dc_eqF, ↓dc_andT, ↓dc_andF, dc_andT, dc_andF, and_self, and_true, true_and, and_false, false_and, or_self, or_true, true_or, or_false, false_or, not_true_eq_false, not_false_eq_true, Int.toNat_natCast, jl_0, jl_1, jl_2, jl_3, jl_4, jl_5, jl_6, jl_9, jl_10, jl_15, jl_19, jl_30, jl_500, jl_999, jl_m1, jl_m500, i64_of, ↓f6_within_eq, f6_within_eq]
    · unfold f6_fail
      simp (disch := omega) only [↓f6_isTank_eq hz1 hn h.2.2.1.1, f6_isTank_eq hz1 hn h.2.2.1.1, ↓reduceIte, ↓nm_eq, ↓ck_in, ck_in, il_0, il_1, il_2, il_3, il_4, il_5, il_6, il_7, il_8, il_9, il_10, il_15, il_20, il_31, il_30, il_37, il_48, il_49, il_54, il_57, il_59, il_60, il_68, il_80, il_87, il_99, il_100, il_101, il_111, il_112, il_115, il_243, il_500, il_729, il_999, il_1000, il_10000, il_m1, il_m2, il_m3, il_m4, il_m9, il_m10, il_m100, il_m500, iI_le', iI_lt', iI_eq', iI_add, iI_sub, iI_mul, iI_neg, dc_ltT, dc_ltF, dc_leT, dc_leF, dc_eqT, dc_eqF, ↓dc_andT, ↓dc_andF, dc_andT, dc_andF, and_self, and_true, true_and, and_false, false_and, or_self, or_true, true_or, or_false, false_or, not_true_eq_false, not_false_eq_true, Int.toNat_natCast, jl_0, jl_1, jl_2, jl_3, jl_4, jl_5, jl_6, jl_9, jl_10, jl_15, jl_19, jl_30, jl_500, jl_999, jl_m1, jl_m500, i64_of, ↓f6_within_eq, f6_within_eq]
end Ops7
