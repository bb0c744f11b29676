/-! PURE PART 20: the day -/
section Ops11
variable {PX PM : Sg → MS → Prop} {σ : Sg} {SX SM : MS}
/-- a day without a fault is told -/
theorem day_tell (cX : ClX PX) (h : RelS PX PM σ SX SM) {w : Nat} (hw : w < 3 ^ σ 0 0) (h32 : SM.1 0 32 = iI w) {z : Int} (hz : (0 ≤ z ∧ z ≤ 4) ∨ (10 ≤ z ∧ z ≤ 15)) (hz1 : z ≠ 1) : ∃ r SX' SM', f5_ofWaters (iI w) (iI z) SX (fun r u => some (r, u)) = some (r, SX') ∧ f6_tellDay (iI z) SM (fun r u => some (r, u)) = some (r, SM') ∧ RelS PX PM σ SX' SM' := by
  have hn := h.1.1
  have h3 := p3_bd hn
  have hw7 : w < 729 := by omega
  have hX := h.2.1
  have hM := h.2.2.1
  have hfu : fuN w (σ 0 0) < 64 := by have := fuN_lt w (σ 0 0); have := p2_bd hn; omega
  have e1 := pop_fu (σ 0 0) hn w hw
  have hL := LdS_is σ (σ 0 0) (g1 σ w) SX
  have hrel := rel_sm cX h (SmX.ld σ (g1 σ w) SX) (SmM.wm σ (gW σ w (-9)) SM)
  by_cases a0 : z = 0
  · subst a0
    refine ⟨iI (cnB w (σ 0 0)), SX, SM, ?_, ?_, h⟩
    · unfold f5_ofWaters; simp (disch := omega) only [↓f3_fullSet_eq h.1 hX hw7, f3_fullSet_eq h.1 hX hw7, ↓f5_newWaters_eq h.1 hX hw7, f5_newWaters_eq h.1 hX hw7, ↓reduceIte, ↓nm_eq, ↓ck_in, ck_in, il_0, il_1, il_2, il_3, il_4, il_5, il_6, il_7, il_8, il_9, il_10, il_15, il_20, il_31, il_30, il_37, il_48, il_49, il_54, il_57, il_59, il_60, il_68, il_80, il_87, il_99, il_100, il_101, il_111, il_112, il_115, il_243, il_500, il_729, il_999, il_1000, il_10000, il_m1, il_m2, il_m3, il_m4, il_m9, il_m10, il_m100, il_m500, iI_le', iI_lt', iI_eq', iI_add, iI_sub, iI_mul, iI_neg, dc_ltT, dc_ltF, dc_leT, dc_leF, dc_eqT, dc_eqF, ↓dc_andT, ↓dc_andF, dc_andT, dc_andF, and_self, and_true, true_and, and_false, false_and, or_self, or_true, true_or, or_false, false_or, not_true_eq_false, not_false_eq_true, Int.toNat_natCast, jl_0, jl_1, jl_2, jl_3, jl_4, jl_5, jl_6, jl_9, jl_10, jl_15, jl_19, jl_30, jl_500, jl_999, jl_m1, jl_m500, i64_of, ↓f6_within_eq, f6_within_eq]
    · unfold f6_tellDay; simp (disch := omega) only [h32, ↓f6_countB_eq h.1 hM hw7, f6_countB_eq h.1 hM hw7, ↓reduceIte, ↓nm_eq, ↓ck_in, ck_in, il_0, il_1, il_2, il_3, il_4, il_5, il_6, il_7, il_8, il_9, il_10, il_15, il_20, il_31, il_30, il_37, il_48, il_49, il_54, il_57, il_59, il_60, il_68, il_80, il_87, il_99, il_100, il_101, il_111, il_112, il_115, il_243, il_500, il_729, il_999, il_1000, il_10000, il_m1, il_m2, il_m3, il_m4, il_m9, il_m10, il_m100, il_m500, iI_le', iI_lt', iI_eq', iI_add, iI_sub, iI_mul, iI_neg, dc_ltT, dc_ltF, dc_leT, dc_leF, dc_eqT, dc_eqF, ↓dc_andT, ↓dc_andF, dc_andT, dc_andF, and_self, and_true, true_and, and_false, false_and, or_self, or_true, true_or, or_false, false_or, not_true_eq_false, not_false_eq_true, Int.toNat_natCast, jl_0, jl_1, jl_2, jl_3, jl_4, jl_5, jl_6, jl_9, jl_10, jl_15, jl_19, jl_30, jl_500, jl_999, jl_m1, jl_m500, i64_of, ↓f6_within_eq, f6_within_eq]
  · by_cases a2 : z = 2
    · subst a2
      refine ⟨iI (cnA w (σ 0 0)), SX, SM, ?_, ?_, h⟩
      · unfold f5_ofWaters; simp (disch := omega) only [↓f3_fullSet_eq h.1 hX hw7, f3_fullSet_eq h.1 hX hw7, ↓fJ6_bitCount_eq hfu, fJ6_bitCount_eq hfu, e1, ↓reduceIte, ↓nm_eq, ↓ck_in, ck_in, il_0, il_1, il_2, il_3, il_4, il_5, il_6, il_7, il_8, il_9, il_10, il_15, il_20, il_31, il_30, il_37, il_48, il_49, il_54, il_57, il_59, il_60, il_68, il_80, il_87, il_99, il_100, il_101, il_111, il_112, il_115, il_243, il_500, il_729, il_999, il_1000, il_10000, il_m1, il_m2, il_m3, il_m4, il_m9, il_m10, il_m100, il_m500, iI_le', iI_lt', iI_eq', iI_add, iI_sub, iI_mul, iI_neg, dc_ltT, dc_ltF, dc_leT, dc_leF, dc_eqT, dc_eqF, ↓dc_andT, ↓dc_andF, dc_andT, dc_andF, and_self, and_true, true_and, and_false, false_and, or_self, or_true, true_or, or_false, false_or, not_true_eq_false, not_false_eq_true, Int.toNat_natCast, jl_0, jl_1, jl_2, jl_3, jl_4, jl_5, jl_6, jl_9, jl_10, jl_15, jl_19, jl_30, jl_500, jl_999, jl_m1, jl_m500, i64_of, ↓f6_within_eq, f6_within_eq]
      · unfold f6_tellDay; simp (disch := omega) only [h32, ↓f6_countA_eq h.1 hM hw7, f6_countA_eq h.1 hM hw7, ↓reduceIte, ↓nm_eq, ↓ck_in, ck_in, il_0, il_1, il_2, il_3, il_4, il_5, il_6, il_7, il_8, il_9, il_10, il_15, il_20, il_31, il_30, il_37, il_48, il_49, il_54, il_57, il_59, il_60, il_68, il_80, il_87, il_99, il_100, il_101, il_111, il_112, il_115, il_243, il_500, il_729, il_999, il_1000, il_10000, il_m1, il_m2, il_m3, il_m4, il_m9, il_m10, il_m100, il_m500, iI_le', iI_lt', iI_eq', iI_add, iI_sub, iI_mul, iI_neg, dc_ltT, dc_ltF, dc_leT, dc_leF, dc_eqT, dc_eqF, ↓dc_andT, ↓dc_andF, dc_andT, dc_andF, and_self, and_true, true_and, and_false, false_and, or_self, or_true, true_or, or_false, false_or, not_true_eq_false, not_false_eq_true, Int.toNat_natCast, jl_0, jl_1, jl_2, jl_3, jl_4, jl_5, jl_6, jl_9, jl_10, jl_15, jl_19, jl_30, jl_500, jl_999, jl_m1, jl_m500, i64_of, ↓f6_within_eq, f6_within_eq]
    · by_cases a3 : z = 3
      · subst a3
        refine ⟨iI (msI σ w 0 + 1000), _, _, ?_, ?_, hrel⟩
        · unfold f5_ofWaters
          simp (disch := omega) only [↓f3_fullSet_eq h.1 hX hw7, f3_fullSet_eq h.1 hX hw7, (ldNow h.1 hX hw7), hL.2.1, ↓reduceIte, ↓nm_eq, ↓ck_in, ck_in, il_0, il_1, il_2, il_3, il_4, il_5, il_6, il_7, il_8, il_9, il_10, il_15, il_20, il_31, il_30, il_37, il_48, il_49, il_54, il_57, il_59, il_60, il_68, il_80, il_87, il_99, il_100, il_101, il_111, il_112, il_115, il_243, il_500, il_729, il_999, il_1000, il_10000, il_m1, il_m2, il_m3, il_m4, il_m9, il_m10, il_m100, il_m500, iI_le', iI_lt', iI_eq', iI_add, iI_sub, iI_mul, iI_neg, dc_ltT, dc_ltF, dc_leT, dc_leF, dc_eqT, dc_eqF, ↓dc_andT, ↓dc_andF, dc_andT, dc_andF, and_self, and_true, true_and, and_false, false_and, or_self, or_true, true_or, or_false, false_or, not_true_eq_false, not_false_eq_true, Int.toNat_natCast, jl_0, jl_1, jl_2, jl_3, jl_4, jl_5, jl_6, jl_9, jl_10, jl_15, jl_19, jl_30, jl_500, jl_999, jl_m1, jl_m500, i64_of, ↓f6_within_eq, f6_within_eq]
          show some (iI (1000 + trG σ (σ 0 0) (g1 σ w)), _) = some (iI (trG σ (σ 0 0) (g1 σ w) + 1000), _)
          rw [Int.add_comm]
        · unfold f6_tellDay
          have e := f6_measured_eq (α := Int32 × MS) h.1 hM hw7 (show 0 ≤ 2 by omega)
          simp (disch := omega) only [h32, ↓reduceIte, ↓nm_eq, ↓ck_in, ck_in, il_0, il_1, il_2, il_3, il_4, il_5, il_6, il_7, il_8, il_9, il_10, il_15, il_20, il_31, il_30, il_37, il_48, il_49, il_54, il_57, il_59, il_60, il_68, il_80, il_87, il_99, il_100, il_101, il_111, il_112, il_115, il_243, il_500, il_729, il_999, il_1000, il_10000, il_m1, il_m2, il_m3, il_m4, il_m9, il_m10, il_m100, il_m500, iI_le', iI_lt', iI_eq', iI_add, iI_sub, iI_mul, iI_neg, dc_ltT, dc_ltF, dc_leT, dc_leF, dc_eqT, dc_eqF, ↓dc_andT, ↓dc_andF, dc_andT, dc_andF, and_self, and_true, true_and, and_false, false_and, or_self, or_true, true_or, or_false, false_or, not_true_eq_false, not_false_eq_true, Int.toNat_natCast, jl_0, jl_1, jl_2, jl_3, jl_4, jl_5, jl_6, jl_9, jl_10, jl_15, jl_19, jl_30, jl_500, jl_999, jl_m1, jl_m500, i64_of, ↓f6_within_eq, f6_within_eq]
          rw [show iI 0 = iI ((0 : Nat) : Int) from rfl, e, iI_add]
      · by_cases a4 : z = 4
        · subst a4
          refine ⟨iI (msI σ w 2), _, _, ?_, ?_, hrel⟩
          · unfold f5_ofWaters
            simp (disch := omega) only [↓f3_fullSet_eq h.1 hX hw7, f3_fullSet_eq h.1 hX hw7, (ldNow h.1 hX hw7), ↓f0_bending_eq (g1_wo h.1 w) hL, f0_bending_eq (g1_wo h.1 w) hL, ↓reduceIte, ↓nm_eq, ↓ck_in, ck_in, il_0, il_1, il_2, il_3, il_4, il_5, il_6, il_7, il_8, il_9, il_10, il_15, il_20, il_31, il_30, il_37, il_48, il_49, il_54, il_57, il_59, il_60, il_68, il_80, il_87, il_99, il_100, il_101, il_111, il_112, il_115, il_243, il_500, il_729, il_999, il_1000, il_10000, il_m1, il_m2, il_m3, il_m4, il_m9, il_m10, il_m100, il_m500, iI_le', iI_lt', iI_eq', iI_add, iI_sub, iI_mul, iI_neg, dc_ltT, dc_ltF, dc_leT, dc_leF, dc_eqT, dc_eqF, ↓dc_andT, ↓dc_andF, dc_andT, dc_andF, and_self, and_true, true_and, and_false, false_and, or_self, or_true, true_or, or_false, false_or, not_true_eq_false, not_false_eq_true, Int.toNat_natCast, jl_0, jl_1, jl_2, jl_3, jl_4, jl_5, jl_6, jl_9, jl_10, jl_15, jl_19, jl_30, jl_500, jl_999, jl_m1, jl_m500, i64_of, ↓f6_within_eq, f6_within_eq]
            rfl
          · unfold f6_tellDay
            have e := f6_measured_eq (α := Int32 × MS) h.1 hM hw7 (show 2 ≤ 2 by omega)
            simp (disch := omega) only [h32, ↓reduceIte, ↓nm_eq, ↓ck_in, ck_in, il_0, il_1, il_2, il_3, il_4, il_5, il_6, il_7, il_8, il_9, il_10, il_15, il_20, il_31, il_30, il_37, il_48, il_49, il_54, il_57, il_59, il_60, il_68, il_80, il_87, il_99, il_100, il_101, il_111, il_112, il_115, il_243, il_500, il_729, il_999, il_1000, il_10000, il_m1, il_m2, il_m3, il_m4, il_m9, il_m10, il_m100, il_m500, iI_le', iI_lt', iI_eq', iI_add, iI_sub, iI_mul, iI_neg, dc_ltT, dc_ltF, dc_leT, dc_leF, dc_eqT, dc_eqF, ↓dc_andT, ↓dc_andF, dc_andT, dc_andF, and_self, and_true, true_and, and_false, false_and, or_self, or_true, true_or, or_false, false_or, not_true_eq_false, not_false_eq_true, Int.toNat_natCast, jl_0, jl_1, jl_2, jl_3, jl_4, jl_5, jl_6, jl_9, jl_10, jl_15, jl_19, jl_30, jl_500, jl_999, jl_m1, jl_m500, i64_of, ↓f6_within_eq, f6_within_eq]
            rw [show iI 2 = iI ((2 : Nat) : Int) from rfl, e]
        · obtain ⟨t, rfl⟩ : ∃ t : Nat, z = 10 + t := ⟨(z - 10).toNat, by omega⟩
          have ht6 : t < 6 := by omega
          have et : iI (10 + (t : Int)) - iI 10 = iI t := by rw [iI_sub]; congr 1; omega
          have rt : rg (t : Int) := ⟨by omega, by omega⟩
          by_cases c : t < σ 0 0
          · refine ⟨iI (dg w t), SX, SM, ?_, ?_, h⟩
            · unfold f5_ofWaters f5_ofWaters_J83
              rw [show (10 : Int32) = iI 10 from rfl, et]
              simp (disch := omega) only [↓f3_fullSet_eq h.1 hX hw7, f3_fullSet_eq h.1 hX hw7, ↓f5_isTank_eq rt hn hX.1, f5_isTank_eq rt hn hX.1, ↓f5_waterIn_eq hw7, f5_waterIn_eq hw7, ↓reduceIte, ↓nm_eq, ↓ck_in, ck_in, il_0, il_1, il_2, il_3, il_4, il_5, il_6, il_7, il_8, il_9, il_10, il_15, il_20, il_31, il_30, il_37, il_48, il_49, il_54, il_57, il_59, il_60, il_68, il_80, il_87, il_99, il_100, il_101, il_111, il_112, il_115, il_243, il_500, il_729, il_999, il_1000, il_10000, il_m1, il_m2, il_m3, il_m4, il_m9, il_m10, il_m100, il_m500, iI_le', iI_lt', iI_eq', iI_add, iI_sub, iI_mul, iI_neg, dc_ltT, dc_ltF, dc_leT, dc_leF, dc_eqT, dc_eqF, ↓dc_andT, ↓dc_andF, dc_andT, dc_andF, and_self, and_true, true_and, and_false, false_and, or_self, or_true, true_or, or_false, false_or, not_true_eq_false, not_false_eq_true, Int.toNat_natCast, jl_0, jl_1, jl_2, jl_3, jl_4, jl_5, jl_6, jl_9, jl_10, jl_15, jl_19, jl_30, jl_500, jl_999, jl_m1, jl_m500, i64_of, ↓f6_within_eq, f6_within_eq]
            · unfold f6_tellDay
              rw [show (10 : Int32) = iI 10 from rfl, et]
              simp (disch := omega) only [h32, ↓f6_isTank_eq rt hn hM.1, f6_isTank_eq rt hn hM.1, ↓(f6_waterIn_eq hw7 ht6 hM), (f6_waterIn_eq hw7 ht6 hM), ↓reduceIte, ↓nm_eq, ↓ck_in, ck_in, il_0, il_1, il_2, il_3, il_4, il_5, il_6, il_7, il_8, il_9, il_10, il_15, il_20, il_31, il_30, il_37, il_48, il_49, il_54, il_57, il_59, il_60, il_68, il_80, il_87, il_99, il_100, il_101, il_111, il_112, il_115, il_243, il_500, il_729, il_999, il_1000, il_10000, il_m1, il_m2, il_m3, il_m4, il_m9, il_m10, il_m100, il_m500, iI_le', iI_lt', iI_eq', iI_add, iI_sub, iI_mul, iI_neg, dc_ltT, dc_ltF, dc_leT, dc_leF, dc_eqT, dc_eqF, ↓dc_andT, ↓dc_andF, dc_andT, dc_andF, and_self, and_true, true_and, and_false, false_and, or_self, or_true, true_or, or_false, false_or, not_true_eq_false, not_false_eq_true, Int.toNat_natCast, jl_0, jl_1, jl_2, jl_3, jl_4, jl_5, jl_6, jl_9, jl_10, jl_15, jl_19, jl_30, jl_500, jl_999, jl_m1, jl_m500, i64_of, ↓f6_within_eq, f6_within_eq]
          · refine ⟨iI (-9), SX, SM, ?_, ?_, h⟩
            · unfold f5_ofWaters f5_ofWaters_J83
              rw [show (10 : Int32) = iI 10 from rfl, et]
              simp (disch := omega) only [↓f3_fullSet_eq h.1 hX hw7, f3_fullSet_eq h.1 hX hw7, ↓f5_isTank_eq rt hn hX.1, f5_isTank_eq rt hn hX.1, ↓f5_waterIn_eq hw7, f5_waterIn_eq hw7, ↓reduceIte, ↓nm_eq, ↓ck_in, ck_in, il_0, il_1, il_2, il_3, il_4, il_5, il_6, il_7, il_8, il_9, il_10, il_15, il_20, il_31, il_30, il_37, il_48, il_49, il_54, il_57, il_59, il_60, il_68, il_80, il_87, il_99, il_100, il_101, il_111, il_112, il_115, il_243, il_500, il_729, il_999, il_1000, il_10000, il_m1, il_m2, il_m3, il_m4, il_m9, il_m10, il_m100, il_m500, iI_le', iI_lt', iI_eq', iI_add, iI_sub, iI_mul, iI_neg, dc_ltT, dc_ltF, dc_leT, dc_leF, dc_eqT, dc_eqF, ↓dc_andT, ↓dc_andF, dc_andT, dc_andF, and_self, and_true, true_and, and_false, false_and, or_self, or_true, true_or, or_false, false_or, not_true_eq_false, not_false_eq_true, Int.toNat_natCast, jl_0, jl_1, jl_2, jl_3, jl_4, jl_5, jl_6, jl_9, jl_10, jl_15, jl_19, jl_30, jl_500, jl_999, jl_m1, jl_m500, i64_of, ↓f6_within_eq, f6_within_eq]
            · unfold f6_tellDay
              rw [show (10 : Int32) = iI 10 from rfl, et]
              simp (disch := omega) only [h32, ↓f6_isTank_eq rt hn hM.1, f6_isTank_eq rt hn hM.1, ↓(f6_waterIn_eq hw7 ht6 hM), (f6_waterIn_eq hw7 ht6 hM), ↓reduceIte, ↓nm_eq, ↓ck_in, ck_in, il_0, il_1, il_2, il_3, il_4, il_5, il_6, il_7, il_8, il_9, il_10, il_15, il_20, il_31, il_30, il_37, il_48, il_49, il_54, il_57, il_59, il_60, il_68, il_80, il_87, il_99, il_100, il_101, il_111, il_112, il_115, il_243, il_500, il_729, il_999, il_1000, il_10000, il_m1, il_m2, il_m3, il_m4, il_m9, il_m10, il_m100, il_m500, iI_le', iI_lt', iI_eq', iI_add, iI_sub, iI_mul, iI_neg, dc_ltT, dc_ltF, dc_leT, dc_leF, dc_eqT, dc_eqF, ↓dc_andT, ↓dc_andF, dc_andT, dc_andF, and_self, and_true, true_and, and_false, false_and, or_self, or_true, true_or, or_false, false_or, not_true_eq_false, not_false_eq_true, Int.toNat_natCast, jl_0, jl_1, jl_2, jl_3, jl_4, jl_5, jl_6, jl_9, jl_10, jl_15, jl_19, jl_30, jl_500, jl_999, jl_m1, jl_m500, i64_of, ↓f6_within_eq, f6_within_eq]
theorem day_body (cX : ClX PX) (h : RelS PX PM σ SX SM) {k i n len : Nat} (hk : k < 4) (hlen : len ≤ 60) (hi : i + n ≤ len) (g7 : ∀ i, i < len → SX.1 (20 + k) i = SM.1 3 (60 * k + i)) (c2 : ¬ σ 0 0 = 0) {z : Int} (hz : (0 ≤ z ∧ z ≤ 4) ∨ (10 ≤ z ∧ z ≤ 15)) : ∃ r SX' SM', f5_day_J79 k (iI i) (iI n) (iI z) (iI 0) SX (fun r u => some (r, u)) = some (r, SX') ∧ f6_day_L109 (iI n) (iI z) (iI (60 * k + i : Nat)) (fun r u => some (r, u)) (fun v8_18 S17 => f6_goDay (iI (60 * k + i : Nat)) (iI n) S17 fun r20 S19 => if iI z = iI 1 then some (r20, S19) else (if r20 = iI (-9) then (f6_tellDay (iI z) S19 fun r22 S21 => some (r22, S21)) else some (iI (-100) - r20, S19))) FU (iI 0) SM = some (r, SM') ∧ RelS PX PM σ SX' SM' := by
  have hn := h.1.1
  have hX := h.2.1
  have hM := h.2.2.1
  have hzz : ∀ p, rg ((fun p => (SX.1 (20 + k) (i + p)).toInt) p) := fun p => ⟨Int32.le_toInt _, Int32.toInt_lt _⟩
  have hcx : ∀ p, p < n → SX.1 (20 + k) (i + p) = iI ((fun p => (SX.1 (20 + k) (i + p)).toInt) p) := fun p hp => (Int32.ofInt_toInt _).symm
  have hcm : ∀ p, p < n → SM.1 3 (60 * k + i + p) = iI ((fun p => (SX.1 (20 + k) (i + p)).toInt) p) := fun p hp => by
    rw [← hcx p hp, g7 (i + p) (by omega), Nat.add_assoc]
  have i60 : iI z = iI 1 ↔ z = 1 := iI_eq ⟨by omega, by omega⟩ ⟨by omega, by omega⟩
  generalize (fun p => (SX.1 (20 + k) (i + p)).toInt) = zc at hzz hcx hcm
  have xa := X_are (α := Int32 × MS) zc hzz k i n (by omega) hcx
  have ma := M_are (α := Int32 × MS) zc hzz (60 * k + i) n (iI z) (by omega) (by omega) hcm
  by_cases hall : ∀ p, 0 ≤ p → p < n → 0 ≤ zc p ∧ zc p ≤ 5
  · have hd : ∀ p, p < n → SX.1 (20 + k) (i + p) = iI ((zc p).toNat : Nat) ∧ (zc p).toNat < 6 := fun p hp => by
      have := hall p (by omega) hp
      rw [hcx p hp, show (((zc p).toNat : Nat) : Int) = zc p by omega]
      exact ⟨rfl, by omega⟩
    have hdm : ∀ p, p < n → SM.1 3 (60 * k + i + p) = iI ((zc p).toNat : Nat) ∧ (zc p).toNat < 6 := fun p hp => by
      have := hall p (by omega) hp
      rw [hcm p hp, show (((zc p).toNat : Nat) : Int) = zc p by omega]
      exact ⟨rfl, by omega⟩
    obtain ⟨S1, s1, e1⟩ := X_first h.1 (fun p => (zc p).toNat) k i n hk (by omega) n 0 (σ 0 1) SX (by omega) h.1.2.1 hX hd
    obtain ⟨S2, s2, w2, e2⟩ := M_first h.1 (fun p => (zc p).toNat) (60 * k + i) n (by omega) (by omega) n 0 (σ 0 1) (sI SM 0 32 (iI (σ 0 1))) (by omega) h.1.2.1 ((ScM.s32 SM _).sh hM) (sI_same _ _ _ _) (fun p hp => by rw [sI_cell _ _ _ (by omega)]; exact hdm p hp)
    have hr := rel_sc cX h s1 ((ScM.s32 SM _).tr s2)
    have xf : ∀ K : Int32 → MS → Option (Int32 × MS), f5_day_J79 k (iI i) (iI n) (iI z) (iI 0) SX K = f5_firstWrong k (iI i) (iI n) SX fun r16 S15 => if iI z = iI 1 then (K r16 S15) else (if r16 = iI (-9) then (f5_watersBehind k (iI i) (iI n) S15 fun r18 S17 => f5_ofWaters r18 (iI z) S17 fun r20 S19 => K r20 S19) else (K (iI (-100) - r16) S15)) := by
      intro K
      unfold f5_day_J79
      rw [if_pos (show iI 0 = (0 : Int32) from rfl), f5_hasNoShip_eq hn hX.1, if_neg c2, if_pos rfl]
      unfold f5_areTankNumbers
      have := (xa (fun r14 S13 => if r14 = iI 0 then K (-2) S13 else f5_firstWrong k (iI i) (iI n) S13 fun r16 S15 => if iI z = iI 1 then (K r16 S15) else (if r16 = iI (-9) then (f5_watersBehind k (iI i) (iI n) S15 fun r18 S17 => f5_ofWaters r18 (iI z) S17 fun r20 S19 => K r20 S19) else (K (iI (-100) - r16) S15))) (fun v3 S4 => (fun r14 S13 => if r14 = iI 0 then K (-2) S13 else f5_firstWrong k (iI i) (iI n) S13 fun r16 S15 => if iI z = iI 1 then (K r16 S15) else (if r16 = iI (-9) then (f5_watersBehind k (iI i) (iI n) S15 fun r18 S17 => f5_ofWaters r18 (iI z) S17 fun r20 S19 => K r20 S19) else (K (iI (-100) - r16) S15))) 1 S4) n 0 FU (by omega) (by rw [FU_eq]; omega)).1 hall
      rw [Nat.add_zero] at this
      exact this
    have xr := e1 (Int32 × MS) (fun r16 S15 => if iI z = iI 1 then (some (r16, S15)) else (if r16 = iI (-9) then (f5_watersBehind k (iI i) (iI n) S15 fun r18 S17 => f5_ofWaters r18 (iI z) S17 fun r20 S19 => some (r20, S19)) else (some (iI (-100) - r16, S15)))) (fun _ _ S11 => if iI z = iI 1 then (some (iI (-9), S11)) else (if iI (-9) = iI (-9) then (f5_watersBehind k (iI i) (iI n) S11 fun r18 S17 => f5_ofWaters r18 (iI z) S17 fun r20 S19 => some (r20, S19)) else (some (iI (-100) - iI (-9), S11)))) FU (by rw [FU_eq]; omega)
    have mr := e2 (Int32 × MS) (fun r20 S19 => if iI z = iI 1 then some (r20, S19) else (if r20 = iI (-9) then (f6_tellDay (iI z) S19 fun r22 S21 => some (r22, S21)) else some (iI (-100) - r20, S19))) (fun _ S12 => if iI z = iI 1 then some (iI (-9), S12) else (if iI (-9) = iI (-9) then (f6_tellDay (iI z) S12 fun r22 S21 => some (r22, S21)) else some (iI (-100) - iI (-9), S12))) FU (by rw [FU_eq]; omega)
    have xg : f5_day_J79 k (iI i) (iI n) (iI z) (iI 0) SX (fun r u => some (r, u)) = f5_firstWrong_L12 k (iI i) (iI n) (fun r16 S15 => if iI z = iI 1 then (some (r16, S15)) else (if r16 = iI (-9) then (f5_watersBehind k (iI i) (iI n) S15 fun r18 S17 => f5_ofWaters r18 (iI z) S17 fun r20 S19 => some (r20, S19)) else (some (iI (-100) - r16, S15)))) (fun _ _ S11 => if iI z = iI 1 then (some (iI (-9), S11)) else (if iI (-9) = iI (-9) then (f5_watersBehind k (iI i) (iI n) S11 fun r18 S17 => f5_ofWaters r18 (iI z) S17 fun r20 S19 => some (r20, S19)) else (some (iI (-100) - iI (-9), S11)))) FU (iI (σ 0 1)) (iI (0 : Nat)) SX := by
      rw [xf]
      unfold f5_firstWrong
      rw [nm_eq, hX.2.1]
      rfl
    have mg : ∀ KK : Int32 → MS → Option (Int32 × MS), f6_day_L109 (iI n) (iI z) (iI (60 * k + i : Nat)) KK (fun v8_18 S17 => f6_goDay (iI (60 * k + i : Nat)) (iI n) S17 fun r20 S19 => if iI z = iI 1 then some (r20, S19) else (if r20 = iI (-9) then (f6_tellDay (iI z) S19 fun r22 S21 => some (r22, S21)) else some (iI (-100) - r20, S19))) FU (iI 0) SM = f6_goDay_L10 (iI (60 * k + i : Nat)) (iI n) (fun r20 S19 => if iI z = iI 1 then some (r20, S19) else (if r20 = iI (-9) then (f6_tellDay (iI z) S19 fun r22 S21 => some (r22, S21)) else some (iI (-100) - r20, S19))) (fun _ S12 => if iI z = iI 1 then some (iI (-9), S12) else (if iI (-9) = iI (-9) then (f6_tellDay (iI z) S12 fun r22 S21 => some (r22, S21)) else some (iI (-100) - iI (-9), S12))) FU (iI (0 : Nat)) (sI SM 0 32 (iI (σ 0 1))) := by
      intro KK
      have := (ma KK (fun v8_18 S17 => f6_goDay (iI (60 * k + i : Nat)) (iI n) S17 fun r20 S19 => if iI z = iI 1 then some (r20, S19) else (if r20 = iI (-9) then (f6_tellDay (iI z) S19 fun r22 S21 => some (r22, S21)) else some (iI (-100) - r20, S19))) n 0 FU (by omega) (by rw [FU_eq]; omega)).1 hall
      rw [show iI 0 = iI ((0 : Nat) : Int) from rfl, this]
      unfold f6_goDay
      rw [nm_eq, hM.2.1]
      rfl
    rw [xg, mg, xr, mr]
    cases hdy : dyR σ (fun p => (zc p).toNat) n 0 (σ 0 1) with
    | inl c =>
      dsimp only
      have hc60 : ∀ (m q w : Nat), q + m = n → dyR σ (fun p => (zc p).toNat) m q w = Sum.inl c → c < n := by
        intro m
        induction m with
        | zero => intro q w hq e; cases e
        | succ m ih =>
          intro q w hq e
          by_cases hp : (zc q).toNat < σ 0 0 ∧ CanP σ w (zc q).toNat
          · rw [dyR, if_pos hp] at e; exact ih _ _ (by omega) e
          · rw [dyR, if_neg hp] at e; cases e; omega
      have hc := hc60 n 0 _ (by omega) hdy
      have e9 : ¬ iI (c : Int) = iI (-9) := fun q => by have := (iI_eq ⟨by omega, by omega⟩ ⟨by omega, by omega⟩).mp q; omega
      by_cases hz1 : z = 1
      · exact ⟨_, _, _, by rw [if_pos (i60.mpr hz1)], by rw [if_pos (i60.mpr hz1)], hr⟩
      · exact ⟨_, _, _, by rw [if_neg (fun q => hz1 (i60.mp q)), if_neg e9], by rw [if_neg (fun q => hz1 (i60.mp q)), if_neg e9], hr⟩
    | inr w' =>
      dsimp only
      have h32 := w2 w' hdy
      have hw' := dyR_lt h.1 _ _ _ _ _ h.1.2.1 hdy
      by_cases hz1 : z = 1
      · exact ⟨_, _, _, by rw [if_pos (i60.mpr hz1)], by rw [if_pos (i60.mpr hz1)], hr⟩
      · obtain ⟨r, SX', SM', t1, t2, t3⟩ := day_tell cX hr hw' h32 hz hz1
        refine ⟨r, SX', SM', ?_, ?_, t3⟩
        · rw [if_neg (fun q => hz1 (i60.mp q)), if_pos rfl]
          unfold f5_watersBehind
          rw [nm_eq, hr.2.1.2.1]
          have := X_behind h.1 (fun p => (zc p).toNat) k i n (by omega) (S := S1) (fun p hp => by rw [s1.cell (by omega) (by omega)]; exact hd p hp) (fun v4_7 v5_8 S6 => f5_ofWaters v4_7 (iI z) S6 fun r20 S19 => some (r20, S19)) w' n 0 (σ 0 1) FU (by omega) h.1.2.1 (by rw [FU_eq]; omega) hdy
          rw [Nat.add_zero] at this
          rw [this]
          exact t1
        · rw [if_neg (fun q => hz1 (i60.mp q)), if_pos rfl]
          exact t2
  · refine ⟨iI (-2), SX, SM, ?_, ?_, h⟩
    · unfold f5_day_J79
      rw [if_pos (show iI 0 = (0 : Int32) from rfl), f5_hasNoShip_eq hn hX.1, if_neg c2, if_pos rfl]
      unfold f5_areTankNumbers
      have := (xa (fun r14 S13 => if r14 = iI 0 then some (-2, S13) else f5_firstWrong k (iI i) (iI n) S13 fun r16 S15 => if iI z = iI 1 then (some (r16, S15)) else (if r16 = iI (-9) then (f5_watersBehind k (iI i) (iI n) S15 fun r18 S17 => f5_ofWaters r18 (iI z) S17 fun r20 S19 => some (r20, S19)) else (some (iI (-100) - r16, S15)))) (fun v3 S4 => (fun r14 S13 => if r14 = iI 0 then some (-2, S13) else f5_firstWrong k (iI i) (iI n) S13 fun r16 S15 => if iI z = iI 1 then (some (r16, S15)) else (if r16 = iI (-9) then (f5_watersBehind k (iI i) (iI n) S15 fun r18 S17 => f5_ofWaters r18 (iI z) S17 fun r20 S19 => some (r20, S19)) else (some (iI (-100) - r16, S15)))) 1 S4) n 0 FU (by omega) (by rw [FU_eq]; omega)).2 hall
      rw [Nat.add_zero] at this
      exact this.trans (by rw [if_pos rfl]; rfl)
    · rw [show iI 0 = iI ((0 : Nat) : Int) from rfl]
      exact (ma _ _ n 0 FU (by omega) (by rw [FU_eq]; omega)).2 hall
end Ops11
