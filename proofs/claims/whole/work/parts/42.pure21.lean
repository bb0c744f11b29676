/-! PURE PART 21: the day, whole -/
theorem f5_isAskedOfDay_eq {α : Type} {z : Int} (hz : rg z) (S : MS) (K : Int32 → MS → Option α) : f5_isAskedOfDay (iI z) S K = if (0 ≤ z ∧ z ≤ 4) ∨ (10 ≤ z ∧ z ≤ 15) then K 1 S else K 0 S := by
  unfold f5_isAskedOfDay
  rw [show (0 : Int32) = iI 0 from rfl, show (10 : Int32) = iI 10 from rfl, show (16 : Int32) = iI 16 from rfl, show (4 : Int32) = iI 4 from rfl, ite_lt ⟨hz, by decide⟩, ite_lt ⟨hz, by decide⟩, ite_le ⟨by decide, hz⟩, ite_le ⟨hz, by decide⟩]
  by_cases a : z < 0
  · rw [if_pos a, if_pos (by omega), if_neg (by omega)]
  · rw [if_neg a]
    by_cases b : z ≤ 4
    · rw [if_pos b, if_pos (by omega)]
    · rw [if_neg b]
      by_cases c : z < 10
      · rw [if_pos c, if_neg (by omega)]
      · rw [if_neg c]
        by_cases d : 16 ≤ z
        · rw [if_pos d, if_neg (by omega)]
        · rw [if_neg d, if_pos (by omega)]
theorem f6_within64 {α : Type} {z : Int} (hz : rg z) {a b : Int} (ha : rg a) (hb : rg b) (S : MS) (K : Int32 → MS → Option α) : f6_within (Int32.toInt64 (iI z)) (Int64.ofInt a) (Int64.ofInt b) S K = if a ≤ z ∧ z ≤ b then K 1 S else K 0 S := by
  rw [i64_of hz, f6_within_eq hz ha hb]
section Ops12
variable {PX PM : Sg → MS → Prop} {σ : Sg} {SX SM : MS}
theorem sim_day (cX : ClX PX) (a b c d e : Int32) : SimI (RelP PX PM) (f5_day a b c d e) (f6_day a b c d e) := by
  intro SX0 SM0 ⟨σ, h0⟩
  obtain ⟨z1, rfl, hz1⟩ := iI_of a
  obtain ⟨z2, rfl, hz2⟩ := iI_of b
  obtain ⟨z3, rfl, hz3⟩ := iI_of c
  obtain ⟨z4, rfl, hz4⟩ := iI_of d
  obtain ⟨z5, rfl, hz5⟩ := iI_of e
  have h := rel_fault cX h0 (iI 0)
  have hn := h.1.1
  have fin : ∀ {x y : Option (Int32 × MS)}, (∃ r SX' SM', x = some (r, SX') ∧ y = some (r, SM') ∧ RelS PX PM σ SX' SM') → ∃ r SX2 SM2, x = some (r, SX2) ∧ y = some (r, SM2) ∧ RelP PX PM SX2 SM2 := fun ⟨r, u, v, q1, q2, q3⟩ => ⟨r, u, v, q1, q2, σ, q3⟩
  apply fin
  by_cases c1 : 0 ≤ z1 ∧ z1 < 4
  · obtain ⟨k, rfl⟩ : ∃ k : Nat, z1 = k := ⟨z1.toNat, by omega⟩
    have hk : k < 4 := by omega
    by_cases c2 : (0 ≤ z2 ∧ z2 < 3) ∧ (0 ≤ z4 ∧ z4 ≤ 30)
    · by_cases c3 : (0 ≤ z5 ∧ z5 ≤ 4) ∨ (10 ≤ z5 ∧ z5 ≤ 15)
      · obtain ⟨n, rfl⟩ : ∃ n : Nat, z4 = n := ⟨z4.toNat, by omega⟩
        have fX : ∀ K : Int32 → MS → Option (Int32 × MS), f5_day (iI k) (iI z2) (iI z3) (iI n) (iI z5) SX0 K = f1_faultAs k (iI z2) (sI SX0 0 6 (iI 0)) fun r10 S9 => if r10 = iI 0 then (f1_hasCells k (iI z3) (iI n) S9 fun r24 S23 => if r24 = iI 0 then (f5_day_J79 k (iI z3) (iI n) (iI z5) (iI 3) S23 K) else (f5_day_J79 k (iI z3) (iI n) (iI z5) r10 S23 K)) else (f5_day_J79 k (iI z3) (iI n) (iI z5) r10 S9 K) := by
          intro K
          unfold f5_day
          rw [nm_eq, f5_isSheet_eq hz1, if_pos c1, if_neg (by decide), f5_isLane_eq hz2, if_pos c2.1, if_neg (by decide), show (0 : Int32) = iI 0 from rfl, ite_lt ⟨hz4, by decide⟩, if_neg (by omega), show (30 : Int32) = iI 30 from rfl, ite_lt ⟨by decide, hz4⟩, if_neg (by omega), f5_isAskedOfDay_eq hz5, if_pos c3, if_neg (by decide), ck_nat hk (by omega)]
          rfl
        have fM : ∀ K : Int32 → MS → Option (Int32 × MS), f6_day (iI k) (iI z2) (iI z3) (iI n) (iI z5) SM0 K = f6_day_J65 (iI k) (iI z2) (iI z3) (iI n) (iI z5) (sI SM0 0 0 (iI 0)) K := by
          intro K
          unfold f6_day
          rw [nm_eq, f6_isSheet_eq hz1, if_pos c1, if_neg (by decide), f6_isSort_eq hz2, if_pos c2.1, if_neg (by decide), show (0 : Int64) = Int64.ofInt 0 from rfl, show (30 : Int64) = Int64.ofInt 30 from rfl, show (4 : Int64) = Int64.ofInt 4 from rfl, show (10 : Int64) = Int64.ofInt 10 from rfl, show (15 : Int64) = Int64.ofInt 15 from rfl, f6_within64 hz4 (by decide) (by decide), if_pos c2.2, if_neg (by decide), f6_within64 hz5 (by decide) (by decide)]
          by_cases c4 : 0 ≤ z5 ∧ z5 ≤ 4
          · rw [if_pos c4, if_neg (by decide)]; rfl
          · rw [if_neg c4, if_pos (by decide), f6_within64 hz5 (by decide) (by decide), if_pos (by omega), if_neg (by decide)]; rfl
        rw [fX, fM]
        generalize sI SX0 0 6 (iI 0) = SX at h
        generalize sI SM0 0 0 (iI 0) = SM at h
        rcases h.2.2.2.2.2.2.1 k hk with ⟨g1, g2⟩ | ⟨la, len, g1, g2, g3, g4, g5, g6, g7⟩
        · refine ⟨iI (-10 - 1), _, _, ?_, ?_, rel_fault cX h (iI 1)⟩
          · unfold f1_faultAs f1_isNothing f5_day_J79
            simp (disch := omega) only [g1, ↓f5_faulted_eq, f5_faulted_eq, ↓reduceIte, ↓nm_eq, ↓ck_in, ck_in, il_0, il_1, il_2, il_3, il_4, il_5, il_6, il_7, il_8, il_9, il_10, il_15, il_20, il_31, il_30, il_37, il_48, il_49, il_54, il_57, il_59, il_60, il_68, il_80, il_87, il_99, il_100, il_101, il_111, il_112, il_115, il_243, il_500, il_729, il_999, il_1000, il_10000, il_m1, il_m2, il_m3, il_m4, il_m9, il_m10, il_m100, il_m500, iI_le', iI_lt', iI_eq', iI_add, iI_sub, iI_mul, iI_neg, dc_ltT, dc_ltF, dc_leT, dc_leF, dc_eqT, dc_eqF, ↓dc_andT, ↓dc_andF, dc_andT, dc_andF, and_self, and_true, true_and, and_false, false_and, or_self, or_true, true_or, or_false, false_or, not_true_eq_false, not_false_eq_true, Int.toNat_natCast, jl_0, jl_1, jl_2, jl_3, jl_4, jl_5, jl_6, jl_9, jl_10, jl_15, jl_19, jl_30, jl_500, jl_999, jl_m1, jl_m500, i64_of, ↓f6_within_eq, f6_within_eq]
          · unfold f6_day_J65 f6_against f6_against_J23
            simp (disch := omega) only [g2, ↓f6_fails_eq, f6_fails_eq, ↓reduceIte, ↓nm_eq, ↓ck_in, ck_in, il_0, il_1, il_2, il_3, il_4, il_5, il_6, il_7, il_8, il_9, il_10, il_15, il_20, il_31, il_30, il_37, il_48, il_49, il_54, il_57, il_59, il_60, il_68, il_80, il_87, il_99, il_100, il_101, il_111, il_112, il_115, il_243, il_500, il_729, il_999, il_1000, il_10000, il_m1, il_m2, il_m3, il_m4, il_m9, il_m10, il_m100, il_m500, iI_le', iI_lt', iI_eq', iI_add, iI_sub, iI_mul, iI_neg, dc_ltT, dc_ltF, dc_leT, dc_leF, dc_eqT, dc_eqF, ↓dc_andT, ↓dc_andF, dc_andT, dc_andF, and_self, and_true, true_and, and_false, false_and, or_self, or_true, true_or, or_false, false_or, not_true_eq_false, not_false_eq_true, Int.toNat_natCast, jl_0, jl_1, jl_2, jl_3, jl_4, jl_5, jl_6, jl_9, jl_10, jl_15, jl_19, jl_30, jl_500, jl_999, jl_m1, jl_m500, i64_of, ↓f6_within_eq, f6_within_eq]
        · by_cases c5 : z2 = la
          · subst c5
            by_cases c6 : 0 ≤ z3 ∧ z3 + n ≤ len
            · obtain ⟨i, rfl⟩ : ∃ i : Nat, z3 = i := ⟨z3.toNat, by omega⟩
              have xE : ∀ K : Int32 → MS → Option (Int32 × MS), (f1_faultAs k (iI la) SX fun r10 S9 => if r10 = iI 0 then (f1_hasCells k (iI i) (iI n) S9 fun r24 S23 => if r24 = iI 0 then (f5_day_J79 k (iI i) (iI n) (iI z5) (iI 3) S23 K) else (f5_day_J79 k (iI i) (iI n) (iI z5) r10 S23 K)) else (f5_day_J79 k (iI i) (iI n) (iI z5) r10 S9 K)) = f5_day_J79 k (iI i) (iI n) (iI z5) (iI 0) SX K := by
                intro K
                unfold f1_faultAs f1_isNothing f1_hasCells
                simp (disch := omega) only [g3, g5, ↓reduceIte, ↓nm_eq, ↓ck_in, ck_in, il_0, il_1, il_2, il_3, il_4, il_5, il_6, il_7, il_8, il_9, il_10, il_15, il_20, il_31, il_30, il_37, il_48, il_49, il_54, il_57, il_59, il_60, il_68, il_80, il_87, il_99, il_100, il_101, il_111, il_112, il_115, il_243, il_500, il_729, il_999, il_1000, il_10000, il_m1, il_m2, il_m3, il_m4, il_m9, il_m10, il_m100, il_m500, iI_le', iI_lt', iI_eq', iI_add, iI_sub, iI_mul, iI_neg, dc_ltT, dc_ltF, dc_leT, dc_leF, dc_eqT, dc_eqF, ↓dc_andT, ↓dc_andF, dc_andT, dc_andF, and_self, and_true, true_and, and_false, false_and, or_self, or_true, true_or, or_false, false_or, not_true_eq_false, not_false_eq_true, Int.toNat_natCast, jl_0, jl_1, jl_2, jl_3, jl_4, jl_5, jl_6, jl_9, jl_10, jl_15, jl_19, jl_30, jl_500, jl_999, jl_m1, jl_m500, i64_of, ↓f6_within_eq, f6_within_eq]
              have mA : ∀ K : Int32 → MS → Option (Int32 × MS), f6_against (iI k) (iI la) (iI i) (iI n) SM K = K (iI 0) SM := by
                intro K
                unfold f6_against f6_against_J23
                simp (disch := omega) only [g4, g6, ↓reduceIte, ↓nm_eq, ↓ck_in, ck_in, il_0, il_1, il_2, il_3, il_4, il_5, il_6, il_7, il_8, il_9, il_10, il_15, il_20, il_31, il_30, il_37, il_48, il_49, il_54, il_57, il_59, il_60, il_68, il_80, il_87, il_99, il_100, il_101, il_111, il_112, il_115, il_243, il_500, il_729, il_999, il_1000, il_10000, il_m1, il_m2, il_m3, il_m4, il_m9, il_m10, il_m100, il_m500, iI_le', iI_lt', iI_eq', iI_add, iI_sub, iI_mul, iI_neg, dc_ltT, dc_ltF, dc_leT, dc_leF, dc_eqT, dc_eqF, ↓dc_andT, ↓dc_andF, dc_andT, dc_andF, and_self, and_true, true_and, and_false, false_and, or_self, or_true, true_or, or_false, false_or, not_true_eq_false, not_false_eq_true, Int.toNat_natCast, jl_0, jl_1, jl_2, jl_3, jl_4, jl_5, jl_6, jl_9, jl_10, jl_15, jl_19, jl_30, jl_500, jl_999, jl_m1, jl_m500, i64_of, ↓f6_within_eq, f6_within_eq]
              have hM1 := h.2.2.1.1
              rw [xE]
              by_cases c7 : σ 0 0 = 0
              · refine ⟨iI (-3), SX, SM, ?_, ?_, h⟩
                · unfold f5_day_J79
                  rw [if_pos (show iI 0 = (0 : Int32) from rfl), f5_hasNoShip_eq hn h.2.1.1, if_pos c7, if_neg (by decide)]
                  rfl
                · unfold f6_day_J65
                  rw [mA, if_pos (show iI 0 = (0 : Int32) from rfl), hM1, c7]
                  rfl
              · obtain ⟨r, SX', SM', t1, t2, t3⟩ := day_body cX h hk g2 (show i + n ≤ len by omega) g7 c7 c3
                refine ⟨r, SX', SM', t1, ?_, t3⟩
                unfold f6_day_J65
                rw [mA, if_pos (show iI 0 = (0 : Int32) from rfl), hM1, show (0 : Int32) = iI 0 from rfl, ite_eq ⟨⟨by omega, by omega⟩, by decide⟩, if_neg (by omega), nm_eq, show (60 : Int32) = iI 60 from rfl, iI_mul, iI_add, show ((60 : Int) * (k : Int) + (i : Int)) = ((60 * k + i : Nat) : Int) by omega]
                exact t2
            · refine ⟨iI (-10 - 3), _, _, ?_, ?_, rel_fault cX h (iI 3)⟩
              · unfold f1_faultAs f1_isNothing f1_hasCells f5_day_J79
                by_cases d1 : z3 < 0
                · simp (disch := omega) only [g3, g5, ↓f5_faulted_eq, f5_faulted_eq, ↓reduceIte, ↓nm_eq, ↓ck_in, ck_in, il_0, il_1, il_2, il_3, il_4, il_5, il_6, il_7, il_8, il_9, il_10, il_15, il_20, il_31, il_30, il_37, il_48, il_49, il_54, il_57, il_59, il_60, il_68, il_80, il_87, il_99, il_100, il_101, il_111, il_112, il_115, il_243, il_500, il_729, il_999, il_1000, il_10000, il_m1, il_m2, il_m3, il_m4, il_m9, il_m10, il_m100, il_m500, iI_le', iI_lt', iI_eq', iI_add, iI_sub, iI_mul, iI_neg, dc_ltT, dc_ltF, dc_leT, dc_leF, dc_eqT, dc_eqF, ↓dc_andT, ↓dc_andF, dc_andT, dc_andF, and_self, and_true, true_and, and_false, false_and, or_self, or_true, true_or, or_false, false_or, not_true_eq_false, not_false_eq_true, Int.toNat_natCast, jl_0, jl_1, jl_2, jl_3, jl_4, jl_5, jl_6, jl_9, jl_10, jl_15, jl_19, jl_30, jl_500, jl_999, jl_m1, jl_m500, i64_of, ↓f6_within_eq, f6_within_eq]
                · by_cases d2 : (len : Int) < z3
                  · simp (disch := omega) only [g3, g5, ↓f5_faulted_eq, f5_faulted_eq, ↓reduceIte, ↓nm_eq, ↓ck_in, ck_in, il_0, il_1, il_2, il_3, il_4, il_5, il_6, il_7, il_8, il_9, il_10, il_15, il_20, il_31, il_30, il_37, il_48, il_49, il_54, il_57, il_59, il_60, il_68, il_80, il_87, il_99, il_100, il_101, il_111, il_112, il_115, il_243, il_500, il_729, il_999, il_1000, il_10000, il_m1, il_m2, il_m3, il_m4, il_m9, il_m10, il_m100, il_m500, iI_le', iI_lt', iI_eq', iI_add, iI_sub, iI_mul, iI_neg, dc_ltT, dc_ltF, dc_leT, dc_leF, dc_eqT, dc_eqF, ↓dc_andT, ↓dc_andF, dc_andT, dc_andF, and_self, and_true, true_and, and_false, false_and, or_self, or_true, true_or, or_false, false_or, not_true_eq_false, not_false_eq_true, Int.toNat_natCast, jl_0, jl_1, jl_2, jl_3, jl_4, jl_5, jl_6, jl_9, jl_10, jl_15, jl_19, jl_30, jl_500, jl_999, jl_m1, jl_m500, i64_of, ↓f6_within_eq, f6_within_eq]
                  · simp (disch := omega) only [g3, g5, ↓f5_faulted_eq, f5_faulted_eq, ↓reduceIte, ↓nm_eq, ↓ck_in, ck_in, il_0, il_1, il_2, il_3, il_4, il_5, il_6, il_7, il_8, il_9, il_10, il_15, il_20, il_31, il_30, il_37, il_48, il_49, il_54, il_57, il_59, il_60, il_68, il_80, il_87, il_99, il_100, il_101, il_111, il_112, il_115, il_243, il_500, il_729, il_999, il_1000, il_10000, il_m1, il_m2, il_m3, il_m4, il_m9, il_m10, il_m100, il_m500, iI_le', iI_lt', iI_eq', iI_add, iI_sub, iI_mul, iI_neg, dc_ltT, dc_ltF, dc_leT, dc_leF, dc_eqT, dc_eqF, ↓dc_andT, ↓dc_andF, dc_andT, dc_andF, and_self, and_true, true_and, and_false, false_and, or_self, or_true, true_or, or_false, false_or, not_true_eq_false, not_false_eq_true, Int.toNat_natCast, jl_0, jl_1, jl_2, jl_3, jl_4, jl_5, jl_6, jl_9, jl_10, jl_15, jl_19, jl_30, jl_500, jl_999, jl_m1, jl_m500, i64_of, ↓f6_within_eq, f6_within_eq]
              · unfold f6_day_J65 f6_against f6_against_J23
                by_cases d1 : z3 < 0
                · simp (disch := omega) only [g4, g6, ↓f6_fails_eq, f6_fails_eq, ↓reduceIte, ↓nm_eq, ↓ck_in, ck_in, il_0, il_1, il_2, il_3, il_4, il_5, il_6, il_7, il_8, il_9, il_10, il_15, il_20, il_31, il_30, il_37, il_48, il_49, il_54, il_57, il_59, il_60, il_68, il_80, il_87, il_99, il_100, il_101, il_111, il_112, il_115, il_243, il_500, il_729, il_999, il_1000, il_10000, il_m1, il_m2, il_m3, il_m4, il_m9, il_m10, il_m100, il_m500, iI_le', iI_lt', iI_eq', iI_add, iI_sub, iI_mul, iI_neg, dc_ltT, dc_ltF, dc_leT, dc_leF, dc_eqT, dc_eqF, ↓dc_andT, ↓dc_andF, dc_andT, dc_andF, and_self, and_true, true_and, and_false, false_and, or_self, or_true, true_or, or_false, false_or, not_true_eq_false, not_false_eq_true, Int.toNat_natCast, jl_0, jl_1, jl_2, jl_3, jl_4, jl_5, jl_6, jl_9, jl_10, jl_15, jl_19, jl_30, jl_500, jl_999, jl_m1, jl_m500, i64_of, ↓f6_within_eq, f6_within_eq]
                · by_cases d2 : (len : Int) < z3
                  · simp (disch := omega) only [g4, g6, ↓f6_fails_eq, f6_fails_eq, ↓reduceIte, ↓nm_eq, ↓ck_in, ck_in, il_0, il_1, il_2, il_3, il_4, il_5, il_6, il_7, il_8, il_9, il_10, il_15, il_20, il_31, il_30, il_37, il_48, il_49, il_54, il_57, il_59, il_60, il_68, il_80, il_87, il_99, il_100, il_101, il_111, il_112, il_115, il_243, il_500, il_729, il_999, il_1000, il_10000, il_m1, il_m2, il_m3, il_m4, il_m9, il_m10, il_m100, il_m500, iI_le', iI_lt', iI_eq', iI_add, iI_sub, iI_mul, iI_neg, dc_ltT, dc_ltF, dc_leT, dc_leF, dc_eqT, dc_eqF, ↓dc_andT, ↓dc_andF, dc_andT, dc_andF, and_self, and_true, true_and, and_false, false_and, or_self, or_true, true_or, or_false, false_or, not_true_eq_false, not_false_eq_true, Int.toNat_natCast, jl_0, jl_1, jl_2, jl_3, jl_4, jl_5, jl_6, jl_9, jl_10, jl_15, jl_19, jl_30, jl_500, jl_999, jl_m1, jl_m500, i64_of, ↓f6_within_eq, f6_within_eq]
                  · simp (disch := omega) only [g4, g6, ↓f6_fails_eq, f6_fails_eq, ↓reduceIte, ↓nm_eq, ↓ck_in, ck_in, il_0, il_1, il_2, il_3, il_4, il_5, il_6, il_7, il_8, il_9, il_10, il_15, il_20, il_31, il_30, il_37, il_48, il_49, il_54, il_57, il_59, il_60, il_68, il_80, il_87, il_99, il_100, il_101, il_111, il_112, il_115, il_243, il_500, il_729, il_999, il_1000, il_10000, il_m1, il_m2, il_m3, il_m4, il_m9, il_m10, il_m100, il_m500, iI_le', iI_lt', iI_eq', iI_add, iI_sub, iI_mul, iI_neg, dc_ltT, dc_ltF, dc_leT, dc_leF, dc_eqT, dc_eqF, ↓dc_andT, ↓dc_andF, dc_andT, dc_andF, and_self, and_true, true_and, and_false, false_and, or_self, or_true, true_or, or_false, false_or, not_true_eq_false, not_false_eq_true, Int.toNat_natCast, jl_0, jl_1, jl_2, jl_3, jl_4, jl_5, jl_6, jl_9, jl_10, jl_15, jl_19, jl_30, jl_500, jl_999, jl_m1, jl_m500, i64_of, ↓f6_within_eq, f6_within_eq]
          · refine ⟨iI (-10 - 2), _, _, ?_, ?_, rel_fault cX h (iI 2)⟩
            · unfold f1_faultAs f1_isNothing f5_day_J79
              simp (disch := omega) only [g3, ↓f5_faulted_eq, f5_faulted_eq, ↓reduceIte, ↓nm_eq, ↓ck_in, ck_in, il_0, il_1, il_2, il_3, il_4, il_5, il_6, il_7, il_8, il_9, il_10, il_15, il_20, il_31, il_30, il_37, il_48, il_49, il_54, il_57, il_59, il_60, il_68, il_80, il_87, il_99, il_100, il_101, il_111, il_112, il_115, il_243, il_500, il_729, il_999, il_1000, il_10000, il_m1, il_m2, il_m3, il_m4, il_m9, il_m10, il_m100, il_m500, iI_le', iI_lt', iI_eq', iI_add, iI_sub, iI_mul, iI_neg, dc_ltT, dc_ltF, dc_leT, dc_leF, dc_eqT, dc_eqF, ↓dc_andT, ↓dc_andF, dc_andT, dc_andF, and_self, and_true, true_and, and_false, false_and, or_self, or_true, true_or, or_false, false_or, not_true_eq_false, not_false_eq_true, Int.toNat_natCast, jl_0, jl_1, jl_2, jl_3, jl_4, jl_5, jl_6, jl_9, jl_10, jl_15, jl_19, jl_30, jl_500, jl_999, jl_m1, jl_m500, i64_of, ↓f6_within_eq, f6_within_eq]
            · unfold f6_day_J65 f6_against f6_against_J23
              simp (disch := omega) only [g4, ↓f6_fails_eq, f6_fails_eq, ↓reduceIte, ↓nm_eq, ↓ck_in, ck_in, il_0, il_1, il_2, il_3, il_4, il_5, il_6, il_7, il_8, il_9, il_10, il_15, il_20, il_31, il_30, il_37, il_48, il_49, il_54, il_57, il_59, il_60, il_68, il_80, il_87, il_99, il_100, il_101, il_111, il_112, il_115, il_243, il_500, il_729, il_999, il_1000, il_10000, il_m1, il_m2, il_m3, il_m4, il_m9, il_m10, il_m100, il_m500, iI_le', iI_lt', iI_eq', iI_add, iI_sub, iI_mul, iI_neg, dc_ltT, dc_ltF, dc_leT, dc_leF, dc_eqT, dc_eqF, ↓dc_andT, ↓dc_andF, dc_andT, dc_andF, and_self, and_true, true_and, and_false, false_and, or_self, or_true, true_or, or_false, false_or, not_true_eq_false, not_false_eq_true, Int.toNat_natCast, jl_0, jl_1, jl_2, jl_3, jl_4, jl_5, jl_6, jl_9, jl_10, jl_15, jl_19, jl_30, jl_500, jl_999, jl_m1, jl_m500, i64_of, ↓f6_within_eq, f6_within_eq]
      · refine ⟨iI (-2), _, _, ?_, ?_, h⟩
        · unfold f5_day
          rw [nm_eq, f5_isSheet_eq hz1, if_pos c1, if_neg (by decide), f5_isLane_eq hz2, if_pos c2.1, if_neg (by decide), show (0 : Int32) = iI 0 from rfl, ite_lt ⟨hz4, by decide⟩, if_neg (by omega), show (30 : Int32) = iI 30 from rfl, ite_lt ⟨by decide, hz4⟩, if_neg (by omega), f5_isAskedOfDay_eq hz5, if_neg c3, if_pos (show (0 : Int32) = iI 0 from rfl)]
          rfl
        · unfold f6_day
          rw [nm_eq, f6_isSheet_eq hz1, if_pos c1, if_neg (by decide), f6_isSort_eq hz2, if_pos c2.1, if_neg (by decide), show (0 : Int64) = Int64.ofInt 0 from rfl, show (30 : Int64) = Int64.ofInt 30 from rfl, show (4 : Int64) = Int64.ofInt 4 from rfl, show (10 : Int64) = Int64.ofInt 10 from rfl, show (15 : Int64) = Int64.ofInt 15 from rfl, f6_within64 hz4 (by decide) (by decide), if_pos c2.2, if_neg (by decide), f6_within64 hz5 (by decide) (by decide), if_neg (by omega), if_pos rfl, f6_within64 hz5 (by decide) (by decide), if_neg (by omega), if_pos rfl]
          rfl
    · refine ⟨iI (-2), _, _, ?_, ?_, h⟩
      · unfold f5_day
        by_cases d1 : 0 ≤ z2 ∧ z2 < 3
        · by_cases d2 : z4 < 0
          · simp (disch := omega) only [↓f5_isSheet_eq hz1, f5_isSheet_eq hz1, ↓f5_isLane_eq hz2, f5_isLane_eq hz2, ↓reduceIte, ↓nm_eq, ↓ck_in, ck_in, il_0, il_1, il_2, il_3, il_4, il_5, il_6, il_7, il_8, il_9, il_10, il_15, il_20, il_31, il_30, il_37, il_48, il_49, il_54, il_57, il_59, il_60, il_68, il_80, il_87, il_99, il_100, il_101, il_111, il_112, il_115, il_243, il_500, il_729, il_999, il_1000, il_10000, il_m1, il_m2, il_m3, il_m4, il_m9, il_m10, il_m100, il_m500, iI_le', iI_lt', iI_eq', iI_add, iI_sub, iI_mul, iI_neg, dc_ltT, dc_ltF, dc_leT, dc_leF, dc_eqT, dc_eqF, ↓dc_andT, ↓dc_andF, dc_andT, dc_andF, and_self, and_true, true_and, and_false, false_and, or_self, or_true, true_or, or_false, false_or, not_true_eq_false, not_false_eq_true, Int.toNat_natCast, jl_0, jl_1, jl_2, jl_3, jl_4, jl_5, jl_6, jl_9, jl_10, jl_15, jl_19, jl_30, jl_500, jl_999, jl_m1, jl_m500, i64_of, ↓f6_within_eq, f6_within_eq]
          · simp (disch := omega) only [↓f5_isSheet_eq hz1, f5_isSheet_eq hz1, ↓f5_isLane_eq hz2, f5_isLane_eq hz2, ↓reduceIte, ↓nm_eq, ↓ck_in, ck_in, il_0, il_1, il_2, il_3, il_4, il_5, il_6, il_7, il_8, il_9, il_10, il_15, il_20, il_31, il_30, il_37, il_48, il_49, il_54, il_57, il_59, il_60, il_68, il_80, il_87, il_99, il_100, il_101, il_111, il_112, il_115, il_243, il_500, il_729, il_999, il_1000, il_10000, il_m1, il_m2, il_m3, il_m4, il_m9, il_m10, il_m100, il_m500, iI_le', iI_lt', iI_eq', iI_add, iI_sub, iI_mul, iI_neg, dc_ltT, dc_ltF, dc_leT, dc_leF, dc_eqT, dc_eqF, ↓dc_andT, ↓dc_andF, dc_andT, dc_andF, and_self, and_true, true_and, and_false, false_and, or_self, or_true, true_or, or_false, false_or, not_true_eq_false, not_false_eq_true, Int.toNat_natCast, jl_0, jl_1, jl_2, jl_3, jl_4, jl_5, jl_6, jl_9, jl_10, jl_15, jl_19, jl_30, jl_500, jl_999, jl_m1, jl_m500, i64_of, ↓f6_within_eq, f6_within_eq]
        · simp (disch := omega) only [↓f5_isSheet_eq hz1, f5_isSheet_eq hz1, ↓f5_isLane_eq hz2, f5_isLane_eq hz2, ↓reduceIte, ↓nm_eq, ↓ck_in, ck_in, il_0, il_1, il_2, il_3, il_4, il_5, il_6, il_7, il_8, il_9, il_10, il_15, il_20, il_31, il_30, il_37, il_48, il_49, il_54, il_57, il_59, il_60, il_68, il_80, il_87, il_99, il_100, il_101, il_111, il_112, il_115, il_243, il_500, il_729, il_999, il_1000, il_10000, il_m1, il_m2, il_m3, il_m4, il_m9, il_m10, il_m100, il_m500, iI_le', iI_lt', iI_eq', iI_add, iI_sub, iI_mul, iI_neg, dc_ltT, dc_ltF, dc_leT, dc_leF, dc_eqT, dc_eqF, ↓dc_andT, ↓dc_andF, dc_andT, dc_andF, and_self, and_true, true_and, and_false, false_and, or_self, or_true, true_or, or_false, false_or, not_true_eq_false, not_false_eq_true, Int.toNat_natCast, jl_0, jl_1, jl_2, jl_3, jl_4, jl_5, jl_6, jl_9, jl_10, jl_15, jl_19, jl_30, jl_500, jl_999, jl_m1, jl_m500, i64_of, ↓f6_within_eq, f6_within_eq]
      · unfold f6_day
        by_cases d1 : 0 ≤ z2 ∧ z2 < 3
        · simp (disch := omega) only [↓f6_isSheet_eq hz1, f6_isSheet_eq hz1, ↓f6_isSort_eq hz2, f6_isSort_eq hz2, ↓reduceIte, ↓nm_eq, ↓ck_in, ck_in, il_0, il_1, il_2, il_3, il_4, il_5, il_6, il_7, il_8, il_9, il_10, il_15, il_20, il_31, il_30, il_37, il_48, il_49, il_54, il_57, il_59, il_60, il_68, il_80, il_87, il_99, il_100, il_101, il_111, il_112, il_115, il_243, il_500, il_729, il_999, il_1000, il_10000, il_m1, il_m2, il_m3, il_m4, il_m9, il_m10, il_m100, il_m500, iI_le', iI_lt', iI_eq', iI_add, iI_sub, iI_mul, iI_neg, dc_ltT, dc_ltF, dc_leT, dc_leF, dc_eqT, dc_eqF, ↓dc_andT, ↓dc_andF, dc_andT, dc_andF, and_self, and_true, true_and, and_false, false_and, or_self, or_true, true_or, or_false, false_or, not_true_eq_false, not_false_eq_true, Int.toNat_natCast, jl_0, jl_1, jl_2, jl_3, jl_4, jl_5, jl_6, jl_9, jl_10, jl_15, jl_19, jl_30, jl_500, jl_999, jl_m1, jl_m500, i64_of, ↓f6_within_eq, f6_within_eq]
        · simp (disch := omega) only [↓f6_isSheet_eq hz1, f6_isSheet_eq hz1, ↓f6_isSort_eq hz2, f6_isSort_eq hz2, ↓reduceIte, ↓nm_eq, ↓ck_in, ck_in, il_0, il_1, il_2, il_3, il_4, il_5, il_6, il_7, il_8, il_9, il_10, il_15, il_20, il_31, il_30, il_37, il_48, il_49, il_54, il_57, il_59, il_60, il_68, il_80, il_87, il_99, il_100, il_101, il_111, il_112, il_115, il_243, il_500, il_729, il_999, il_1000, il_10000, il_m1, il_m2, il_m3, il_m4, il_m9, il_m10, il_m100, il_m500, iI_le', iI_lt', iI_eq', iI_add, iI_sub, iI_mul, iI_neg, dc_ltT, dc_ltF, dc_leT, dc_leF, dc_eqT, dc_eqF, ↓dc_andT, ↓dc_andF, dc_andT, dc_andF, and_self, and_true, true_and, and_false, false_and, or_self, or_true, true_or, or_false, false_or, not_true_eq_false, not_false_eq_true, Int.toNat_natCast, jl_0, jl_1, jl_2, jl_3, jl_4, jl_5, jl_6, jl_9, jl_10, jl_15, jl_19, jl_30, jl_500, jl_999, jl_m1, jl_m500, i64_of, ↓f6_within_eq, f6_within_eq]
  · refine ⟨iI (-1), _, _, ?_, ?_, h⟩
    · unfold f5_day
      simp (disch := omega) only [↓f5_isSheet_eq hz1, f5_isSheet_eq hz1, ↓reduceIte, ↓nm_eq, ↓ck_in, ck_in, il_0, il_1, il_2, il_3, il_4, il_5, il_6, il_7, il_8, il_9, il_10, il_15, il_20, il_31, il_30, il_37, il_48, il_49, il_54, il_57, il_59, il_60, il_68, il_80, il_87, il_99, il_100, il_101, il_111, il_112, il_115, il_243, il_500, il_729, il_999, il_1000, il_10000, il_m1, il_m2, il_m3, il_m4, il_m9, il_m10, il_m100, il_m500, iI_le', iI_lt', iI_eq', iI_add, iI_sub, iI_mul, iI_neg, dc_ltT, dc_ltF, dc_leT, dc_leF, dc_eqT, dc_eqF, ↓dc_andT, ↓dc_andF, dc_andT, dc_andF, and_self, and_true, true_and, and_false, false_and, or_self, or_true, true_or, or_false, false_or, not_true_eq_false, not_false_eq_true, Int.toNat_natCast, jl_0, jl_1, jl_2, jl_3, jl_4, jl_5, jl_6, jl_9, jl_10, jl_15, jl_19, jl_30, jl_500, jl_999, jl_m1, jl_m500, i64_of, ↓f6_within_eq, f6_within_eq]
    · unfold f6_day
      simp (disch := omega) only [↓f6_isSheet_eq hz1, f6_isSheet_eq hz1, ↓reduceIte, ↓nm_eq, ↓ck_in, ck_in, il_0, il_1, il_2, il_3, il_4, il_5, il_6, il_7, il_8, il_9, il_10, il_15, il_20, il_31, il_30, il_37, il_48, il_49, il_54, il_57, il_59, il_60, il_68, il_80, il_87, il_99, il_100, il_101, il_111, il_112, il_115, il_243, il_500, il_729, il_999, il_1000, il_10000, il_m1, il_m2, il_m3, il_m4, il_m9, il_m10, il_m100, il_m500, iI_le', iI_lt', iI_eq', iI_add, iI_sub, iI_mul, iI_neg, dc_ltT, dc_ltF, dc_leT, dc_leF, dc_eqT, dc_eqF, ↓dc_andT, ↓dc_andF, dc_andT, dc_andF, and_self, and_true, true_and, and_false, false_and, or_self, or_true, true_or, or_false, false_or, not_true_eq_false, not_false_eq_true, Int.toNat_natCast, jl_0, jl_1, jl_2, jl_3, jl_4, jl_5, jl_6, jl_9, jl_10, jl_15, jl_19, jl_30, jl_500, jl_999, jl_m1, jl_m500, i64_of, ↓f6_within_eq, f6_within_eq]
end Ops12
