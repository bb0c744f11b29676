/-! PURE PART 5: cells, copies, tellings -/
section Ops4
variable {PX PM : Sg → MS → Prop} {σ : Sg} {SX SM : MS}
theorem rel_put (cX : ClX PX) (h : RelS PX PM σ SX SM) {k i la len : Nat} (hk : k < 4) (hi : i < len) (hla : la ≤ 2) (hlen : len ≤ 60) (g3 : SX.1 (16 + k) 1 = iI la) (g4 : SM.1 1 k = iI la) (g5 : SX.1 (16 + k) 2 = iI len) (g6 : SM.1 2 k = iI len) (g7 : ∀ i, i < len → SX.1 (20 + k) i = SM.1 3 (60 * k + i)) (v : Int32) : RelS PX PM σ (sI SX (20 + k) i v) (sI SM 3 (60 * k + i) v) := by
  refine rel_keep cX h (fun j hj => by simp (disch := omega) only [rfS_cell, sI_cell, sI_place, sI_same, sI_2]) rfl ⟨by simp (disch := omega) only [rfS_cell, sI_cell, sI_place, sI_same, sI_2], by simp (disch := omega) only [rfS_cell, sI_cell, sI_place, sI_same, sI_2], by simp (disch := omega) only [rfS_cell, sI_cell, sI_place, sI_same, sI_2], by simp (disch := omega) only [rfS_cell, sI_cell, sI_place, sI_same, sI_2]⟩ (fun j hj => by simp (disch := omega) only [rfS_cell, sI_cell, sI_place, sI_same, sI_2]) rfl ?_ ?_ ?_ ?_
  · exact rd_keep h.2.2.2.1 (by simp (disch := omega) only [rfS_cell, sI_cell, sI_place, sI_same, sI_2]) (by simp (disch := omega) only [rfS_cell, sI_cell, sI_place, sI_same, sI_2]) (by simp (disch := omega) only [rfS_cell, sI_cell, sI_place, sI_same, sI_2]) (by simp (disch := omega) only [rfS_cell, sI_cell, sI_place, sI_same, sI_2])
  · simp (disch := omega) only [rfS_cell, sI_cell, sI_place, sI_same, sI_2]; exact h.2.2.2.2.1
  · simp (disch := omega) only [rfS_cell, sI_cell, sI_place, sI_same, sI_2]; exact h.2.2.2.2.2.1
  · refine sk_at h.2.2.2.2.2.2.1 k hk (Or.inr ⟨la, len, hla, hlen, ?_, ?_, ?_, ?_, fun q hq => ?_⟩) (fun j hj h1 h2 => ?_) (fun j i hj hi => ?_) (fun q hq => ?_)
    · simp (disch := omega) only [rfS_cell, sI_cell, sI_place, sI_same, sI_2]; exact g3
    · simp (disch := omega) only [rfS_cell, sI_cell, sI_place, sI_same, sI_2]; exact g4
    · simp (disch := omega) only [rfS_cell, sI_cell, sI_place, sI_same, sI_2]; exact g5
    · simp (disch := omega) only [rfS_cell, sI_cell, sI_place, sI_same, sI_2]; exact g6
    · rw [sI_at, sI_at]
      by_cases hqi : q = i
      · rw [if_pos ⟨rfl, hqi⟩, if_pos ⟨rfl, by omega⟩]
      · rw [if_neg (by omega), if_neg (by omega)]; exact g7 q hq
    · simp (disch := omega) only [rfS_cell, sI_cell, sI_place, sI_same, sI_2]
    · simp (disch := omega) only [rfS_cell, sI_cell, sI_place, sI_same, sI_2]
    · rw [sI_at, if_neg (by omega)]
theorem sim_put (cX : ClX PX) (a b v : Int32) : SimI (RelP PX PM) (f5_put a b v) (f6_put a b v) := by
  intro SX0 SM0 ⟨σ, h0⟩
  obtain ⟨z1, rfl, hz1⟩ := iI_of a
  obtain ⟨z2, rfl, hz2⟩ := iI_of b
  have h := rel_fault cX h0 (iI 0)
  by_cases c1 : 0 ≤ z1 ∧ z1 < 4
  · obtain ⟨k, rfl⟩ : ∃ k : Nat, z1 = k := ⟨z1.toNat, by omega⟩
    have hk : k < 4 := by omega
    rcases h.2.2.2.2.2.2.1 k hk with ⟨g1, g2⟩ | ⟨la, len, g1, g2, g3, g4, g5, g6, g7⟩
    · refine ⟨iI (-10 - 1), _, _, ?_, ?_, σ, rel_fault cX h (iI 1)⟩
      · unfold f5_put f1_isNothing
        simp (disch := omega) only [f5_isSheet_eq hz1, g1, f5_faulted_eq, il_0, il_1, il_2, il_3, il_4, il_5, il_6, il_7, il_8, il_9, il_10, il_15, il_20, il_31, il_30, il_37, il_48, il_49, il_54, il_57, il_59, il_60, il_68, il_80, il_87, il_99, il_100, il_101, il_111, il_112, il_115, il_243, il_500, il_729, il_999, il_1000, il_10000, il_m1, il_m2, il_m3, il_m4, il_m9, il_m10, il_m100, il_m500, iI_le', iI_lt', iI_eq', iI_add, iI_sub, iI_mul, iI_neg, if_pos, if_neg, ck_in, Int.toNat_natCast, nm_eq, if_true, if_false, jl_0, jl_1, jl_2, jl_3, jl_4, jl_5, jl_6, jl_9, jl_10, jl_15, jl_19, jl_30, jl_500, jl_999, jl_m1, jl_m500, i64_of, f6_within_eq]
      · unfold f6_put
        simp (disch := omega) only [f6_isSheet_eq hz1, g2, f6_fails_eq, il_0, il_1, il_2, il_3, il_4, il_5, il_6, il_7, il_8, il_9, il_10, il_15, il_20, il_31, il_30, il_37, il_48, il_49, il_54, il_57, il_59, il_60, il_68, il_80, il_87, il_99, il_100, il_101, il_111, il_112, il_115, il_243, il_500, il_729, il_999, il_1000, il_10000, il_m1, il_m2, il_m3, il_m4, il_m9, il_m10, il_m100, il_m500, iI_le', iI_lt', iI_eq', iI_add, iI_sub, iI_mul, iI_neg, if_pos, if_neg, ck_in, Int.toNat_natCast, nm_eq, if_true, if_false, jl_0, jl_1, jl_2, jl_3, jl_4, jl_5, jl_6, jl_9, jl_10, jl_15, jl_19, jl_30, jl_500, jl_999, jl_m1, jl_m500, i64_of, f6_within_eq]
    · by_cases c2 : 0 ≤ z2 ∧ z2 < len
      · obtain ⟨i, rfl⟩ : ∃ k : Nat, z2 = k := ⟨z2.toNat, by omega⟩
        have hidx : ((60 : Int) * (k : Int) + (i : Int)).toNat = 60 * k + i := by omega
        rcases (show la = 0 ∨ la = 1 ∨ la = 2 by omega) with rfl | rfl | rfl
        · refine ⟨iI 1, _, _, ?_, ?_, σ, rel_put cX h hk (show i < len by omega) g1 g2 g3 g4 g5 g6 g7 v.toInt8.toInt32⟩
          · unfold f5_put f1_isNothing f1_hasCells f1_write
            simp (disch := omega) only [f5_isSheet_eq hz1, g3, g5, il_0, il_1, il_2, il_3, il_4, il_5, il_6, il_7, il_8, il_9, il_10, il_15, il_20, il_31, il_30, il_37, il_48, il_49, il_54, il_57, il_59, il_60, il_68, il_80, il_87, il_99, il_100, il_101, il_111, il_112, il_115, il_243, il_500, il_729, il_999, il_1000, il_10000, il_m1, il_m2, il_m3, il_m4, il_m9, il_m10, il_m100, il_m500, iI_le', iI_lt', iI_eq', iI_add, iI_sub, iI_mul, iI_neg, if_pos, if_neg, ck_in, Int.toNat_natCast, nm_eq, if_true, if_false, jl_0, jl_1, jl_2, jl_3, jl_4, jl_5, jl_6, jl_9, jl_10, jl_15, jl_19, jl_30, jl_500, jl_999, jl_m1, jl_m500, i64_of, f6_within_eq]
          · unfold f6_put
            simp (disch := omega) only [f6_isSheet_eq hz1, g4, g6, hidx, il_0, il_1, il_2, il_3, il_4, il_5, il_6, il_7, il_8, il_9, il_10, il_15, il_20, il_31, il_30, il_37, il_48, il_49, il_54, il_57, il_59, il_60, il_68, il_80, il_87, il_99, il_100, il_101, il_111, il_112, il_115, il_243, il_500, il_729, il_999, il_1000, il_10000, il_m1, il_m2, il_m3, il_m4, il_m9, il_m10, il_m100, il_m500, iI_le', iI_lt', iI_eq', iI_add, iI_sub, iI_mul, iI_neg, if_pos, if_neg, ck_in, Int.toNat_natCast, nm_eq, if_true, if_false, jl_0, jl_1, jl_2, jl_3, jl_4, jl_5, jl_6, jl_9, jl_10, jl_15, jl_19, jl_30, jl_500, jl_999, jl_m1, jl_m500, i64_of, f6_within_eq]
        · refine ⟨iI 1, _, _, ?_, ?_, σ, rel_put cX h hk (show i < len by omega) g1 g2 g3 g4 g5 g6 g7 v.toInt16.toInt32⟩
          · unfold f5_put f1_isNothing f1_hasCells f1_write
            simp (disch := omega) only [f5_isSheet_eq hz1, g3, g5, il_0, il_1, il_2, il_3, il_4, il_5, il_6, il_7, il_8, il_9, il_10, il_15, il_20, il_31, il_30, il_37, il_48, il_49, il_54, il_57, il_59, il_60, il_68, il_80, il_87, il_99, il_100, il_101, il_111, il_112, il_115, il_243, il_500, il_729, il_999, il_1000, il_10000, il_m1, il_m2, il_m3, il_m4, il_m9, il_m10, il_m100, il_m500, iI_le', iI_lt', iI_eq', iI_add, iI_sub, iI_mul, iI_neg, if_pos, if_neg, ck_in, Int.toNat_natCast, nm_eq, if_true, if_false, jl_0, jl_1, jl_2, jl_3, jl_4, jl_5, jl_6, jl_9, jl_10, jl_15, jl_19, jl_30, jl_500, jl_999, jl_m1, jl_m500, i64_of, f6_within_eq]
          · unfold f6_put
            simp (disch := omega) only [f6_isSheet_eq hz1, g4, g6, hidx, il_0, il_1, il_2, il_3, il_4, il_5, il_6, il_7, il_8, il_9, il_10, il_15, il_20, il_31, il_30, il_37, il_48, il_49, il_54, il_57, il_59, il_60, il_68, il_80, il_87, il_99, il_100, il_101, il_111, il_112, il_115, il_243, il_500, il_729, il_999, il_1000, il_10000, il_m1, il_m2, il_m3, il_m4, il_m9, il_m10, il_m100, il_m500, iI_le', iI_lt', iI_eq', iI_add, iI_sub, iI_mul, iI_neg, if_pos, if_neg, ck_in, Int.toNat_natCast, nm_eq, if_true, if_false, jl_0, jl_1, jl_2, jl_3, jl_4, jl_5, jl_6, jl_9, jl_10, jl_15, jl_19, jl_30, jl_500, jl_999, jl_m1, jl_m500, i64_of, f6_within_eq]
        · refine ⟨iI 1, _, _, ?_, ?_, σ, rel_put cX h hk (show i < len by omega) g1 g2 g3 g4 g5 g6 g7 v⟩
          · unfold f5_put f1_isNothing f1_hasCells f1_write
            simp (disch := omega) only [f5_isSheet_eq hz1, g3, g5, il_0, il_1, il_2, il_3, il_4, il_5, il_6, il_7, il_8, il_9, il_10, il_15, il_20, il_31, il_30, il_37, il_48, il_49, il_54, il_57, il_59, il_60, il_68, il_80, il_87, il_99, il_100, il_101, il_111, il_112, il_115, il_243, il_500, il_729, il_999, il_1000, il_10000, il_m1, il_m2, il_m3, il_m4, il_m9, il_m10, il_m100, il_m500, iI_le', iI_lt', iI_eq', iI_add, iI_sub, iI_mul, iI_neg, if_pos, if_neg, ck_in, Int.toNat_natCast, nm_eq, if_true, if_false, jl_0, jl_1, jl_2, jl_3, jl_4, jl_5, jl_6, jl_9, jl_10, jl_15, jl_19, jl_30, jl_500, jl_999, jl_m1, jl_m500, i64_of, f6_within_eq]
          · unfold f6_put
            simp (disch := omega) only [f6_isSheet_eq hz1, g4, g6, hidx, il_0, il_1, il_2, il_3, il_4, il_5, il_6, il_7, il_8, il_9, il_10, il_15, il_20, il_31, il_30, il_37, il_48, il_49, il_54, il_57, il_59, il_60, il_68, il_80, il_87, il_99, il_100, il_101, il_111, il_112, il_115, il_243, il_500, il_729, il_999, il_1000, il_10000, il_m1, il_m2, il_m3, il_m4, il_m9, il_m10, il_m100, il_m500, iI_le', iI_lt', iI_eq', iI_add, iI_sub, iI_mul, iI_neg, if_pos, if_neg, ck_in, Int.toNat_natCast, nm_eq, if_true, if_false, jl_0, jl_1, jl_2, jl_3, jl_4, jl_5, jl_6, jl_9, jl_10, jl_15, jl_19, jl_30, jl_500, jl_999, jl_m1, jl_m500, i64_of, f6_within_eq]
      · refine ⟨iI (-10 - 3), _, _, ?_, ?_, σ, rel_fault cX h (iI 3)⟩
        · unfold f5_put f1_isNothing f1_hasCells
          by_cases c3 : z2 < 0
          · simp (disch := omega) only [f5_isSheet_eq hz1, g3, g5, f5_faulted_eq, il_0, il_1, il_2, il_3, il_4, il_5, il_6, il_7, il_8, il_9, il_10, il_15, il_20, il_31, il_30, il_37, il_48, il_49, il_54, il_57, il_59, il_60, il_68, il_80, il_87, il_99, il_100, il_101, il_111, il_112, il_115, il_243, il_500, il_729, il_999, il_1000, il_10000, il_m1, il_m2, il_m3, il_m4, il_m9, il_m10, il_m100, il_m500, iI_le', iI_lt', iI_eq', iI_add, iI_sub, iI_mul, iI_neg, if_pos, if_neg, ck_in, Int.toNat_natCast, nm_eq, if_true, if_false, jl_0, jl_1, jl_2, jl_3, jl_4, jl_5, jl_6, jl_9, jl_10, jl_15, jl_19, jl_30, jl_500, jl_999, jl_m1, jl_m500, i64_of, f6_within_eq]
          · by_cases c4 : (len : Int) < z2
            · simp (disch := omega) only [f5_isSheet_eq hz1, g3, g5, f5_faulted_eq, il_0, il_1, il_2, il_3, il_4, il_5, il_6, il_7, il_8, il_9, il_10, il_15, il_20, il_31, il_30, il_37, il_48, il_49, il_54, il_57, il_59, il_60, il_68, il_80, il_87, il_99, il_100, il_101, il_111, il_112, il_115, il_243, il_500, il_729, il_999, il_1000, il_10000, il_m1, il_m2, il_m3, il_m4, il_m9, il_m10, il_m100, il_m500, iI_le', iI_lt', iI_eq', iI_add, iI_sub, iI_mul, iI_neg, if_pos, if_neg, ck_in, Int.toNat_natCast, nm_eq, if_true, if_false, jl_0, jl_1, jl_2, jl_3, jl_4, jl_5, jl_6, jl_9, jl_10, jl_15, jl_19, jl_30, jl_500, jl_999, jl_m1, jl_m500, i64_of, f6_within_eq]
            · simp (disch := omega) only [f5_isSheet_eq hz1, g3, g5, f5_faulted_eq, il_0, il_1, il_2, il_3, il_4, il_5, il_6, il_7, il_8, il_9, il_10, il_15, il_20, il_31, il_30, il_37, il_48, il_49, il_54, il_57, il_59, il_60, il_68, il_80, il_87, il_99, il_100, il_101, il_111, il_112, il_115, il_243, il_500, il_729, il_999, il_1000, il_10000, il_m1, il_m2, il_m3, il_m4, il_m9, il_m10, il_m100, il_m500, iI_le', iI_lt', iI_eq', iI_add, iI_sub, iI_mul, iI_neg, if_pos, if_neg, ck_in, Int.toNat_natCast, nm_eq, if_true, if_false, jl_0, jl_1, jl_2, jl_3, jl_4, jl_5, jl_6, jl_9, jl_10, jl_15, jl_19, jl_30, jl_500, jl_999, jl_m1, jl_m500, i64_of, f6_within_eq]
        · unfold f6_put
          simp (disch := omega) only [f6_isSheet_eq hz1, g4, g6, f6_fails_eq, il_0, il_1, il_2, il_3, il_4, il_5, il_6, il_7, il_8, il_9, il_10, il_15, il_20, il_31, il_30, il_37, il_48, il_49, il_54, il_57, il_59, il_60, il_68, il_80, il_87, il_99, il_100, il_101, il_111, il_112, il_115, il_243, il_500, il_729, il_999, il_1000, il_10000, il_m1, il_m2, il_m3, il_m4, il_m9, il_m10, il_m100, il_m500, iI_le', iI_lt', iI_eq', iI_add, iI_sub, iI_mul, iI_neg, if_pos, if_neg, ck_in, Int.toNat_natCast, nm_eq, if_true, if_false, jl_0, jl_1, jl_2, jl_3, jl_4, jl_5, jl_6, jl_9, jl_10, jl_15, jl_19, jl_30, jl_500, jl_999, jl_m1, jl_m500, i64_of, f6_within_eq]
  · refine ⟨iI (-1), _, _, ?_, ?_, σ, h⟩
    · unfold f5_put
      simp (disch := omega) only [f5_isSheet_eq hz1, il_0, il_1, il_2, il_3, il_4, il_5, il_6, il_7, il_8, il_9, il_10, il_15, il_20, il_31, il_30, il_37, il_48, il_49, il_54, il_57, il_59, il_60, il_68, il_80, il_87, il_99, il_100, il_101, il_111, il_112, il_115, il_243, il_500, il_729, il_999, il_1000, il_10000, il_m1, il_m2, il_m3, il_m4, il_m9, il_m10, il_m100, il_m500, iI_le', iI_lt', iI_eq', iI_add, iI_sub, iI_mul, iI_neg, if_pos, if_neg, ck_in, Int.toNat_natCast, nm_eq, if_true, if_false, jl_0, jl_1, jl_2, jl_3, jl_4, jl_5, jl_6, jl_9, jl_10, jl_15, jl_19, jl_30, jl_500, jl_999, jl_m1, jl_m500, i64_of, f6_within_eq]
    · unfold f6_put
      simp (disch := omega) only [f6_isSheet_eq hz1, il_0, il_1, il_2, il_3, il_4, il_5, il_6, il_7, il_8, il_9, il_10, il_15, il_20, il_31, il_30, il_37, il_48, il_49, il_54, il_57, il_59, il_60, il_68, il_80, il_87, il_99, il_100, il_101, il_111, il_112, il_115, il_243, il_500, il_729, il_999, il_1000, il_10000, il_m1, il_m2, il_m3, il_m4, il_m9, il_m10, il_m100, il_m500, iI_le', iI_lt', iI_eq', iI_add, iI_sub, iI_mul, iI_neg, if_pos, if_neg, ck_in, Int.toNat_natCast, nm_eq, if_true, if_false, jl_0, jl_1, jl_2, jl_3, jl_4, jl_5, jl_6, jl_9, jl_10, jl_15, jl_19, jl_30, jl_500, jl_999, jl_m1, jl_m500, i64_of, f6_within_eq]
theorem sim_cell (cX : ClX PX) (a b c : Int32) : SimL (RelP PX PM) (f5_cell a b c) (f6_cell a b c) := by
  intro SX0 SM0 ⟨σ, h0⟩
  obtain ⟨z1, rfl, hz1⟩ := iI_of a
  obtain ⟨z2, rfl, hz2⟩ := iI_of b
  obtain ⟨z3, rfl, hz3⟩ := iI_of c
  have h := rel_fault cX h0 (iI 0)
  by_cases c1 : (0 ≤ z1 ∧ z1 < 4) ∧ 0 ≤ z3 ∧ z3 < 3
  · obtain ⟨k, rfl⟩ : ∃ k : Nat, z1 = k := ⟨z1.toNat, by omega⟩
    have hk : k < 4 := by omega
    rcases h.2.2.2.2.2.2.1 k hk with ⟨g1, g2⟩ | ⟨la, len, g1, g2, g3, g4, g5, g6, g7⟩
    · refine ⟨-9223372036854775808, _, _, ?_, ?_, σ, rel_fault cX h (iI 1)⟩
      · unfold f5_cell f1_faultAs f1_isNothing
        simp (disch := omega) only [f5_isSheet_eq hz1, f5_isLane_eq hz3, g1, sI_same, il_0, il_1, il_2, il_3, il_4, il_5, il_6, il_7, il_8, il_9, il_10, il_15, il_20, il_31, il_30, il_37, il_48, il_49, il_54, il_57, il_59, il_60, il_68, il_80, il_87, il_99, il_100, il_101, il_111, il_112, il_115, il_243, il_500, il_729, il_999, il_1000, il_10000, il_m1, il_m2, il_m3, il_m4, il_m9, il_m10, il_m100, il_m500, iI_le', iI_lt', iI_eq', iI_add, iI_sub, iI_mul, iI_neg, if_pos, if_neg, ck_in, Int.toNat_natCast, nm_eq, if_true, if_false, jl_0, jl_1, jl_2, jl_3, jl_4, jl_5, jl_6, jl_9, jl_10, jl_15, jl_19, jl_30, jl_500, jl_999, jl_m1, jl_m500, i64_of, f6_within_eq]
      · unfold f6_cell f6_cell_J50 f6_lost
        simp (disch := omega) only [f6_isSheet_eq hz1, f6_isSort_eq hz3, g2, il_0, il_1, il_2, il_3, il_4, il_5, il_6, il_7, il_8, il_9, il_10, il_15, il_20, il_31, il_30, il_37, il_48, il_49, il_54, il_57, il_59, il_60, il_68, il_80, il_87, il_99, il_100, il_101, il_111, il_112, il_115, il_243, il_500, il_729, il_999, il_1000, il_10000, il_m1, il_m2, il_m3, il_m4, il_m9, il_m10, il_m100, il_m500, iI_le', iI_lt', iI_eq', iI_add, iI_sub, iI_mul, iI_neg, if_pos, if_neg, ck_in, Int.toNat_natCast, nm_eq, if_true, if_false, jl_0, jl_1, jl_2, jl_3, jl_4, jl_5, jl_6, jl_9, jl_10, jl_15, jl_19, jl_30, jl_500, jl_999, jl_m1, jl_m500, i64_of, f6_within_eq]
    · by_cases c2 : z3 = la
      · subst c2
        by_cases c3 : 0 ≤ z2 ∧ z2 < len
        · obtain ⟨i, rfl⟩ : ∃ k : Nat, z2 = k := ⟨z2.toNat, by omega⟩
          have hidx : ((60 : Int) * (k : Int) + (i : Int)).toNat = 60 * k + i := by omega
          have g5' : (sI (sI SX0 0 6 (iI 0)) 0 6 (iI 0)).1 (16 + k) 2 = iI len := by rw [sI_cell _ _ _ (by omega)]; exact g5
          have e : sI (sI SX0 0 6 (iI 0)) 0 6 (iI 0) = sI SX0 0 6 (iI 0) := by
            apply Prod.ext
            · funext j f
              rw [sI_at]
              by_cases hh : j = 0 ∧ f = 6
              · rw [if_pos hh, hh.1, hh.2, sI_same]
              · rw [if_neg hh]
            · rfl
          refine ⟨Int32.toInt64 ((sI SM0 0 0 (iI 0)).1 3 (60 * k + i)), sI SX0 0 6 (iI 0), sI SM0 0 0 (iI 0), ?_, ?_, σ, h⟩
          · rw [← g7 i (by omega)]
            unfold f5_cell f1_faultAs f1_isNothing f1_hasCells
            simp (disch := omega) only [f5_isSheet_eq hz1, f5_isLane_eq hz3, g3, sI_same, e, g5, il_0, il_1, il_2, il_3, il_4, il_5, il_6, il_7, il_8, il_9, il_10, il_15, il_20, il_31, il_30, il_37, il_48, il_49, il_54, il_57, il_59, il_60, il_68, il_80, il_87, il_99, il_100, il_101, il_111, il_112, il_115, il_243, il_500, il_729, il_999, il_1000, il_10000, il_m1, il_m2, il_m3, il_m4, il_m9, il_m10, il_m100, il_m500, iI_le', iI_lt', iI_eq', iI_add, iI_sub, iI_mul, iI_neg, if_pos, if_neg, ck_in, Int.toNat_natCast, nm_eq, if_true, if_false, jl_0, jl_1, jl_2, jl_3, jl_4, jl_5, jl_6, jl_9, jl_10, jl_15, jl_19, jl_30, jl_500, jl_999, jl_m1, jl_m500, i64_of, f6_within_eq]
          · unfold f6_cell f6_cell_J50 f6_lost
            simp (disch := omega) only [f6_isSheet_eq hz1, f6_isSort_eq hz3, g4, g6, hidx, il_0, il_1, il_2, il_3, il_4, il_5, il_6, il_7, il_8, il_9, il_10, il_15, il_20, il_31, il_30, il_37, il_48, il_49, il_54, il_57, il_59, il_60, il_68, il_80, il_87, il_99, il_100, il_101, il_111, il_112, il_115, il_243, il_500, il_729, il_999, il_1000, il_10000, il_m1, il_m2, il_m3, il_m4, il_m9, il_m10, il_m100, il_m500, iI_le', iI_lt', iI_eq', iI_add, iI_sub, iI_mul, iI_neg, if_pos, if_neg, ck_in, Int.toNat_natCast, nm_eq, if_true, if_false, jl_0, jl_1, jl_2, jl_3, jl_4, jl_5, jl_6, jl_9, jl_10, jl_15, jl_19, jl_30, jl_500, jl_999, jl_m1, jl_m500, i64_of, f6_within_eq]
        · refine ⟨-9223372036854775808, _, _, ?_, ?_, σ, rel_fault cX (rel_fault cX h (iI 0)) (iI 3)⟩
          · have g5' : (sI (sI SX0 0 6 (iI 0)) 0 6 (iI 0)).1 (16 + k) 2 = iI len := by rw [sI_cell _ _ _ (by omega)]; exact g5
            unfold f5_cell f1_faultAs f1_isNothing f1_hasCells
            by_cases c4 : z2 < 0
            · simp (disch := omega) only [f5_isSheet_eq hz1, f5_isLane_eq hz3, g3, sI_same, g5', il_0, il_1, il_2, il_3, il_4, il_5, il_6, il_7, il_8, il_9, il_10, il_15, il_20, il_31, il_30, il_37, il_48, il_49, il_54, il_57, il_59, il_60, il_68, il_80, il_87, il_99, il_100, il_101, il_111, il_112, il_115, il_243, il_500, il_729, il_999, il_1000, il_10000, il_m1, il_m2, il_m3, il_m4, il_m9, il_m10, il_m100, il_m500, iI_le', iI_lt', iI_eq', iI_add, iI_sub, iI_mul, iI_neg, if_pos, if_neg, ck_in, Int.toNat_natCast, nm_eq, if_true, if_false, jl_0, jl_1, jl_2, jl_3, jl_4, jl_5, jl_6, jl_9, jl_10, jl_15, jl_19, jl_30, jl_500, jl_999, jl_m1, jl_m500, i64_of, f6_within_eq]
            · by_cases c5 : (len : Int) < z2
              · simp (disch := omega) only [f5_isSheet_eq hz1, f5_isLane_eq hz3, g3, sI_same, g5', il_0, il_1, il_2, il_3, il_4, il_5, il_6, il_7, il_8, il_9, il_10, il_15, il_20, il_31, il_30, il_37, il_48, il_49, il_54, il_57, il_59, il_60, il_68, il_80, il_87, il_99, il_100, il_101, il_111, il_112, il_115, il_243, il_500, il_729, il_999, il_1000, il_10000, il_m1, il_m2, il_m3, il_m4, il_m9, il_m10, il_m100, il_m500, iI_le', iI_lt', iI_eq', iI_add, iI_sub, iI_mul, iI_neg, if_pos, if_neg, ck_in, Int.toNat_natCast, nm_eq, if_true, if_false, jl_0, jl_1, jl_2, jl_3, jl_4, jl_5, jl_6, jl_9, jl_10, jl_15, jl_19, jl_30, jl_500, jl_999, jl_m1, jl_m500, i64_of, f6_within_eq]
              · simp (disch := omega) only [f5_isSheet_eq hz1, f5_isLane_eq hz3, g3, sI_same, g5', il_0, il_1, il_2, il_3, il_4, il_5, il_6, il_7, il_8, il_9, il_10, il_15, il_20, il_31, il_30, il_37, il_48, il_49, il_54, il_57, il_59, il_60, il_68, il_80, il_87, il_99, il_100, il_101, il_111, il_112, il_115, il_243, il_500, il_729, il_999, il_1000, il_10000, il_m1, il_m2, il_m3, il_m4, il_m9, il_m10, il_m100, il_m500, iI_le', iI_lt', iI_eq', iI_add, iI_sub, iI_mul, iI_neg, if_pos, if_neg, ck_in, Int.toNat_natCast, nm_eq, if_true, if_false, jl_0, jl_1, jl_2, jl_3, jl_4, jl_5, jl_6, jl_9, jl_10, jl_15, jl_19, jl_30, jl_500, jl_999, jl_m1, jl_m500, i64_of, f6_within_eq]
          · have e : sI (sI (sI SM0 0 0 (iI 0)) 0 0 (iI 0)) 0 0 (iI 3) = sI (sI SM0 0 0 (iI 0)) 0 0 (iI 3) := by
              apply Prod.ext
              · funext j f
                simp only [sI_at]
                by_cases hh : j = 0 ∧ f = 0
                · simp only [if_pos hh]
                · simp only [if_neg hh]
              · rfl
            rw [e]
            unfold f6_cell f6_cell_J50 f6_lost
            simp (disch := omega) only [f6_isSheet_eq hz1, f6_isSort_eq hz3, g4, g6, il_0, il_1, il_2, il_3, il_4, il_5, il_6, il_7, il_8, il_9, il_10, il_15, il_20, il_31, il_30, il_37, il_48, il_49, il_54, il_57, il_59, il_60, il_68, il_80, il_87, il_99, il_100, il_101, il_111, il_112, il_115, il_243, il_500, il_729, il_999, il_1000, il_10000, il_m1, il_m2, il_m3, il_m4, il_m9, il_m10, il_m100, il_m500, iI_le', iI_lt', iI_eq', iI_add, iI_sub, iI_mul, iI_neg, if_pos, if_neg, ck_in, Int.toNat_natCast, nm_eq, if_true, if_false, jl_0, jl_1, jl_2, jl_3, jl_4, jl_5, jl_6, jl_9, jl_10, jl_15, jl_19, jl_30, jl_500, jl_999, jl_m1, jl_m500, i64_of, f6_within_eq]
      · refine ⟨-9223372036854775808, _, _, ?_, ?_, σ, rel_fault cX h (iI 2)⟩
        · unfold f5_cell f1_faultAs f1_isNothing
          simp (disch := omega) only [f5_isSheet_eq hz1, f5_isLane_eq hz3, g3, sI_same, il_0, il_1, il_2, il_3, il_4, il_5, il_6, il_7, il_8, il_9, il_10, il_15, il_20, il_31, il_30, il_37, il_48, il_49, il_54, il_57, il_59, il_60, il_68, il_80, il_87, il_99, il_100, il_101, il_111, il_112, il_115, il_243, il_500, il_729, il_999, il_1000, il_10000, il_m1, il_m2, il_m3, il_m4, il_m9, il_m10, il_m100, il_m500, iI_le', iI_lt', iI_eq', iI_add, iI_sub, iI_mul, iI_neg, if_pos, if_neg, ck_in, Int.toNat_natCast, nm_eq, if_true, if_false, jl_0, jl_1, jl_2, jl_3, jl_4, jl_5, jl_6, jl_9, jl_10, jl_15, jl_19, jl_30, jl_500, jl_999, jl_m1, jl_m500, i64_of, f6_within_eq]
        · unfold f6_cell f6_cell_J50 f6_lost
          simp (disch := omega) only [f6_isSheet_eq hz1, f6_isSort_eq hz3, g4, il_0, il_1, il_2, il_3, il_4, il_5, il_6, il_7, il_8, il_9, il_10, il_15, il_20, il_31, il_30, il_37, il_48, il_49, il_54, il_57, il_59, il_60, il_68, il_80, il_87, il_99, il_100, il_101, il_111, il_112, il_115, il_243, il_500, il_729, il_999, il_1000, il_10000, il_m1, il_m2, il_m3, il_m4, il_m9, il_m10, il_m100, il_m500, iI_le', iI_lt', iI_eq', iI_add, iI_sub, iI_mul, iI_neg, if_pos, if_neg, ck_in, Int.toNat_natCast, nm_eq, if_true, if_false, jl_0, jl_1, jl_2, jl_3, jl_4, jl_5, jl_6, jl_9, jl_10, jl_15, jl_19, jl_30, jl_500, jl_999, jl_m1, jl_m500, i64_of, f6_within_eq]
  · refine ⟨-9223372036854775808, _, _, ?_, ?_, σ, h⟩
    · unfold f5_cell
      by_cases c2 : 0 ≤ z1 ∧ z1 < 4
      · simp (disch := omega) only [f5_isSheet_eq hz1, f5_isLane_eq hz3, il_0, il_1, il_2, il_3, il_4, il_5, il_6, il_7, il_8, il_9, il_10, il_15, il_20, il_31, il_30, il_37, il_48, il_49, il_54, il_57, il_59, il_60, il_68, il_80, il_87, il_99, il_100, il_101, il_111, il_112, il_115, il_243, il_500, il_729, il_999, il_1000, il_10000, il_m1, il_m2, il_m3, il_m4, il_m9, il_m10, il_m100, il_m500, iI_le', iI_lt', iI_eq', iI_add, iI_sub, iI_mul, iI_neg, if_pos, if_neg, ck_in, Int.toNat_natCast, nm_eq, if_true, if_false, jl_0, jl_1, jl_2, jl_3, jl_4, jl_5, jl_6, jl_9, jl_10, jl_15, jl_19, jl_30, jl_500, jl_999, jl_m1, jl_m500, i64_of, f6_within_eq]
      · simp (disch := omega) only [f5_isSheet_eq hz1, il_0, il_1, il_2, il_3, il_4, il_5, il_6, il_7, il_8, il_9, il_10, il_15, il_20, il_31, il_30, il_37, il_48, il_49, il_54, il_57, il_59, il_60, il_68, il_80, il_87, il_99, il_100, il_101, il_111, il_112, il_115, il_243, il_500, il_729, il_999, il_1000, il_10000, il_m1, il_m2, il_m3, il_m4, il_m9, il_m10, il_m100, il_m500, iI_le', iI_lt', iI_eq', iI_add, iI_sub, iI_mul, iI_neg, if_pos, if_neg, ck_in, Int.toNat_natCast, nm_eq, if_true, if_false, jl_0, jl_1, jl_2, jl_3, jl_4, jl_5, jl_6, jl_9, jl_10, jl_15, jl_19, jl_30, jl_500, jl_999, jl_m1, jl_m500, i64_of, f6_within_eq]
    · unfold f6_cell
      by_cases c2 : 0 ≤ z1 ∧ z1 < 4
      · simp (disch := omega) only [f6_isSheet_eq hz1, f6_isSort_eq hz3, il_0, il_1, il_2, il_3, il_4, il_5, il_6, il_7, il_8, il_9, il_10, il_15, il_20, il_31, il_30, il_37, il_48, il_49, il_54, il_57, il_59, il_60, il_68, il_80, il_87, il_99, il_100, il_101, il_111, il_112, il_115, il_243, il_500, il_729, il_999, il_1000, il_10000, il_m1, il_m2, il_m3, il_m4, il_m9, il_m10, il_m100, il_m500, iI_le', iI_lt', iI_eq', iI_add, iI_sub, iI_mul, iI_neg, if_pos, if_neg, ck_in, Int.toNat_natCast, nm_eq, if_true, if_false, jl_0, jl_1, jl_2, jl_3, jl_4, jl_5, jl_6, jl_9, jl_10, jl_15, jl_19, jl_30, jl_500, jl_999, jl_m1, jl_m500, i64_of, f6_within_eq]
      · simp (disch := omega) only [f6_isSheet_eq hz1, il_0, il_1, il_2, il_3, il_4, il_5, il_6, il_7, il_8, il_9, il_10, il_15, il_20, il_31, il_30, il_37, il_48, il_49, il_54, il_57, il_59, il_60, il_68, il_80, il_87, il_99, il_100, il_101, il_111, il_112, il_115, il_243, il_500, il_729, il_999, il_1000, il_10000, il_m1, il_m2, il_m3, il_m4, il_m9, il_m10, il_m100, il_m500, iI_le', iI_lt', iI_eq', iI_add, iI_sub, iI_mul, iI_neg, if_pos, if_neg, ck_in, Int.toNat_natCast, nm_eq, if_true, if_false, jl_0, jl_1, jl_2, jl_3, jl_4, jl_5, jl_6, jl_9, jl_10, jl_15, jl_19, jl_30, jl_500, jl_999, jl_m1, jl_m500, i64_of, f6_within_eq]
end Ops4
