/-! PURE PART 13: tanks asked, told anew -/
def upS (σ : Sg) (i j v : Nat) : Sg := fun a b => if a = i ∧ b = j then v else σ a b
section Ops6
variable {PX PM : Sg → MS → Prop} {σ : Sg} {SX SM : MS}
theorem w729 (h : Gd σ) : σ 0 1 < 729 := by
  have h1 := h.2.1
  have h2 := p3_bd h.1
  omega
theorem rel_new {σ' : Sg} {SX' SM' : MS} (h : RelS PX PM σ SX SM) (hG : Gd σ') (hX : ShX σ' SX') (hM : ShM σ' SM') (x0 : ∀ j, j = 0 ∨ j = 4 ∨ (16 ≤ j ∧ j < 24) → SX'.1 j = SX.1 j) (m0 : SM'.1 0 0 = SM.1 0 0 ∧ SM'.1 0 1 = SM.1 0 1 ∧ SM'.1 0 34 = SM.1 0 34) (m1 : ∀ j, (1 ≤ j ∧ j ≤ 3) ∨ j = 21 → SM'.1 j = SM.1 j) (fx : SX'.1 3 7 = 0) (fm : SM'.1 0 28 = 0) : RelS PX PM σ' SX' SM' := by
  refine ⟨hG, hX, hM, rd_keep h.2.2.2.1 (by rw [x0 0 (by omega)]) m0.2.2 (x0 4 (by omega)) (m1 21 (by omega)), ?_, ?_, sk_keep h.2.2.2.2.2.2.1 (fun j hj => x0 j (by omega)) (fun j hj => m1 j (by omega)), Or.inl fx, Or.inl fm⟩
  · rw [x0 0 (by omega), m0.2.1]; exact h.2.2.2.2.1
  · rw [x0 0 (by omega), m0.1]; exact h.2.2.2.2.2.1
theorem sim_mass (a b : Int32) : SimI (RelP PX PM) (f5_mass a b) (f6_mass a b) := by
  intro SX SM ⟨σ, h⟩
  obtain ⟨z1, rfl, hz1⟩ := iI_of a
  obtain ⟨z2, rfl, hz2⟩ := iI_of b
  have hn := h.1.1
  by_cases c1 : 0 ≤ z1 ∧ z1 < σ 0 0
  · obtain ⟨t, rfl⟩ : ∃ k : Nat, z1 = k := ⟨z1.toNat, by omega⟩
    have ht : t < σ 0 0 := by omega
    obtain ⟨x1, x2, x3, x4⟩ := h.2.1.2.2.2.2.2 t ht
    obtain ⟨m1, m2, m3, m4⟩ := h.2.2.1.2.2.2.2.2.1 t ht
    by_cases c2 : 1 ≤ z2 ∧ z2 ≤ 9
    · obtain ⟨v, rfl⟩ : ∃ k : Nat, z2 = k := ⟨z2.toNat, by omega⟩
      refine ⟨iI (σ 5 t), sI (sI SX (24 + t) 3 (iI v)) 3 7 (iI 0), sI (sI SM 8 t (iI v)) 0 28 (iI 0), ?_, ?_, upS σ 5 t v, ?_⟩
      · unfold f5_mass f2_forget
        simp (disch := omega) only [↓f5_isTank_eq hz1 hn h.2.1.1, f5_isTank_eq hz1 hn h.2.1.1, x4, ↓reduceIte, ↓nm_eq, ↓ck_in, ck_in, il_0, il_1, il_2, il_3, il_4, il_5, il_6, il_7, il_8, il_9, il_10, il_15, il_20, il_31, il_30, il_37, il_48, il_49, il_54, il_57, il_59, il_60, il_68, il_80, il_87, il_99, il_100, il_101, il_111, il_112, il_115, il_243, il_500, il_729, il_999, il_1000, il_10000, il_m1, il_m2, il_m3, il_m4, il_m9, il_m10, il_m100, il_m500, iI_le', iI_lt', iI_eq', iI_add, iI_sub, iI_mul, iI_neg, dc_ltT, dc_ltF, dc_leT, dc_leF, dc_eqT, dc_eqF, ↓dc_andT, ↓dc_andF, dc_andT, dc_andF, and_self, and_true, true_and, and_false, false_and, or_self, or_true, true_or, or_false, false_or, not_true_eq_false, not_false_eq_true, Int.toNat_natCast, jl_0, jl_1, jl_2, jl_3, jl_4, jl_5, jl_6, jl_9, jl_10, jl_15, jl_19, jl_30, jl_500, jl_999, jl_m1, jl_m500, i64_of, ↓f6_within_eq, f6_within_eq]
      · unfold f6_mass
        simp (disch := omega) only [↓f6_isTank_eq hz1 hn h.2.2.1.1, f6_isTank_eq hz1 hn h.2.2.1.1, m4, ↓reduceIte, ↓nm_eq, ↓ck_in, ck_in, il_0, il_1, il_2, il_3, il_4, il_5, il_6, il_7, il_8, il_9, il_10, il_15, il_20, il_31, il_30, il_37, il_48, il_49, il_54, il_57, il_59, il_60, il_68, il_80, il_87, il_99, il_100, il_101, il_111, il_112, il_115, il_243, il_500, il_729, il_999, il_1000, il_10000, il_m1, il_m2, il_m3, il_m4, il_m9, il_m10, il_m100, il_m500, iI_le', iI_lt', iI_eq', iI_add, iI_sub, iI_mul, iI_neg, dc_ltT, dc_ltF, dc_leT, dc_leF, dc_eqT, dc_eqF, ↓dc_andT, ↓dc_andF, dc_andT, dc_andF, and_self, and_true, true_and, and_false, false_and, or_self, or_true, true_or, or_false, false_or, not_true_eq_false, not_false_eq_true, Int.toNat_natCast, jl_0, jl_1, jl_2, jl_3, jl_4, jl_5, jl_6, jl_9, jl_10, jl_15, jl_19, jl_30, jl_500, jl_999, jl_m1, jl_m500, i64_of, ↓f6_within_eq, f6_within_eq]
      · refine rel_new h ⟨hn, h.1.2.1, h.1.2.2.1, h.1.2.2.2.1, h.1.2.2.2.2.1, fun q hq => ?_⟩ ?_ ?_ (fun j hj => by simp (disch := omega) only [rfS_cell, sI_cell, sI_place, sI_same, sI_2]) ⟨by simp (disch := omega) only [rfS_cell, sI_cell, sI_place, sI_same, sI_2], by simp (disch := omega) only [rfS_cell, sI_cell, sI_place, sI_same, sI_2], by simp (disch := omega) only [rfS_cell, sI_cell, sI_place, sI_same, sI_2]⟩ (fun j hj => by simp (disch := omega) only [rfS_cell, sI_cell, sI_place, sI_same, sI_2]) (by rw [sI_same]; rfl) (by rw [sI_same]; rfl)
        · have b0 := h.1.2.2.2.2.2 q hq
          show σ 2 q ≤ 2 ∧ σ 3 q ≤ 6 ∧ σ 4 q ≤ 2 ∧ 1 ≤ (if (5 : Nat) = 5 ∧ q = t then v else σ 5 q) ∧ (if (5 : Nat) = 5 ∧ q = t then v else σ 5 q) ≤ 9
          by_cases e : q = t
          · rw [if_pos ⟨rfl, e⟩]; omega
          · rw [if_neg (by omega)]; omega
        · obtain ⟨y1, y2, y3, y4, y5, y6⟩ := h.2.1
          refine ⟨?_, ?_, ?_, ?_, fun k hk => ?_, fun q hq => ?_⟩
          · simp (disch := omega) only [rfS_cell, sI_cell, sI_place, sI_same, sI_2]; exact y1
          · simp (disch := omega) only [rfS_cell, sI_cell, sI_place, sI_same, sI_2]; exact y2
          · simp (disch := omega) only [rfS_cell, sI_cell, sI_place, sI_same, sI_2]; exact y3
          · simp (disch := omega) only [rfS_cell, sI_cell, sI_place, sI_same, sI_2]; exact y4
          · simp (disch := omega) only [rfS_cell, sI_cell, sI_place, sI_same, sI_2]; exact y5 k hk
          · have hq' : q < σ 0 0 := hq
            obtain ⟨u1, u2, u3, u4⟩ := y6 q hq'
            show _ = iI (σ 2 q) ∧ _ = iI (σ 3 q) ∧ _ = iI (σ 4 q) ∧ _ = iI ((if (5 : Nat) = 5 ∧ q = t then v else σ 5 q : Nat) : Int)
            simp (disch := omega) only [rfS_cell, sI_cell, sI_place, sI_same, sI_2]
            by_cases e : q = t
            · subst e
              simp (disch := omega) only [rfS_cell, sI_cell, sI_place, sI_same, sI_2]
              rw [if_pos (by simp)]
              exact ⟨u1, u2, u3, rfl⟩
            · simp (disch := omega) only [rfS_cell, sI_cell, sI_place, sI_same, sI_2]
              rw [if_neg (by omega)]
              exact ⟨u1, u2, u3, u4⟩
        · obtain ⟨y1, y2, y3, y4, y5, y6, y7⟩ := h.2.2.1
          refine ⟨?_, ?_, ?_, fun q hq => ?_, fun k hk => ?_, fun q hq => ?_, fun j hj => ?_⟩
          · simp (disch := omega) only [rfS_cell, sI_cell, sI_place, sI_same, sI_2]; exact y1
          · simp (disch := omega) only [rfS_cell, sI_cell, sI_place, sI_same, sI_2]; exact y2
          · simp (disch := omega) only [rfS_cell, sI_cell, sI_place, sI_same, sI_2]; exact y3
          · simp (disch := omega) only [rfS_cell, sI_cell, sI_place, sI_same, sI_2]; exact y4 q hq
          · simp (disch := omega) only [rfS_cell, sI_cell, sI_place, sI_same, sI_2]; exact y5 k hk
          · have hq' : q < σ 0 0 := hq
            obtain ⟨u1, u2, u3, u4⟩ := y6 q hq'
            show _ = iI (σ 2 q) ∧ _ = iI (σ 3 q) ∧ _ = iI (σ 4 q) ∧ _ = iI ((if (5 : Nat) = 5 ∧ q = t then v else σ 5 q : Nat) : Int)
            by_cases e : q = t
            · subst e
              simp (disch := omega) only [rfS_cell, sI_cell, sI_place, sI_same, sI_2]
              rw [if_pos (by simp)]
              exact ⟨u1, u2, u3, rfl⟩
            · simp (disch := omega) only [rfS_cell, sI_cell, sI_place, sI_same, sI_2]
              rw [if_neg (by omega)]
              exact ⟨u1, u2, u3, u4⟩
          · simp (disch := omega) only [rfS_cell, sI_cell, sI_place, sI_same, sI_2]; exact y7 j hj
    · refine ⟨iI (-2), SX, SM, ?_, ?_, σ, h⟩
      · unfold f5_mass
        by_cases d1 : z2 < 1
        · simp (disch := omega) only [↓f5_isTank_eq hz1 hn h.2.1.1, f5_isTank_eq hz1 hn h.2.1.1, ↓reduceIte, ↓nm_eq, ↓ck_in, ck_in, il_0, il_1, il_2, il_3, il_4, il_5, il_6, il_7, il_8, il_9, il_10, il_15, il_20, il_31, il_30, il_37, il_48, il_49, il_54, il_57, il_59, il_60, il_68, il_80, il_87, il_99, il_100, il_101, il_111, il_112, il_115, il_243, il_500, il_729, il_999, il_1000, il_10000, il_m1, il_m2, il_m3, il_m4, il_m9, il_m10, il_m100, il_m500, iI_le', iI_lt', iI_eq', iI_add, iI_sub, iI_mul, iI_neg, dc_ltT, dc_ltF, dc_leT, dc_leF, dc_eqT, dc_eqF, ↓dc_andT, ↓dc_andF, dc_andT, dc_andF, and_self, and_true, true_and, and_false, false_and, or_self, or_true, true_or, or_false, false_or, not_true_eq_false, not_false_eq_true, Int.toNat_natCast, jl_0, jl_1, jl_2, jl_3, jl_4, jl_5, jl_6, jl_9, jl_10, jl_15, jl_19, jl_30, jl_500, jl_999, jl_m1, jl_m500, i64_of, ↓f6_within_eq, f6_within_eq]
        · simp (disch := omega) only [↓f5_isTank_eq hz1 hn h.2.1.1, f5_isTank_eq hz1 hn h.2.1.1, ↓reduceIte, ↓nm_eq, ↓ck_in, ck_in, il_0, il_1, il_2, il_3, il_4, il_5, il_6, il_7, il_8, il_9, il_10, il_15, il_20, il_31, il_30, il_37, il_48, il_49, il_54, il_57, il_59, il_60, il_68, il_80, il_87, il_99, il_100, il_101, il_111, il_112, il_115, il_243, il_500, il_729, il_999, il_1000, il_10000, il_m1, il_m2, il_m3, il_m4, il_m9, il_m10, il_m100, il_m500, iI_le', iI_lt', iI_eq', iI_add, iI_sub, iI_mul, iI_neg, dc_ltT, dc_ltF, dc_leT, dc_leF, dc_eqT, dc_eqF, ↓dc_andT, ↓dc_andF, dc_andT, dc_andF, and_self, and_true, true_and, and_false, false_and, or_self, or_true, true_or, or_false, false_or, not_true_eq_false, not_false_eq_true, Int.toNat_natCast, jl_0, jl_1, jl_2, jl_3, jl_4, jl_5, jl_6, jl_9, jl_10, jl_15, jl_19, jl_30, jl_500, jl_999, jl_m1, jl_m500, i64_of, ↓f6_within_eq, f6_within_eq]
      · unfold f6_mass
        simp (disch := omega) only [↓f6_isTank_eq hz1 hn h.2.2.1.1, f6_isTank_eq hz1 hn h.2.2.1.1, ↓reduceIte, ↓nm_eq, ↓ck_in, ck_in, il_0, il_1, il_2, il_3, il_4, il_5, il_6, il_7, il_8, il_9, il_10, il_15, il_20, il_31, il_30, il_37, il_48, il_49, il_54, il_57, il_59, il_60, il_68, il_80, il_87, il_99, il_100, il_101, il_111, il_112, il_115, il_243, il_500, il_729, il_999, il_1000, il_10000, il_m1, il_m2, il_m3, il_m4, il_m9, il_m10, il_m100, il_m500, iI_le', iI_lt', iI_eq', iI_add, iI_sub, iI_mul, iI_neg, dc_ltT, dc_ltF, dc_leT, dc_leF, dc_eqT, dc_eqF, ↓dc_andT, ↓dc_andF, dc_andT, dc_andF, and_self, and_true, true_and, and_false, false_and, or_self, or_true, true_or, or_false, false_or, not_true_eq_false, not_false_eq_true, Int.toNat_natCast, jl_0, jl_1, jl_2, jl_3, jl_4, jl_5, jl_6, jl_9, jl_10, jl_15, jl_19, jl_30, jl_500, jl_999, jl_m1, jl_m500, i64_of, ↓f6_within_eq, f6_within_eq]
  · refine ⟨iI (-1), SX, SM, ?_, ?_, σ, h⟩
    · unfold f5_mass
      simp (disch := omega) only [↓f5_isTank_eq hz1 hn h.2.1.1, f5_isTank_eq hz1 hn h.2.1.1, ↓reduceIte, ↓nm_eq, ↓ck_in, ck_in, il_0, il_1, il_2, il_3, il_4, il_5, il_6, il_7, il_8, il_9, il_10, il_15, il_20, il_31, il_30, il_37, il_48, il_49, il_54, il_57, il_59, il_60, il_68, il_80, il_87, il_99, il_100, il_101, il_111, il_112, il_115, il_243, il_500, il_729, il_999, il_1000, il_10000, il_m1, il_m2, il_m3, il_m4, il_m9, il_m10, il_m100, il_m500, iI_le', iI_lt', iI_eq', iI_add, iI_sub, iI_mul, iI_neg, dc_ltT, dc_ltF, dc_leT, dc_leF, dc_eqT, dc_eqF, ↓dc_andT, ↓dc_andF, dc_andT, dc_andF, and_self, and_true, true_and, and_false, false_and, or_self, or_true, true_or, or_false, false_or, not_true_eq_false, not_false_eq_true, Int.toNat_natCast, jl_0, jl_1, jl_2, jl_3, jl_4, jl_5, jl_6, jl_9, jl_10, jl_15, jl_19, jl_30, jl_500, jl_999, jl_m1, jl_m500, i64_of, ↓f6_within_eq, f6_within_eq]
    · unfold f6_mass
      simp (disch := omega) only [↓f6_isTank_eq hz1 hn h.2.2.1.1, f6_isTank_eq hz1 hn h.2.2.1.1, ↓reduceIte, ↓nm_eq, ↓ck_in, ck_in, il_0, il_1, il_2, il_3, il_4, il_5, il_6, il_7, il_8, il_9, il_10, il_15, il_20, il_31, il_30, il_37, il_48, il_49, il_54, il_57, il_59, il_60, il_68, il_80, il_87, il_99, il_100, il_101, il_111, il_112, il_115, il_243, il_500, il_729, il_999, il_1000, il_10000, il_m1, il_m2, il_m3, il_m4, il_m9, il_m10, il_m100, il_m500, iI_le', iI_lt', iI_eq', iI_add, iI_sub, iI_mul, iI_neg, dc_ltT, dc_ltF, dc_leT, dc_leF, dc_eqT, dc_eqF, ↓dc_andT, ↓dc_andF, dc_andT, dc_andF, and_self, and_true, true_and, and_false, false_and, or_self, or_true, true_or, or_false, false_or, not_true_eq_false, not_false_eq_true, Int.toNat_natCast, jl_0, jl_1, jl_2, jl_3, jl_4, jl_5, jl_6, jl_9, jl_10, jl_15, jl_19, jl_30, jl_500, jl_999, jl_m1, jl_m500, i64_of, ↓f6_within_eq, f6_within_eq]
theorem sim_bound (a b : Int32) : SimI (RelP PX PM) (f5_bound a b) (f6_bound a b) := by
  intro SX SM ⟨σ, h⟩
  obtain ⟨z1, rfl, hz1⟩ := iI_of a
  obtain ⟨z2, rfl, hz2⟩ := iI_of b
  have hn := h.1.1
  have hM1 := h.2.2.1.1
  by_cases c1 : (0 ≤ z1 ∧ z1 < 3) ∧ 0 ≤ z2 ∧ z2 ≤ 999
  · obtain ⟨k, rfl⟩ : ∃ k : Nat, z1 = k := ⟨z1.toNat, by omega⟩
    obtain ⟨v, rfl⟩ : ∃ k : Nat, z2 = k := ⟨z2.toNat, by omega⟩
    have x1 := h.2.1.2.2.2.2.1 k (by omega)
    have m1 := h.2.2.1.2.2.2.2.1 k (by omega)
    by_cases c2 : σ 0 0 = 0
    · refine ⟨iI (-3), SX, SM, ?_, ?_, σ, h⟩
      · unfold f5_bound
        simp (disch := omega) only [↓f5_hasNoShip_eq hn h.2.1.1, f5_hasNoShip_eq hn h.2.1.1, c2, ↓reduceIte, ↓nm_eq, ↓ck_in, ck_in, il_0, il_1, il_2, il_3, il_4, il_5, il_6, il_7, il_8, il_9, il_10, il_15, il_20, il_31, il_30, il_37, il_48, il_49, il_54, il_57, il_59, il_60, il_68, il_80, il_87, il_99, il_100, il_101, il_111, il_112, il_115, il_243, il_500, il_729, il_999, il_1000, il_10000, il_m1, il_m2, il_m3, il_m4, il_m9, il_m10, il_m100, il_m500, iI_le', iI_lt', iI_eq', iI_add, iI_sub, iI_mul, iI_neg, dc_ltT, dc_ltF, dc_leT, dc_leF, dc_eqT, dc_eqF, ↓dc_andT, ↓dc_andF, dc_andT, dc_andF, and_self, and_true, true_and, and_false, false_and, or_self, or_true, true_or, or_false, false_or, not_true_eq_false, not_false_eq_true, Int.toNat_natCast, jl_0, jl_1, jl_2, jl_3, jl_4, jl_5, jl_6, jl_9, jl_10, jl_15, jl_19, jl_30, jl_500, jl_999, jl_m1, jl_m500, i64_of, ↓f6_within_eq, f6_within_eq]
      · unfold f6_bound
        simp (disch := omega) only [hM1, ↓reduceIte, ↓nm_eq, ↓ck_in, ck_in, il_0, il_1, il_2, il_3, il_4, il_5, il_6, il_7, il_8, il_9, il_10, il_15, il_20, il_31, il_30, il_37, il_48, il_49, il_54, il_57, il_59, il_60, il_68, il_80, il_87, il_99, il_100, il_101, il_111, il_112, il_115, il_243, il_500, il_729, il_999, il_1000, il_10000, il_m1, il_m2, il_m3, il_m4, il_m9, il_m10, il_m100, il_m500, iI_le', iI_lt', iI_eq', iI_add, iI_sub, iI_mul, iI_neg, dc_ltT, dc_ltF, dc_leT, dc_leF, dc_eqT, dc_eqF, ↓dc_andT, ↓dc_andF, dc_andT, dc_andF, and_self, and_true, true_and, and_false, false_and, or_self, or_true, true_or, or_false, false_or, not_true_eq_false, not_false_eq_true, Int.toNat_natCast, jl_0, jl_1, jl_2, jl_3, jl_4, jl_5, jl_6, jl_9, jl_10, jl_15, jl_19, jl_30, jl_500, jl_999, jl_m1, jl_m500, i64_of, ↓f6_within_eq, f6_within_eq]
    · refine ⟨iI (σ 1 k), sI (sI SX 8 k (iI v)) 3 7 (iI 0), sI (sI SM 10 k (iI v)) 0 28 (iI 0), ?_, ?_, upS σ 1 k v, ?_⟩
      · unfold f5_bound f2_forget
        simp (disch := omega) only [↓f5_hasNoShip_eq hn h.2.1.1, f5_hasNoShip_eq hn h.2.1.1, c2, x1, ↓reduceIte, ↓nm_eq, ↓ck_in, ck_in, il_0, il_1, il_2, il_3, il_4, il_5, il_6, il_7, il_8, il_9, il_10, il_15, il_20, il_31, il_30, il_37, il_48, il_49, il_54, il_57, il_59, il_60, il_68, il_80, il_87, il_99, il_100, il_101, il_111, il_112, il_115, il_243, il_500, il_729, il_999, il_1000, il_10000, il_m1, il_m2, il_m3, il_m4, il_m9, il_m10, il_m100, il_m500, iI_le', iI_lt', iI_eq', iI_add, iI_sub, iI_mul, iI_neg, dc_ltT, dc_ltF, dc_leT, dc_leF, dc_eqT, dc_eqF, ↓dc_andT, ↓dc_andF, dc_andT, dc_andF, and_self, and_true, true_and, and_false, false_and, or_self, or_true, true_or, or_false, false_or, not_true_eq_false, not_false_eq_true, Int.toNat_natCast, jl_0, jl_1, jl_2, jl_3, jl_4, jl_5, jl_6, jl_9, jl_10, jl_15, jl_19, jl_30, jl_500, jl_999, jl_m1, jl_m500, i64_of, ↓f6_within_eq, f6_within_eq]
      · unfold f6_bound
        simp (disch := omega) only [hM1, m1, ↓reduceIte, ↓nm_eq, ↓ck_in, ck_in, il_0, il_1, il_2, il_3, il_4, il_5, il_6, il_7, il_8, il_9, il_10, il_15, il_20, il_31, il_30, il_37, il_48, il_49, il_54, il_57, il_59, il_60, il_68, il_80, il_87, il_99, il_100, il_101, il_111, il_112, il_115, il_243, il_500, il_729, il_999, il_1000, il_10000, il_m1, il_m2, il_m3, il_m4, il_m9, il_m10, il_m100, il_m500, iI_le', iI_lt', iI_eq', iI_add, iI_sub, iI_mul, iI_neg, dc_ltT, dc_ltF, dc_leT, dc_leF, dc_eqT, dc_eqF, ↓dc_andT, ↓dc_andF, dc_andT, dc_andF, and_self, and_true, true_and, and_false, false_and, or_self, or_true, true_or, or_false, false_or, not_true_eq_false, not_false_eq_true, Int.toNat_natCast, jl_0, jl_1, jl_2, jl_3, jl_4, jl_5, jl_6, jl_9, jl_10, jl_15, jl_19, jl_30, jl_500, jl_999, jl_m1, jl_m500, i64_of, ↓f6_within_eq, f6_within_eq]
      · refine rel_new h ⟨hn, h.1.2.1, h.1.2.2.1, h.1.2.2.2.1, fun q hq => ?_, h.1.2.2.2.2.2⟩ ?_ ?_ (fun j hj => by simp (disch := omega) only [rfS_cell, sI_cell, sI_place, sI_same, sI_2]) ⟨by simp (disch := omega) only [rfS_cell, sI_cell, sI_place, sI_same, sI_2], by simp (disch := omega) only [rfS_cell, sI_cell, sI_place, sI_same, sI_2], by simp (disch := omega) only [rfS_cell, sI_cell, sI_place, sI_same, sI_2]⟩ (fun j hj => by simp (disch := omega) only [rfS_cell, sI_cell, sI_place, sI_same, sI_2]) (by rw [sI_same]; rfl) (by rw [sI_same]; rfl)
        · have b0 := h.1.2.2.2.2.1 q hq
          show (if (1 : Nat) = 1 ∧ q = k then v else σ 1 q) ≤ 999
          split <;> omega
        · obtain ⟨y1, y2, y3, y4, y5, y6⟩ := h.2.1
          refine ⟨?_, ?_, ?_, ?_, fun q hq => ?_, fun q hq => ?_⟩
          · simp (disch := omega) only [rfS_cell, sI_cell, sI_place, sI_same, sI_2]; exact y1
          · simp (disch := omega) only [rfS_cell, sI_cell, sI_place, sI_same, sI_2]; exact y2
          · simp (disch := omega) only [rfS_cell, sI_cell, sI_place, sI_same, sI_2]; exact y3
          · simp (disch := omega) only [rfS_cell, sI_cell, sI_place, sI_same, sI_2]; exact y4
          · show _ = iI ((if (1 : Nat) = 1 ∧ q = k then v else σ 1 q : Nat) : Int)
            by_cases e : q = k
            · subst e; simp (disch := omega) only [rfS_cell, sI_cell, sI_place, sI_same, sI_2]; rw [if_pos (by simp)]
            · simp (disch := omega) only [rfS_cell, sI_cell, sI_place, sI_same, sI_2]; rw [if_neg (by omega)]; exact y5 q hq
          · simp (disch := omega) only [rfS_cell, sI_cell, sI_place, sI_same, sI_2]; exact y6 q hq
        · obtain ⟨y1, y2, y3, y4, y5, y6, y7⟩ := h.2.2.1
          refine ⟨?_, ?_, ?_, fun q hq => ?_, fun q hq => ?_, fun q hq => ?_, fun j hj => ?_⟩
          · simp (disch := omega) only [rfS_cell, sI_cell, sI_place, sI_same, sI_2]; exact y1
          · simp (disch := omega) only [rfS_cell, sI_cell, sI_place, sI_same, sI_2]; exact y2
          · simp (disch := omega) only [rfS_cell, sI_cell, sI_place, sI_same, sI_2]; exact y3
          · simp (disch := omega) only [rfS_cell, sI_cell, sI_place, sI_same, sI_2]; exact y4 q hq
          · show _ = iI ((if (1 : Nat) = 1 ∧ q = k then v else σ 1 q : Nat) : Int)
            by_cases e : q = k
            · subst e; simp (disch := omega) only [rfS_cell, sI_cell, sI_place, sI_same, sI_2]; rw [if_pos (by simp)]
            · simp (disch := omega) only [rfS_cell, sI_cell, sI_place, sI_same, sI_2]; rw [if_neg (by omega)]; exact y5 q hq
          · simp (disch := omega) only [rfS_cell, sI_cell, sI_place, sI_same, sI_2]; exact y6 q hq
          · simp (disch := omega) only [rfS_cell, sI_cell, sI_place, sI_same, sI_2]; exact y7 j hj
  · refine ⟨iI (-2), SX, SM, ?_, ?_, σ, h⟩
    · unfold f5_bound
      by_cases d1 : z1 < 0
      · simp (disch := omega) only [↓reduceIte, ↓nm_eq, ↓ck_in, ck_in, il_0, il_1, il_2, il_3, il_4, il_5, il_6, il_7, il_8, il_9, il_10, il_15, il_20, il_31, il_30, il_37, il_48, il_49, il_54, il_57, il_59, il_60, il_68, il_80, il_87, il_99, il_100, il_101, il_111, il_112, il_115, il_243, il_500, il_729, il_999, il_1000, il_10000, il_m1, il_m2, il_m3, il_m4, il_m9, il_m10, il_m100, il_m500, iI_le', iI_lt', iI_eq', iI_add, iI_sub, iI_mul, iI_neg, dc_ltT, dc_ltF, dc_leT, dc_leF, dc_eqT, dc_eqF, ↓dc_andT, ↓dc_andF, dc_andT, dc_andF, and_self, and_true, true_and, and_false, false_and, or_self, or_true, true_or, or_false, false_or, not_true_eq_false, not_false_eq_true, Int.toNat_natCast, jl_0, jl_1, jl_2, jl_3, jl_4, jl_5, jl_6, jl_9, jl_10, jl_15, jl_19, jl_30, jl_500, jl_999, jl_m1, jl_m500, i64_of, ↓f6_within_eq, f6_within_eq]
      · by_cases d2 : 3 ≤ z1
        · simp (disch := omega) only [↓reduceIte, ↓nm_eq, ↓ck_in, ck_in, il_0, il_1, il_2, il_3, il_4, il_5, il_6, il_7, il_8, il_9, il_10, il_15, il_20, il_31, il_30, il_37, il_48, il_49, il_54, il_57, il_59, il_60, il_68, il_80, il_87, il_99, il_100, il_101, il_111, il_112, il_115, il_243, il_500, il_729, il_999, il_1000, il_10000, il_m1, il_m2, il_m3, il_m4, il_m9, il_m10, il_m100, il_m500, iI_le', iI_lt', iI_eq', iI_add, iI_sub, iI_mul, iI_neg, dc_ltT, dc_ltF, dc_leT, dc_leF, dc_eqT, dc_eqF, ↓dc_andT, ↓dc_andF, dc_andT, dc_andF, and_self, and_true, true_and, and_false, false_and, or_self, or_true, true_or, or_false, false_or, not_true_eq_false, not_false_eq_true, Int.toNat_natCast, jl_0, jl_1, jl_2, jl_3, jl_4, jl_5, jl_6, jl_9, jl_10, jl_15, jl_19, jl_30, jl_500, jl_999, jl_m1, jl_m500, i64_of, ↓f6_within_eq, f6_within_eq]
        · by_cases d3 : z2 < 0
          · simp (disch := omega) only [↓reduceIte, ↓nm_eq, ↓ck_in, ck_in, il_0, il_1, il_2, il_3, il_4, il_5, il_6, il_7, il_8, il_9, il_10, il_15, il_20, il_31, il_30, il_37, il_48, il_49, il_54, il_57, il_59, il_60, il_68, il_80, il_87, il_99, il_100, il_101, il_111, il_112, il_115, il_243, il_500, il_729, il_999, il_1000, il_10000, il_m1, il_m2, il_m3, il_m4, il_m9, il_m10, il_m100, il_m500, iI_le', iI_lt', iI_eq', iI_add, iI_sub, iI_mul, iI_neg, dc_ltT, dc_ltF, dc_leT, dc_leF, dc_eqT, dc_eqF, ↓dc_andT, ↓dc_andF, dc_andT, dc_andF, and_self, and_true, true_and, and_false, false_and, or_self, or_true, true_or, or_false, false_or, not_true_eq_false, not_false_eq_true, Int.toNat_natCast, jl_0, jl_1, jl_2, jl_3, jl_4, jl_5, jl_6, jl_9, jl_10, jl_15, jl_19, jl_30, jl_500, jl_999, jl_m1, jl_m500, i64_of, ↓f6_within_eq, f6_within_eq]
          · simp (disch := omega) only [↓reduceIte, ↓nm_eq, ↓ck_in, ck_in, il_0, il_1, il_2, il_3, il_4, il_5, il_6, il_7, il_8, il_9, il_10, il_15, il_20, il_31, il_30, il_37, il_48, il_49, il_54, il_57, il_59, il_60, il_68, il_80, il_87, il_99, il_100, il_101, il_111, il_112, il_115, il_243, il_500, il_729, il_999, il_1000, il_10000, il_m1, il_m2, il_m3, il_m4, il_m9, il_m10, il_m100, il_m500, iI_le', iI_lt', iI_eq', iI_add, iI_sub, iI_mul, iI_neg, dc_ltT, dc_ltF, dc_leT, dc_leF, dc_eqT, dc_eqF, ↓dc_andT, ↓dc_andF, dc_andT, dc_andF, and_self, and_true, true_and, and_false, false_and, or_self, or_true, true_or, or_false, false_or, not_true_eq_false, not_false_eq_true, Int.toNat_natCast, jl_0, jl_1, jl_2, jl_3, jl_4, jl_5, jl_6, jl_9, jl_10, jl_15, jl_19, jl_30, jl_500, jl_999, jl_m1, jl_m500, i64_of, ↓f6_within_eq, f6_within_eq]
    · unfold f6_bound
      by_cases d1 : 0 ≤ z1 ∧ z1 ≤ 2
      · simp (disch := omega) only [↓reduceIte, ↓nm_eq, ↓ck_in, ck_in, il_0, il_1, il_2, il_3, il_4, il_5, il_6, il_7, il_8, il_9, il_10, il_15, il_20, il_31, il_30, il_37, il_48, il_49, il_54, il_57, il_59, il_60, il_68, il_80, il_87, il_99, il_100, il_101, il_111, il_112, il_115, il_243, il_500, il_729, il_999, il_1000, il_10000, il_m1, il_m2, il_m3, il_m4, il_m9, il_m10, il_m100, il_m500, iI_le', iI_lt', iI_eq', iI_add, iI_sub, iI_mul, iI_neg, dc_ltT, dc_ltF, dc_leT, dc_leF, dc_eqT, dc_eqF, ↓dc_andT, ↓dc_andF, dc_andT, dc_andF, and_self, and_true, true_and, and_false, false_and, or_self, or_true, true_or, or_false, false_or, not_true_eq_false, not_false_eq_true, Int.toNat_natCast, jl_0, jl_1, jl_2, jl_3, jl_4, jl_5, jl_6, jl_9, jl_10, jl_15, jl_19, jl_30, jl_500, jl_999, jl_m1, jl_m500, i64_of, ↓f6_within_eq, f6_within_eq]
      · simp (disch := omega) only [↓reduceIte, ↓nm_eq, ↓ck_in, ck_in, il_0, il_1, il_2, il_3, il_4, il_5, il_6, il_7, il_8, il_9, il_10, il_15, il_20, il_31, il_30, il_37, il_48, il_49, il_54, il_57, il_59, il_60, il_68, il_80, il_87, il_99, il_100, il_101, il_111, il_112, il_115, il_243, il_500, il_729, il_999, il_1000, il_10000, il_m1, il_m2, il_m3, il_m4, il_m9, il_m10, il_m100, il_m500, iI_le', iI_lt', iI_eq', iI_add, iI_sub, iI_mul, iI_neg, dc_ltT, dc_ltF, dc_leT, dc_leF, dc_eqT, dc_eqF, ↓dc_andT, ↓dc_andF, dc_andT, dc_andF, and_self, and_true, true_and, and_false, false_and, or_self, or_true, true_or, or_false, false_or, not_true_eq_false, not_false_eq_true, Int.toNat_natCast, jl_0, jl_1, jl_2, jl_3, jl_4, jl_5, jl_6, jl_9, jl_10, jl_15, jl_19, jl_30, jl_500, jl_999, jl_m1, jl_m500, i64_of, ↓f6_within_eq, f6_within_eq]
theorem sim_due (a : Int32) : SimI (RelP PX PM) (f5_due a) (f6_due a) := by
  intro SX SM ⟨σ, h⟩
  obtain ⟨z1, rfl, hz1⟩ := iI_of a
  have hn := h.1.1
  have hX1 := h.2.1.1
  have hM1 := h.2.2.1.1
  have hp2 := p2_bd hn
  have s1 := shl_all (σ 0 0) hn
  by_cases c2 : σ 0 0 = 0
  · refine ⟨iI (-3), SX, SM, ?_, ?_, σ, h⟩
    · unfold f5_due
      simp (disch := omega) only [↓f5_hasNoShip_eq hn h.2.1.1, f5_hasNoShip_eq hn h.2.1.1, c2, ↓reduceIte, ↓nm_eq, ↓ck_in, ck_in, il_0, il_1, il_2, il_3, il_4, il_5, il_6, il_7, il_8, il_9, il_10, il_15, il_20, il_31, il_30, il_37, il_48, il_49, il_54, il_57, il_59, il_60, il_68, il_80, il_87, il_99, il_100, il_101, il_111, il_112, il_115, il_243, il_500, il_729, il_999, il_1000, il_10000, il_m1, il_m2, il_m3, il_m4, il_m9, il_m10, il_m100, il_m500, iI_le', iI_lt', iI_eq', iI_add, iI_sub, iI_mul, iI_neg, dc_ltT, dc_ltF, dc_leT, dc_leF, dc_eqT, dc_eqF, ↓dc_andT, ↓dc_andF, dc_andT, dc_andF, and_self, and_true, true_and, and_false, false_and, or_self, or_true, true_or, or_false, false_or, not_true_eq_false, not_false_eq_true, Int.toNat_natCast, jl_0, jl_1, jl_2, jl_3, jl_4, jl_5, jl_6, jl_9, jl_10, jl_15, jl_19, jl_30, jl_500, jl_999, jl_m1, jl_m500, i64_of, ↓f6_within_eq, f6_within_eq]
    · unfold f6_due
      simp (disch := omega) only [hM1, ↓reduceIte, ↓nm_eq, ↓ck_in, ck_in, il_0, il_1, il_2, il_3, il_4, il_5, il_6, il_7, il_8, il_9, il_10, il_15, il_20, il_31, il_30, il_37, il_48, il_49, il_54, il_57, il_59, il_60, il_68, il_80, il_87, il_99, il_100, il_101, il_111, il_112, il_115, il_243, il_500, il_729, il_999, il_1000, il_10000, il_m1, il_m2, il_m3, il_m4, il_m9, il_m10, il_m100, il_m500, iI_le', iI_lt', iI_eq', iI_add, iI_sub, iI_mul, iI_neg, dc_ltT, dc_ltF, dc_leT, dc_leF, dc_eqT, dc_eqF, ↓dc_andT, ↓dc_andF, dc_andT, dc_andF, and_self, and_true, true_and, and_false, false_and, or_self, or_true, true_or, or_false, false_or, not_true_eq_false, not_false_eq_true, Int.toNat_natCast, jl_0, jl_1, jl_2, jl_3, jl_4, jl_5, jl_6, jl_9, jl_10, jl_15, jl_19, jl_30, jl_500, jl_999, jl_m1, jl_m500, i64_of, ↓f6_within_eq, f6_within_eq]
  · by_cases c1 : 0 ≤ z1 ∧ z1 < ((2 ^ σ 0 0 : Nat) : Int)
    · obtain ⟨v, rfl⟩ : ∃ k : Nat, z1 = k := ⟨z1.toNat, by omega⟩
      have hv : v < 2 ^ σ 0 0 := by omega
      generalize hpw : 2 ^ σ 0 0 = pw at c1 hp2 s1 hv
      refine ⟨iI (σ 0 2), sI (sI SX 2 6 (iI v)) 3 7 (iI 0), sI (sI SM 0 13 (iI v)) 0 28 (iI 0), ?_, ?_, upS σ 0 2 v, ?_⟩
      · unfold f5_due f2_forget
        rw [f5_hasNoShip_eq hn h.2.1.1, if_neg c2, if_pos rfl, hX1, s1, h.2.1.2.2.1]
        simp (disch := omega) only [↓reduceIte, ↓nm_eq, ↓ck_in, ck_in, il_0, il_1, il_2, il_3, il_4, il_5, il_6, il_7, il_8, il_9, il_10, il_15, il_20, il_31, il_30, il_37, il_48, il_49, il_54, il_57, il_59, il_60, il_68, il_80, il_87, il_99, il_100, il_101, il_111, il_112, il_115, il_243, il_500, il_729, il_999, il_1000, il_10000, il_m1, il_m2, il_m3, il_m4, il_m9, il_m10, il_m100, il_m500, iI_le', iI_lt', iI_eq', iI_add, iI_sub, iI_mul, iI_neg, dc_ltT, dc_ltF, dc_leT, dc_leF, dc_eqT, dc_eqF, ↓dc_andT, ↓dc_andF, dc_andT, dc_andF, and_self, and_true, true_and, and_false, false_and, or_self, or_true, true_or, or_false, false_or, not_true_eq_false, not_false_eq_true, Int.toNat_natCast, jl_0, jl_1, jl_2, jl_3, jl_4, jl_5, jl_6, jl_9, jl_10, jl_15, jl_19, jl_30, jl_500, jl_999, jl_m1, jl_m500, i64_of, ↓f6_within_eq, f6_within_eq]
      · unfold f6_due
        have m3 := h.2.2.1.2.2.1
        rw [hM1, s1]
        simp (disch := omega) only [m3, ↓reduceIte, ↓nm_eq, ↓ck_in, ck_in, il_0, il_1, il_2, il_3, il_4, il_5, il_6, il_7, il_8, il_9, il_10, il_15, il_20, il_31, il_30, il_37, il_48, il_49, il_54, il_57, il_59, il_60, il_68, il_80, il_87, il_99, il_100, il_101, il_111, il_112, il_115, il_243, il_500, il_729, il_999, il_1000, il_10000, il_m1, il_m2, il_m3, il_m4, il_m9, il_m10, il_m100, il_m500, iI_le', iI_lt', iI_eq', iI_add, iI_sub, iI_mul, iI_neg, dc_ltT, dc_ltF, dc_leT, dc_leF, dc_eqT, dc_eqF, ↓dc_andT, ↓dc_andF, dc_andT, dc_andF, and_self, and_true, true_and, and_false, false_and, or_self, or_true, true_or, or_false, false_or, not_true_eq_false, not_false_eq_true, Int.toNat_natCast, jl_0, jl_1, jl_2, jl_3, jl_4, jl_5, jl_6, jl_9, jl_10, jl_15, jl_19, jl_30, jl_500, jl_999, jl_m1, jl_m500, i64_of, ↓f6_within_eq, f6_within_eq]
      · refine rel_new h ⟨hn, h.1.2.1, by rw [← hpw] at hv; exact hv, h.1.2.2.2.1, h.1.2.2.2.2.1, h.1.2.2.2.2.2⟩ ?_ ?_ (fun j hj => by simp (disch := omega) only [rfS_cell, sI_cell, sI_place, sI_same, sI_2]) ⟨by simp (disch := omega) only [rfS_cell, sI_cell, sI_place, sI_same, sI_2], by simp (disch := omega) only [rfS_cell, sI_cell, sI_place, sI_same, sI_2], by simp (disch := omega) only [rfS_cell, sI_cell, sI_place, sI_same, sI_2]⟩ (fun j hj => by simp (disch := omega) only [rfS_cell, sI_cell, sI_place, sI_same, sI_2]) (by rw [sI_same]; rfl) (by rw [sI_same]; rfl)
        · obtain ⟨y1, y2, y3, y4, y5, y6⟩ := h.2.1
          refine ⟨?_, ?_, ?_, ?_, fun q hq => ?_, fun q hq => ?_⟩
          · simp (disch := omega) only [rfS_cell, sI_cell, sI_place, sI_same, sI_2]; exact y1
          · simp (disch := omega) only [rfS_cell, sI_cell, sI_place, sI_same, sI_2]; exact y2
          · simp (disch := omega) only [rfS_cell, sI_cell, sI_place, sI_same, sI_2]; rfl
          · simp (disch := omega) only [rfS_cell, sI_cell, sI_place, sI_same, sI_2]; exact y4
          · simp (disch := omega) only [rfS_cell, sI_cell, sI_place, sI_same, sI_2]; exact y5 q hq
          · simp (disch := omega) only [rfS_cell, sI_cell, sI_place, sI_same, sI_2]; exact y6 q hq
        · obtain ⟨y1, y2, y3, y4, y5, y6, y7⟩ := h.2.2.1
          refine ⟨?_, ?_, ?_, fun q hq => ?_, fun q hq => ?_, fun q hq => ?_, fun j hj => ?_⟩
          · simp (disch := omega) only [rfS_cell, sI_cell, sI_place, sI_same, sI_2]; exact y1
          · simp (disch := omega) only [rfS_cell, sI_cell, sI_place, sI_same, sI_2]; exact y2
          · simp (disch := omega) only [rfS_cell, sI_cell, sI_place, sI_same, sI_2]; rfl
          · simp (disch := omega) only [rfS_cell, sI_cell, sI_place, sI_same, sI_2]; exact y4 q hq
          · simp (disch := omega) only [rfS_cell, sI_cell, sI_place, sI_same, sI_2]; exact y5 q hq
          · simp (disch := omega) only [rfS_cell, sI_cell, sI_place, sI_same, sI_2]; exact y6 q hq
          · simp (disch := omega) only [rfS_cell, sI_cell, sI_place, sI_same, sI_2]; exact y7 j hj
    · generalize hpw : 2 ^ σ 0 0 = pw at c1 hp2 s1
      refine ⟨iI (-2), SX, SM, ?_, ?_, σ, h⟩
      · unfold f5_due
        rw [f5_hasNoShip_eq hn h.2.1.1, if_neg c2, if_pos rfl, hX1, s1]
        by_cases d1 : z1 < 0
        · simp (disch := omega) only [↓reduceIte, ↓nm_eq, ↓ck_in, ck_in, il_0, il_1, il_2, il_3, il_4, il_5, il_6, il_7, il_8, il_9, il_10, il_15, il_20, il_31, il_30, il_37, il_48, il_49, il_54, il_57, il_59, il_60, il_68, il_80, il_87, il_99, il_100, il_101, il_111, il_112, il_115, il_243, il_500, il_729, il_999, il_1000, il_10000, il_m1, il_m2, il_m3, il_m4, il_m9, il_m10, il_m100, il_m500, iI_le', iI_lt', iI_eq', iI_add, iI_sub, iI_mul, iI_neg, dc_ltT, dc_ltF, dc_leT, dc_leF, dc_eqT, dc_eqF, ↓dc_andT, ↓dc_andF, dc_andT, dc_andF, and_self, and_true, true_and, and_false, false_and, or_self, or_true, true_or, or_false, false_or, not_true_eq_false, not_false_eq_true, Int.toNat_natCast, jl_0, jl_1, jl_2, jl_3, jl_4, jl_5, jl_6, jl_9, jl_10, jl_15, jl_19, jl_30, jl_500, jl_999, jl_m1, jl_m500, i64_of, ↓f6_within_eq, f6_within_eq]
        · simp (disch := omega) only [↓reduceIte, ↓nm_eq, ↓ck_in, ck_in, il_0, il_1, il_2, il_3, il_4, il_5, il_6, il_7, il_8, il_9, il_10, il_15, il_20, il_31, il_30, il_37, il_48, il_49, il_54, il_57, il_59, il_60, il_68, il_80, il_87, il_99, il_100, il_101, il_111, il_112, il_115, il_243, il_500, il_729, il_999, il_1000, il_10000, il_m1, il_m2, il_m3, il_m4, il_m9, il_m10, il_m100, il_m500, iI_le', iI_lt', iI_eq', iI_add, iI_sub, iI_mul, iI_neg, dc_ltT, dc_ltF, dc_leT, dc_leF, dc_eqT, dc_eqF, ↓dc_andT, ↓dc_andF, dc_andT, dc_andF, and_self, and_true, true_and, and_false, false_and, or_self, or_true, true_or, or_false, false_or, not_true_eq_false, not_false_eq_true, Int.toNat_natCast, jl_0, jl_1, jl_2, jl_3, jl_4, jl_5, jl_6, jl_9, jl_10, jl_15, jl_19, jl_30, jl_500, jl_999, jl_m1, jl_m500, i64_of, ↓f6_within_eq, f6_within_eq]
      · unfold f6_due
        rw [hM1, s1]
        simp (disch := omega) only [↓reduceIte, ↓nm_eq, ↓ck_in, ck_in, il_0, il_1, il_2, il_3, il_4, il_5, il_6, il_7, il_8, il_9, il_10, il_15, il_20, il_31, il_30, il_37, il_48, il_49, il_54, il_57, il_59, il_60, il_68, il_80, il_87, il_99, il_100, il_101, il_111, il_112, il_115, il_243, il_500, il_729, il_999, il_1000, il_10000, il_m1, il_m2, il_m3, il_m4, il_m9, il_m10, il_m100, il_m500, iI_le', iI_lt', iI_eq', iI_add, iI_sub, iI_mul, iI_neg, dc_ltT, dc_ltF, dc_leT, dc_leF, dc_eqT, dc_eqF, ↓dc_andT, ↓dc_andF, dc_andT, dc_andF, and_self, and_true, true_and, and_false, false_and, or_self, or_true, true_or, or_false, false_or, not_true_eq_false, not_false_eq_true, Int.toNat_natCast, jl_0, jl_1, jl_2, jl_3, jl_4, jl_5, jl_6, jl_9, jl_10, jl_15, jl_19, jl_30, jl_500, jl_999, jl_m1, jl_m500, i64_of, ↓f6_within_eq, f6_within_eq]
end Ops6
