/-! PURE PART 4: sheets -/
section Ops3
variable {PX PM : Sg → MS → Prop} {σ : Sg} {SX SM : MS}
theorem sk_at (h : ∀ k, k < 4 → SkR SX SM k) {SX' SM' : MS} (k0 : Nat) (hk0 : k0 < 4) (hk : SkR SX' SM' k0) (e1 : ∀ j, 16 ≤ j ∧ j < 24 → j ≠ 16 + k0 → j ≠ 20 + k0 → SX'.1 j = SX.1 j) (e2 : ∀ j i, (j = 1 ∨ j = 2) → i ≠ k0 → SM'.1 j i = SM.1 j i) (e3 : ∀ i, (i < 60 * k0 ∨ 60 * k0 + 60 ≤ i) → SM'.1 3 i = SM.1 3 i) : ∀ k, k < 4 → SkR SX' SM' k := by
  intro k hk1
  by_cases hkk : k = k0
  · subst hkk; exact hk
  · have h := h k hk1
    unfold SkR at h ⊢
    rw [e1 (16 + k) (by omega) (by omega) (by omega), e1 (20 + k) (by omega) (by omega) (by omega), e2 1 k (Or.inl rfl) hkk, e2 2 k (Or.inr rfl) hkk]
    rcases h with h | ⟨la, len, h1, h2, h3, h4, h5, h6, h7⟩
    · exact Or.inl h
    · exact Or.inr ⟨la, len, h1, h2, h3, h4, h5, h6, fun i hi => by rw [e3 _ (by omega)]; exact h7 i hi⟩
theorem f6_sheet_loop {α : Type} (k : Nat) (hk : k < 4) (S : MS) (KX : Int32 → MS → Option α) : f6_sheet_L57 (iI k) KX FU (iI 0) S = KX (iI 60) (rfS 3 (60 * k) 60 (iI 0) S) := by
  have h := loop_eq (σ := Int32 × MS) (L := fun fuel s => f6_sheet_L57 (iI k) KX fuel s.1 s.2) (KX := fun s => KX s.1 s.2) 60 (fun i => (iI i, rfS 3 (60 * k) i (iI 0) S))
    (by
      intro fuel i hi
      show f6_sheet_L57 (iI k) KX (fuel + 1) (iI i) _ = f6_sheet_L57 (iI k) KX fuel (iI (i + 1 : Nat)) (rfS 3 (60 * k) (i + 1) (iI 0) S)
      rw [f6_sheet_L57]
      simp (disch := omega) only [↓reduceIte, ↓nm_eq, ↓ck_in, ck_in, il_0, il_1, il_2, il_3, il_4, il_5, il_6, il_7, il_8, il_9, il_10, il_15, il_20, il_31, il_30, il_37, il_48, il_49, il_54, il_57, il_59, il_60, il_68, il_80, il_87, il_99, il_100, il_101, il_111, il_112, il_115, il_243, il_500, il_729, il_999, il_1000, il_10000, il_m1, il_m2, il_m3, il_m4, il_m9, il_m10, il_m100, il_m500, iI_le', iI_lt', iI_eq', iI_add, iI_sub, iI_mul, iI_neg, dc_ltT, dc_ltF, dc_leT, dc_leF, dc_eqT, dc_eqF, ↓dc_andT, ↓dc_andF, dc_andT, dc_andF, and_self, and_true, true_and, and_false, false_and, or_self, or_true, true_or, or_false, false_or, not_true_eq_false, not_false_eq_true, Int.toNat_natCast, jl_0, jl_1, jl_2, jl_3, jl_4, jl_5, jl_6, jl_9, jl_10, jl_15, jl_19, jl_30, jl_500, jl_999, jl_m1, jl_m500, i64_of, ↓f6_within_eq, f6_within_eq]
      rw [show ((60 : Int) * (k : Int) + (i : Int)).toNat = 60 * k + i by omega, rfS_s]
      first | done | rfl)
    (by
      intro fuel
      show f6_sheet_L57 (iI k) KX (fuel + 1) (iI (60 : Nat)) _ = _
      rw [f6_sheet_L57]
      simp (disch := omega) only [↓reduceIte, ↓nm_eq, ↓ck_in, ck_in, il_0, il_1, il_2, il_3, il_4, il_5, il_6, il_7, il_8, il_9, il_10, il_15, il_20, il_31, il_30, il_37, il_48, il_49, il_54, il_57, il_59, il_60, il_68, il_80, il_87, il_99, il_100, il_101, il_111, il_112, il_115, il_243, il_500, il_729, il_999, il_1000, il_10000, il_m1, il_m2, il_m3, il_m4, il_m9, il_m10, il_m100, il_m500, iI_le', iI_lt', iI_eq', iI_add, iI_sub, iI_mul, iI_neg, dc_ltT, dc_ltF, dc_leT, dc_leF, dc_eqT, dc_eqF, ↓dc_andT, ↓dc_andF, dc_andT, dc_andF, and_self, and_true, true_and, and_false, false_and, or_self, or_true, true_or, or_false, false_or, not_true_eq_false, not_false_eq_true, Int.toNat_natCast, jl_0, jl_1, jl_2, jl_3, jl_4, jl_5, jl_6, jl_9, jl_10, jl_15, jl_19, jl_30, jl_500, jl_999, jl_m1, jl_m500, i64_of, ↓f6_within_eq, f6_within_eq]
      first | rfl | done)
    FU 0 (by omega) (by rw [FU_eq]; omega)
  dsimp only at h
  rw [rfS_0] at h
  exact h
theorem f5_faulted_eq {α : Type} (v : Int) (S : MS) (K : Int32 → MS → Option α) : f5_faulted (iI v) S K = K (iI (-10 - v)) (sI S 0 6 (iI v)) := by
  unfold f5_faulted; rw [nm_eq, show (-10 : Int32) = iI (-10) from rfl, iI_sub]
theorem f6_fails_eq {α : Type} (v : Int) (S : MS) (K : Int32 → MS → Option α) : f6_fails (iI v) S K = K (iI (-10 - v)) (sI S 0 0 (iI v)) := by
  unfold f6_fails; rw [nm_eq, show (-10 : Int32) = iI (-10) from rfl, iI_sub]
theorem sim_sheet (cX : ClX PX) (a b c : Int32) : SimI (RelP PX PM) (f5_sheet a b c) (f6_sheet a b c) := by
  intro SX SM ⟨σ, h⟩
  obtain ⟨z1, rfl, hz1⟩ := iI_of a
  obtain ⟨z2, rfl, hz2⟩ := iI_of b
  obtain ⟨z3, rfl, hz3⟩ := iI_of c
  have hf := rel_fault cX h (iI 0)
  by_cases c1 : 0 ≤ z1 ∧ z1 < 4
  · by_cases c2 : (0 ≤ z2 ∧ z2 < 3) ∧ z3 ≤ 60
    · by_cases c3 : 0 ≤ z3
      · obtain ⟨k, rfl⟩ : ∃ k : Nat, z1 = k := ⟨z1.toNat, by omega⟩
        obtain ⟨la, rfl⟩ : ∃ k : Nat, z2 = k := ⟨z2.toNat, by omega⟩
        obtain ⟨len, rfl⟩ : ∃ k : Nat, z3 = k := ⟨z3.toNat, by omega⟩
        have hk : k < 4 := by omega
        refine ⟨iI 1, rfS (20 + k) 0 60 (iI 0) (sI (sI (sI SX 0 6 (iI 0)) (16 + k) 1 (iI la)) (16 + k) 2 (iI len)), rfS 3 (60 * k) 60 (iI 0) (sI (sI (sI SM 0 0 (iI 0)) 1 k (iI la)) 2 k (iI len)), ?_, ?_, σ, ?_⟩
        · unfold f5_sheet f1_renew
          simp (disch := omega) only [↓f5_isSheet_eq hz1, f5_isSheet_eq hz1, ↓f5_isLane_eq hz2, f5_isLane_eq hz2, ↓fill_eq, fill_eq, ↓reduceIte, ↓nm_eq, ↓ck_in, ck_in, il_0, il_1, il_2, il_3, il_4, il_5, il_6, il_7, il_8, il_9, il_10, il_15, il_20, il_31, il_30, il_37, il_48, il_49, il_54, il_57, il_59, il_60, il_68, il_80, il_87, il_99, il_100, il_101, il_111, il_112, il_115, il_243, il_500, il_729, il_999, il_1000, il_10000, il_m1, il_m2, il_m3, il_m4, il_m9, il_m10, il_m100, il_m500, iI_le', iI_lt', iI_eq', iI_add, iI_sub, iI_mul, iI_neg, dc_ltT, dc_ltF, dc_leT, dc_leF, dc_eqT, dc_eqF, ↓dc_andT, ↓dc_andF, dc_andT, dc_andF, and_self, and_true, true_and, and_false, false_and, or_self, or_true, true_or, or_false, false_or, not_true_eq_false, not_false_eq_true, Int.toNat_natCast, jl_0, jl_1, jl_2, jl_3, jl_4, jl_5, jl_6, jl_9, jl_10, jl_15, jl_19, jl_30, jl_500, jl_999, jl_m1, jl_m500, i64_of, ↓f6_within_eq, f6_within_eq]
        · unfold f6_sheet
          simp (disch := omega) only [↓f6_isSheet_eq hz1, f6_isSheet_eq hz1, ↓f6_isSort_eq hz2, f6_isSort_eq hz2, ↓f6_sheet_loop, f6_sheet_loop, ↓reduceIte, ↓nm_eq, ↓ck_in, ck_in, il_0, il_1, il_2, il_3, il_4, il_5, il_6, il_7, il_8, il_9, il_10, il_15, il_20, il_31, il_30, il_37, il_48, il_49, il_54, il_57, il_59, il_60, il_68, il_80, il_87, il_99, il_100, il_101, il_111, il_112, il_115, il_243, il_500, il_729, il_999, il_1000, il_10000, il_m1, il_m2, il_m3, il_m4, il_m9, il_m10, il_m100, il_m500, iI_le', iI_lt', iI_eq', iI_add, iI_sub, iI_mul, iI_neg, dc_ltT, dc_ltF, dc_leT, dc_leF, dc_eqT, dc_eqF, ↓dc_andT, ↓dc_andF, dc_andT, dc_andF, and_self, and_true, true_and, and_false, false_and, or_self, or_true, true_or, or_false, false_or, not_true_eq_false, not_false_eq_true, Int.toNat_natCast, jl_0, jl_1, jl_2, jl_3, jl_4, jl_5, jl_6, jl_9, jl_10, jl_15, jl_19, jl_30, jl_500, jl_999, jl_m1, jl_m500, i64_of, ↓f6_within_eq, f6_within_eq]
        · refine rel_keep cX hf (fun j hj => ?_) rfl ?_ (fun j hj => ?_) rfl ?_ ?_ ?_ ?_
          · rw [rfS_cell _ _ _ _ (by omega), sI_cell _ _ _ (by omega), sI_cell _ _ _ (by omega)]
          · simp [rfS_at, sI_at]
          · rw [rfS_cell _ _ _ _ (by omega), sI_cell _ _ _ (by omega), sI_cell _ _ _ (by omega)]
          · exact rd_keep hf.2.2.2.1 (by simp [rfS_at, sI_at]; omega) (by simp [rfS_at, sI_at]) (by rw [rfS_cell _ _ _ _ (by omega), sI_cell _ _ _ (by omega), sI_cell _ _ _ (by omega)]) (by rw [rfS_cell _ _ _ _ (by omega), sI_cell _ _ _ (by omega), sI_cell _ _ _ (by omega)])
          · simp (disch := omega) only [rfS_cell, sI_cell, sI_place, sI_same, sI_2]
            exact h.2.2.2.2.1
          · simp (disch := omega) only [rfS_cell, sI_cell, sI_place, sI_same, sI_2]
          · refine sk_at hf.2.2.2.2.2.2.1 k hk ?_ (fun j hj h1 h2 => ?_) (fun j i hj hi => ?_) (fun i hi => ?_)
            · refine Or.inr ⟨la, len, by omega, by omega, ?_, ?_, ?_, ?_, fun i hi => ?_⟩
              · rw [rfS_cell _ _ _ _ (by omega), sI_place _ _ _ (by omega), sI_same]
              · rw [rfS_cell _ _ _ _ (by omega), sI_cell _ _ _ (by omega), sI_same]
              · rw [rfS_cell _ _ _ _ (by omega), sI_same]
              · rw [rfS_cell _ _ _ _ (by omega), sI_same]
              · rw [rfS_at, rfS_at, if_pos (by omega), if_pos (by omega)]
            · rw [rfS_cell _ _ _ _ (by omega), sI_cell _ _ _ (by omega), sI_cell _ _ _ (by omega)]
            · rw [rfS_at, sI_at, sI_at, if_neg (by omega), if_neg (by omega), if_neg (by omega)]
            · rw [rfS_at, sI_at, sI_at, if_neg (by omega), if_neg (by omega), if_neg (by omega)]
      · refine ⟨iI (-10 - 4), _, _, ?_, ?_, σ, rel_fault cX hf (iI 4)⟩
        · unfold f5_sheet
          simp (disch := omega) only [↓f5_isSheet_eq hz1, f5_isSheet_eq hz1, ↓f5_isLane_eq hz2, f5_isLane_eq hz2, ↓f5_faulted_eq, f5_faulted_eq, ↓reduceIte, ↓nm_eq, ↓ck_in, ck_in, il_0, il_1, il_2, il_3, il_4, il_5, il_6, il_7, il_8, il_9, il_10, il_15, il_20, il_31, il_30, il_37, il_48, il_49, il_54, il_57, il_59, il_60, il_68, il_80, il_87, il_99, il_100, il_101, il_111, il_112, il_115, il_243, il_500, il_729, il_999, il_1000, il_10000, il_m1, il_m2, il_m3, il_m4, il_m9, il_m10, il_m100, il_m500, iI_le', iI_lt', iI_eq', iI_add, iI_sub, iI_mul, iI_neg, dc_ltT, dc_ltF, dc_leT, dc_leF, dc_eqT, dc_eqF, ↓dc_andT, ↓dc_andF, dc_andT, dc_andF, and_self, and_true, true_and, and_false, false_and, or_self, or_true, true_or, or_false, false_or, not_true_eq_false, not_false_eq_true, Int.toNat_natCast, jl_0, jl_1, jl_2, jl_3, jl_4, jl_5, jl_6, jl_9, jl_10, jl_15, jl_19, jl_30, jl_500, jl_999, jl_m1, jl_m500, i64_of, ↓f6_within_eq, f6_within_eq]
        · unfold f6_sheet
          simp (disch := omega) only [↓f6_isSheet_eq hz1, f6_isSheet_eq hz1, ↓f6_isSort_eq hz2, f6_isSort_eq hz2, ↓f6_fails_eq, f6_fails_eq, ↓reduceIte, ↓nm_eq, ↓ck_in, ck_in, il_0, il_1, il_2, il_3, il_4, il_5, il_6, il_7, il_8, il_9, il_10, il_15, il_20, il_31, il_30, il_37, il_48, il_49, il_54, il_57, il_59, il_60, il_68, il_80, il_87, il_99, il_100, il_101, il_111, il_112, il_115, il_243, il_500, il_729, il_999, il_1000, il_10000, il_m1, il_m2, il_m3, il_m4, il_m9, il_m10, il_m100, il_m500, iI_le', iI_lt', iI_eq', iI_add, iI_sub, iI_mul, iI_neg, dc_ltT, dc_ltF, dc_leT, dc_leF, dc_eqT, dc_eqF, ↓dc_andT, ↓dc_andF, dc_andT, dc_andF, and_self, and_true, true_and, and_false, false_and, or_self, or_true, true_or, or_false, false_or, not_true_eq_false, not_false_eq_true, Int.toNat_natCast, jl_0, jl_1, jl_2, jl_3, jl_4, jl_5, jl_6, jl_9, jl_10, jl_15, jl_19, jl_30, jl_500, jl_999, jl_m1, jl_m500, i64_of, ↓f6_within_eq, f6_within_eq]
    · refine ⟨iI (-2), _, _, ?_, ?_, σ, hf⟩
      · unfold f5_sheet
        by_cases c4 : 0 ≤ z2 ∧ z2 < 3
        · simp (disch := omega) only [↓f5_isSheet_eq hz1, f5_isSheet_eq hz1, ↓f5_isLane_eq hz2, f5_isLane_eq hz2, ↓reduceIte, ↓nm_eq, ↓ck_in, ck_in, il_0, il_1, il_2, il_3, il_4, il_5, il_6, il_7, il_8, il_9, il_10, il_15, il_20, il_31, il_30, il_37, il_48, il_49, il_54, il_57, il_59, il_60, il_68, il_80, il_87, il_99, il_100, il_101, il_111, il_112, il_115, il_243, il_500, il_729, il_999, il_1000, il_10000, il_m1, il_m2, il_m3, il_m4, il_m9, il_m10, il_m100, il_m500, iI_le', iI_lt', iI_eq', iI_add, iI_sub, iI_mul, iI_neg, dc_ltT, dc_ltF, dc_leT, dc_leF, dc_eqT, dc_eqF, ↓dc_andT, ↓dc_andF, dc_andT, dc_andF, and_self, and_true, true_and, and_false, false_and, or_self, or_true, true_or, or_false, false_or, not_true_eq_false, not_false_eq_true, Int.toNat_natCast, jl_0, jl_1, jl_2, jl_3, jl_4, jl_5, jl_6, jl_9, jl_10, jl_15, jl_19, jl_30, jl_500, jl_999, jl_m1, jl_m500, i64_of, ↓f6_within_eq, f6_within_eq]
        · simp (disch := omega) only [↓f5_isSheet_eq hz1, f5_isSheet_eq hz1, ↓f5_isLane_eq hz2, f5_isLane_eq hz2, ↓reduceIte, ↓nm_eq, ↓ck_in, ck_in, il_0, il_1, il_2, il_3, il_4, il_5, il_6, il_7, il_8, il_9, il_10, il_15, il_20, il_31, il_30, il_37, il_48, il_49, il_54, il_57, il_59, il_60, il_68, il_80, il_87, il_99, il_100, il_101, il_111, il_112, il_115, il_243, il_500, il_729, il_999, il_1000, il_10000, il_m1, il_m2, il_m3, il_m4, il_m9, il_m10, il_m100, il_m500, iI_le', iI_lt', iI_eq', iI_add, iI_sub, iI_mul, iI_neg, dc_ltT, dc_ltF, dc_leT, dc_leF, dc_eqT, dc_eqF, ↓dc_andT, ↓dc_andF, dc_andT, dc_andF, and_self, and_true, true_and, and_false, false_and, or_self, or_true, true_or, or_false, false_or, not_true_eq_false, not_false_eq_true, Int.toNat_natCast, jl_0, jl_1, jl_2, jl_3, jl_4, jl_5, jl_6, jl_9, jl_10, jl_15, jl_19, jl_30, jl_500, jl_999, jl_m1, jl_m500, i64_of, ↓f6_within_eq, f6_within_eq]
      · unfold f6_sheet
        by_cases c4 : 0 ≤ z2 ∧ z2 < 3
        · simp (disch := omega) only [↓f6_isSheet_eq hz1, f6_isSheet_eq hz1, ↓f6_isSort_eq hz2, f6_isSort_eq hz2, ↓reduceIte, ↓nm_eq, ↓ck_in, ck_in, il_0, il_1, il_2, il_3, il_4, il_5, il_6, il_7, il_8, il_9, il_10, il_15, il_20, il_31, il_30, il_37, il_48, il_49, il_54, il_57, il_59, il_60, il_68, il_80, il_87, il_99, il_100, il_101, il_111, il_112, il_115, il_243, il_500, il_729, il_999, il_1000, il_10000, il_m1, il_m2, il_m3, il_m4, il_m9, il_m10, il_m100, il_m500, iI_le', iI_lt', iI_eq', iI_add, iI_sub, iI_mul, iI_neg, dc_ltT, dc_ltF, dc_leT, dc_leF, dc_eqT, dc_eqF, ↓dc_andT, ↓dc_andF, dc_andT, dc_andF, and_self, and_true, true_and, and_false, false_and, or_self, or_true, true_or, or_false, false_or, not_true_eq_false, not_false_eq_true, Int.toNat_natCast, jl_0, jl_1, jl_2, jl_3, jl_4, jl_5, jl_6, jl_9, jl_10, jl_15, jl_19, jl_30, jl_500, jl_999, jl_m1, jl_m500, i64_of, ↓f6_within_eq, f6_within_eq]
        · simp (disch := omega) only [↓f6_isSheet_eq hz1, f6_isSheet_eq hz1, ↓f6_isSort_eq hz2, f6_isSort_eq hz2, ↓reduceIte, ↓nm_eq, ↓ck_in, ck_in, il_0, il_1, il_2, il_3, il_4, il_5, il_6, il_7, il_8, il_9, il_10, il_15, il_20, il_31, il_30, il_37, il_48, il_49, il_54, il_57, il_59, il_60, il_68, il_80, il_87, il_99, il_100, il_101, il_111, il_112, il_115, il_243, il_500, il_729, il_999, il_1000, il_10000, il_m1, il_m2, il_m3, il_m4, il_m9, il_m10, il_m100, il_m500, iI_le', iI_lt', iI_eq', iI_add, iI_sub, iI_mul, iI_neg, dc_ltT, dc_ltF, dc_leT, dc_leF, dc_eqT, dc_eqF, ↓dc_andT, ↓dc_andF, dc_andT, dc_andF, and_self, and_true, true_and, and_false, false_and, or_self, or_true, true_or, or_false, false_or, not_true_eq_false, not_false_eq_true, Int.toNat_natCast, jl_0, jl_1, jl_2, jl_3, jl_4, jl_5, jl_6, jl_9, jl_10, jl_15, jl_19, jl_30, jl_500, jl_999, jl_m1, jl_m500, i64_of, ↓f6_within_eq, f6_within_eq]
  · refine ⟨iI (-1), _, _, ?_, ?_, σ, hf⟩
    · unfold f5_sheet
      simp (disch := omega) only [↓f5_isSheet_eq hz1, f5_isSheet_eq hz1, ↓reduceIte, ↓nm_eq, ↓ck_in, ck_in, il_0, il_1, il_2, il_3, il_4, il_5, il_6, il_7, il_8, il_9, il_10, il_15, il_20, il_31, il_30, il_37, il_48, il_49, il_54, il_57, il_59, il_60, il_68, il_80, il_87, il_99, il_100, il_101, il_111, il_112, il_115, il_243, il_500, il_729, il_999, il_1000, il_10000, il_m1, il_m2, il_m3, il_m4, il_m9, il_m10, il_m100, il_m500, iI_le', iI_lt', iI_eq', iI_add, iI_sub, iI_mul, iI_neg, dc_ltT, dc_ltF, dc_leT, dc_leF, dc_eqT, dc_eqF, ↓dc_andT, ↓dc_andF, dc_andT, dc_andF, and_self, and_true, true_and, and_false, false_and, or_self, or_true, true_or, or_false, false_or, not_true_eq_false, not_false_eq_true, Int.toNat_natCast, jl_0, jl_1, jl_2, jl_3, jl_4, jl_5, jl_6, jl_9, jl_10, jl_15, jl_19, jl_30, jl_500, jl_999, jl_m1, jl_m500, i64_of, ↓f6_within_eq, f6_within_eq]
    · unfold f6_sheet
      simp (disch := omega) only [↓f6_isSheet_eq hz1, f6_isSheet_eq hz1, ↓reduceIte, ↓nm_eq, ↓ck_in, ck_in, il_0, il_1, il_2, il_3, il_4, il_5, il_6, il_7, il_8, il_9, il_10, il_15, il_20, il_31, il_30, il_37, il_48, il_49, il_54, il_57, il_59, il_60, il_68, il_80, il_87, il_99, il_100, il_101, il_111, il_112, il_115, il_243, il_500, il_729, il_999, il_1000, il_10000, il_m1, il_m2, il_m3, il_m4, il_m9, il_m10, il_m100, il_m500, iI_le', iI_lt', iI_eq', iI_add, iI_sub, iI_mul, iI_neg, dc_ltT, dc_ltF, dc_leT, dc_leF, dc_eqT, dc_eqF, ↓dc_andT, ↓dc_andF, dc_andT, dc_andF, and_self, and_true, true_and, and_false, false_and, or_self, or_true, true_or, or_false, false_or, not_true_eq_false, not_false_eq_true, Int.toNat_natCast, jl_0, jl_1, jl_2, jl_3, jl_4, jl_5, jl_6, jl_9, jl_10, jl_15, jl_19, jl_30, jl_500, jl_999, jl_m1, jl_m500, i64_of, ↓f6_within_eq, f6_within_eq]
theorem sim_lose (cX : ClX PX) (a : Int32) : SimI (RelP PX PM) (f5_lose a) (f6_lose a) := by
  intro SX SM ⟨σ, h⟩
  obtain ⟨z1, rfl, hz1⟩ := iI_of a
  by_cases c1 : 0 ≤ z1 ∧ z1 < 4
  · obtain ⟨k, rfl⟩ : ∃ k : Nat, z1 = k := ⟨z1.toNat, by omega⟩
    have hk : k < 4 := by omega
    rcases h.2.2.2.2.2.2.1 k hk with ⟨g1, g2⟩ | ⟨la, len, g1, g2, g3, g4, g5, g6, g7⟩
    · refine ⟨iI 0, SX, sI SM 1 k (iI (-9)), ?_, ?_, σ, ?_⟩
      · unfold f5_lose f1_isNothing
        simp (disch := omega) only [↓f5_isSheet_eq hz1, f5_isSheet_eq hz1, g1, ↓reduceIte, ↓nm_eq, ↓ck_in, ck_in, il_0, il_1, il_2, il_3, il_4, il_5, il_6, il_7, il_8, il_9, il_10, il_15, il_20, il_31, il_30, il_37, il_48, il_49, il_54, il_57, il_59, il_60, il_68, il_80, il_87, il_99, il_100, il_101, il_111, il_112, il_115, il_243, il_500, il_729, il_999, il_1000, il_10000, il_m1, il_m2, il_m3, il_m4, il_m9, il_m10, il_m100, il_m500, iI_le', iI_lt', iI_eq', iI_add, iI_sub, iI_mul, iI_neg, dc_ltT, dc_ltF, dc_leT, dc_leF, dc_eqT, dc_eqF, ↓dc_andT, ↓dc_andF, dc_andT, dc_andF, and_self, and_true, true_and, and_false, false_and, or_self, or_true, true_or, or_false, false_or, not_true_eq_false, not_false_eq_true, Int.toNat_natCast, jl_0, jl_1, jl_2, jl_3, jl_4, jl_5, jl_6, jl_9, jl_10, jl_15, jl_19, jl_30, jl_500, jl_999, jl_m1, jl_m500, i64_of, ↓f6_within_eq, f6_within_eq]
      · unfold f6_lose
        simp (disch := omega) only [↓f6_isSheet_eq hz1, f6_isSheet_eq hz1, g2, ↓reduceIte, ↓nm_eq, ↓ck_in, ck_in, il_0, il_1, il_2, il_3, il_4, il_5, il_6, il_7, il_8, il_9, il_10, il_15, il_20, il_31, il_30, il_37, il_48, il_49, il_54, il_57, il_59, il_60, il_68, il_80, il_87, il_99, il_100, il_101, il_111, il_112, il_115, il_243, il_500, il_729, il_999, il_1000, il_10000, il_m1, il_m2, il_m3, il_m4, il_m9, il_m10, il_m100, il_m500, iI_le', iI_lt', iI_eq', iI_add, iI_sub, iI_mul, iI_neg, dc_ltT, dc_ltF, dc_leT, dc_leF, dc_eqT, dc_eqF, ↓dc_andT, ↓dc_andF, dc_andT, dc_andF, and_self, and_true, true_and, and_false, false_and, or_self, or_true, true_or, or_false, false_or, not_true_eq_false, not_false_eq_true, Int.toNat_natCast, jl_0, jl_1, jl_2, jl_3, jl_4, jl_5, jl_6, jl_9, jl_10, jl_15, jl_19, jl_30, jl_500, jl_999, jl_m1, jl_m500, i64_of, ↓f6_within_eq, f6_within_eq]
      · have e : sI SM 1 k (iI (-9)) = SM := by
          apply Prod.ext
          · funext j f
            rw [sI_at]
            by_cases hh : j = 1 ∧ f = k
            · rw [if_pos hh, hh.1, hh.2, g2]
            · rw [if_neg hh]
          · rfl
        rw [e]; exact h
    · refine ⟨iI 1, sI (sI SX (16 + k) 1 (iI (-1))) (16 + k) 2 (iI 0), sI SM 1 k (iI (-9)), ?_, ?_, σ, ?_⟩
      · unfold f5_lose f1_isNothing f1_drop
        simp (disch := omega) only [↓f5_isSheet_eq hz1, f5_isSheet_eq hz1, g3, ↓reduceIte, ↓nm_eq, ↓ck_in, ck_in, il_0, il_1, il_2, il_3, il_4, il_5, il_6, il_7, il_8, il_9, il_10, il_15, il_20, il_31, il_30, il_37, il_48, il_49, il_54, il_57, il_59, il_60, il_68, il_80, il_87, il_99, il_100, il_101, il_111, il_112, il_115, il_243, il_500, il_729, il_999, il_1000, il_10000, il_m1, il_m2, il_m3, il_m4, il_m9, il_m10, il_m100, il_m500, iI_le', iI_lt', iI_eq', iI_add, iI_sub, iI_mul, iI_neg, dc_ltT, dc_ltF, dc_leT, dc_leF, dc_eqT, dc_eqF, ↓dc_andT, ↓dc_andF, dc_andT, dc_andF, and_self, and_true, true_and, and_false, false_and, or_self, or_true, true_or, or_false, false_or, not_true_eq_false, not_false_eq_true, Int.toNat_natCast, jl_0, jl_1, jl_2, jl_3, jl_4, jl_5, jl_6, jl_9, jl_10, jl_15, jl_19, jl_30, jl_500, jl_999, jl_m1, jl_m500, i64_of, ↓f6_within_eq, f6_within_eq]
      · unfold f6_lose
        simp (disch := omega) only [↓f6_isSheet_eq hz1, f6_isSheet_eq hz1, g4, ↓reduceIte, ↓nm_eq, ↓ck_in, ck_in, il_0, il_1, il_2, il_3, il_4, il_5, il_6, il_7, il_8, il_9, il_10, il_15, il_20, il_31, il_30, il_37, il_48, il_49, il_54, il_57, il_59, il_60, il_68, il_80, il_87, il_99, il_100, il_101, il_111, il_112, il_115, il_243, il_500, il_729, il_999, il_1000, il_10000, il_m1, il_m2, il_m3, il_m4, il_m9, il_m10, il_m100, il_m500, iI_le', iI_lt', iI_eq', iI_add, iI_sub, iI_mul, iI_neg, dc_ltT, dc_ltF, dc_leT, dc_leF, dc_eqT, dc_eqF, ↓dc_andT, ↓dc_andF, dc_andT, dc_andF, and_self, and_true, true_and, and_false, false_and, or_self, or_true, true_or, or_false, false_or, not_true_eq_false, not_false_eq_true, Int.toNat_natCast, jl_0, jl_1, jl_2, jl_3, jl_4, jl_5, jl_6, jl_9, jl_10, jl_15, jl_19, jl_30, jl_500, jl_999, jl_m1, jl_m500, i64_of, ↓f6_within_eq, f6_within_eq]
      · refine rel_keep cX h (fun j hj => by simp (disch := omega) only [rfS_cell, sI_cell, sI_place, sI_same, sI_2]) rfl (by simp [sI_at]) (fun j hj => by simp (disch := omega) only [rfS_cell, sI_cell, sI_place, sI_same, sI_2]) rfl ?_ ?_ ?_ ?_
        · exact rd_keep h.2.2.2.1 (by simp (disch := omega) only [rfS_cell, sI_cell, sI_place, sI_same, sI_2]) (by simp (disch := omega) only [rfS_cell, sI_cell, sI_place, sI_same, sI_2]) (by simp (disch := omega) only [rfS_cell, sI_cell, sI_place, sI_same, sI_2]) (by simp (disch := omega) only [rfS_cell, sI_cell, sI_place, sI_same, sI_2])
        · simp (disch := omega) only [rfS_cell, sI_cell, sI_place, sI_same, sI_2]; exact h.2.2.2.2.1
        · simp (disch := omega) only [rfS_cell, sI_cell, sI_place, sI_same, sI_2]; exact h.2.2.2.2.2.1
        · refine sk_at h.2.2.2.2.2.2.1 k hk (Or.inl ⟨?_, ?_⟩) (fun j hj h1 h2 => ?_) (fun j i hj hi => ?_) (fun i hi => ?_)
          · simp (disch := omega) only [rfS_cell, sI_cell, sI_place, sI_same, sI_2]
          · simp (disch := omega) only [rfS_cell, sI_cell, sI_place, sI_same, sI_2]
          · simp (disch := omega) only [rfS_cell, sI_cell, sI_place, sI_same, sI_2]
          · rw [sI_at, if_neg (by omega)]
          · simp (disch := omega) only [rfS_cell, sI_cell, sI_place, sI_same, sI_2]
  · refine ⟨iI (-1), SX, SM, ?_, ?_, σ, h⟩
    · unfold f5_lose
      simp (disch := omega) only [↓f5_isSheet_eq hz1, f5_isSheet_eq hz1, ↓reduceIte, ↓nm_eq, ↓ck_in, ck_in, il_0, il_1, il_2, il_3, il_4, il_5, il_6, il_7, il_8, il_9, il_10, il_15, il_20, il_31, il_30, il_37, il_48, il_49, il_54, il_57, il_59, il_60, il_68, il_80, il_87, il_99, il_100, il_101, il_111, il_112, il_115, il_243, il_500, il_729, il_999, il_1000, il_10000, il_m1, il_m2, il_m3, il_m4, il_m9, il_m10, il_m100, il_m500, iI_le', iI_lt', iI_eq', iI_add, iI_sub, iI_mul, iI_neg, dc_ltT, dc_ltF, dc_leT, dc_leF, dc_eqT, dc_eqF, ↓dc_andT, ↓dc_andF, dc_andT, dc_andF, and_self, and_true, true_and, and_false, false_and, or_self, or_true, true_or, or_false, false_or, not_true_eq_false, not_false_eq_true, Int.toNat_natCast, jl_0, jl_1, jl_2, jl_3, jl_4, jl_5, jl_6, jl_9, jl_10, jl_15, jl_19, jl_30, jl_500, jl_999, jl_m1, jl_m500, i64_of, ↓f6_within_eq, f6_within_eq]
    · unfold f6_lose
      simp (disch := omega) only [↓f6_isSheet_eq hz1, f6_isSheet_eq hz1, ↓reduceIte, ↓nm_eq, ↓ck_in, ck_in, il_0, il_1, il_2, il_3, il_4, il_5, il_6, il_7, il_8, il_9, il_10, il_15, il_20, il_31, il_30, il_37, il_48, il_49, il_54, il_57, il_59, il_60, il_68, il_80, il_87, il_99, il_100, il_101, il_111, il_112, il_115, il_243, il_500, il_729, il_999, il_1000, il_10000, il_m1, il_m2, il_m3, il_m4, il_m9, il_m10, il_m100, il_m500, iI_le', iI_lt', iI_eq', iI_add, iI_sub, iI_mul, iI_neg, dc_ltT, dc_ltF, dc_leT, dc_leF, dc_eqT, dc_eqF, ↓dc_andT, ↓dc_andF, dc_andT, dc_andF, and_self, and_true, true_and, and_false, false_and, or_self, or_true, true_or, or_false, false_or, not_true_eq_false, not_false_eq_true, Int.toNat_natCast, jl_0, jl_1, jl_2, jl_3, jl_4, jl_5, jl_6, jl_9, jl_10, jl_15, jl_19, jl_30, jl_500, jl_999, jl_m1, jl_m500, i64_of, ↓f6_within_eq, f6_within_eq]
end Ops3
