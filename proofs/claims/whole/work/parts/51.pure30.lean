/-! PURE PART 30: ends, pumpable tanks -/
def Gt (σ : Sg) (x t : Nat) : Prop := if bt (σ 0 2) t = true then dg x t = 2 else (dg x t = 0 ↔ dg (σ 0 1) t = 0)
def Gl (σ : Sg) (x : Nat) : Prop := ∀ t, t < σ 0 0 → Gt σ x t
theorem ch_step {σ : Sg} {x t : Nat} (ht : t < σ 0 0) : (Gt σ x t → bI (∀ u, t + 1 ≤ u → u < σ 0 0 → Gt σ x u) = bI (∀ u, t ≤ u → u < σ 0 0 → Gt σ x u)) ∧ (¬ Gt σ x t → bI (∀ u, t ≤ u → u < σ 0 0 → Gt σ x u) = 0) := by
  constructor
  · intro h
    refine bI_congr ⟨fun g u h1 h2 => ?_, fun g u h1 h2 => g u (by omega) h2⟩
    by_cases e : u = t
    · subst e; exact h
    · exact g u (by omega) h2
  · intro h
    exact bI_f (fun g => h (g t (Nat.le_refl t) ht))
theorem f3_isChanged_eq {α : Type} {σ : Sg} (h : Gd σ) {S : MS} (hS : ShX σ S) {x : Nat} (hx : x < 729) (K : Int32 → MS → Option α) : f3_isChanged (iI x) S K = K (iI (bI (Gl σ x))) S := by
  have hn := h.1
  have hw := w729 h
  have hd := d64 h
  have key : ∀ (m t fuel : Nat), t + m = σ 0 0 → m < fuel → f3_isChanged_L2 (iI x) K (fun _ S11 => K 1 S11) fuel (iI t) S = K (iI (bI (∀ u, t ≤ u → u < σ 0 0 → Gt σ x u))) S := by
    intro m
    induction m with
    | zero =>
      intro t fuel ht hf
      obtain ⟨f, rfl⟩ : ∃ f, fuel = f + 1 := ⟨fuel - 1, by omega⟩
      obtain rfl : t = σ 0 0 := by omega
      rw [f3_isChanged_L2, hS.1, ite_le ⟨⟨by omega, by omega⟩, ⟨by omega, by omega⟩⟩, if_pos (by omega), bI_t (fun u h1 h2 => by omega)]
      rfl
    | succ m ih =>
      intro t fuel ht hf
      obtain ⟨f, rfl⟩ : ∃ f, fuel = f + 1 := ⟨fuel - 1, by omega⟩
      have i2 := ih (t + 1) f (by omega) (by omega)
      obtain ⟨s1, s2⟩ := ch_step (σ := σ) (x := x) (t := t) (by omega)
      have d1 := dg_lt x t
      have d2 := dg_lt (σ 0 1) t
      have nx : iI (t : Int) + 1 = iI (t + 1 : Nat) := by rw [show (1 : Int32) = iI 1 from rfl, iI_add]; rfl
      have e1 := hS.1
      have e2 := hS.2.1
      have e3 := hS.2.2.1
      have i3 : f3_isChanged_L2 (iI x) K (fun _ S11 => K (iI 1) S11) f (iI ((t : Int) + 1)) S = _ := i2
      show f3_isChanged_L2 (iI x) K (fun _ S11 => K (iI 1) S11) (f + 1) (iI t) S = _
      rw [f3_isChanged_L2]
      unfold f3_isChanged_J26 f3_isChanged_J40
      cases hb : bt (σ 0 2) t
      · have eG : Gt σ x t ↔ (dg x t = 0 ↔ dg (σ 0 1) t = 0) := by unfold Gt; rw [hb, if_neg (by decide)]
        by_cases a : dg (σ 0 1) t = 0
        · by_cases b : dg x t = 0
          · simp (disch := omega) only [e1, e2, e3, ↓f5_waterIn_eq hw, f5_waterIn_eq hw, ↓f5_waterIn_eq hx, f5_waterIn_eq hx, ↓f5_holds_eq hd.1, f5_holds_eq hd.1, hb, eq_self, Bool.false_eq_true, ↓reduceIte, ↓nm_eq, ↓ck_in, ck_in, il_0, il_1, il_2, il_3, il_4, il_5, il_6, il_7, il_8, il_9, il_10, il_15, il_20, il_31, il_30, il_37, il_48, il_49, il_54, il_57, il_59, il_60, il_68, il_80, il_87, il_99, il_100, il_101, il_111, il_112, il_115, il_243, il_500, il_729, il_999, il_1000, il_10000, il_m1, il_m2, il_m3, il_m4, il_m9, il_m10, il_m100, il_m500, iI_le', iI_lt', iI_eq', iI_add, iI_sub, iI_mul, iI_neg, dc_ltT, dc_ltF, dc_leT, dc_leF, dc_eqT, dc_eqF, ↓dc_andT, ↓dc_andF, dc_andT, dc_andF, and_self, and_true, true_and, and_false, false_and, or_self, or_true, true_or, or_false, false_or, not_true_eq_false, not_false_eq_true, Int.toNat_natCast, jl_0, jl_1, jl_2, jl_3, jl_4, jl_5, jl_6, jl_9, jl_10, jl_15, jl_19, jl_30, jl_500, jl_999, jl_m1, jl_m500, i64_of, ↓f6_within_eq, f6_within_eq]
            rw [i3, s1 (eG.mpr (by omega))]
          · simp (disch := omega) only [e1, e2, e3, ↓f5_waterIn_eq hw, f5_waterIn_eq hw, ↓f5_waterIn_eq hx, f5_waterIn_eq hx, ↓f5_holds_eq hd.1, f5_holds_eq hd.1, hb, eq_self, Bool.false_eq_true, ↓reduceIte, ↓nm_eq, ↓ck_in, ck_in, il_0, il_1, il_2, il_3, il_4, il_5, il_6, il_7, il_8, il_9, il_10, il_15, il_20, il_31, il_30, il_37, il_48, il_49, il_54, il_57, il_59, il_60, il_68, il_80, il_87, il_99, il_100, il_101, il_111, il_112, il_115, il_243, il_500, il_729, il_999, il_1000, il_10000, il_m1, il_m2, il_m3, il_m4, il_m9, il_m10, il_m100, il_m500, iI_le', iI_lt', iI_eq', iI_add, iI_sub, iI_mul, iI_neg, dc_ltT, dc_ltF, dc_leT, dc_leF, dc_eqT, dc_eqF, ↓dc_andT, ↓dc_andF, dc_andT, dc_andF, and_self, and_true, true_and, and_false, false_and, or_self, or_true, true_or, or_false, false_or, not_true_eq_false, not_false_eq_true, Int.toNat_natCast, jl_0, jl_1, jl_2, jl_3, jl_4, jl_5, jl_6, jl_9, jl_10, jl_15, jl_19, jl_30, jl_500, jl_999, jl_m1, jl_m500, i64_of, ↓f6_within_eq, f6_within_eq]
            rw [s2 (fun g => b ((eG.mp g).mpr a))]
        · by_cases b : dg x t = 0
          · simp (disch := omega) only [e1, e2, e3, ↓f5_waterIn_eq hw, f5_waterIn_eq hw, ↓f5_waterIn_eq hx, f5_waterIn_eq hx, ↓f5_holds_eq hd.1, f5_holds_eq hd.1, hb, eq_self, Bool.false_eq_true, ↓reduceIte, ↓nm_eq, ↓ck_in, ck_in, il_0, il_1, il_2, il_3, il_4, il_5, il_6, il_7, il_8, il_9, il_10, il_15, il_20, il_31, il_30, il_37, il_48, il_49, il_54, il_57, il_59, il_60, il_68, il_80, il_87, il_99, il_100, il_101, il_111, il_112, il_115, il_243, il_500, il_729, il_999, il_1000, il_10000, il_m1, il_m2, il_m3, il_m4, il_m9, il_m10, il_m100, il_m500, iI_le', iI_lt', iI_eq', iI_add, iI_sub, iI_mul, iI_neg, dc_ltT, dc_ltF, dc_leT, dc_leF, dc_eqT, dc_eqF, ↓dc_andT, ↓dc_andF, dc_andT, dc_andF, and_self, and_true, true_and, and_false, false_and, or_self, or_true, true_or, or_false, false_or, not_true_eq_false, not_false_eq_true, Int.toNat_natCast, jl_0, jl_1, jl_2, jl_3, jl_4, jl_5, jl_6, jl_9, jl_10, jl_15, jl_19, jl_30, jl_500, jl_999, jl_m1, jl_m500, i64_of, ↓f6_within_eq, f6_within_eq]
            rw [s2 (fun g => a ((eG.mp g).mp b))]
          · simp (disch := omega) only [e1, e2, e3, ↓f5_waterIn_eq hw, f5_waterIn_eq hw, ↓f5_waterIn_eq hx, f5_waterIn_eq hx, ↓f5_holds_eq hd.1, f5_holds_eq hd.1, hb, eq_self, Bool.false_eq_true, ↓reduceIte, ↓nm_eq, ↓ck_in, ck_in, il_0, il_1, il_2, il_3, il_4, il_5, il_6, il_7, il_8, il_9, il_10, il_15, il_20, il_31, il_30, il_37, il_48, il_49, il_54, il_57, il_59, il_60, il_68, il_80, il_87, il_99, il_100, il_101, il_111, il_112, il_115, il_243, il_500, il_729, il_999, il_1000, il_10000, il_m1, il_m2, il_m3, il_m4, il_m9, il_m10, il_m100, il_m500, iI_le', iI_lt', iI_eq', iI_add, iI_sub, iI_mul, iI_neg, dc_ltT, dc_ltF, dc_leT, dc_leF, dc_eqT, dc_eqF, ↓dc_andT, ↓dc_andF, dc_andT, dc_andF, and_self, and_true, true_and, and_false, false_and, or_self, or_true, true_or, or_false, false_or, not_true_eq_false, not_false_eq_true, Int.toNat_natCast, jl_0, jl_1, jl_2, jl_3, jl_4, jl_5, jl_6, jl_9, jl_10, jl_15, jl_19, jl_30, jl_500, jl_999, jl_m1, jl_m500, i64_of, ↓f6_within_eq, f6_within_eq]
            rw [i3, s1 (eG.mpr (by omega))]
      · have eG : Gt σ x t ↔ dg x t = 2 := by unfold Gt; rw [hb, if_pos rfl]
        by_cases a : dg (σ 0 1) t = 0
        · by_cases b : dg x t = 2
          · simp (disch := omega) only [e1, e2, e3, ↓f5_waterIn_eq hw, f5_waterIn_eq hw, ↓f5_waterIn_eq hx, f5_waterIn_eq hx, ↓f5_holds_eq hd.1, f5_holds_eq hd.1, hb, eq_self, Bool.false_eq_true, ↓reduceIte, ↓nm_eq, ↓ck_in, ck_in, il_0, il_1, il_2, il_3, il_4, il_5, il_6, il_7, il_8, il_9, il_10, il_15, il_20, il_31, il_30, il_37, il_48, il_49, il_54, il_57, il_59, il_60, il_68, il_80, il_87, il_99, il_100, il_101, il_111, il_112, il_115, il_243, il_500, il_729, il_999, il_1000, il_10000, il_m1, il_m2, il_m3, il_m4, il_m9, il_m10, il_m100, il_m500, iI_le', iI_lt', iI_eq', iI_add, iI_sub, iI_mul, iI_neg, dc_ltT, dc_ltF, dc_leT, dc_leF, dc_eqT, dc_eqF, ↓dc_andT, ↓dc_andF, dc_andT, dc_andF, and_self, and_true, true_and, and_false, false_and, or_self, or_true, true_or, or_false, false_or, not_true_eq_false, not_false_eq_true, Int.toNat_natCast, jl_0, jl_1, jl_2, jl_3, jl_4, jl_5, jl_6, jl_9, jl_10, jl_15, jl_19, jl_30, jl_500, jl_999, jl_m1, jl_m500, i64_of, ↓f6_within_eq, f6_within_eq]
            rw [i3, s1 (eG.mpr b)]
          · by_cases c : dg x t = 0
            · simp (disch := omega) only [e1, e2, e3, ↓f5_waterIn_eq hw, f5_waterIn_eq hw, ↓f5_waterIn_eq hx, f5_waterIn_eq hx, ↓f5_holds_eq hd.1, f5_holds_eq hd.1, hb, eq_self, Bool.false_eq_true, ↓reduceIte, ↓nm_eq, ↓ck_in, ck_in, il_0, il_1, il_2, il_3, il_4, il_5, il_6, il_7, il_8, il_9, il_10, il_15, il_20, il_31, il_30, il_37, il_48, il_49, il_54, il_57, il_59, il_60, il_68, il_80, il_87, il_99, il_100, il_101, il_111, il_112, il_115, il_243, il_500, il_729, il_999, il_1000, il_10000, il_m1, il_m2, il_m3, il_m4, il_m9, il_m10, il_m100, il_m500, iI_le', iI_lt', iI_eq', iI_add, iI_sub, iI_mul, iI_neg, dc_ltT, dc_ltF, dc_leT, dc_leF, dc_eqT, dc_eqF, ↓dc_andT, ↓dc_andF, dc_andT, dc_andF, and_self, and_true, true_and, and_false, false_and, or_self, or_true, true_or, or_false, false_or, not_true_eq_false, not_false_eq_true, Int.toNat_natCast, jl_0, jl_1, jl_2, jl_3, jl_4, jl_5, jl_6, jl_9, jl_10, jl_15, jl_19, jl_30, jl_500, jl_999, jl_m1, jl_m500, i64_of, ↓f6_within_eq, f6_within_eq]
              rw [s2 (fun g => b (eG.mp g))]
            · simp (disch := omega) only [e1, e2, e3, ↓f5_waterIn_eq hw, f5_waterIn_eq hw, ↓f5_waterIn_eq hx, f5_waterIn_eq hx, ↓f5_holds_eq hd.1, f5_holds_eq hd.1, hb, eq_self, Bool.false_eq_true, ↓reduceIte, ↓nm_eq, ↓ck_in, ck_in, il_0, il_1, il_2, il_3, il_4, il_5, il_6, il_7, il_8, il_9, il_10, il_15, il_20, il_31, il_30, il_37, il_48, il_49, il_54, il_57, il_59, il_60, il_68, il_80, il_87, il_99, il_100, il_101, il_111, il_112, il_115, il_243, il_500, il_729, il_999, il_1000, il_10000, il_m1, il_m2, il_m3, il_m4, il_m9, il_m10, il_m100, il_m500, iI_le', iI_lt', iI_eq', iI_add, iI_sub, iI_mul, iI_neg, dc_ltT, dc_ltF, dc_leT, dc_leF, dc_eqT, dc_eqF, ↓dc_andT, ↓dc_andF, dc_andT, dc_andF, and_self, and_true, true_and, and_false, false_and, or_self, or_true, true_or, or_false, false_or, not_true_eq_false, not_false_eq_true, Int.toNat_natCast, jl_0, jl_1, jl_2, jl_3, jl_4, jl_5, jl_6, jl_9, jl_10, jl_15, jl_19, jl_30, jl_500, jl_999, jl_m1, jl_m500, i64_of, ↓f6_within_eq, f6_within_eq]
              rw [s2 (fun g => b (eG.mp g))]
        · by_cases b : dg x t = 2
          · simp (disch := omega) only [e1, e2, e3, ↓f5_waterIn_eq hw, f5_waterIn_eq hw, ↓f5_waterIn_eq hx, f5_waterIn_eq hx, ↓f5_holds_eq hd.1, f5_holds_eq hd.1, hb, eq_self, Bool.false_eq_true, ↓reduceIte, ↓nm_eq, ↓ck_in, ck_in, il_0, il_1, il_2, il_3, il_4, il_5, il_6, il_7, il_8, il_9, il_10, il_15, il_20, il_31, il_30, il_37, il_48, il_49, il_54, il_57, il_59, il_60, il_68, il_80, il_87, il_99, il_100, il_101, il_111, il_112, il_115, il_243, il_500, il_729, il_999, il_1000, il_10000, il_m1, il_m2, il_m3, il_m4, il_m9, il_m10, il_m100, il_m500, iI_le', iI_lt', iI_eq', iI_add, iI_sub, iI_mul, iI_neg, dc_ltT, dc_ltF, dc_leT, dc_leF, dc_eqT, dc_eqF, ↓dc_andT, ↓dc_andF, dc_andT, dc_andF, and_self, and_true, true_and, and_false, false_and, or_self, or_true, true_or, or_false, false_or, not_true_eq_false, not_false_eq_true, Int.toNat_natCast, jl_0, jl_1, jl_2, jl_3, jl_4, jl_5, jl_6, jl_9, jl_10, jl_15, jl_19, jl_30, jl_500, jl_999, jl_m1, jl_m500, i64_of, ↓f6_within_eq, f6_within_eq]
            rw [i3, s1 (eG.mpr b)]
          · by_cases c : dg x t = 0
            · simp (disch := omega) only [e1, e2, e3, ↓f5_waterIn_eq hw, f5_waterIn_eq hw, ↓f5_waterIn_eq hx, f5_waterIn_eq hx, ↓f5_holds_eq hd.1, f5_holds_eq hd.1, hb, eq_self, Bool.false_eq_true, ↓reduceIte, ↓nm_eq, ↓ck_in, ck_in, il_0, il_1, il_2, il_3, il_4, il_5, il_6, il_7, il_8, il_9, il_10, il_15, il_20, il_31, il_30, il_37, il_48, il_49, il_54, il_57, il_59, il_60, il_68, il_80, il_87, il_99, il_100, il_101, il_111, il_112, il_115, il_243, il_500, il_729, il_999, il_1000, il_10000, il_m1, il_m2, il_m3, il_m4, il_m9, il_m10, il_m100, il_m500, iI_le', iI_lt', iI_eq', iI_add, iI_sub, iI_mul, iI_neg, dc_ltT, dc_ltF, dc_leT, dc_leF, dc_eqT, dc_eqF, ↓dc_andT, ↓dc_andF, dc_andT, dc_andF, and_self, and_true, true_and, and_false, false_and, or_self, or_true, true_or, or_false, false_or, not_true_eq_false, not_false_eq_true, Int.toNat_natCast, jl_0, jl_1, jl_2, jl_3, jl_4, jl_5, jl_6, jl_9, jl_10, jl_15, jl_19, jl_30, jl_500, jl_999, jl_m1, jl_m500, i64_of, ↓f6_within_eq, f6_within_eq]
              rw [s2 (fun g => b (eG.mp g))]
            · simp (disch := omega) only [e1, e2, e3, ↓f5_waterIn_eq hw, f5_waterIn_eq hw, ↓f5_waterIn_eq hx, f5_waterIn_eq hx, ↓f5_holds_eq hd.1, f5_holds_eq hd.1, hb, eq_self, Bool.false_eq_true, ↓reduceIte, ↓nm_eq, ↓ck_in, ck_in, il_0, il_1, il_2, il_3, il_4, il_5, il_6, il_7, il_8, il_9, il_10, il_15, il_20, il_31, il_30, il_37, il_48, il_49, il_54, il_57, il_59, il_60, il_68, il_80, il_87, il_99, il_100, il_101, il_111, il_112, il_115, il_243, il_500, il_729, il_999, il_1000, il_10000, il_m1, il_m2, il_m3, il_m4, il_m9, il_m10, il_m100, il_m500, iI_le', iI_lt', iI_eq', iI_add, iI_sub, iI_mul, iI_neg, dc_ltT, dc_ltF, dc_leT, dc_leF, dc_eqT, dc_eqF, ↓dc_andT, ↓dc_andF, dc_andT, dc_andF, and_self, and_true, true_and, and_false, false_and, or_self, or_true, true_or, or_false, false_or, not_true_eq_false, not_false_eq_true, Int.toNat_natCast, jl_0, jl_1, jl_2, jl_3, jl_4, jl_5, jl_6, jl_9, jl_10, jl_15, jl_19, jl_30, jl_500, jl_999, jl_m1, jl_m500, i64_of, ↓f6_within_eq, f6_within_eq]
              rw [s2 (fun g => b (eG.mp g))]
  unfold f3_isChanged
  have := key (σ 0 0) 0 FU (by omega) (by rw [FU_eq]; omega)
  rw [show (0 : Int32) = iI ((0 : Nat) : Int) from rfl, this]
  congr 2
  exact bI_congr ⟨fun g t ht => g t (by omega) ht, fun g t _ ht => g t ht⟩
theorem f6_isEnd_eq {α : Type} {σ : Sg} (h : Gd σ) {S : MS} (hS : ShM σ S) {x : Nat} (hx : x < 729) (K : Int32 → MS → Option α) : f6_isEnd (iI x) S K = K (iI (bI (Gl σ x))) S := by
  have hn := h.1
  have hw := w729 h
  have hd := d64 h
  have key : ∀ (m t fuel : Nat), t + m = σ 0 0 → m < fuel → f6_isEnd_L2 (iI x) K (fun _ S11 => K 1 S11) fuel (iI t) S = K (iI (bI (∀ u, t ≤ u → u < σ 0 0 → Gt σ x u))) S := by
    intro m
    induction m with
    | zero =>
      intro t fuel ht hf
      obtain ⟨f, rfl⟩ : ∃ f, fuel = f + 1 := ⟨fuel - 1, by omega⟩
      obtain rfl : t = σ 0 0 := by omega
      rw [f6_isEnd_L2, hS.1, ite_le ⟨⟨by omega, by omega⟩, ⟨by omega, by omega⟩⟩, if_pos (by omega), bI_t (fun u h1 h2 => by omega)]
      rfl
    | succ m ih =>
      intro t fuel ht hf
      obtain ⟨f, rfl⟩ : ∃ f, fuel = f + 1 := ⟨fuel - 1, by omega⟩
      have i2 := ih (t + 1) f (by omega) (by omega)
      obtain ⟨s1, s2⟩ := ch_step (σ := σ) (x := x) (t := t) (by omega)
      have d1 := dg_lt x t
      have d2 := dg_lt (σ 0 1) t
      have nx : iI (t : Int) + 1 = iI (t + 1 : Nat) := by rw [show (1 : Int32) = iI 1 from rfl, iI_add]; rfl
      have e1 := hS.1
      have e2 := hS.2.1
      have e3 := hS.2.2.1
      have i3 : f6_isEnd_L2 (iI x) K (fun _ S11 => K (iI 1) S11) f (iI ((t : Int) + 1)) S = _ := i2
      show f6_isEnd_L2 (iI x) K (fun _ S11 => K (iI 1) S11) (f + 1) (iI t) S = _
      rw [f6_isEnd_L2]
      unfold f6_isEnd_J34 f6_isEnd_J72
      cases hb : bt (σ 0 2) t
      · have bb : ((iI (σ 0 2) >>> (iI t &&& iI 31)) &&& iI 1) = iI 0 := (bit_all _ hd.1 t (by omega)).trans (by rw [hb]; rfl)
        have eG : Gt σ x t ↔ (dg x t = 0 ↔ dg (σ 0 1) t = 0) := by unfold Gt; rw [hb, if_neg (by decide)]
        by_cases a : dg (σ 0 1) t = 0
        · by_cases b : dg x t = 0
          · simp (disch := omega) only [e1, e2, e3, ↓(f6_waterIn_eq hw (show t < 6 by omega) hS), (f6_waterIn_eq hw (show t < 6 by omega) hS), ↓(f6_waterIn_eq hx (show t < 6 by omega) hS), (f6_waterIn_eq hx (show t < 6 by omega) hS), bb, eq_self, Bool.false_eq_true, ↓reduceIte, ↓nm_eq, ↓ck_in, ck_in, il_0, il_1, il_2, il_3, il_4, il_5, il_6, il_7, il_8, il_9, il_10, il_15, il_20, il_31, il_30, il_37, il_48, il_49, il_54, il_57, il_59, il_60, il_68, il_80, il_87, il_99, il_100, il_101, il_111, il_112, il_115, il_243, il_500, il_729, il_999, il_1000, il_10000, il_m1, il_m2, il_m3, il_m4, il_m9, il_m10, il_m100, il_m500, iI_le', iI_lt', iI_eq', iI_add, iI_sub, iI_mul, iI_neg, dc_ltT, dc_ltF, dc_leT, dc_leF, dc_eqT, dc_eqF, ↓dc_andT, ↓dc_andF, dc_andT, dc_andF, and_self, and_true, true_and, and_false, false_and, or_self, or_true, true_or, or_false, false_or, not_true_eq_false, not_false_eq_true, Int.toNat_natCast, jl_0, jl_1, jl_2, jl_3, jl_4, jl_5, jl_6, jl_9, jl_10, jl_15, jl_19, jl_30, jl_500, jl_999, jl_m1, jl_m500, i64_of, ↓f6_within_eq, f6_within_eq]
            rw [i3, s1 (eG.mpr (by omega))]
          · simp (disch := omega) only [e1, e2, e3, ↓(f6_waterIn_eq hw (show t < 6 by omega) hS), (f6_waterIn_eq hw (show t < 6 by omega) hS), ↓(f6_waterIn_eq hx (show t < 6 by omega) hS), (f6_waterIn_eq hx (show t < 6 by omega) hS), bb, eq_self, Bool.false_eq_true, ↓reduceIte, ↓nm_eq, ↓ck_in, ck_in, il_0, il_1, il_2, il_3, il_4, il_5, il_6, il_7, il_8, il_9, il_10, il_15, il_20, il_31, il_30, il_37, il_48, il_49, il_54, il_57, il_59, il_60, il_68, il_80, il_87, il_99, il_100, il_101, il_111, il_112, il_115, il_243, il_500, il_729, il_999, il_1000, il_10000, il_m1, il_m2, il_m3, il_m4, il_m9, il_m10, il_m100, il_m500, iI_le', iI_lt', iI_eq', iI_add, iI_sub, iI_mul, iI_neg, dc_ltT, dc_ltF, dc_leT, dc_leF, dc_eqT, dc_eqF, ↓dc_andT, ↓dc_andF, dc_andT, dc_andF, and_self, and_true, true_and, and_false, false_and, or_self, or_true, true_or, or_false, false_or, not_true_eq_false, not_false_eq_true, Int.toNat_natCast, jl_0, jl_1, jl_2, jl_3, jl_4, jl_5, jl_6, jl_9, jl_10, jl_15, jl_19, jl_30, jl_500, jl_999, jl_m1, jl_m500, i64_of, ↓f6_within_eq, f6_within_eq]
            rw [s2 (fun g => b ((eG.mp g).mpr a))]
        · by_cases b : dg x t = 0
          · simp (disch := omega) only [e1, e2, e3, ↓(f6_waterIn_eq hw (show t < 6 by omega) hS), (f6_waterIn_eq hw (show t < 6 by omega) hS), ↓(f6_waterIn_eq hx (show t < 6 by omega) hS), (f6_waterIn_eq hx (show t < 6 by omega) hS), bb, eq_self, Bool.false_eq_true, ↓reduceIte, ↓nm_eq, ↓ck_in, ck_in, il_0, il_1, il_2, il_3, il_4, il_5, il_6, il_7, il_8, il_9, il_10, il_15, il_20, il_31, il_30, il_37, il_48, il_49, il_54, il_57, il_59, il_60, il_68, il_80, il_87, il_99, il_100, il_101, il_111, il_112, il_115, il_243, il_500, il_729, il_999, il_1000, il_10000, il_m1, il_m2, il_m3, il_m4, il_m9, il_m10, il_m100, il_m500, iI_le', iI_lt', iI_eq', iI_add, iI_sub, iI_mul, iI_neg, dc_ltT, dc_ltF, dc_leT, dc_leF, dc_eqT, dc_eqF, ↓dc_andT, ↓dc_andF, dc_andT, dc_andF, and_self, and_true, true_and, and_false, false_and, or_self, or_true, true_or, or_false, false_or, not_true_eq_false, not_false_eq_true, Int.toNat_natCast, jl_0, jl_1, jl_2, jl_3, jl_4, jl_5, jl_6, jl_9, jl_10, jl_15, jl_19, jl_30, jl_500, jl_999, jl_m1, jl_m500, i64_of, ↓f6_within_eq, f6_within_eq]
            rw [s2 (fun g => a ((eG.mp g).mp b))]
          · simp (disch := omega) only [e1, e2, e3, ↓(f6_waterIn_eq hw (show t < 6 by omega) hS), (f6_waterIn_eq hw (show t < 6 by omega) hS), ↓(f6_waterIn_eq hx (show t < 6 by omega) hS), (f6_waterIn_eq hx (show t < 6 by omega) hS), bb, eq_self, Bool.false_eq_true, ↓reduceIte, ↓nm_eq, ↓ck_in, ck_in, il_0, il_1, il_2, il_3, il_4, il_5, il_6, il_7, il_8, il_9, il_10, il_15, il_20, il_31, il_30, il_37, il_48, il_49, il_54, il_57, il_59, il_60, il_68, il_80, il_87, il_99, il_100, il_101, il_111, il_112, il_115, il_243, il_500, il_729, il_999, il_1000, il_10000, il_m1, il_m2, il_m3, il_m4, il_m9, il_m10, il_m100, il_m500, iI_le', iI_lt', iI_eq', iI_add, iI_sub, iI_mul, iI_neg, dc_ltT, dc_ltF, dc_leT, dc_leF, dc_eqT, dc_eqF, ↓dc_andT, ↓dc_andF, dc_andT, dc_andF, and_self, and_true, true_and, and_false, false_and, or_self, or_true, true_or, or_false, false_or, not_true_eq_false, not_false_eq_true, Int.toNat_natCast, jl_0, jl_1, jl_2, jl_3, jl_4, jl_5, jl_6, jl_9, jl_10, jl_15, jl_19, jl_30, jl_500, jl_999, jl_m1, jl_m500, i64_of, ↓f6_within_eq, f6_within_eq]
            rw [i3, s1 (eG.mpr (by omega))]
      · have bb : ((iI (σ 0 2) >>> (iI t &&& iI 31)) &&& iI 1) = iI 1 := (bit_all _ hd.1 t (by omega)).trans (by rw [hb]; rfl)
        have eG : Gt σ x t ↔ dg x t = 2 := by unfold Gt; rw [hb, if_pos rfl]
        by_cases a : dg (σ 0 1) t = 0
        · by_cases b : dg x t = 2
          · simp (disch := omega) only [e1, e2, e3, ↓(f6_waterIn_eq hw (show t < 6 by omega) hS), (f6_waterIn_eq hw (show t < 6 by omega) hS), ↓(f6_waterIn_eq hx (show t < 6 by omega) hS), (f6_waterIn_eq hx (show t < 6 by omega) hS), bb, eq_self, Bool.false_eq_true, ↓reduceIte, ↓nm_eq, ↓ck_in, ck_in, il_0, il_1, il_2, il_3, il_4, il_5, il_6, il_7, il_8, il_9, il_10, il_15, il_20, il_31, il_30, il_37, il_48, il_49, il_54, il_57, il_59, il_60, il_68, il_80, il_87, il_99, il_100, il_101, il_111, il_112, il_115, il_243, il_500, il_729, il_999, il_1000, il_10000, il_m1, il_m2, il_m3, il_m4, il_m9, il_m10, il_m100, il_m500, iI_le', iI_lt', iI_eq', iI_add, iI_sub, iI_mul, iI_neg, dc_ltT, dc_ltF, dc_leT, dc_leF, dc_eqT, dc_eqF, ↓dc_andT, ↓dc_andF, dc_andT, dc_andF, and_self, and_true, true_and, and_false, false_and, or_self, or_true, true_or, or_false, false_or, not_true_eq_false, not_false_eq_true, Int.toNat_natCast, jl_0, jl_1, jl_2, jl_3, jl_4, jl_5, jl_6, jl_9, jl_10, jl_15, jl_19, jl_30, jl_500, jl_999, jl_m1, jl_m500, i64_of, ↓f6_within_eq, f6_within_eq]
            rw [i3, s1 (eG.mpr b)]
          · by_cases c : dg x t = 0
            · simp (disch := omega) only [e1, e2, e3, ↓(f6_waterIn_eq hw (show t < 6 by omega) hS), (f6_waterIn_eq hw (show t < 6 by omega) hS), ↓(f6_waterIn_eq hx (show t < 6 by omega) hS), (f6_waterIn_eq hx (show t < 6 by omega) hS), bb, eq_self, Bool.false_eq_true, ↓reduceIte, ↓nm_eq, ↓ck_in, ck_in, il_0, il_1, il_2, il_3, il_4, il_5, il_6, il_7, il_8, il_9, il_10, il_15, il_20, il_31, il_30, il_37, il_48, il_49, il_54, il_57, il_59, il_60, il_68, il_80, il_87, il_99, il_100, il_101, il_111, il_112, il_115, il_243, il_500, il_729, il_999, il_1000, il_10000, il_m1, il_m2, il_m3, il_m4, il_m9, il_m10, il_m100, il_m500, iI_le', iI_lt', iI_eq', iI_add, iI_sub, iI_mul, iI_neg, dc_ltT, dc_ltF, dc_leT, dc_leF, dc_eqT, dc_eqF, ↓dc_andT, ↓dc_andF, dc_andT, dc_andF, and_self, and_true, true_and, and_false, false_and, or_self, or_true, true_or, or_false, false_or, not_true_eq_false, not_false_eq_true, Int.toNat_natCast, jl_0, jl_1, jl_2, jl_3, jl_4, jl_5, jl_6, jl_9, jl_10, jl_15, jl_19, jl_30, jl_500, jl_999, jl_m1, jl_m500, i64_of, ↓f6_within_eq, f6_within_eq]
              rw [s2 (fun g => b (eG.mp g))]
            · simp (disch := omega) only [e1, e2, e3, ↓(f6_waterIn_eq hw (show t < 6 by omega) hS), (f6_waterIn_eq hw (show t < 6 by omega) hS), ↓(f6_waterIn_eq hx (show t < 6 by omega) hS), (f6_waterIn_eq hx (show t < 6 by omega) hS), bb, eq_self, Bool.false_eq_true, ↓reduceIte, ↓nm_eq, ↓ck_in, ck_in, il_0, il_1, il_2, il_3, il_4, il_5, il_6, il_7, il_8, il_9, il_10, il_15, il_20, il_31, il_30, il_37, il_48, il_49, il_54, il_57, il_59, il_60, il_68, il_80, il_87, il_99, il_100, il_101, il_111, il_112, il_115, il_243, il_500, il_729, il_999, il_1000, il_10000, il_m1, il_m2, il_m3, il_m4, il_m9, il_m10, il_m100, il_m500, iI_le', iI_lt', iI_eq', iI_add, iI_sub, iI_mul, iI_neg, dc_ltT, dc_ltF, dc_leT, dc_leF, dc_eqT, dc_eqF, ↓dc_andT, ↓dc_andF, dc_andT, dc_andF, and_self, and_true, true_and, and_false, false_and, or_self, or_true, true_or, or_false, false_or, not_true_eq_false, not_false_eq_true, Int.toNat_natCast, jl_0, jl_1, jl_2, jl_3, jl_4, jl_5, jl_6, jl_9, jl_10, jl_15, jl_19, jl_30, jl_500, jl_999, jl_m1, jl_m500, i64_of, ↓f6_within_eq, f6_within_eq]
              rw [s2 (fun g => b (eG.mp g))]
        · by_cases b : dg x t = 2
          · simp (disch := omega) only [e1, e2, e3, ↓(f6_waterIn_eq hw (show t < 6 by omega) hS), (f6_waterIn_eq hw (show t < 6 by omega) hS), ↓(f6_waterIn_eq hx (show t < 6 by omega) hS), (f6_waterIn_eq hx (show t < 6 by omega) hS), bb, eq_self, Bool.false_eq_true, ↓reduceIte, ↓nm_eq, ↓ck_in, ck_in, il_0, il_1, il_2, il_3, il_4, il_5, il_6, il_7, il_8, il_9, il_10, il_15, il_20, il_31, il_30, il_37, il_48, il_49, il_54, il_57, il_59, il_60, il_68, il_80, il_87, il_99, il_100, il_101, il_111, il_112, il_115, il_243, il_500, il_729, il_999, il_1000, il_10000, il_m1, il_m2, il_m3, il_m4, il_m9, il_m10, il_m100, il_m500, iI_le', iI_lt', iI_eq', iI_add, iI_sub, iI_mul, iI_neg, dc_ltT, dc_ltF, dc_leT, dc_leF, dc_eqT, dc_eqF, ↓dc_andT, ↓dc_andF, dc_andT, dc_andF, and_self, and_true, true_and, and_false, false_and, or_self, or_true, true_or, or_false, false_or, not_true_eq_false, not_false_eq_true, Int.toNat_natCast, jl_0, jl_1, jl_2, jl_3, jl_4, jl_5, jl_6, jl_9, jl_10, jl_15, jl_19, jl_30, jl_500, jl_999, jl_m1, jl_m500, i64_of, ↓f6_within_eq, f6_within_eq]
            rw [i3, s1 (eG.mpr b)]
          · by_cases c : dg x t = 0
            · simp (disch := omega) only [e1, e2, e3, ↓(f6_waterIn_eq hw (show t < 6 by omega) hS), (f6_waterIn_eq hw (show t < 6 by omega) hS), ↓(f6_waterIn_eq hx (show t < 6 by omega) hS), (f6_waterIn_eq hx (show t < 6 by omega) hS), bb, eq_self, Bool.false_eq_true, ↓reduceIte, ↓nm_eq, ↓ck_in, ck_in, il_0, il_1, il_2, il_3, il_4, il_5, il_6, il_7, il_8, il_9, il_10, il_15, il_20, il_31, il_30, il_37, il_48, il_49, il_54, il_57, il_59, il_60, il_68, il_80, il_87, il_99, il_100, il_101, il_111, il_112, il_115, il_243, il_500, il_729, il_999, il_1000, il_10000, il_m1, il_m2, il_m3, il_m4, il_m9, il_m10, il_m100, il_m500, iI_le', iI_lt', iI_eq', iI_add, iI_sub, iI_mul, iI_neg, dc_ltT, dc_ltF, dc_leT, dc_leF, dc_eqT, dc_eqF, ↓dc_andT, ↓dc_andF, dc_andT, dc_andF, and_self, and_true, true_and, and_false, false_and, or_self, or_true, true_or, or_false, false_or, not_true_eq_false, not_false_eq_true, Int.toNat_natCast, jl_0, jl_1, jl_2, jl_3, jl_4, jl_5, jl_6, jl_9, jl_10, jl_15, jl_19, jl_30, jl_500, jl_999, jl_m1, jl_m500, i64_of, ↓f6_within_eq, f6_within_eq]
              rw [s2 (fun g => b (eG.mp g))]
            · simp (disch := omega) only [e1, e2, e3, ↓(f6_waterIn_eq hw (show t < 6 by omega) hS), (f6_waterIn_eq hw (show t < 6 by omega) hS), ↓(f6_waterIn_eq hx (show t < 6 by omega) hS), (f6_waterIn_eq hx (show t < 6 by omega) hS), bb, eq_self, Bool.false_eq_true, ↓reduceIte, ↓nm_eq, ↓ck_in, ck_in, il_0, il_1, il_2, il_3, il_4, il_5, il_6, il_7, il_8, il_9, il_10, il_15, il_20, il_31, il_30, il_37, il_48, il_49, il_54, il_57, il_59, il_60, il_68, il_80, il_87, il_99, il_100, il_101, il_111, il_112, il_115, il_243, il_500, il_729, il_999, il_1000, il_10000, il_m1, il_m2, il_m3, il_m4, il_m9, il_m10, il_m100, il_m500, iI_le', iI_lt', iI_eq', iI_add, iI_sub, iI_mul, iI_neg, dc_ltT, dc_ltF, dc_leT, dc_leF, dc_eqT, dc_eqF, ↓dc_andT, ↓dc_andF, dc_andT, dc_andF, and_self, and_true, true_and, and_false, false_and, or_self, or_true, true_or, or_false, false_or, not_true_eq_false, not_false_eq_true, Int.toNat_natCast, jl_0, jl_1, jl_2, jl_3, jl_4, jl_5, jl_6, jl_9, jl_10, jl_15, jl_19, jl_30, jl_500, jl_999, jl_m1, jl_m500, i64_of, ↓f6_within_eq, f6_within_eq]
              rw [s2 (fun g => b (eG.mp g))]
  unfold f6_isEnd
  have := key (σ 0 0) 0 FU (by omega) (by rw [FU_eq]; omega)
  rw [show (0 : Int32) = iI ((0 : Nat) : Int) from rfl, this]
  congr 2
  exact bI_congr ⟨fun g t ht => g t (by omega) ht, fun g t _ ht => g t ht⟩
