/-! PURE PART 40: plans, worst -/
theorem sim_plans : SimL (RelP PXs PMs) f5_plans f6_plans := by
  intro SX SM ⟨σ, h⟩
  have hn := h.1.1
  have h33 := p3_bd hn
  have hX := h.2.1
  have hM := h.2.2.1
  have m1 := hM.1
  by_cases c2 : σ 0 0 = 0
  · refine ⟨-9223372036854775808, SX, SM, ?_, ?_, σ, h⟩
    · unfold f5_plans
      rw [f5_hasNoShip_eq hn hX.1, if_pos c2, if_neg (by decide)]
    · unfold f6_plans
      rw [m1, c2]
      rfl
  · obtain ⟨T, x1, x2, x3, x4⟩ := X_refresh h (fun S3 => f2_shortestPlans S3 fun r6 S5 => some (r6, S5))
    obtain ⟨U, y1, y2, y3, y4⟩ := M_findLeft h (fun S1 => ck (S1.1 0 14) 729 fun k3 => some (S1.2 19 k3, S1))
    have hr := rel_search h x2 x3 x4 y2 y3 y4
    have fX : f5_plans SX (fun r u => some (r, u)) = f2_shortestPlans T (fun r6 S5 => some (r6, S5)) := by
      unfold f5_plans
      rw [f5_hasNoShip_eq hn hX.1, if_neg c2, if_pos rfl]
      exact x1
    have fM : f6_plans SM (fun r u => some (r, u)) = ck (U.1 0 14) 729 fun k3 => some (U.2 19 k3, U) := by
      unfold f6_plans
      rw [m1, show (0 : Int32) = iI 0 from rfl, ite_eq ⟨⟨by omega, by omega⟩, by decide⟩, if_neg (by omega)]
      exact y1
    have hU := hr.2.2.1
    have u14 := hU.2.1
    have hs7 := w729 h.1
    obtain ⟨r, q, par, lt, lev, w, hF, hl, hend⟩ := x2
    obtain ⟨lf, V, hm, hLk⟩ := y2
    have lsv := (hLk _ h.1.2.1).2.2
    have hrN := hF.rN
    rw [u14, ck_nat hs7 (by omega), lsv] at fM
    rcases hend with ⟨e, e1, e2, e3, e4⟩ | ⟨e1, e2⟩
    · have hlv := hF.lev_j e e1
      have al := AL_all hF hm hrN e1 e2 e3
      have s1 := X_sum h.1 hr.2.1 hF hl (Lz := (lev e : Int)) ⟨by omega, by omega⟩ (fun K => X_planLen hF h.1 hl e1 e4 K) (fun r6 S5 => some (r6, S5))
      have es : sN r (fun j => iN ((lev j : Int) = (lev e : Int) ∧ Gl σ (q j)) (w j)) = V (σ 0 1) := by
        refine Eq.trans ?_ ((sN_cut (fun j => lev j = lev e ∧ Gl σ (q j)) w hrN).symm.trans al)
        exact sN_congr (fun j _ => iN_congr ⟨fun g => ⟨by have := g.1; omega, g.2⟩, fun g => ⟨by have := g.1; omega, g.2⟩⟩ (fun _ => rfl))
      rw [es] at s1
      exact ⟨_, T, U, fX.trans s1, fM, σ, hr⟩
    · have s1 := X_sum h.1 hr.2.1 hF hl (Lz := -9) (by decide) (fun K => by unfold f2_planLength; rw [e2, if_pos (by decide)]; rfl) (fun r6 S5 => some (r6, S5))
      have l0 := tq4n hF hm e1
      have v0 := (hm.2.2.2.2 _ h.1.2.1).1 l0
      have es : sN r (fun j => iN ((lev j : Int) = -9 ∧ Gl σ (q j)) (w j)) = 0 := sN_zero (fun j hj => iN_f (fun g => by have := g.1; omega) _)
      rw [es] at s1
      rw [v0] at fM
      exact ⟨_, T, U, fX.trans s1, fM, σ, hr⟩
theorem sim_worst (a : Int32) : SimI (RelP PXs PMs) (f5_worst a) (f6_worst a) := by
  intro SX SM ⟨σ, h⟩
  obtain ⟨z, rfl, hz⟩ := iI_of a
  have hn := h.1.1
  have h33 := p3_bd hn
  have hX := h.2.1
  have hM := h.2.2.1
  have m1 := hM.1
  by_cases c1 : 0 ≤ z ∧ z ≤ 2
  · by_cases c2 : σ 0 0 = 0
    · refine ⟨iI (-3), SX, SM, ?_, ?_, σ, h⟩
      · unfold f5_worst
        rw [show (0 : Int32) = iI 0 from rfl, ite_lt ⟨hz, by decide⟩, if_neg (by omega), show (3 : Int32) = iI 3 from rfl, ite_lt ⟨hz, by decide⟩, if_pos (by omega), f5_hasNoShip_eq hn hX.1, if_pos c2, if_neg (by decide)]
        rfl
      · unfold f6_worst
        rw [show (0 : Int64) = Int64.ofInt 0 from rfl, show (2 : Int64) = Int64.ofInt 2 from rfl, f6_within64 hz (by decide) (by decide), if_pos c1, if_neg (by decide), m1, c2]
        rfl
    · obtain ⟨k, rfl⟩ : ∃ k : Nat, z = k := ⟨z.toNat, by omega⟩
      have hk : k ≤ 2 := by omega
      obtain ⟨T, x1, x2, x3, x4⟩ := X_refresh h (fun S3 => f2_worstOfPlan (iI k) S3 fun r6 S5 => some (r6, S5))
      obtain ⟨U, y1, y2, y3, y4⟩ := M_findLeft h (fun S3 => ck (S3.1 0 14) 729 fun k5 => if (S3.1 18 k5) = (-9) then (some (-9, S3)) else (nm (S3.1 0 14) fun x2_6 => f6_measured x2_6 (iI k) S3 fun r8 S7 => f6_plain r8 S7 fun r10 S9 => f6_worst_L61 (iI k) (fun v2_21 v3_22 S20 => some (v3_22, S20)) FU x2_6 r10 S9))
      have hr := rel_search h x2 x3 x4 y2 y3 y4
      have fX : f5_worst (iI k) SX (fun r u => some (r, u)) = f2_worstOfPlan (iI k) T (fun r6 S5 => some (r6, S5)) := by
        unfold f5_worst
        rw [show (0 : Int32) = iI 0 from rfl, ite_lt ⟨hz, by decide⟩, if_neg (by omega), show (3 : Int32) = iI 3 from rfl, ite_lt ⟨hz, by decide⟩, if_pos (by omega), f5_hasNoShip_eq hn hX.1, if_neg c2, if_pos (by decide)]
        exact x1
      have fM : f6_worst (iI k) SM (fun r u => some (r, u)) = ck (U.1 0 14) 729 fun k5 => if (U.1 18 k5) = (-9) then (some (-9, U)) else (nm (U.1 0 14) fun x2_6 => f6_measured x2_6 (iI k) U fun r8 S7 => f6_plain r8 S7 fun r10 S9 => f6_worst_L61 (iI k) (fun v2_21 v3_22 S20 => some (v3_22, S20)) FU x2_6 r10 S9) := by
        unfold f6_worst
        rw [show (0 : Int64) = Int64.ofInt 0 from rfl, show (2 : Int64) = Int64.ofInt 2 from rfl, f6_within64 hz (by decide) (by decide), if_pos c1, if_neg (by decide), m1, show (0 : Int32) = iI 0 from rfl, ite_eq ⟨⟨by omega, by omega⟩, by decide⟩, if_neg (by omega)]
        exact y1
      have hU := hr.2.2.1
      have u14 := hU.2.1
      have hs7 := w729 h.1
      obtain ⟨r, q, par, lt, lev, w, hF, hl, hend⟩ := x2
      obtain ⟨lf, V, hm, hLk⟩ := y2
      have ls := (hLk _ h.1.2.1).2.1
      have hrN := hF.rN
      rcases hend with ⟨e, e1, e2, e3, e4⟩ | ⟨e1, e2⟩
      · have l0 := tq4s hF hm e1 e2 e3
        have hlv := hF.lev_j e e1
        rw [l0] at ls
        have es : σ 0 1 = q (up par e (lev e)) := by rw [up_top hF e1, hF.1.2.1]
        have sm := SmM.wm σ (gW σ (σ 0 1) (-9)) U
        have mb := msI_bd h.1 (σ 0 1) k
        obtain ⟨T', t1, t2⟩ := X_worst h.1 hr.2.1 hF hl e1 e4 hk (fun r6 S5 => some (r6, S5))
        obtain ⟨U', v1, v2⟩ := M_worst h.1 hF hm (sm.sh hU) (LkM_sm hLk sm) e1 e2 e3 hk (fun v3 S20 => some (v3, S20))
        rw [u14, ck_nat hs7 (by omega), ls, show (-9 : Int32) = iI (-9) from rfl, ite_eq ⟨⟨by omega, by omega⟩, by decide⟩, if_neg (by omega), nm_eq, f6_measured_eq h.1 hU hs7 hk, f6_plain_eq (by omega)] at fM
        rw [← es] at v2
        have rv := mx_rev (fun i => abI (msI σ (q (up par e i)) k)) (lev e)
        refine ⟨iI (mx (fun i => abI (msI σ (q (up par e i)) k)) (lev e)), T', U', fX.trans t2, (fM.trans v2).trans (congrArg (fun z => some (iI z, U')) rv), σ, rel_sm clPX hr t1 (sm.tr v1)⟩
      · have l0 := tq4n hF hm e1
        rw [l0] at ls
        refine ⟨iI (-9), T, U, fX.trans ?_, fM.trans ?_, σ, hr⟩
        · unfold f2_worstOfPlan
          rw [e2, if_pos (by decide)]
          rfl
        · rw [u14, ck_nat hs7 (by omega), ls, if_pos (by decide)]
          rfl
  · refine ⟨iI (-2), SX, SM, ?_, ?_, σ, h⟩
    · unfold f5_worst
      rw [show (0 : Int32) = iI 0 from rfl, ite_lt ⟨hz, by decide⟩, show (3 : Int32) = iI 3 from rfl, ite_lt ⟨hz, by decide⟩]
      by_cases d : z < 0
      · rw [if_pos d]; rfl
      · rw [if_neg d, if_neg (by omega)]; rfl
    · unfold f6_worst
      rw [show (0 : Int64) = Int64.ofInt 0 from rfl, show (2 : Int64) = Int64.ofInt 2 from rfl, f6_within64 hz (by decide) (by decide), if_neg c1]
      rfl
