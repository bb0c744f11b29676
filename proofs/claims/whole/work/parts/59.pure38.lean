/-! PURE PART 38: plans -/
theorem rel_search {σ : Sg} {SX SM T U : MS} (h : RelS PXs PMs σ SX SM) (x1 : PXs σ T) (x2 : T.1 3 7 = 1) (x3 : SrX SX T) (m1 : PMs σ U) (m2 : U.1 0 28 = 1) (m3 : SrN SM U) : RelS PXs PMs σ T U := by
  obtain ⟨h1, h2, h3, h4, h5, h6, h7, h8, h9⟩ := h
  refine ⟨h1, x3.sh h2, ShM_of h3 ⟨m3.2 6 (by omega), m3.2 14 (by omega), m3.2 13 (by omega)⟩ (fun j hj => m3.1 j (by omega) (by omega)), ?_, ?_, ?_, ?_, Or.inr ⟨x2, x1⟩, Or.inr ⟨m2, U, AgM.rf U, m1⟩⟩
  · exact rd_keep h4 (by rw [x3 0 (by omega) (by omega) (by omega) (by omega)]) (m3.2 34 (by omega)) (x3 4 (by omega) (by omega) (by omega) (by omega)) (m3.1 21 (by omega) (by omega))
  · rw [x3 0 (by omega) (by omega) (by omega) (by omega), m3.2 1 (by omega)]; exact h5
  · rw [x3 0 (by omega) (by omega) (by omega) (by omega), m3.2 0 (by omega)]; exact h6
  · exact sk_keep h7 (fun j hj => x3 j (by omega) (by omega) (by omega) (by omega)) (fun j hj => m3.1 j (by omega) (by omega))
section Plan
variable {σ : Sg} {lf : Nat → Int} {V : Nat → Nat} {U : MS}
theorem M_firstOf {α : Type} (h : Gd σ) (hU : ShM σ U) (hm : MI (3 ^ σ 0 0) (σ 0 0) (CanP σ) pmN (Gl σ) lf V) (hL : LkM σ U lf V (3 ^ σ 0 0)) {x t0 : Nat} (hx : x < 3 ^ σ 0 0) (ht0 : t0 < σ 0 0) (h1 : CanP σ x t0) (h2 : lf (pmN x t0) = lf x - 1) (h3 : ∀ t, t < t0 → ¬ (CanP σ x t ∧ lf (pmN x t) = lf x - 1)) (K : Int32 → MS → Option α) : f6_firstOf (iI x) U K = K (iI t0) U := by
  have hn6 := h.1
  have h33 := p3_bd hn6
  have x7 : x < 729 := by omega
  obtain ⟨⟨c, c1, c2, c3⟩, l1, -⟩ := hL x hx
  have rx := hm.1 x hx
  have key : ∀ (m t fuel : Nat), t + m = t0 → m < fuel → f6_firstOf_L2 (iI x) K (fun _ S8 => K (-9) S8) fuel (iI t) U = K (iI t0) U := by
    intro m
    induction m with
    | zero =>
      intro t fuel ht hf
      obtain ⟨f, rfl⟩ : ∃ f, fuel = f + 1 := ⟨fuel - 1, by omega⟩
      obtain rfl : t = t0 := by omega
      have hy := pm_ltn _ hn6 x hx t ht0
      have ry := hm.1 (pmN x t) hy
      rw [f6_firstOf_L2, hU.1, ite_le ⟨⟨by omega, by omega⟩, ⟨by omega, by omega⟩⟩, if_neg (by omega), ck_nat x7 (by omega), c2, bit_all c c1 t (by omega), (c3 t ht0).mpr h1, if_pos rfl, if_pos rfl]
      unfold f6_firstOf_J29
      rw [if_neg (by decide), f6_pumped_eq x7 (by omega) hU, ck_nat (by omega) (by omega), ck_nat x7 (by omega), (hL _ hy).2.1, l1, show (1 : Int32) = iI 1 from rfl, iI_sub, ite_eq ⟨⟨by omega, by omega⟩, ⟨by omega, by omega⟩⟩, if_pos h2]
    | succ m ih =>
      intro t fuel ht hf
      obtain ⟨f, rfl⟩ : ∃ f, fuel = f + 1 := ⟨fuel - 1, by omega⟩
      have hy := pm_ltn _ hn6 x hx t (by omega)
      have ry := hm.1 (pmN x t) hy
      have i2 := ih (t + 1) f (by omega) (by omega)
      have nx : iI (t : Int) + 1 = iI (t + 1 : Nat) := by rw [show (1 : Int32) = iI 1 from rfl, iI_add]; rfl
      rw [f6_firstOf_L2, hU.1, ite_le ⟨⟨by omega, by omega⟩, ⟨by omega, by omega⟩⟩, if_neg (by omega), ck_nat x7 (by omega), c2, bit_all c c1 t (by omega)]
      by_cases d : bt c t = true
      · rw [d, if_pos rfl, if_pos rfl]
        unfold f6_firstOf_J29
        rw [if_neg (by decide), f6_pumped_eq x7 (by omega) hU, ck_nat (by omega) (by omega), ck_nat x7 (by omega), (hL _ hy).2.1, l1, show (1 : Int32) = iI 1 from rfl, iI_sub, ite_eq ⟨⟨by omega, by omega⟩, ⟨by omega, by omega⟩⟩, if_neg (fun g => h3 t (by omega) ⟨(c3 t (by omega)).mp d, g⟩), nm_eq, show iI 1 = (1 : Int32) from rfl, nx, i2]
      · have d' : bt c t = false := by cases q : bt c t
                                       · rfl
                                       · exact absurd q d
        rw [d', if_neg (show ¬ (false = true) by decide), if_neg (by decide)]
        unfold f6_firstOf_J29
        rw [if_pos rfl, nm_eq, nx, i2]
  unfold f6_firstOf
  rw [show (0 : Int32) = iI ((0 : Nat) : Int) from rfl]
  exact key t0 0 FU (by omega) (by rw [FU_eq]; omega)
variable {r : Nat} {q par lt lev w : Nat → Nat} {T : MS} {e : Nat}
theorem X_planLen {α : Type} (hF : BF (3 ^ σ 0 0) (σ 0 0) (σ 0 1) (CanP σ) pmN r q par lt lev w r 0) (h : Gd σ) (hk : LkX T r q par lt lev w) (he : e < r) (h39 : T.1 3 9 = iI (q e)) (K : Int32 → MS → Option α) : f2_planLength T K = K (iI (lev e)) T := by
  have h33 := p3_bd h.1
  have hq := hF.2.1 e he
  unfold f2_planLength
  rw [h39, show (-9 : Int32) = iI (-9) from rfl, ite_eq ⟨⟨by omega, by omega⟩, by decide⟩, if_neg (by omega), ck_nat (by omega) (by omega), (hk.2.1 e he).2.1]
theorem X_back {α : Type} (hF : BF (3 ^ σ 0 0) (σ 0 0) (σ 0 1) (CanP σ) pmN r q par lt lev w r 0) (h : Gd σ) (hk : LkX T r q par lt lev w) (he : e < r) {k : Nat} (hkl : k < lev e) (KX : Int32 → Int32 → MS → Option α) : ∀ (m j fuel : Nat), j + m = lev e - 1 - k → m < fuel → f2_planTank_L32 (iI k) KX fuel (iI (q (up par e j))) (iI (lev e - 1 - j : Nat)) T = KX (iI (q (up par e (lev e - 1 - k)))) (iI k) T := by
  have h33 := p3_bd h.1
  have hle := hF.lev_j e he
  have hrN := hF.rN
  intro m
  induction m with
  | zero =>
    intro j fuel hj hf
    obtain ⟨f, rfl⟩ : ∃ f, fuel = f + 1 := ⟨fuel - 1, by omega⟩
    obtain rfl : j = lev e - 1 - k := by omega
    rw [f2_planTank_L32, ite_le ⟨⟨by omega, by omega⟩, ⟨by omega, by omega⟩⟩, if_pos (by omega), show lev e - 1 - (lev e - 1 - k) = k by omega]
  | succ m ih =>
    intro j fuel hj hf
    obtain ⟨f, rfl⟩ : ∃ f, fuel = f + 1 := ⟨fuel - 1, by omega⟩
    obtain ⟨u1, u2⟩ := up_ok hF he j (by omega)
    have up0 := up_pos hF he (m := j) (by omega)
    have hq := hF.2.1 _ u1
    rw [f2_planTank_L32, ite_le ⟨⟨by omega, by omega⟩, ⟨by omega, by omega⟩⟩, if_neg (by omega), ck_nat (by omega) (by omega), nm_eq, nm_eq, (hk.2.2.1 _ up0 u1).1, show (-1 : Int32) = iI (-1) from rfl, iI_add, show (((lev e - 1 - j : Nat) : Int) + -1) = ((lev e - 1 - (j + 1) : Nat) : Int) by omega]
    exact ih (j + 1) f (by omega) (by omega)
theorem M_greedy {α : Type} (h : Gd σ) (hF : BF (3 ^ σ 0 0) (σ 0 0) (σ 0 1) (CanP σ) pmN r q par lt lev w r 0) (hm : MI (3 ^ σ 0 0) (σ 0 0) (CanP σ) pmN (Gl σ) lf V) (hU : ShM σ U) (hL : LkM σ U lf V (3 ^ σ 0 0)) (he : e < r) (hG : Gl σ (q e)) (hf : ∀ j, j < e → ¬ Gl σ (q j)) {m : Nat} (hm1 : m < lev e) (K : Int32 → MS → Option α) : f6_firstOf (iI (q (up par e (m + 1)))) U K = K (iI (lt (up par e m))) U := by
  obtain ⟨t1, t2, t3, t4⟩ := tq5 hF hm he hG hf hm1
  obtain ⟨u1, u2⟩ := up_ok hF he (m + 1) hm1
  have l1 := tq4 hF hm he hG hf (k := m + 1) hm1
  have l2 := tq4 hF hm he hG hf (k := m) (by omega)
  refine M_firstOf h hU hm hL (hF.2.1 _ u1) t1 t2 ?_ (fun t ht g => t4 t ht ⟨g.1, ?_⟩) K
  · rw [t3, l1, l2]; omega
  · rw [g.2, l1]; omega
theorem M_ahead {α : Type} (h : Gd σ) (hF : BF (3 ^ σ 0 0) (σ 0 0) (σ 0 1) (CanP σ) pmN r q par lt lev w r 0) (hm : MI (3 ^ σ 0 0) (σ 0 0) (CanP σ) pmN (Gl σ) lf V) (hU : ShM σ U) (hL : LkM σ U lf V (3 ^ σ 0 0)) (he : e < r) (hG : Gl σ (q e)) (hf : ∀ j, j < e → ¬ Gl σ (q j)) {k : Nat} (hkl : k < lev e) (KX : Int32 → Int32 → MS → Option α) : ∀ (m j fuel : Nat), j + m = k → m < fuel → f6_plan_L74 (iI k) KX fuel (iI (q (up par e (lev e - j)))) (iI j) U = KX (iI (q (up par e (lev e - k)))) (iI k) U := by
  have h33 := p3_bd h.1
  have hn6 := h.1
  have hle := hF.lev_j e he
  have hrN := hF.rN
  intro m
  induction m with
  | zero =>
    intro j fuel hj hf
    obtain ⟨f, rfl⟩ : ∃ f, fuel = f + 1 := ⟨fuel - 1, by omega⟩
    obtain rfl : j = k := by omega
    rw [f6_plan_L74, ite_le ⟨⟨by omega, by omega⟩, ⟨by omega, by omega⟩⟩, if_pos (by omega)]
  | succ m ih =>
    intro j fuel hj hf2
    obtain ⟨f, rfl⟩ : ∃ f, fuel = f + 1 := ⟨fuel - 1, by omega⟩
    have ej : lev e - j = (lev e - j - 1) + 1 := by omega
    obtain ⟨t1, t2, t3, t4⟩ := tq5 hF hm he hG hf (k := lev e - j - 1) (by omega)
    obtain ⟨u1, u2⟩ := up_ok hF he (lev e - j) (by omega)
    have hq := hF.2.1 _ u1
    have fo := M_greedy (α := α) h hF hm hU hL he hG hf (m := lev e - j - 1) (by omega)
    rw [← ej] at fo t3
    rw [f6_plan_L74, ite_le ⟨⟨by omega, by omega⟩, ⟨by omega, by omega⟩⟩, if_neg (by omega), fo, f6_pumped_eq (by omega) (by omega) hU, t3, nm_eq, show (1 : Int32) = iI 1 from rfl, iI_add, show lev e - j - 1 = lev e - (j + 1) by omega]
    exact ih (j + 1) f (by omega) (by omega)
end Plan
theorem sim_plan (a : Int32) : SimI (RelP PXs PMs) (f5_plan a) (f6_plan a) := by
  intro SX SM ⟨σ, h⟩
  obtain ⟨z, rfl, hz⟩ := iI_of a
  have hn := h.1.1
  have h33 := p3_bd hn
  have hX := h.2.1
  have hM := h.2.2.1
  have m1 := hM.1
  by_cases c1 : -1 ≤ z ∧ z ≤ 19
  · by_cases c2 : σ 0 0 = 0
    · refine ⟨iI (-3), SX, SM, ?_, ?_, σ, h⟩
      · unfold f5_plan
        rw [show (-1 : Int32) = iI (-1) from rfl, ite_lt ⟨hz, by decide⟩, if_neg (by omega), show (19 : Int32) = iI 19 from rfl, ite_le ⟨hz, by decide⟩, if_pos (by omega), f5_hasNoShip_eq hn hX.1, if_pos c2, if_neg (by decide)]
        rfl
      · unfold f6_plan
        rw [show (-1 : Int64) = Int64.ofInt (-1) from rfl, show (19 : Int64) = Int64.ofInt 19 from rfl, f6_within64 hz (by decide) (by decide), if_pos c1, if_neg (by decide), m1, c2]
        rfl
    · obtain ⟨T, x1, x2, x3, x4⟩ := X_refresh h (fun S3 => if iI z = (-1) then (f2_planLength S3 fun r8 S7 => some (r8, S7)) else (f2_planTank (iI z) S3 fun r6 S5 => some (r6, S5)))
      obtain ⟨U, y1, y2, y3, y4⟩ := M_findLeft h (fun S3 => if iI z < 0 then (if 0 ≤ iI z then (some (-9, S3)) else (ck (S3.1 0 14) 729 fun k5 => some (S3.1 18 k5, S3))) else (ck (S3.1 0 14) 729 fun k6 => if iI z < (S3.1 18 k6) then (nm (S3.1 0 14) fun x2_7 => f6_plan_L74 (iI z) (fun v2_14 v3_15 S13 => f6_firstOf v2_14 S13 fun r17 S16 => some (r17, S16)) FU x2_7 0 S3) else (if 0 ≤ iI z then (some (-9, S3)) else (ck (S3.1 0 14) 729 fun k18 => some (S3.1 18 k18, S3)))))
      have hr := rel_search h x2 x3 x4 y2 y3 y4
      have fX : f5_plan (iI z) SX (fun r u => some (r, u)) = (if iI z = (-1) then (f2_planLength T fun r8 S7 => some (r8, S7)) else (f2_planTank (iI z) T fun r6 S5 => some (r6, S5))) := by
        unfold f5_plan
        rw [show (-1 : Int32) = iI (-1) from rfl, ite_lt ⟨hz, by decide⟩, if_neg (by omega), show (19 : Int32) = iI 19 from rfl, ite_le ⟨hz, by decide⟩, if_pos (by omega), f5_hasNoShip_eq hn hX.1, if_neg c2, if_pos rfl]
        exact x1
      have fM : f6_plan (iI z) SM (fun r u => some (r, u)) = (if iI z < 0 then (if 0 ≤ iI z then (some (-9, U)) else (ck (U.1 0 14) 729 fun k5 => some (U.1 18 k5, U))) else (ck (U.1 0 14) 729 fun k6 => if iI z < (U.1 18 k6) then (nm (U.1 0 14) fun x2_7 => f6_plan_L74 (iI z) (fun v2_14 v3_15 S13 => f6_firstOf v2_14 S13 fun r17 S16 => some (r17, S16)) FU x2_7 0 U) else (if 0 ≤ iI z then (some (-9, U)) else (ck (U.1 0 14) 729 fun k18 => some (U.1 18 k18, U))))) := by
        unfold f6_plan
        rw [show (-1 : Int64) = Int64.ofInt (-1) from rfl, show (19 : Int64) = Int64.ofInt 19 from rfl, f6_within64 hz (by decide) (by decide), if_pos c1, if_neg (by decide), m1, show (0 : Int32) = iI 0 from rfl, ite_eq ⟨⟨by omega, by omega⟩, by decide⟩, if_neg (by omega)]
        exact y1
      have hU := hr.2.2.1
      have u14 := hU.2.1
      have hs7 := w729 h.1
      obtain ⟨r, q, par, lt, lev, w, hF, hl, hend⟩ := x2
      obtain ⟨lf, V, hm, hLk⟩ := y2
      have ls := (hLk _ h.1.2.1).2.1
      have hrN := hF.rN
      have bz : rg (-1 : Int) := by decide
      rcases hend with ⟨e, e1, e2, e3, e4⟩ | ⟨e1, e2⟩
      · have l0 := tq4s hF hm e1 e2 e3
        have hlv := hF.lev_j e e1
        rw [l0] at ls
        by_cases d : z = -1
        · subst d
          refine ⟨iI (lev e), T, U, fX.trans ?_, fM.trans ?_, σ, hr⟩
          · rw [if_pos (by decide), X_planLen hF h.1 hl e1 e4]
          · rw [if_pos (by decide), if_neg (by decide), u14, ck_nat hs7 (by omega), ls]
        · obtain ⟨k, rfl⟩ : ∃ k : Nat, z = k := ⟨z.toNat, by omega⟩
          have nz : ¬ iI (k : Int) = (-1 : Int32) := fun g => by
            rw [show (-1 : Int32) = iI (-1) from rfl, iI_eq hz (by decide)] at g
            omega
          have nz2 : ¬ iI (k : Int) < (0 : Int32) := fun g => by
            rw [show (0 : Int32) = iI 0 from rfl, iI_lt hz (by decide)] at g
            omega
          have nz3 : (0 : Int32) ≤ iI (k : Int) := by
            rw [show (0 : Int32) = iI 0 from rfl, iI_le (by decide) hz]
            omega
          rw [if_neg nz2] at fM
          rw [if_neg nz] at fX
          unfold f2_planTank at fX
          rw [if_neg nz2, X_planLen hF h.1 hl e1 e4, ite_lt ⟨hz, ⟨by omega, by omega⟩⟩] at fX
          rw [u14, ck_nat hs7 (by omega), ls, ite_lt ⟨hz, ⟨by omega, by omega⟩⟩] at fM
          by_cases dk : k < lev e
          · have hqe := hF.2.1 e e1
            obtain ⟨v1, v2⟩ := up_ok hF e1 (lev e - 1 - k) (by omega)
            have v0 := up_pos hF e1 (m := lev e - 1 - k) (by omega)
            refine ⟨iI (lt (up par e (lev e - 1 - k))), T, U, fX.trans ?_, fM.trans ?_, σ, hr⟩
            · rw [if_pos (by omega), nm_eq, e4, ck_nat (by omega) (by omega), nm_eq, (hl.2.1 e e1).2.1, show (1 : Int32) = iI 1 from rfl, iI_sub]
              have := X_back hF h.1 hl e1 dk (fun v2_10 _ S9 => ck v2_10 729 fun k12 => some (S9.1 12 k12, S9)) (lev e - 1 - k) 0 FU (by omega) (by rw [FU_eq]; omega)
              rw [show ((lev e - 1 - 0 : Nat) : Int) = (lev e : Int) - 1 by omega] at this
              refine Eq.trans this ?_
              have hq2 := hF.2.1 _ v1
              rw [ck_nat (by omega) (by omega), (hl.2.2.1 _ v0 v1).2]
            · rw [if_pos (by omega), nm_eq, show iI (σ 0 1 : Nat) = iI (q (up par e (lev e - 0)) : Nat) by rw [Nat.sub_zero, up_top hF e1, hF.1.2.1], show (0 : Int32) = iI ((0 : Nat) : Int) from rfl, M_ahead h.1 hF hm hU hLk e1 e2 e3 dk _ k 0 FU (by omega) (by rw [FU_eq]; omega)]
              rw [show lev e - k = lev e - 1 - k + 1 by omega, M_greedy h.1 hF hm hU hLk e1 e2 e3 (by omega)]
          · refine ⟨iI (-9), T, U, fX.trans ?_, fM.trans ?_, σ, hr⟩
            · rw [if_neg (by omega)]; rfl
            · rw [if_neg (by omega), if_pos nz3]; rfl
      · have l0 := tq4n hF hm e1
        rw [l0] at ls
        by_cases d : z = -1
        · subst d
          refine ⟨iI (-9), T, U, fX.trans ?_, fM.trans ?_, σ, hr⟩
          · rw [if_pos (by decide)]
            unfold f2_planLength
            rw [e2, if_pos (by decide)]
            rfl
          · rw [if_pos (by decide), if_neg (by decide), u14, ck_nat hs7 (by omega), ls]
        · have nz : ¬ iI z = (-1 : Int32) := fun g => by
            rw [show (-1 : Int32) = iI (-1) from rfl, iI_eq hz (by decide)] at g
            omega
          have nz2 : ¬ iI z < (0 : Int32) := fun g => by
            rw [show (0 : Int32) = iI 0 from rfl, iI_lt hz (by decide)] at g
            omega
          have nz3 : (0 : Int32) ≤ iI z := by
            rw [show (0 : Int32) = iI 0 from rfl, iI_le (by decide) hz]
            omega
          refine ⟨iI (-9), T, U, fX.trans ?_, fM.trans ?_, σ, hr⟩
          · rw [if_neg nz]
            unfold f2_planTank f2_planLength
            rw [if_neg nz2, e2, if_pos (by decide), show (-9 : Int32) = iI (-9) from rfl]
            dsimp only
            rw [ite_lt ⟨hz, by decide⟩, if_neg (by omega)]
          · rw [if_neg nz2, u14, ck_nat hs7 (by omega), ls, ite_lt ⟨hz, by decide⟩, if_neg (by omega), if_pos nz3]
            rfl
  · refine ⟨iI (-2), SX, SM, ?_, ?_, σ, h⟩
    · unfold f5_plan
      rw [show (-1 : Int32) = iI (-1) from rfl, ite_lt ⟨hz, by decide⟩, show (19 : Int32) = iI 19 from rfl, ite_le ⟨hz, by decide⟩]
      by_cases d : z < -1
      · rw [if_pos d]; rfl
      · rw [if_neg d, if_neg (by omega)]; rfl
    · unfold f6_plan
      rw [show (-1 : Int64) = Int64.ofInt (-1) from rfl, show (19 : Int64) = Int64.ofInt 19 from rfl, f6_within64 hz (by decide) (by decide), if_neg c1]
      rfl
