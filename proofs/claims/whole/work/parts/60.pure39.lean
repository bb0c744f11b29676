/-! PURE PART 39: how many plans; the worst of a plan -/
theorem sN_cut {r N : Nat} (P : Nat → Prop) (f : Nat → Nat) (h : r ≤ N) : sN N (fun j => iN (j < r ∧ P j) (f j)) = sN r (fun j => iN (P j) (f j)) := by
  induction N with
  | zero =>
    obtain rfl : r = 0 := by omega
    rfl
  | succ N ih =>
    by_cases e : r = N + 1
    · subst e
      exact sN_congr (fun i hi => iN_congr ⟨fun g => g.2, fun g => ⟨hi, g⟩⟩ (fun _ => rfl))
    · rw [sN, ih (by omega), iN_f (fun g => by omega), Nat.add_zero]
section Plans
variable {σ : Sg} {lf : Nat → Int} {V : Nat → Nat} {U : MS} {r : Nat} {q par lt lev w : Nat → Nat} {T : MS} {e : Nat}
theorem X_sum {α : Type} (h : Gd σ) (hT : ShX σ T) (hF : BF (3 ^ σ 0 0) (σ 0 0) (σ 0 1) (CanP σ) pmN r q par lt lev w r 0) (hk : LkX T r q par lt lev w) {Lz : Int} (hLz : rg Lz) (hlen : ∀ (K : Int32 → MS → Option α), f2_planLength T K = K (iI Lz) T) (K : Int64 → MS → Option α) : f2_shortestPlans T K = K (Int64.ofInt ((sN r (fun j => iN ((lev j : Int) = Lz ∧ Gl σ (q j)) (w j)) : Nat) : Int)) T := by
  have h33 := p3_bd h.1
  have hrN := hF.rN
  unfold f2_shortestPlans
  have h1 := loop_eq (σ := Int64 × Int32) (L := fun fuel s => f2_shortestPlans_L5 (fun v2 _ S13 => K v2 S13) fuel s.1 s.2 T) (KX := fun s => K s.1 T) r (fun j => (Int64.ofInt ((sN j (fun j => iN ((lev j : Int) = Lz ∧ Gl σ (q j)) (w j)) : Nat) : Int), iI j))
    (by
      intro fuel j hj
      show f2_shortestPlans_L5 _ (fuel + 1) (Int64.ofInt ((sN j _ : Nat) : Int)) (iI j) T = f2_shortestPlans_L5 _ fuel (Int64.ofInt ((sN (j + 1) _ : Nat) : Int)) (iI (j + 1 : Nat)) T
      have kj := hk.2.1 j hj
      have hq := hF.2.1 j hj
      have hlj := hF.lev_j j hj
      have st : sN (j + 1) (fun j => iN ((lev j : Int) = Lz ∧ Gl σ (q j)) (w j)) = sN j (fun j => iN ((lev j : Int) = Lz ∧ Gl σ (q j)) (w j)) + iN ((lev j : Int) = Lz ∧ Gl σ (q j)) (w j) := rfl
      have nx : iI (j : Int) + 1 = iI (j + 1 : Nat) := by rw [show (1 : Int32) = iI 1 from rfl, iI_add]; rfl
      rw [f2_shortestPlans_L5, hk.1, ite_le ⟨⟨by omega, by omega⟩, ⟨by omega, by omega⟩⟩, if_neg (by omega), ck_nat (by omega) (by omega), nm_eq, kj.1, ck_nat (by omega) (by omega), hlen, kj.2.1, ite_eq ⟨⟨by omega, by omega⟩, hLz⟩, f3_isChanged_eq h hT (by omega), ite_bI, ck_nat (by omega) (by omega), kj.2.2]
      simp only [nm_eq, nx]
      by_cases c1 : (lev j : Int) = Lz
      · rw [if_pos c1]
        by_cases c2 : Gl σ (q j)
        · rw [if_pos c2, j_add, st, iN_t ⟨c1, c2⟩]
        · rw [if_neg c2, st, iN_f (fun g => c2 g.2)]; rfl
      · rw [if_neg c1, st, iN_f (fun g => c1 g.1)]; rfl)
    (by
      intro fuel
      show f2_shortestPlans_L5 _ (fuel + 1) _ (iI r) T = _
      rw [f2_shortestPlans_L5, hk.1, ite_le ⟨⟨by omega, by omega⟩, ⟨by omega, by omega⟩⟩, if_pos (by omega)])
    FU 0 (by omega) (by rw [FU_eq]; omega)
  exact h1
/-- the greatest of the first -/
def mx (f : Nat → Int) : Nat → Int
  | 0 => f 0
  | i + 1 => if mx f i < f (i + 1) then f (i + 1) else mx f i
theorem mx_char (f : Nat → Int) : ∀ L, (∀ i, i ≤ L → f i ≤ mx f L) ∧ ∃ i, i ≤ L ∧ mx f L = f i := by
  intro L
  induction L with
  | zero => exact ⟨fun i hi => by obtain rfl : i = 0 := by omega
                                  exact Int.le_refl _, 0, by omega, rfl⟩
  | succ L ih =>
    obtain ⟨a, i, b, c⟩ := ih
    unfold mx
    by_cases d : mx f L < f (L + 1)
    · rw [if_pos d]
      refine ⟨fun j hj => ?_, L + 1, by omega, rfl⟩
      by_cases e : j = L + 1
      · subst e; exact Int.le_refl _
      · have := a j (by omega); omega
    · rw [if_neg d]
      refine ⟨fun j hj => ?_, i, by omega, c⟩
      by_cases e : j = L + 1
      · subst e; omega
      · exact a j (by omega)
theorem mx_rev (f : Nat → Int) (L : Nat) : mx (fun i => f (L - i)) L = mx f L := by
  obtain ⟨a, i, b, c⟩ := mx_char f L
  obtain ⟨a', i', b', c'⟩ := mx_char (fun i => f (L - i)) L
  have h1 := a (L - i') (by omega)
  have h2 : f (L - (L - i)) ≤ mx (fun i => f (L - i)) L := a' (L - i) (by omega)
  have c2 : mx (fun i => f (L - i)) L = f (L - i') := c'
  rw [show L - (L - i) = i by omega] at h2
  omega
theorem mx_bd {f : Nat → Int} {a b : Int} (h : ∀ i, a ≤ f i ∧ f i ≤ b) : ∀ L, a ≤ mx f L ∧ mx f L ≤ b := by
  intro L
  obtain ⟨-, i, -, c⟩ := mx_char f L
  rw [c]
  exact h i
theorem ab_bd {σ : Sg} (h : Gd σ) (x what : Nat) : 0 ≤ abI (msI σ x what) ∧ abI (msI σ x what) ≤ 100000 := abI_bd (by have := msI_bd h x what; omega)
theorem f0_bounded_eq {α : Type} (h : Gd σ) {S : MS} {x : Nat} (hL : LdIs σ (σ 0 0) (g1 σ x) S) {what : Nat} (hw : what ≤ 2) (K : Int32 → MS → Option α) : f0_bounded (iI what) S K = K (iI (abI (msI σ x what))) S := by
  have mb := msI_bd h x what
  unfold f0_bounded
  rcases (show what = 0 ∨ what = 1 ∨ what = 2 by omega) with rfl | rfl | rfl
  · rw [if_pos (by decide), hL.2.1, mabs_eq (by have : msI σ x 0 = trG σ (σ 0 0) (g1 σ x) := rfl; omega)]
    rfl
  · rw [if_neg (by decide), if_pos (by decide), hL.2.2.1, mabs_eq (by have : msI σ x 1 = heG σ (σ 0 0) (g1 σ x) := rfl; omega)]
    rfl
  · have b := bdG_bd (σ := σ) (g1_wo h x) (k := 7) (by omega)
    rw [if_neg (by decide), if_neg (by decide), f0_bending_eq (g1_wo h x) hL]
    have : abI (msI σ x 2) = bdG σ (σ 0 0) (g1 σ x) 7 := by
      show abI (bdG σ (σ 0 0) (g1 σ x) 7) = _
      unfold abI
      rw [if_pos b.1]
    rw [this]
theorem X_worst {α : Type} (h : Gd σ) (hT : ShX σ T) (hF : BF (3 ^ σ 0 0) (σ 0 0) (σ 0 1) (CanP σ) pmN r q par lt lev w r 0) (hk : LkX T r q par lt lev w) (he : e < r) (h39 : T.1 3 9 = iI (q e)) {what : Nat} (hw : what ≤ 2) (K : Int32 → MS → Option α) : ∃ T', SmX σ T T' ∧ f2_worstOfPlan (iI what) T K = K (iI (mx (fun i => abI (msI σ (q (up par e i)) what)) (lev e))) T' := by
  have h33 := p3_bd h.1
  have hrN := hF.rN
  have hle := hF.lev_j e he
  have hqe := hF.2.1 e he
  have mb := mx_bd (f := fun i => abI (msI σ (q (up par e i)) what)) (fun i => ab_bd h _ what)
  obtain ⟨s', g1', g2⟩ := loop_rel (σ := Int32 × Int32 × Int32 × MS) (L := fun fuel s => f2_worstOfPlan_L43 (iI what) (fun _ v4 _ S20 => K v4 S20) fuel s.1 s.2.1 s.2.2.1 s.2.2.2) (KX := fun s => K s.2.1 s.2.2.2) (lev e) (fun i s => s.1 = iI (q (up par e i)) ∧ s.2.1 = iI (mx (fun i => abI (msI σ (q (up par e i)) what)) i) ∧ s.2.2.1 = iI (lev e - i : Nat) ∧ SmX σ T s.2.2.2)
    (by
      intro fuel i s hi ⟨e1, e2, e3, e4⟩
      obtain ⟨v3, v4, v5, S⟩ := s
      dsimp only at e1 e2 e3 e4 ⊢
      subst e1 e2 e3
      obtain ⟨u1, u2⟩ := up_ok hF he i (by omega)
      obtain ⟨v1, v2⟩ := up_ok hF he (i + 1) (by omega)
      have u0 := up_pos hF he (m := i) hi
      have hq1 := hF.2.1 _ u1
      have hq2 := hF.2.1 _ v1
      have hS := e4.sh hT
      have e11 : S.1 11 (q (up par e i)) = iI (q (up par e (i + 1))) := by rw [e4.cell (by omega) (by omega)]; exact (hk.2.2.1 _ u0 u1).1
      have hLd := LdS_is σ (σ 0 0) (g1 σ (q (up par e (i + 1)))) S
      have b1 := mb i
      have b2 := ab_bd h (q (up par e (i + 1))) what
      refine ⟨(iI (q (up par e (i + 1))), iI (mx (fun i => abI (msI σ (q (up par e i)) what)) (i + 1)), iI (lev e - (i + 1) : Nat), LdS σ (σ 0 0) (g1 σ (q (up par e (i + 1)))) S), ⟨rfl, rfl, rfl, e4.tr (SmX.ld σ _ S)⟩, ?_⟩
      dsimp only
      rw [f2_worstOfPlan_L43, show (0 : Int32) = iI 0 from rfl, ite_le ⟨⟨by omega, by omega⟩, by decide⟩, if_neg (by omega), ck_nat (by omega) (by omega), nm_eq, e11, f3_fullSet_eq h hS (by omega), ldNow h hS (by omega), f0_bounded_eq h hLd hw, nm_eq, nm_eq, mmax_eq (by omega) (by omega), show (-1 : Int32) = iI (-1) from rfl, iI_add, show (((lev e - i : Nat) : Int) + -1) = ((lev e - (i + 1) : Nat) : Int) by omega]
      rfl)
    (by
      intro fuel s ⟨e1, e2, e3, e4⟩
      obtain ⟨v3, v4, v5, S⟩ := s
      dsimp only at e1 e2 e3 e4 ⊢
      subst e1 e2 e3
      rw [f2_worstOfPlan_L43, show (0 : Int32) = iI 0 from rfl, ite_le ⟨⟨by omega, by omega⟩, by decide⟩, if_pos (by omega)])
    FU 0 (iI (q e), iI (abI (msI σ (q e) what)), iI (lev e), LdS σ (σ 0 0) (g1 σ (q e)) T) (by omega) (by rw [FU_eq]; omega) ⟨rfl, rfl, rfl, SmX.ld σ _ T⟩
  obtain ⟨v3, v4, v5, S⟩ := s'
  obtain ⟨e1, e2, e3, e4⟩ := g1'
  dsimp only at e1 e2 e3 e4 g2
  subst e2
  refine ⟨S, e4, ?_⟩
  have hLd := LdS_is σ (σ 0 0) (g1 σ (q e)) T
  have e39 : (LdS σ (σ 0 0) (g1 σ (q e)) T).1 3 9 = iI (q e) := by rw [LdS_cell _ _ _ _ (by omega) (by omega)]; exact h39
  have e10 : (LdS σ (σ 0 0) (g1 σ (q e)) T).1 10 (q e) = iI (lev e) := by rw [LdS_cell _ _ _ _ (by omega) (by omega)]; exact (hk.2.1 e he).2.1
  unfold f2_worstOfPlan
  rw [h39, show (-9 : Int32) = iI (-9) from rfl, ite_eq ⟨⟨by omega, by omega⟩, by decide⟩, if_neg (by omega), nm_eq, f3_fullSet_eq h hT (by omega), ldNow h hT (by omega), f0_bounded_eq h hLd hw, e39, ck_nat (by omega) (by omega), nm_eq, e10]
  exact g2
theorem LkM_sm {σ : Sg} {U U' : MS} {lf : Nat → Int} {V : Nat → Nat} {m : Nat} (h : LkM σ U lf V m) (hs : SmM σ U U') : LkM σ U' lf V m := fun x hx => by
  obtain ⟨a, b, c⟩ := h x hx
  exact ⟨CnM_of a (by rw [hs.cell (by omega) (by omega) (by omega)]), by rw [hs.cell (by omega) (by omega) (by omega)]; exact b, by rw [hs.two]; exact c⟩
theorem M_worst {α : Type} (h : Gd σ) (hF : BF (3 ^ σ 0 0) (σ 0 0) (σ 0 1) (CanP σ) pmN r q par lt lev w r 0) (hm : MI (3 ^ σ 0 0) (σ 0 0) (CanP σ) pmN (Gl σ) lf V) (hU : ShM σ U) (hL : LkM σ U lf V (3 ^ σ 0 0)) (he : e < r) (hG : Gl σ (q e)) (hf : ∀ j, j < e → ¬ Gl σ (q j)) {what : Nat} (hw : what ≤ 2) (K : Int32 → MS → Option α) : ∃ U', SmM σ U U' ∧ f6_worst_L61 (iI what) (fun _ v3 S20 => K v3 S20) FU (iI (q (up par e (lev e)))) (iI (abI (msI σ (q (up par e (lev e))) what))) U = K (iI (mx (fun i => abI (msI σ (q (up par e (lev e - i))) what)) (lev e))) U' := by
  have h33 := p3_bd h.1
  have hn6 := h.1
  have hrN := hF.rN
  have hle := hF.lev_j e he
  have mb := mx_bd (f := fun i => abI (msI σ (q (up par e (lev e - i))) what)) (fun i => ab_bd h _ what)
  obtain ⟨s', g1', g2⟩ := loop_rel (σ := Int32 × Int32 × MS) (L := fun fuel s => f6_worst_L61 (iI what) (fun _ v3 S20 => K v3 S20) fuel s.1 s.2.1 s.2.2) (KX := fun s => K s.2.1 s.2.2) (lev e) (fun i s => s.1 = iI (q (up par e (lev e - i))) ∧ s.2.1 = iI (mx (fun i => abI (msI σ (q (up par e (lev e - i))) what)) i) ∧ SmM σ U s.2.2)
    (by
      intro fuel i s hi ⟨e1, e2, e4⟩
      obtain ⟨v2, v3, S⟩ := s
      dsimp only at e1 e2 e4 ⊢
      subst e1 e2
      obtain ⟨u1, u2⟩ := up_ok hF he (lev e - i) (by omega)
      obtain ⟨v1, v2⟩ := up_ok hF he (lev e - i - 1) (by omega)
      have hq1 := hF.2.1 _ u1
      have hq2 := hF.2.1 _ v1
      have hS := e4.sh hU
      have hLS := LkM_sm hL e4
      have l1 := tq4 hF hm he hG hf (k := lev e - i) (by omega)
      have e18 : S.1 18 (q (up par e (lev e - i))) = iI ((lev e - i : Nat) : Int) := by rw [(hLS _ hq1).2.1, l1]
      have ej : lev e - i = (lev e - i - 1) + 1 := by omega
      obtain ⟨t1, t2, t3, t4⟩ := tq5 hF hm he hG hf (k := lev e - i - 1) (by omega)
      have fo := M_greedy (α := α) h hF hm hS hLS he hG hf (m := lev e - i - 1) (by omega)
      rw [← ej] at fo t3
      have b1 := mb i
      have b2 := ab_bd h (q (up par e (lev e - i - 1))) what
      have b3 := msI_bd h (q (up par e (lev e - i - 1))) what
      refine ⟨(iI (q (up par e (lev e - (i + 1)))), iI (mx (fun i => abI (msI σ (q (up par e (lev e - i))) what)) (i + 1)), WmS σ (σ 0 0) (gW σ (q (up par e (lev e - i - 1))) (-9)) 7 S), ⟨rfl, rfl, e4.tr (SmM.wm σ _ S)⟩, ?_⟩
      dsimp only
      rw [f6_worst_L61, ck_nat (by omega) (by omega), e18, show (0 : Int32) = iI 0 from rfl, ite_le ⟨⟨by omega, by omega⟩, by decide⟩, if_neg (by omega), fo, f6_pumped_eq (by omega) (by omega) hS, t3, f6_measured_eq h hS (by omega) hw, f6_plain_eq (by omega), ite_le ⟨⟨by omega, by omega⟩, ⟨by omega, by omega⟩⟩]
      have em : mx (fun i => abI (msI σ (q (up par e (lev e - i))) what)) (i + 1) = if mx (fun i => abI (msI σ (q (up par e (lev e - i))) what)) i < abI (msI σ (q (up par e (lev e - i - 1))) what) then abI (msI σ (q (up par e (lev e - i - 1))) what) else mx (fun i => abI (msI σ (q (up par e (lev e - i))) what)) i := by
        rw [mx, show lev e - (i + 1) = lev e - i - 1 by omega]
      rw [em, show lev e - (i + 1) = lev e - i - 1 by omega]
      by_cases c : abI (msI σ (q (up par e (lev e - i - 1))) what) ≤ mx (fun i => abI (msI σ (q (up par e (lev e - i))) what)) i
      · rw [if_pos c, if_neg (by omega)]
      · rw [if_neg c, if_pos (by omega)])
    (by
      intro fuel s ⟨e1, e2, e4⟩
      obtain ⟨v2, v3, S⟩ := s
      dsimp only at e1 e2 e4 ⊢
      subst e1 e2
      obtain ⟨u1, u2⟩ := up_ok hF he (lev e - lev e) (by omega)
      have hq1 := hF.2.1 _ u1
      have l1 := tq4 hF hm he hG hf (k := lev e - lev e) (by omega)
      have e18 : S.1 18 (q (up par e (lev e - lev e))) = iI ((lev e - lev e : Nat) : Int) := by rw [(LkM_sm hL e4 _ hq1).2.1, l1]
      rw [f6_worst_L61, ck_nat (by omega) (by omega), e18, show (0 : Int32) = iI 0 from rfl, ite_le ⟨⟨by omega, by omega⟩, by decide⟩, if_pos (by omega)])
    FU 0 (iI (q (up par e (lev e))), iI (abI (msI σ (q (up par e (lev e))) what)), U) (by omega) (by rw [FU_eq]; omega) ⟨rfl, rfl, SmM.rf σ U⟩
  obtain ⟨v2, v3, S⟩ := s'
  obtain ⟨e1, e2, e4⟩ := g1'
  dsimp only at e1 e2 e4 g2
  subst e2
  exact ⟨S, e4, g2⟩
end Plans
