/-! PURE PART 34: the class's search, whole -/
theorem X_round {α : Type} {σ : Sg} (h : Gd σ) {S : MS} (hS : ShX σ S) {i x a : Nat} (ha : a < 64) (hab : ∀ t, t < σ 0 0 → (bt a t = true ↔ CanP σ x t)) {T0 : MS} (hB : EXj σ S i 0 x T0) (c2 : Int32) (KX : Int32 → MS → Option α) : ∃ T, EXj σ S i (σ 0 0) x T ∧ f2_explore_L83 c2 (iI x) (iI a) KX FU (iI 0) T0 = KX (iI (σ 0 0)) T := by
  have hn6 := h.1
  obtain ⟨s', h1, h2⟩ := loop_rel (σ := Int32 × MS) (L := fun fuel s => f2_explore_L83 c2 (iI x) (iI a) KX fuel s.1 s.2) (KX := fun s => KX s.1 s.2) (σ 0 0) (fun t s => s.1 = iI t ∧ EXj σ S i t x s.2)
    (by
      intro fuel t s hit ⟨e1, hB⟩
      obtain ⟨v, T⟩ := s
      dsimp only at e1 hB ⊢
      subst e1
      have hT := hB.1.sh hS
      have nx : iI (t : Int) + 1 = iI (t + 1 : Nat) := by rw [show (1 : Int32) = iI 1 from rfl, iI_add]; rfl
      rw [f2_explore_L83, hT.1, ite_le ⟨⟨by omega, by omega⟩, ⟨by omega, by omega⟩⟩, if_neg (by omega), f5_holds_eq ha (by omega)]
      by_cases c : bt a t = true
      · obtain ⟨T', b1, b2⟩ := X_step h hit hB ((hab t hit).mp c) (fun S19 => nm (iI t + 1) fun x5_21 => f2_explore_L83 c2 (iI x) (iI a) KX fuel x5_21 S19)
        rw [if_pos c, if_neg (by decide), b2, nm_eq, nx]
        exact ⟨(iI (t + 1 : Nat), T'), ⟨rfl, b1⟩, rfl⟩
      · rw [if_neg c, if_pos rfl, nm_eq, nx]
        refine ⟨(iI (t + 1 : Nat), T), ⟨rfl, ?_⟩, rfl⟩
        obtain ⟨b1, b2, r, q, par, lt, lev, w, hF, hl, hir, hq⟩ := hB
        exact ⟨b1, b2, r, q, par, lt, lev, w, hF.skip (by rw [hq]; exact fun g => c ((hab t hit).mpr g)), hl, hir, hq⟩)
    (by
      intro fuel s ⟨e1, hB⟩
      obtain ⟨v, T⟩ := s
      dsimp only at e1 hB ⊢
      subst e1
      rw [f2_explore_L83, (hB.1.sh hS).1, ite_le ⟨⟨by omega, by omega⟩, ⟨by omega, by omega⟩⟩, if_pos (by omega)])
    FU 0 (iI 0, T0) (by omega) (by rw [FU_eq]; omega) ⟨rfl, hB⟩
  obtain ⟨v, T⟩ := s'
  obtain ⟨e1, hB2⟩ := h1
  dsimp only at e1 hB2 h2
  subst e1
  exact ⟨T, hB2, h2⟩
/-- the search is done -/
def EXf (σ : Sg) (S T : MS) : Prop := SrX S T ∧ ∃ (r : Nat) (q par lt lev w : Nat → Nat), BF (3 ^ σ 0 0) (σ 0 0) (σ 0 1) (CanP σ) pmN r q par lt lev w r 0 ∧ LkX T r q par lt lev w
theorem X_rounds {α : Type} {σ : Sg} (h : Gd σ) {S : MS} (hS : ShX σ S) (K : MS → Option α) : ∀ (fuel i : Nat) (T : MS), 729 < fuel + i → EXi σ S i 0 T → ∃ T', EXf σ S T' ∧ f2_explore_L46 (fun _ S25 => K S25) fuel (iI i) T = K T' := by
  have hn6 := h.1
  have h3 := p3_bd hn6
  have hp2 := p2_bd hn6
  intro fuel
  induction fuel with
  | zero =>
    intro i T hf ⟨b1, b2, r, q, par, lt, lev, w, hF, hl, hir⟩
    have := hF.rN
    omega
  | succ fuel ih =>
    intro i T hf ⟨b1, b2, r, q, par, lt, lev, w, hF, hl, hir⟩
    have hrN := hF.rN
    rw [f2_explore_L46, hl.1, ite_le ⟨⟨by omega, by omega⟩, ⟨by omega, by omega⟩⟩]
    by_cases c : r ≤ i
    · obtain rfl : i = r := by omega
      rw [if_pos (by omega)]
      exact ⟨T, ⟨b1, i, q, par, lt, lev, w, hF, hl⟩, rfl⟩
    · have hir2 : i < r := by omega
      have hq7 : q i < 3 ^ σ 0 0 := hF.2.1 i hir2
      have hT := b1.sh hS
      have hfu := fuN_lt (q i) (σ 0 0)
      obtain ⟨a, a1, a2, a3⟩ := b2 (fuN (q i) (σ 0 0)) hfu
      rw [if_neg (by omega), show (729 : Int32) = iI 729 from rfl, ite_le ⟨by decide, ⟨by omega, by omega⟩⟩, if_neg (by omega), ck_nat (by omega) (by omega), nm_eq, (hl.2.1 i hir2).1, f3_fullSet_eq h hT (by omega), ck_nat (by omega) (by omega), nm_eq, a2, show (0 : Int32) = iI 0 from rfl]
      obtain ⟨T', g1, g2⟩ := X_round h hS a1 (fun t ht => (a3 t ht).trans (PP_can h (by omega) ht)) (x := q i) (i := i) (T0 := T) ⟨b1, b2, r, q, par, lt, lev, w, hF, hl, hir2, rfl⟩ (iI i) (fun v5_23 S22 => nm (iI i + 1) fun x2_24 => f2_explore_L46 (fun _ S25 => K S25) fuel x2_24 S22)
      rw [g2, nm_eq, show (1 : Int32) = iI 1 from rfl, iI_add]
      obtain ⟨c1, c2, r', q', par', lt', lev', w', hF', hl', hir', hq'⟩ := g1
      exact ih (i + 1) T' (by omega) ⟨c1, c2, r', q', par', lt', lev', w', hF'.next, hl', by omega⟩
theorem X_explore {α : Type} {σ : Sg} (h : Gd σ) {S : MS} (hS : ShX σ S) {T : MS} (hT : SrX S T) (hP : PpX σ T) (K : MS → Option α) : ∃ T', EXf σ S T' ∧ f2_explore T K = K T' := by
  have hn6 := h.1
  have h3 := p3_bd hn6
  have hw := w729 h
  have x2 := (hT.sh hS).2.1
  unfold f2_explore
  rw [fill_eq _ _ (by omega), show (0 : Int32) = iI ((0 : Nat) : Int) from rfl, ck_nat (by omega) (by omega), nm_eq, show (-9 : Int32) = iI (-9) from rfl]
  have e1 : (rfS 10 0 729 (iI (-9)) T).1 2 4 = iI (σ 0 1) := by simp (disch := omega) only [rfS_cell, sI_cell, sI_place, sI_same, sI_2]; exact x2
  rw [e1]
  have e2 : (sI (rfS 10 0 729 (iI (-9)) T) 9 0 (iI (σ 0 1))).1 2 4 = iI (σ 0 1) := by simp (disch := omega) only [rfS_cell, sI_cell, sI_place, sI_same, sI_2]; exact x2
  rw [e2, ck_nat hw (by omega), nm_eq]
  have e3 : (sI (sI (rfS 10 0 729 (iI (-9)) T) 9 0 (iI (σ 0 1))) 10 (σ 0 1) (iI ((0 : Nat) : Int))).1 2 4 = iI (σ 0 1) := by simp (disch := omega) only [rfS_cell, sI_cell, sI_place, sI_same, sI_2]; exact x2
  rw [e3, ck_nat hw (by omega), nm_eq, nm_eq]
  refine X_rounds h hS K FU 0 _ (by rw [FU_eq]; omega) ⟨?_, ?_, 1, _, _, _, _, _, BF.start h.2.1, ⟨?_, fun j hj => ⟨?_, ?_, ?_⟩, fun j h1 h2 => by omega, fun x h1 h2 => ?_⟩, by omega⟩
  · refine hT.tr (SrX.tr (fun j a b c d => ?_) ((SrX.s1 _ _ (by omega)).tr ((SrX.s1 _ _ (by omega)).tr ((SrX.l1 _ _ _).tr (SrX.s1 _ _ (by omega))))))
    rw [rfS_cell _ _ _ _ (by omega)]
  · exact PpX_of hP (by simp (disch := omega) only [sL_1, rfS_cell, sI_cell, sI_place, sI_same, sI_2])
  · rw [sI_same]; rfl
  · obtain rfl : j = 0 := by omega
    simp (disch := omega) only [sL_1, rfS_cell, sI_cell, sI_place, sI_same, sI_2]
  · simp (disch := omega) only [sL_1, rfS_cell, sI_cell, sI_place, sI_same, sI_2]
  · rw [sI_2, sL_same]; rfl
  · have hne : x ≠ σ 0 1 := fun g => h2 0 (by omega) g.symm
    simp (disch := omega) only [sL_1, rfS_cell, sI_cell, sI_place, sI_same, sI_2]
    rw [rfS_at, if_pos (by omega)]
theorem X_findEnd {α : Type} {σ : Sg} (h : Gd σ) {T : MS} (hT : ShX σ T) {r : Nat} {q : Nat → Nat} (hr : r ≤ 729) (h38 : T.1 3 8 = iI r) (hq : ∀ j, j < r → T.1 9 j = iI (q j) ∧ q j < 729) (K : Int32 → MS → Option α) : (∃ e, e < r ∧ Gl σ (q e) ∧ (∀ u, u < e → ¬ Gl σ (q u)) ∧ f2_findEnd T K = K (iI (q e)) T) ∨ ((∀ u, u < r → ¬ Gl σ (q u)) ∧ f2_findEnd T K = K (iI (-9)) T) := by
  have key : ∀ (m j fuel : Nat), j + m = r → m < fuel → (∀ u, u < j → ¬ Gl σ (q u)) → (∃ e, e < r ∧ Gl σ (q e) ∧ (∀ u, u < e → ¬ Gl σ (q u)) ∧ f2_findEnd_L2 K (fun _ S6 => K (-9) S6) fuel (iI j) T = K (iI (q e)) T) ∨ ((∀ u, u < r → ¬ Gl σ (q u)) ∧ f2_findEnd_L2 K (fun _ S6 => K (-9) S6) fuel (iI j) T = K (iI (-9)) T) := by
    intro m
    induction m with
    | zero =>
      intro j fuel hj hf hu
      obtain ⟨f, rfl⟩ : ∃ f, fuel = f + 1 := ⟨fuel - 1, by omega⟩
      obtain rfl : j = r := by omega
      right
      refine ⟨hu, ?_⟩
      rw [f2_findEnd_L2, h38, ite_le ⟨⟨by omega, by omega⟩, ⟨by omega, by omega⟩⟩, if_pos (by omega)]
      rfl
    | succ m ih =>
      intro j fuel hj hf hu
      obtain ⟨f, rfl⟩ : ∃ f, fuel = f + 1 := ⟨fuel - 1, by omega⟩
      obtain ⟨q1, q2⟩ := hq j (by omega)
      rw [f2_findEnd_L2, h38, ite_le ⟨⟨by omega, by omega⟩, ⟨by omega, by omega⟩⟩, if_neg (by omega), ck_nat (by omega) (by omega), q1, f3_isChanged_eq h hT q2, ite_bI, ck_nat (by omega) (by omega), q1]
      by_cases c : Gl σ (q j)
      · rw [if_pos c]
        exact Or.inl ⟨j, by omega, c, hu, rfl⟩
      · rw [if_neg c, nm_eq, show (1 : Int32) = iI 1 from rfl, iI_add]
        exact ih (j + 1) f (by omega) (by omega) (fun u hu2 => by
          by_cases d : u = j
          · rw [d]; exact c
          · exact hu u (by omega))
  unfold f2_findEnd
  rw [show (0 : Int32) = iI ((0 : Nat) : Int) from rfl]
  exact key r 0 FU (by omega) (by rw [FU_eq]; omega) (fun u hu => by omega)
def PXs (σ : Sg) (T : MS) : Prop := ∃ (r : Nat) (q par lt lev w : Nat → Nat), BF (3 ^ σ 0 0) (σ 0 0) (σ 0 1) (CanP σ) pmN r q par lt lev w r 0 ∧ LkX T r q par lt lev w ∧ ((∃ e, e < r ∧ Gl σ (q e) ∧ (∀ u, u < e → ¬ Gl σ (q u)) ∧ T.1 3 9 = iI (q e)) ∨ ((∀ u, u < r → ¬ Gl σ (q u)) ∧ T.1 3 9 = iI (-9)))
theorem LkX_of {S T : MS} {r : Nat} {q par lt lev w : Nat → Nat} (h : LkX S r q par lt lev w) (e3 : T.1 3 8 = S.1 3 8) (e : ∀ j, 9 ≤ j ∧ j ≤ 12 → T.1 j = S.1 j) (e2 : T.2 = S.2) : LkX T r q par lt lev w := by
  obtain ⟨a, b, c, d⟩ := h
  refine ⟨by rw [e3]; exact a, fun j hj => ?_, fun j h1 h2 => ?_, fun x h1 h2 => ?_⟩
  · rw [e 9 (by omega), e 10 (by omega), e2]; exact b j hj
  · rw [e 11 (by omega), e 12 (by omega)]; exact c j h1 h2
  · rw [e 10 (by omega)]; exact d x h1 h2
theorem clPX : ClX PXs := by
  intro σ S S' ⟨e1, e2⟩ ⟨r, q, par, lt, lev, w, hF, hl, he⟩
  refine ⟨r, q, par, lt, lev, w, hF, LkX_of hl (by rw [e1 3 (by omega)]) (fun j hj => e1 j (by omega)) e2, ?_⟩
  rw [e1 3 (by omega)]
  exact he
theorem X_refresh {α : Type} {PM : Sg → MS → Prop} {σ : Sg} {SX SM : MS} (h : RelS PXs PM σ SX SM) (K : MS → Option α) : ∃ T, f2_refresh SX K = K T ∧ PXs σ T ∧ T.1 3 7 = 1 ∧ SrX SX T := by
  have hX := h.2.1
  unfold f2_refresh
  rcases h.2.2.2.2.2.2.2.1 with c | ⟨c, d⟩
  · rw [c, if_pos rfl]
    obtain ⟨T1, a1, a2, a3⟩ := X_findPumpable h.1 hX (fun S1 => f2_explore S1 fun S3 => f2_findEnd S3 fun r6 S5 => nm (sI S5 3 9 r6) fun S7 => nm (sI S7 3 7 1) fun S8 => K S8)
    obtain ⟨T2, ⟨b1, r, q, par, lt, lev, w, hF, hl⟩, b3⟩ := X_explore h.1 hX a1 a2 (fun S3 => f2_findEnd S3 fun r6 S5 => nm (sI S5 3 9 r6) fun S7 => nm (sI S7 3 7 1) fun S8 => K S8)
    have h3 := p3_bd h.1.1
    have hrN := hF.rN
    have fin := X_findEnd h.1 (b1.sh hX) (r := r) (q := q) (by omega) hl.1 (fun j hj => ⟨(hl.2.1 j hj).1, by have := hF.2.1 j hj; omega⟩) (fun r6 S5 => nm (sI S5 3 9 r6) fun S7 => nm (sI S7 3 7 1) fun S8 => K S8)
    have done : ∀ v : Int32, ((∃ e, e < r ∧ Gl σ (q e) ∧ (∀ u, u < e → ¬ Gl σ (q u)) ∧ v = iI (q e)) ∨ ((∀ u, u < r → ¬ Gl σ (q u)) ∧ v = iI (-9))) → f2_findEnd T2 (fun r6 S5 => nm (sI S5 3 9 r6) fun S7 => nm (sI S7 3 7 1) fun S8 => K S8) = K (sI (sI T2 3 9 v) 3 7 1) → ∃ T, f2_findPumpable SX (fun S1 => f2_explore S1 fun S3 => f2_findEnd S3 fun r6 S5 => nm (sI S5 3 9 r6) fun S7 => nm (sI S7 3 7 1) fun S8 => K S8) = K T ∧ PXs σ T ∧ T.1 3 7 = 1 ∧ SrX SX T := by
      intro v hv e
      refine ⟨_, a3.trans (b3.trans e), ⟨r, q, par, lt, lev, w, hF, LkX_of hl (by simp (disch := omega) only [rfS_cell, sI_cell, sI_place, sI_same, sI_2]) (fun j hj => by simp (disch := omega) only [rfS_cell, sI_cell, sI_place, sI_same, sI_2]) rfl, ?_⟩, sI_same _ _ _ _, b1.tr ((SrX.s1 _ _ (by omega)).tr (SrX.s1 _ _ (by omega)))⟩
      have : (sI (sI T2 3 9 v) 3 7 1).1 3 9 = v := by simp (disch := omega) only [rfS_cell, sI_cell, sI_place, sI_same, sI_2]
      rw [this]
      exact hv
    rcases fin with ⟨e, e1, e2, e3, e4⟩ | ⟨e1, e2⟩
    · exact done (iI (q e)) (Or.inl ⟨e, e1, e2, e3, rfl⟩) e4
    · exact done (iI (-9)) (Or.inr ⟨e1, rfl⟩) e2
  · rw [c, if_neg (by decide)]
    exact ⟨SX, rfl, d, c, SrX.rf SX⟩
