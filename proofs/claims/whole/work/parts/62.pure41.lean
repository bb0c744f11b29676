/-! PURE PART 41: states that can be come to -/
/-- a round of the reference that looks for more: all pairs ahead of (x, t) are done -/
def SeeI (σ : Sg) (S0 : MS) (Z0 Rc : Nat → Prop) (x t : Nat) (a : Int32) (T : MS) : Prop := (∀ j, j ≠ 20 → T.1 j = S0.1 j) ∧ T.2 = S0.2 ∧ ∃ Z : Nat → Prop, (∀ y, y < 3 ^ σ 0 0 → T.1 20 y = iI (bI (Z y))) ∧ (∀ y, Z0 y → Z y) ∧ (∀ y, y < 3 ^ σ 0 0 → Z y → Rc y) ∧ a = iI (bI (∃ y, y < 3 ^ σ 0 0 ∧ Z y ∧ ¬ Z0 y)) ∧ (∀ x' t', x' < 3 ^ σ 0 0 → t' < σ 0 0 → Lx x' t' x t → Z0 x' → CanP σ x' t' → Z (pmN x' t'))
section See
variable {σ : Sg} {S0 : MS} {Z0 Rc : Nat → Prop}
theorem see_put (h : Gd σ) {x t : Nat} {a : Int32} {T : MS} (hI : SeeI σ S0 Z0 Rc x t a T) {y : Nat} (hy : y < 3 ^ σ 0 0) (hR : Rc y) (hE : x < 3 ^ σ 0 0 → t < σ 0 0 → CanP σ x t → y = pmN x t) : SeeI σ S0 Z0 Rc x (t + 1) (if a = 0 then (if T.1 20 y = 0 then 1 else 0) else 1) (sI T 20 y 1) := by
  obtain ⟨a1, a2, Z, z1, z2, z3, z4, z5⟩ := hI
  refine ⟨fun j hj => by rw [sI_cell _ _ _ hj]; exact a1 j hj, a2, fun v => Z v ∨ v = y, ?_, fun v hv => Or.inl (z2 v hv), ?_, ?_, ?_⟩
  · intro v hv
    show (sI T 20 y 1).1 20 v = iI (bI (Z v ∨ v = y))
    by_cases e : v = y
    · subst e
      rw [sI_same, bI_t (Or.inr rfl)]; rfl
    · rw [sI_place _ _ _ e, z1 v hv, bI_congr (p := Z v) (q := Z v ∨ v = y) ⟨Or.inl, fun g => g.elim id (fun g => absurd g e)⟩]
  · intro v hv g
    rcases g with g | g
    · exact z3 v hv g
    · rw [g]; exact hR
  · show (if a = 0 then (if T.1 20 y = 0 then (1 : Int32) else 0) else 1) = iI (bI (∃ v, v < 3 ^ σ 0 0 ∧ (Z v ∨ v = y) ∧ ¬ Z0 v))
    rw [z4, z1 y hy]
    by_cases f : ∃ v, v < 3 ^ σ 0 0 ∧ Z v ∧ ¬ Z0 v
    · have f2 : ∃ v, v < 3 ^ σ 0 0 ∧ (Z v ∨ v = y) ∧ ¬ Z0 v := by
        obtain ⟨v, g1, g2, g3⟩ := f
        exact ⟨v, g1, Or.inl g2, g3⟩
      rw [bI_t f, bI_t f2, if_neg (by decide)]; rfl
    · by_cases g : Z y
      · have f2 : ¬ ∃ v, v < 3 ^ σ 0 0 ∧ (Z v ∨ v = y) ∧ ¬ Z0 v := by
          rintro ⟨v, g1, g2, g3⟩
          rcases g2 with g2 | g2
          · exact f ⟨v, g1, g2, g3⟩
          · subst g2; exact f ⟨v, g1, g, g3⟩
        rw [bI_f f, bI_f f2, bI_t g, if_pos (by decide), if_neg (by decide)]; rfl
      · have f2 : ∃ v, v < 3 ^ σ 0 0 ∧ (Z v ∨ v = y) ∧ ¬ Z0 v := ⟨y, hy, Or.inr rfl, fun q => g (z2 y q)⟩
        rw [bI_f f, bI_t f2, bI_f g, if_pos (by decide), if_pos (by decide)]; rfl
  · intro x' t' hx ht hl h0 hc
    by_cases e : x' = x ∧ t' = t
    · obtain ⟨rfl, rfl⟩ := e
      exact Or.inr (hE hx ht hc).symm
    · refine Or.inl (z5 x' t' hx ht ?_ h0 hc)
      unfold Lx at hl ⊢
      omega
theorem see_next {x t : Nat} {a : Int32} {T : MS} (hI : SeeI σ S0 Z0 Rc x t a T) (hE : t = σ 0 0 ∨ ¬ Z0 x) (h0 : t = σ 0 0 ∨ t = 0) : SeeI σ S0 Z0 Rc (x + 1) 0 a T := by
  obtain ⟨a1, a2, Z, z1, z2, z3, z4, z5⟩ := hI
  refine ⟨a1, a2, Z, z1, z2, z3, z4, fun x' t' hx ht hl hz hc => ?_⟩
  by_cases e : x' = x
  · subst e
    rcases hE with g | g
    · exact z5 x' t' hx ht (Or.inr ⟨rfl, by omega⟩) hz hc
    · exact absurd hz g
  · refine z5 x' t' hx ht (Or.inl ?_) hz hc
    unfold Lx at hl
    omega
theorem see_in {α : Type} (h : Gd σ) (hS0 : ShM σ S0) {x : Nat} (hx : x < 3 ^ σ 0 0) (hc : CnM σ S0 x) (hR : ∀ x t, x < 3 ^ σ 0 0 → t < σ 0 0 → Rc x → CanP σ x t → Rc (pmN x t)) {a : Int32} {T0 : MS} (hI : SeeI σ S0 Z0 Rc x 0 a T0) (KX : Int32 → MS → Option α) : ∃ b T, SeeI σ S0 Z0 Rc (x + 1) 0 b T ∧ f6_seesMore_L19 (iI x) (fun v1 _ S => KX v1 S) FU a (iI 0) T0 = KX b T := by
  have hn6 := h.1
  have h33 := p3_bd hn6
  have x7 : x < 729 := by omega
  have n1 : vp_nar .boolean (1 : Int32) = 1 := by decide
  obtain ⟨c, c1, c2, c3⟩ := hc
  have shT : ∀ {t : Nat} {b : Int32} {T : MS}, SeeI σ S0 Z0 Rc x t b T → ShM σ T := fun g => ShM_of hS0 ⟨by rw [g.1 0 (by omega)], by rw [g.1 0 (by omega)], by rw [g.1 0 (by omega)]⟩ (fun j hj => g.1 j (by omega))
  by_cases c0 : T0.1 20 x = iI 0
  · refine ⟨a, T0, see_next hI (Or.inr ?_) (Or.inr rfl), ?_⟩
    · obtain ⟨a1, a2, Z, z1, z2, z3, z4, z5⟩ := hI
      intro g
      have := z1 x hx
      rw [bI_t (z2 x g), c0] at this
      exact absurd this (by decide)
    · obtain ⟨f, hf⟩ : ∃ f, FU = f + 1 := ⟨799, by rw [FU_eq]⟩
      rw [hf, f6_seesMore_L19, (shT hI).1, ite_le ⟨⟨by omega, by omega⟩, by decide⟩]
      by_cases d : (σ 0 0 : Int) ≤ 0
      · rw [if_pos d]
      · rw [if_neg d, ck_nat x7 (by omega), c0, if_pos (by decide)]
  · have c0' : T0.1 20 x = iI 1 := by
      obtain ⟨a1, a2, Z, z1, -⟩ := hI
      rw [z1 x hx] at c0 ⊢
      rcases bI_01 (Z x) with g | g
      · rw [g] at c0; exact absurd rfl c0
      · rw [g]
    have rx : Rc x := by
      obtain ⟨a1, a2, Z, z1, z2, z3, -⟩ := hI
      refine z3 x hx ?_
      by_cases g : Z x
      · exact g
      · have := z1 x hx
        rw [bI_f g] at this
        exact absurd this c0
    obtain ⟨s', g1, g2⟩ := loop_rel (σ := Int32 × Int32 × MS) (L := fun fuel s => f6_seesMore_L19 (iI x) (fun v1 _ S => KX v1 S) fuel s.1 s.2.1 s.2.2) (KX := fun s => KX s.1 s.2.2) (σ 0 0) (fun t s => s.2.1 = iI t ∧ s.2.2.1 20 x = iI 1 ∧ SeeI σ S0 Z0 Rc x t s.1 s.2.2)
      (by
        intro fuel t s ht ⟨e1, e2, e3⟩
        obtain ⟨b, v, T⟩ := s
        dsimp only at e1 e2 e3 ⊢
        subst e1
        have hT := shT e3
        have nx : iI (t : Int) + 1 = iI (t + 1 : Nat) := by rw [show (1 : Int32) = iI 1 from rfl, iI_add]; rfl
        have keep : ∀ y, (sI T 20 y 1).1 20 x = iI 1 := fun y => by
          by_cases e : x = y
          · subst e; rw [sI_same]; rfl
          · rw [sI_place _ _ _ e]; exact e2
        have J : ∀ (y : Nat), y < 729 → f6_seesMore_J72 b (iI x) (iI t) (iI y) T (f6_seesMore_L19 (iI x) (fun v1 _ S => KX v1 S) fuel) (fun v1 _ S => KX v1 S) = f6_seesMore_L19 (iI x) (fun v1 _ S => KX v1 S) fuel (if b = 0 then (if T.1 20 y = 0 then 1 else 0) else 1) (iI (t + 1 : Nat)) (sI T 20 y 1) := by
          intro y hy
          unfold f6_seesMore_J72
          by_cases d : b = 0
          · rw [if_pos d, if_pos d, ck_nat hy (by omega)]
            by_cases d2 : T.1 20 y = 0
            · rw [if_pos d2, if_pos d2, ck_nat hy (by omega), nm_eq, nm_eq, n1, nx]
            · rw [if_neg d2, if_neg d2, ck_nat hy (by omega), nm_eq, nm_eq, n1, nx]
          · rw [if_neg d, if_neg d, ck_nat hy (by omega), nm_eq, nm_eq, n1, nx]
        have n0 : ¬ iI 1 = (0 : Int32) := by decide
        rw [f6_seesMore_L19, hT.1, ite_le ⟨⟨by omega, by omega⟩, ⟨by omega, by omega⟩⟩, if_neg (by omega), ck_nat x7 (by omega), e2, if_neg n0, ck_nat x7 (by omega), e3.1 17 (by omega), c2, bit_all c c1 t (by omega)]
        by_cases d : bt c t = true
        · have hC : CanP σ x t := (c3 t ht).mp d
          have hy := pm_ltn _ hn6 x hx t ht
          refine ⟨(_, iI (t + 1 : Nat), sI T 20 (pmN x t) 1), ⟨rfl, keep _, see_put h e3 hy (hR x t hx ht rx hC) (fun _ _ _ => rfl)⟩, ?_⟩
          rw [d, if_pos rfl, if_pos rfl]
          unfold f6_seesMore_J55
          rw [if_neg (by decide), f6_pumped_eq x7 (by omega) hT]
          exact J _ (by omega)
        · have d' : bt c t = false := by cases q : bt c t
                                         · rfl
                                         · exact absurd q d
          refine ⟨(_, iI (t + 1 : Nat), sI T 20 x 1), ⟨rfl, keep _, see_put h e3 hx rx (fun _ _ g => absurd ((c3 t ht).mpr g) d)⟩, ?_⟩
          rw [d', if_neg (show ¬ (false = true) by decide), if_neg (by decide)]
          unfold f6_seesMore_J55
          rw [if_pos rfl]
          exact J _ x7)
      (by
        intro fuel s ⟨e1, e2, e3⟩
        obtain ⟨b, v, T⟩ := s
        dsimp only at e1 e2 e3 ⊢
        subst e1
        rw [f6_seesMore_L19, (shT e3).1, ite_le ⟨⟨by omega, by omega⟩, ⟨by omega, by omega⟩⟩, if_pos (by omega)])
      FU 0 (a, iI 0, T0) (by omega) (by rw [FU_eq]; omega) ⟨rfl, c0', hI⟩
    obtain ⟨b, v, T⟩ := s'
    obtain ⟨e1, e2, e3⟩ := g1
    dsimp only at e1 e2 e3 g2
    exact ⟨b, T, see_next e3 (Or.inl rfl) (Or.inl rfl), g2⟩
theorem see_round {α : Type} (h : Gd σ) (hS0 : ShM σ S0) (hc : ∀ x, x < 3 ^ σ 0 0 → CnM σ S0 x) (hR : ∀ x t, x < 3 ^ σ 0 0 → t < σ 0 0 → Rc x → CanP σ x t → Rc (pmN x t)) (hz : ∀ y, y < 3 ^ σ 0 0 → S0.1 20 y = iI (bI (Z0 y))) (hzr : ∀ y, y < 3 ^ σ 0 0 → Z0 y → Rc y) (K : Int32 → MS → Option α) : ∃ T, (∀ j, j ≠ 20 → T.1 j = S0.1 j) ∧ T.2 = S0.2 ∧ ∃ Z : Nat → Prop, (∀ y, y < 3 ^ σ 0 0 → T.1 20 y = iI (bI (Z y))) ∧ (∀ y, Z0 y → Z y) ∧ (∀ y, y < 3 ^ σ 0 0 → Z y → Rc y) ∧ (∀ x' t', x' < 3 ^ σ 0 0 → t' < σ 0 0 → Z0 x' → CanP σ x' t' → Z (pmN x' t')) ∧ f6_seesMore S0 K = K (iI (bI (∃ y, y < 3 ^ σ 0 0 ∧ Z y ∧ ¬ Z0 y))) T := by
  have hn6 := h.1
  have h33 := p3_bd hn6
  have nf : ¬ ∃ y, y < 3 ^ σ 0 0 ∧ Z0 y ∧ ¬ Z0 y := fun ⟨y, _, g, g'⟩ => g' g
  unfold f6_seesMore
  obtain ⟨s', g1, g2⟩ := loop_rel (σ := Int32 × Int32 × MS) (L := fun fuel s => f6_seesMore_L4 (fun v1 _ S20 => zb v1 (K v1 S20)) fuel s.1 s.2.1 s.2.2) (KX := fun s => zb s.1 (K s.1 s.2.2)) (3 ^ σ 0 0) (fun x s => s.2.1 = iI x ∧ SeeI σ S0 Z0 Rc x 0 s.1 s.2.2)
    (by
      intro fuel x s hx ⟨e1, e3⟩
      obtain ⟨b, v, T⟩ := s
      dsimp only at e1 e3 ⊢
      subst e1
      have hT : ShM σ T := ShM_of hS0 ⟨by rw [e3.1 0 (by omega)], by rw [e3.1 0 (by omega)], by rw [e3.1 0 (by omega)]⟩ (fun j hj => e3.1 j (by omega))
      have nx : iI (x : Int) + 1 = iI (x + 1 : Nat) := by rw [show (1 : Int32) = iI 1 from rfl, iI_add]; rfl
      obtain ⟨b', T', q1, q2⟩ := see_in h hS0 hx (hc x hx) hR e3 (fun v1_17 S16 => f6_seesMore_L4 (fun v1 _ S20 => zb v1 (K v1 S20)) fuel v1_17 (iI (x + 1 : Nat)) S16)
      refine ⟨(b', iI (x + 1 : Nat), T'), ⟨rfl, q1⟩, ?_⟩
      dsimp only
      rw [f6_seesMore_L4, hT.1, ck_nat (show σ 0 0 < 7 by omega) (by omega), hT.2.2.2.2.2.2 _ (by omega), ite_le ⟨⟨by omega, by omega⟩, ⟨by omega, by omega⟩⟩, if_neg (by omega), show (0 : Int32) = iI 0 from rfl]
      simp only [nm_eq, nx]
      exact q2)
    (by
      intro fuel s ⟨e1, e3⟩
      obtain ⟨b, v, T⟩ := s
      dsimp only at e1 e3 ⊢
      subst e1
      have hT : ShM σ T := ShM_of hS0 ⟨by rw [e3.1 0 (by omega)], by rw [e3.1 0 (by omega)], by rw [e3.1 0 (by omega)]⟩ (fun j hj => e3.1 j (by omega))
      rw [f6_seesMore_L4, hT.1, ck_nat (show σ 0 0 < 7 by omega) (by omega), hT.2.2.2.2.2.2 _ (by omega), ite_le ⟨⟨by omega, by omega⟩, ⟨by omega, by omega⟩⟩, if_pos (by omega)])
    FU 0 (iI 0, iI 0, S0) (by omega) (by rw [FU_eq]; omega) (by
      refine ⟨rfl, fun _ _ => rfl, rfl, Z0, hz, fun _ g => g, hzr, ?_, fun x' t' _ _ hl _ _ => ?_⟩
      · dsimp only; rw [bI_f nf]
      · unfold Lx at hl; omega)
  obtain ⟨b, v, T⟩ := s'
  obtain ⟨e1, a1, a2, Z, z1, z2, z3, z4, z5⟩ := g1
  dsimp only at e1 a1 a2 z1 z4 g2
  subst z4
  rw [zb_bI] at g2
  exact ⟨T, a1, a2, Z, z1, z2, z3, fun x' t' hx ht => z5 x' t' hx ht (Or.inl hx), g2⟩
theorem see_rounds {α : Type} (h : Gd σ) (hR : ∀ x t, x < 3 ^ σ 0 0 → t < σ 0 0 → Rc x → CanP σ x t → Rc (pmN x t)) (KX : MS → Option α) : ∀ (fuel : Nat) (Z0 : Nat → Prop) (S0 : MS), ShM σ S0 → (∀ x, x < 3 ^ σ 0 0 → CnM σ S0 x) → (∀ y, y < 3 ^ σ 0 0 → S0.1 20 y = iI (bI (Z0 y))) → (∀ y, y < 3 ^ σ 0 0 → Z0 y → Rc y) → cnP (fun y => ¬ Z0 y) (3 ^ σ 0 0) + 2 ≤ fuel → ∃ T, (∀ j, j ≠ 20 → T.1 j = S0.1 j) ∧ T.2 = S0.2 ∧ ∃ Z : Nat → Prop, (∀ y, y < 3 ^ σ 0 0 → T.1 20 y = iI (bI (Z y))) ∧ (∀ y, Z0 y → Z y) ∧ (∀ y, y < 3 ^ σ 0 0 → Z y → Rc y) ∧ (∀ x' t', x' < 3 ^ σ 0 0 → t' < σ 0 0 → Z x' → CanP σ x' t' → Z (pmN x' t')) ∧ f6_states_L56 (fun _ S => KX S) fuel (iI 1) S0 = KX T := by
  intro fuel
  induction fuel with
  | zero => intro Z0 S0 _ _ _ _ g; omega
  | succ fuel ih =>
    intro Z0 S0 hS0 hc hz hzr hf
    obtain ⟨T, a1, a2, Z, z1, z2, z3, z5, z6⟩ := see_round h hS0 hc hR hz hzr (fun r13 S12 => f6_states_L56 (fun _ S => KX S) fuel r13 S12)
    have n0 : ¬ iI 1 = (0 : Int32) := by decide
    rw [f6_states_L56, if_neg n0]
    by_cases f : ∃ y, y < 3 ^ σ 0 0 ∧ Z y ∧ ¬ Z0 y
    · have lt : cnP (fun y => ¬ Z y) (3 ^ σ 0 0) < cnP (fun y => ¬ Z0 y) (3 ^ σ 0 0) := cnP_lt (fun x _ g g2 => g (z2 x g2)) (by
        obtain ⟨y, y1, y2, y3⟩ := f
        exact ⟨y, y1, y3, fun g => g y2⟩)
      have hT : ShM σ T := ShM_of hS0 ⟨by rw [a1 0 (by omega)], by rw [a1 0 (by omega)], by rw [a1 0 (by omega)]⟩ (fun j hj => a1 j (by omega))
      obtain ⟨T', b1, b2, Z', w1, w2, w3, w5, w6⟩ := ih Z T hT (fun x hx => CnM_of (hc x hx) (by rw [a1 17 (by omega)])) z1 z3 (by omega)
      refine ⟨T', fun j hj => (b1 j hj).trans (a1 j hj), b2.trans a2, Z', w1, fun y g => w2 y (z2 y g), w3, w5, ?_⟩
      rw [bI_t f] at z6
      exact z6.trans w6
    · refine ⟨T, a1, a2, Z, z1, z2, z3, fun x' t' hx ht g hC => z5 x' t' hx ht ?_ hC, ?_⟩
      · by_cases q : Z0 x'
        · exact q
        · exact absurd ⟨x', hx, g, q⟩ f
      · rw [bI_f f] at z6
        refine z6.trans ?_
        obtain ⟨f', rfl⟩ : ∃ f', fuel = f' + 1 := ⟨fuel - 1, by omega⟩
        rw [f6_states_L56, if_pos (by decide)]
theorem see_first {α : Type} (h : Gd σ) (hS0 : ShM σ S0) (KX : MS → Option α) : ∃ T, (∀ j, j ≠ 20 → T.1 j = S0.1 j) ∧ T.2 = S0.2 ∧ (∀ y, y < 3 ^ σ 0 0 → T.1 20 y = iI (bI (y = σ 0 1))) ∧ f6_states_L16 (fun _ S => KX S) FU (iI 0) S0 = KX T := by
  have hn6 := h.1
  have h33 := p3_bd hn6
  have hs7 := w729 h
  have n0 : vp_nar .boolean (0 : Int32) = 0 := by decide
  have n1 : vp_nar .boolean (1 : Int32) = 1 := by decide
  obtain ⟨s', g1, g2⟩ := loop_rel (σ := Int32 × MS) (L := fun fuel s => f6_states_L16 (fun _ S => KX S) fuel s.1 s.2) (KX := fun s => KX s.2) (3 ^ σ 0 0) (fun x s => s.1 = iI x ∧ (∀ j, j ≠ 20 → s.2.1 j = S0.1 j) ∧ s.2.2 = S0.2 ∧ ∀ y, y < x → s.2.1 20 y = iI (bI (y = σ 0 1)))
    (by
      intro fuel x s hx ⟨e1, a1, a2, a3⟩
      obtain ⟨v, T⟩ := s
      dsimp only at e1 a1 a2 a3 ⊢
      subst e1
      have hT : ShM σ T := ShM_of hS0 ⟨by rw [a1 0 (by omega)], by rw [a1 0 (by omega)], by rw [a1 0 (by omega)]⟩ (fun j hj => a1 j (by omega))
      have nx : iI (x : Int) + 1 = iI (x + 1 : Nat) := by rw [show (1 : Int32) = iI 1 from rfl, iI_add]; rfl
      refine ⟨(iI (x + 1 : Nat), sI T 20 x (iI (bI (x = σ 0 1)))), ⟨rfl, fun j hj => by dsimp only; rw [sI_cell _ _ _ hj]; exact a1 j hj, a2, fun y hy => ?_⟩, ?_⟩
      · dsimp only
        by_cases e : y = x
        · subst e; rw [sI_same]
        · rw [sI_place _ _ _ e]; exact a3 y (by omega)
      · dsimp only
        rw [f6_states_L16, hT.1, ck_nat (show σ 0 0 < 7 by omega) (by omega), hT.2.2.2.2.2.2 _ (by omega), ite_le ⟨⟨by omega, by omega⟩, ⟨by omega, by omega⟩⟩, if_neg (by omega), hT.2.1, ite_eq ⟨⟨by omega, by omega⟩, ⟨by omega, by omega⟩⟩]
        by_cases e : x = σ 0 1
        · rw [if_pos (by omega), ck_nat (by omega) (by omega), nm_eq, nm_eq, n1, nx, bI_t e]; rfl
        · rw [if_neg (by omega), ck_nat (by omega) (by omega), nm_eq, nm_eq, n0, nx, bI_f e]; rfl)
    (by
      intro fuel s ⟨e1, a1, a2, a3⟩
      obtain ⟨v, T⟩ := s
      dsimp only at e1 a1 a2 a3 ⊢
      subst e1
      have hT : ShM σ T := ShM_of hS0 ⟨by rw [a1 0 (by omega)], by rw [a1 0 (by omega)], by rw [a1 0 (by omega)]⟩ (fun j hj => a1 j (by omega))
      rw [f6_states_L16, hT.1, ck_nat (show σ 0 0 < 7 by omega) (by omega), hT.2.2.2.2.2.2 _ (by omega), ite_le ⟨⟨by omega, by omega⟩, ⟨by omega, by omega⟩⟩, if_pos (by omega)])
    FU 0 (iI 0, S0) (by omega) (by rw [FU_eq]; omega) ⟨rfl, fun _ _ => rfl, rfl, fun y hy => by omega⟩
  obtain ⟨v, T⟩ := s'
  obtain ⟨e1, a1, a2, a3⟩ := g1
  dsimp only at e1 a1 a2 a3 g2
  exact ⟨T, a1, a2, a3, g2⟩
theorem see_count {α : Type} (h : Gd σ) {T : MS} (hT : ShM σ T) {Z : Nat → Prop} (hz : ∀ y, y < 3 ^ σ 0 0 → T.1 20 y = iI (bI (Z y))) (K : Int32 → MS → Option α) : f6_states_L72 (fun v2 _ S => K v2 S) FU (iI 0) (iI 0) T = K (iI (cnP Z (3 ^ σ 0 0) : Nat)) T := by
  have hn6 := h.1
  have h33 := p3_bd hn6
  have h1 := loop_eq (σ := Int32 × Int32) (L := fun fuel s => f6_states_L72 (fun v2 _ S => K v2 S) fuel s.1 s.2 T) (KX := fun s => K s.1 T) (3 ^ σ 0 0) (fun j => (iI (cnP Z j : Nat), iI j))
    (by
      intro fuel x hx
      show f6_states_L72 _ (fuel + 1) (iI (cnP Z x : Nat)) (iI x) T = f6_states_L72 _ fuel (iI (cnP Z (x + 1) : Nat)) (iI (x + 1 : Nat)) T
      have nx : iI (x : Int) + 1 = iI (x + 1 : Nat) := by rw [show (1 : Int32) = iI 1 from rfl, iI_add]; rfl
      have nc : iI ((cnP Z x : Nat) : Int) + 1 = iI (cnP Z x + 1 : Nat) := by rw [show (1 : Int32) = iI 1 from rfl, iI_add]; rfl
      have n0 : iI ((cnP Z x : Nat) : Int) + 0 = iI (cnP Z x : Nat) := by rw [show (0 : Int32) = iI 0 from rfl, iI_add, Int.add_zero]
      rw [f6_states_L72, hT.1, ck_nat (show σ 0 0 < 7 by omega) (by omega), hT.2.2.2.2.2.2 _ (by omega), ite_le ⟨⟨by omega, by omega⟩, ⟨by omega, by omega⟩⟩, if_neg (by omega), ck_nat (by omega) (by omega), hz x hx]
      by_cases e : Z x
      · rw [bI_t e, if_neg (by decide), nm_eq, nm_eq, nx, nc, cnP_t e]
      · rw [bI_f e, if_pos (by decide), nm_eq, nm_eq, nx, n0, cnP_f e])
    (by
      intro fuel
      show f6_states_L72 _ (fuel + 1) _ (iI (3 ^ σ 0 0 : Nat)) T = _
      rw [f6_states_L72, hT.1, ck_nat (show σ 0 0 < 7 by omega) (by omega), hT.2.2.2.2.2.2 _ (by omega), ite_le ⟨⟨by omega, by omega⟩, ⟨by omega, by omega⟩⟩, if_pos (by omega)])
    FU 0 (by omega) (by rw [FU_eq]; omega)
  exact h1
end See
theorem sim_states : SimI (RelP PXs PMs) f5_states f6_states := by
  intro SX SM ⟨σ, h⟩
  have hn := h.1.1
  have h33 := p3_bd hn
  have hX := h.2.1
  have hM := h.2.2.1
  have m1 := hM.1
  by_cases c2 : σ 0 0 = 0
  · refine ⟨iI (-3), SX, SM, ?_, ?_, σ, h⟩
    · unfold f5_states
      rw [f5_hasNoShip_eq hn hX.1, if_pos c2, if_neg (by decide)]
      rfl
    · unfold f6_states
      rw [m1, c2]
      rfl
  · obtain ⟨T, x1, x2, x3, x4⟩ := X_refresh h (fun S3 => some (S3.1 3 8, S3))
    obtain ⟨U, y1, y2, y3, y4⟩ := M_findLeft h (fun S1 => f6_states_L16 (fun v1_11 S10 => f6_states_L56 (fun v1_15 S14 => f6_states_L72 (fun v2_23 v3_24 S22 => some (v2_23, S22)) FU 0 0 S14) FU 1 S10) FU 0 S1)
    have hr := rel_search h x2 x3 x4 y2 y3 y4
    have fX : f5_states SX (fun r u => some (r, u)) = some (T.1 3 8, T) := by
      unfold f5_states
      rw [f5_hasNoShip_eq hn hX.1, if_neg c2, if_pos rfl]
      exact x1
    have fM : f6_states SM (fun r u => some (r, u)) = f6_states_L16 (fun v1_11 S10 => f6_states_L56 (fun v1_15 S14 => f6_states_L72 (fun v2_23 v3_24 S22 => some (v2_23, S22)) FU 0 0 S14) FU 1 S10) FU 0 U := by
      unfold f6_states
      rw [m1, show (0 : Int32) = iI 0 from rfl, ite_eq ⟨⟨by omega, by omega⟩, by decide⟩, if_neg (by omega)]
      exact y1
    have hU := hr.2.2.1
    obtain ⟨r, q, par, lt, lev, w, hF, hl, -⟩ := x2
    obtain ⟨lf, V, hm, hLk⟩ := y2
    have hR : ∀ x t, x < 3 ^ σ 0 0 → t < σ 0 0 → (∃ j, j < r ∧ q j = x) → CanP σ x t → ∃ j, j < r ∧ q j = pmN x t := by
      rintro x t hx ht ⟨j, j1, rfl⟩ hC
      obtain ⟨k, k1, k2, -⟩ := hF.succ j1 ht hC
      exact ⟨k, k1, k2⟩
    obtain ⟨U1, a1, a2, a3, a4⟩ := see_first h.1 hU (fun S10 => f6_states_L56 (fun v1_15 S14 => f6_states_L72 (fun v2_23 v3_24 S22 => some (v2_23, S22)) FU 0 0 S14) FU 1 S10)
    have hU1 : ShM σ U1 := ShM_of hU ⟨by rw [a1 0 (by omega)], by rw [a1 0 (by omega)], by rw [a1 0 (by omega)]⟩ (fun j hj => a1 j (by omega))
    have cl := cnP_le (fun y => ¬ y = σ 0 1) (3 ^ σ 0 0)
    obtain ⟨U2, b1, b2, Z, z1, z2, z3, z5, z6⟩ := see_rounds (Rc := fun x => ∃ j, j < r ∧ q j = x) h.1 hR (fun S14 => f6_states_L72 (fun v2_23 v3_24 S22 => some (v2_23, S22)) FU 0 0 S14) FU (fun y => y = σ 0 1) U1 hU1 (fun x hx => CnM_of (hLk x hx).1 (by rw [a1 17 (by omega)])) a3 (fun y hy g => ⟨0, hF.1.1, hF.1.2.1.trans (Eq.symm g)⟩) (by rw [FU_eq]; omega)
    have hU2 : ShM σ U2 := ShM_of hU1 ⟨by rw [b1 0 (by omega)], by rw [b1 0 (by omega)], by rw [b1 0 (by omega)]⟩ (fun j hj => b1 j (by omega))
    have ct := see_count h.1 hU2 z1 (fun v2_23 S22 => some (v2_23, S22))
    rw [seen_all (Z := Z) hF (z2 (σ 0 1) rfl) z5 z3] at ct
    have e20 : ∀ j, j ≠ 20 → U2.1 j = U.1 j := fun j hj => (b1 j hj).trans (a1 j hj)
    refine ⟨iI r, T, U2, by rw [fX, hl.1], fM.trans (a4.trans (z6.trans ct)), σ, ?_⟩
    refine rel_keep clPX hr (fun _ _ => rfl) rfl ?_ (fun j hj => e20 j (by omega)) (b2.trans a2) ?_ ?_ ?_ ?_
    · rw [e20 0 (by omega)]; exact ⟨rfl, rfl, rfl, rfl⟩
    · exact rd_keep hr.2.2.2.1 rfl (by rw [e20 0 (by omega)]) rfl (e20 21 (by omega))
    · rw [e20 0 (by omega)]; exact hr.2.2.2.2.1
    · rw [e20 0 (by omega)]; exact hr.2.2.2.2.2.1
    · exact sk_keep hr.2.2.2.2.2.2.1 (fun _ _ => rfl) (fun j hj => e20 j (by omega))
