/-! PURE PART 35: what the reference prepares -/
noncomputable def cI (p : Prop) (a b : Int) : Int := @ite Int p (Classical.propDecidable p) a b
theorem cI_t {p : Prop} (h : p) (a b : Int) : cI p a b = a := by unfold cI; exact if_pos h
theorem cI_f {p : Prop} (h : ¬ p) (a b : Int) : cI p a b = b := by unfold cI; exact if_neg h
theorem or0_all : ∀ a, a < 64 → iI (a : Nat) ||| 0 = iI (a : Nat) := by decide +kernel
def SrM (S T : MS) : Prop := (∀ j, j ≠ 0 → ¬ (15 ≤ j ∧ j ≤ 18) → T.1 j = S.1 j) ∧ (∀ f, f < 25 ∨ 27 < f → T.1 0 f = S.1 0 f)
def SrN (S T : MS) : Prop := (∀ j, j ≠ 0 → ¬ (15 ≤ j ∧ j ≤ 18) → T.1 j = S.1 j) ∧ (∀ f, f < 25 ∨ 28 < f → T.1 0 f = S.1 0 f)
theorem SrM.rf (S : MS) : SrM S S := ⟨fun _ _ _ => rfl, fun _ _ => rfl⟩
theorem SrM.tr {a b c : MS} (h1 : SrM a b) (h2 : SrM b c) : SrM a c := ⟨fun j a b => (h2.1 j a b).trans (h1.1 j a b), fun f hf => (h2.2 f hf).trans (h1.2 f hf)⟩
theorem SrM.sh {σ : Sg} {S T : MS} (h : SrM S T) (hS : ShM σ S) : ShM σ T := ShM_of hS ⟨h.2 6 (by omega), h.2 14 (by omega), h.2 13 (by omega)⟩ (fun j hj => h.1 j (by omega) (by omega))
theorem SrM.sm {σ : Sg} {S T : MS} (h : SmM σ S T) : SrM S T := ⟨fun j a b => h.cell a (by omega) (by omega), fun f hf => h.zero (by omega)⟩
theorem SrM.s1 (S : MS) {j f : Nat} (v : Int32) (hj : 15 ≤ j ∧ j ≤ 18) : SrM S (sI S j f v) := ⟨fun q a b => sI_cell _ _ _ (by omega), fun f hf => by rw [sI_cell _ _ _ (by omega)]⟩
theorem SrM.l1 (S : MS) (j f : Nat) (v : Int64) : SrM S (sL S j f v) := ⟨fun _ _ _ => rfl, fun _ _ => rfl⟩
def CnM (σ : Sg) (T : MS) (x : Nat) : Prop := ∃ c : Nat, c < 64 ∧ T.1 17 x = iI c ∧ ∀ t, t < σ 0 0 → (bt c t = true ↔ CanP σ x t)
theorem M_can {α : Type} {σ : Sg} (h : Gd σ) {S : MS} (hS : ShM σ S) {x : Nat} (hx : x < 729) (h17 : S.1 17 x = iI 0) (KX : Int32 → MS → Option α) : ∃ T, (SrM S T ∧ T.2 = S.2 ∧ T.1 18 = S.1 18 ∧ (∀ y, y ≠ x → T.1 17 y = S.1 17 y) ∧ CnM σ T x) ∧ f6_prepare_L24 (iI x) KX FU (iI 0) S = KX (iI (σ 0 0)) T := by
  have hn6 := h.1
  obtain ⟨s', h1, h2⟩ := loop_rel (σ := Int32 × MS) (L := fun fuel s => f6_prepare_L24 (iI x) KX fuel s.1 s.2) (KX := fun s => KX s.1 s.2) (σ 0 0) (fun t s => s.1 = iI t ∧ SrM S s.2 ∧ s.2.2 = S.2 ∧ s.2.1 18 = S.1 18 ∧ (∀ y, y ≠ x → s.2.1 17 y = S.1 17 y) ∧ ∃ c : Nat, c < 64 ∧ s.2.1 17 x = iI c ∧ ∀ u, u < 6 → (bt c u = true ↔ u < t ∧ CanP σ x u))
    (by
      intro fuel t s hit ⟨e1, b1, b2, b3, b4, c, c1, c2, c3⟩
      obtain ⟨v, T⟩ := s
      dsimp only at e1 b1 b2 b3 b4 c2 ⊢
      subst e1
      have hT := b1.sh hS
      obtain ⟨T1, sm, em⟩ := f6_canPump_eq h hT hx hit
      have nx : iI (t : Int) + 1 = iI (t + 1 : Nat) := by rw [show (1 : Int32) = iI 1 from rfl, iI_add]; rfl
      obtain ⟨o1, o2, o3⟩ := orN_all c c1 t (by omega)
      rw [f6_prepare_L24, hT.1, ite_le ⟨⟨by omega, by omega⟩, ⟨by omega, by omega⟩⟩, if_neg (by omega), ck_nat hx (by omega), em, ite_bI, ck_nat hx (by omega), ck_nat hx (by omega), c2, or0_all c c1, o1]
      simp only [nm_eq, nx]
      by_cases hc : CanP σ x t
      · rw [if_pos hc]
        refine ⟨(iI (t + 1 : Nat), sI T1 17 x (iI (orN c t))), ⟨rfl, b1.tr ((SrM.sm sm).tr (SrM.s1 _ _ (by omega))), ?_, ?_, fun y hy => ?_, orN c t, o2, sI_same _ _ _ _, fun u hu => ?_⟩, rfl⟩
        · dsimp only; rw [sI_2, sm.two]; exact b2
        · dsimp only; rw [sI_cell _ _ _ (by omega), sm.cell (by omega) (by omega) (by omega)]; exact b3
        · dsimp only; rw [sI_place _ _ _ hy, sm.cell (by omega) (by omega) (by omega)]; exact b4 y hy
        · rw [o3 u hu]
          by_cases d : u = t
          · subst d
            rw [if_pos rfl]
            exact ⟨fun _ => ⟨by omega, hc⟩, fun _ => rfl⟩
          · rw [if_neg d, c3 u hu]
            constructor
            · intro g; exact ⟨by omega, g.2⟩
            · intro g; exact ⟨by omega, g.2⟩
      · rw [if_neg hc]
        refine ⟨(iI (t + 1 : Nat), sI T1 17 x (iI c)), ⟨rfl, b1.tr ((SrM.sm sm).tr (SrM.s1 _ _ (by omega))), ?_, ?_, fun y hy => ?_, c, c1, sI_same _ _ _ _, fun u hu => ?_⟩, rfl⟩
        · dsimp only; rw [sI_2, sm.two]; exact b2
        · dsimp only; rw [sI_cell _ _ _ (by omega), sm.cell (by omega) (by omega) (by omega)]; exact b3
        · dsimp only; rw [sI_place _ _ _ hy, sm.cell (by omega) (by omega) (by omega)]; exact b4 y hy
        · rw [c3 u hu]
          constructor
          · intro g; exact ⟨by omega, g.2⟩
          · intro g
            refine ⟨?_, g.2⟩
            by_cases d : u = t
            · subst d; exact absurd g.2 hc
            · omega)
    (by
      intro fuel s ⟨e1, b1, _⟩
      obtain ⟨v, T⟩ := s
      dsimp only at e1 b1 ⊢
      subst e1
      rw [f6_prepare_L24, (b1.sh hS).1, ite_le ⟨⟨by omega, by omega⟩, ⟨by omega, by omega⟩⟩, if_pos (by omega)])
    FU 0 (iI 0, S) (by omega) (by rw [FU_eq]; omega) ⟨rfl, SrM.rf S, rfl, rfl, fun _ _ => rfl, 0, by omega, h17, fun u hu => by
      rw [bt_zero u hu]
      constructor
      · intro g; cases g
      · intro g; have := g.1; omega⟩
  obtain ⟨v, T⟩ := s'
  obtain ⟨e1, b1, b2, b3, b4, c, c1, c2, c3⟩ := h1
  dsimp only at e1 b1 b2 b3 b4 c2 h2
  subst e1
  refine ⟨T, ⟨b1, b2, b3, b4, c, c1, c2, fun t ht => (c3 t (by omega)).trans ⟨fun g => g.2, fun g => ⟨ht, g⟩⟩⟩, h2⟩
noncomputable def lf0 (σ : Sg) (x : Nat) : Int := cI (Gl σ x) 0 (-9)
noncomputable def V0 (σ : Sg) (x : Nat) : Nat := iN (Gl σ x) 1
def LkM (σ : Sg) (T : MS) (lf : Nat → Int) (V : Nat → Nat) (m : Nat) : Prop := ∀ x, x < m → CnM σ T x ∧ T.1 18 x = iI (lf x) ∧ T.2 19 x = Int64.ofInt ((V x : Nat) : Int)
theorem CnM_of {σ : Sg} {S T : MS} {x : Nat} (h : CnM σ S x) (e : T.1 17 x = S.1 17 x) : CnM σ T x := by
  obtain ⟨c, c1, c2, c3⟩ := h
  exact ⟨c, c1, by rw [e]; exact c2, c3⟩
theorem M_prepare {α : Type} {σ : Sg} (h : Gd σ) {S : MS} (hS : ShM σ S) (K : MS → Option α) : ∃ T, SrM S T ∧ LkM σ T (lf0 σ) (V0 σ) (3 ^ σ 0 0) ∧ f6_prepare S K = K T := by
  have hn6 := h.1
  have h3 := p3_bd hn6
  unfold f6_prepare
  obtain ⟨s', h1, h2⟩ := loop_rel (σ := Int32 × MS) (L := fun fuel s => f6_prepare_L2 (fun _ S26 => K S26) fuel s.1 s.2) (KX := fun s => K s.2) (3 ^ σ 0 0) (fun x s => s.1 = iI x ∧ SrM S s.2 ∧ LkM σ s.2 (lf0 σ) (V0 σ) x)
    (by
      intro fuel x s hit ⟨e1, b1, b2⟩
      obtain ⟨v, T⟩ := s
      dsimp only at e1 b1 b2 ⊢
      subst e1
      have hT := b1.sh hS
      have x7 : x < 729 := by omega
      have sc : SrM T (sI T 17 x (iI 0)) := SrM.s1 _ _ (by omega)
      have nx : iI (x : Int) + 1 = iI (x + 1 : Nat) := by rw [show (1 : Int32) = iI 1 from rfl, iI_add]; rfl
      rw [f6_prepare_L2, hT.1, ck_nat (show σ 0 0 < 7 by omega) (by omega), hT.2.2.2.2.2.2 _ (by omega), ite_le ⟨⟨by omega, by omega⟩, ⟨by omega, by omega⟩⟩, if_neg (by omega), ck_nat x7 (by omega), nm_eq, show (0 : Int32) = iI 0 from rfl]
      obtain ⟨T1, ⟨a1, a2, a3, a4, a5⟩, a6⟩ := M_can h (sc.sh hT) x7 (sI_same _ _ _ _) (fun v2_14 S13 => f6_isEnd (iI x) S13 fun r16 S15 => if r16 = iI 0 then (f6_prepare_J82 (iI x) (-9) (iI x) S15 (f6_prepare_L2 (fun _ S26 => K S26) fuel) (fun _ S26 => K S26)) else (f6_prepare_J82 (iI x) (iI 0) (iI x) S15 (f6_prepare_L2 (fun _ S26 => K S26) fuel) (fun _ S26 => K S26)))
      have hT1 := a1.sh (sc.sh hT)
      have key : ∀ (z : Int) (g : Nat), z = lf0 σ x → g = V0 σ x → ∀ y, y < x + 1 → CnM σ (sL (sI T1 18 x (iI z)) 19 x (Int64.ofInt (g : Int))) y ∧ (sL (sI T1 18 x (iI z)) 19 x (Int64.ofInt (g : Int))).1 18 y = iI (lf0 σ y) ∧ (sL (sI T1 18 x (iI z)) 19 x (Int64.ofInt (g : Int))).2 19 y = Int64.ofInt ((V0 σ y : Nat) : Int) := by
        intro z g ez eg y hy
        by_cases d : y = x
        · subst d
          refine ⟨CnM_of a5 (by simp (disch := omega) only [sL_1, rfS_cell, sI_cell, sI_place, sI_same, sI_2]), ?_, ?_⟩
          · rw [sL_1, sI_same, ez]
          · rw [sL_same, eg]
        · obtain ⟨y1, y2, y3⟩ := b2 y (by omega)
          refine ⟨CnM_of y1 ?_, ?_, ?_⟩
          · simp (disch := omega) only [sL_1, rfS_cell, sI_cell, sI_place, sI_same, sI_2]; rw [a4 y d]; simp (disch := omega) only [rfS_cell, sI_cell, sI_place, sI_same, sI_2]
          · simp (disch := omega) only [sL_1, rfS_cell, sI_cell, sI_place, sI_same, sI_2]; rw [a3]; simp (disch := omega) only [rfS_cell, sI_cell, sI_place, sI_same, sI_2]; exact y2
          · rw [sL_place _ _ _ d, sI_2, a2, sI_2]; exact y3
      have sr : ∀ (z : Int) (g : Nat), SrM S (sL (sI T1 18 x (iI z)) 19 x (Int64.ofInt (g : Int))) := fun z g => b1.tr (sc.tr (a1.tr ((SrM.s1 _ _ (by omega)).tr (SrM.l1 _ _ _ _))))
      by_cases c : Gl σ x
      · refine ⟨(iI (x + 1 : Nat), sL (sI T1 18 x (iI 0)) 19 x (Int64.ofInt ((1 : Nat) : Int))), ⟨rfl, sr 0 1, key 0 1 (by unfold lf0; rw [cI_t c]) (by unfold V0; rw [iN_t c])⟩, ?_⟩
        refine a6.trans ?_
        rw [f6_isEnd_eq h hT1 x7, bI_t c, if_neg (by decide)]
        unfold f6_prepare_J82
        rw [ck_nat x7 (by omega), nm_eq, ck_nat x7 (by omega), sI_same, if_pos (by decide), ck_nat x7 (by omega), nm_eq, nm_eq, nx]
        rfl
      · refine ⟨(iI (x + 1 : Nat), sL (sI T1 18 x (iI (-9))) 19 x (Int64.ofInt ((0 : Nat) : Int))), ⟨rfl, sr (-9) 0, key (-9) 0 (by unfold lf0; rw [cI_f c]) (by unfold V0; rw [iN_f c])⟩, ?_⟩
        refine a6.trans ?_
        rw [f6_isEnd_eq h hT1 x7, bI_f c, if_pos rfl]
        unfold f6_prepare_J82
        rw [ck_nat x7 (by omega), nm_eq, ck_nat x7 (by omega), sI_same, if_neg (by decide), ck_nat x7 (by omega), nm_eq, nm_eq, nx]
        rfl)
    (by
      intro fuel s ⟨e1, b1, b2⟩
      obtain ⟨v, T⟩ := s
      dsimp only at e1 b1 b2 ⊢
      subst e1
      have hT := b1.sh hS
      rw [f6_prepare_L2, hT.1, ck_nat (show σ 0 0 < 7 by omega) (by omega), hT.2.2.2.2.2.2 _ (by omega), ite_le ⟨⟨by omega, by omega⟩, ⟨by omega, by omega⟩⟩, if_pos (by omega)])
    FU 0 (iI 0, S) (by omega) (by rw [FU_eq]; omega) ⟨rfl, SrM.rf S, fun y hy => by omega⟩
  obtain ⟨v, T⟩ := s'
  obtain ⟨e1, b1, b2⟩ := h1
  exact ⟨T, b1, b2, h2⟩
