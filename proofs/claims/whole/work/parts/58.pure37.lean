/-! PURE PART 37: a round of the reference -/
theorem pm_ne : ∀ x, x < 729 → ∀ t, t < 6 → pmN x t ≠ x := by decide +kernel
def Hs (σ : Sg) (k : Nat) (lf : Nat → Int) (x t : Nat) : Prop := ∃ u, u < t ∧ CanP σ x u ∧ lf (pmN x u) = (k : Int) - 1
theorem Hs_s {σ : Sg} {k : Nat} {lf : Nat → Int} {x t : Nat} : Hs σ k lf x (t + 1) ↔ Hs σ k lf x t ∨ (CanP σ x t ∧ lf (pmN x t) = (k : Int) - 1) := by
  constructor
  · rintro ⟨u, h1, h2⟩
    by_cases e : u = t
    · subst e; exact Or.inr h2
    · exact Or.inl ⟨u, by omega, h2⟩
  · rintro (⟨u, h1, h2⟩ | h2)
    · exact ⟨u, by omega, h2⟩
    · exact ⟨t, by omega, h2⟩
theorem M_in {α : Type} {σ : Sg} (h : Gd σ) {T0 : MS} (hS : ShM σ T0) {x k : Nat} (hx : x < 3 ^ σ 0 0) (hk : 1 ≤ k ∧ k ≤ 1000) {lf : Nat → Int} {V : Nat → Nat} (hc : CnM σ T0 x) (h18 : T0.1 18 x = iI (-9)) (h19 : T0.2 19 x = Int64.ofInt 0)
    (hn : ∀ t, t < σ 0 0 → CanP σ x t → ∃ g : Int, T0.1 18 (pmN x t) = iI g ∧ rg g ∧ (g = (k : Int) - 1 ↔ lf (pmN x t) = (k : Int) - 1) ∧ (lf (pmN x t) = (k : Int) - 1 → T0.2 19 (pmN x t) = Int64.ofInt ((V (pmN x t) : Nat) : Int))) (A : Prop) (KX : Int32 → MS → Option α) :
    ∃ T, ((∀ j, j ≠ 18 → T.1 j = T0.1 j) ∧ (∀ y, y ≠ x → T.1 18 y = T0.1 18 y) ∧ T.1 18 x = iI (cI (Hs σ k lf x (σ 0 0)) k (-9)) ∧ (∀ y, y ≠ x → T.2 19 y = T0.2 19 y) ∧ T.2 19 x = Int64.ofInt ((sN (σ 0 0) (fun t => iN (CanP σ x t ∧ lf (pmN x t) = (k : Int) - 1) (V (pmN x t))) : Nat) : Int)) ∧ f6_findNext_L20 (iI k) (iI x) (fun a _ S => KX a S) FU (iI (bI A)) (iI 0) T0 = KX (iI (bI (A ∨ Hs σ k lf x (σ 0 0)))) T := by
  have hn6 := h.1
  have h3 := p3_bd hn6
  have x7 : x < 729 := by omega
  obtain ⟨c, c1, c2, c3⟩ := hc
  obtain ⟨s', h1, h2⟩ := loop_rel (σ := Int32 × Int32 × MS) (L := fun fuel s => f6_findNext_L20 (iI k) (iI x) (fun a _ S => KX a S) fuel s.1 s.2.1 s.2.2) (KX := fun s => KX s.1 s.2.2) (σ 0 0) (fun t s => s.1 = iI (bI (A ∨ Hs σ k lf x t)) ∧ s.2.1 = iI t ∧ (∀ j, j ≠ 18 → s.2.2.1 j = T0.1 j) ∧ (∀ y, y ≠ x → s.2.2.1 18 y = T0.1 18 y) ∧ s.2.2.1 18 x = iI (cI (Hs σ k lf x t) k (-9)) ∧ (∀ y, y ≠ x → s.2.2.2 19 y = T0.2 19 y) ∧ s.2.2.2 19 x = Int64.ofInt ((sN t (fun t => iN (CanP σ x t ∧ lf (pmN x t) = (k : Int) - 1) (V (pmN x t))) : Nat) : Int))
    (by
      intro fuel t s hit ⟨e0, e1, b1, b2, b3, b4, b5⟩
      obtain ⟨a, v, T⟩ := s
      dsimp only at e0 e1 b1 b2 b3 b4 b5 ⊢
      subst e1
      have hT : ShM σ T := ShM_of hS ⟨by rw [b1 0 (by omega)], by rw [b1 0 (by omega)], by rw [b1 0 (by omega)]⟩ (fun j hj => b1 j (by omega))
      have nx : iI (t : Int) + 1 = iI (t + 1 : Nat) := by rw [show (1 : Int32) = iI 1 from rfl, iI_add]; rfl
      have E1 : f6_findNext_L20 (iI k) (iI x) (fun a _ S => KX a S) (fuel + 1) a (iI t) T = f6_findNext_J50 (iI k) a (iI x) (iI t) T (f6_findNext_L20 (iI k) (iI x) (fun a _ S => KX a S) fuel) (fun a _ S => KX a S) := by
        rw [f6_findNext_L20, hT.1, ite_le ⟨⟨by omega, by omega⟩, ⟨by omega, by omega⟩⟩, if_neg (by omega), ck_nat x7 (by omega), b3, ck_nat x7 (by omega), b3]
        by_cases d : Hs σ k lf x t
        · have n9 : ¬ iI (k : Int) = (-9 : Int32) := fun g => by
            rw [show (-9 : Int32) = iI (-9) from rfl, iI_eq ⟨by omega, by omega⟩ ⟨by omega, by omega⟩] at g
            omega
          rw [cI_t d, if_neg n9, if_pos rfl]
        · rw [cI_f d, if_pos (by decide)]
      rw [E1]
      unfold f6_findNext_J50
      rw [ck_nat x7 (by omega), b1 17 (by omega), c2, bit_all c c1 t (by omega)]
      have st : sN (t + 1) (fun t => iN (CanP σ x t ∧ lf (pmN x t) = (k : Int) - 1) (V (pmN x t))) = sN t (fun t => iN (CanP σ x t ∧ lf (pmN x t) = (k : Int) - 1) (V (pmN x t))) + iN (CanP σ x t ∧ lf (pmN x t) = (k : Int) - 1) (V (pmN x t)) := rfl
      have same : ¬ (CanP σ x t ∧ lf (pmN x t) = (k : Int) - 1) → f6_findNext_L20 (iI k) (iI x) (fun a _ S => KX a S) fuel a (iI (t + 1 : Nat)) T = f6_findNext_L20 (iI k) (iI x) (fun a _ S => KX a S) fuel a (iI (t + 1 : Nat)) T ∧ (a = iI (bI (A ∨ Hs σ k lf x (t + 1))) ∧ T.1 18 x = iI (cI (Hs σ k lf x (t + 1)) k (-9)) ∧ T.2 19 x = Int64.ofInt ((sN (t + 1) (fun t => iN (CanP σ x t ∧ lf (pmN x t) = (k : Int) - 1) (V (pmN x t))) : Nat) : Int)) := by
        intro g
        have eh : Hs σ k lf x (t + 1) ↔ Hs σ k lf x t := by rw [Hs_s]; exact ⟨fun q => q.elim id (fun q => absurd q g), Or.inl⟩
        have eh2 : Hs σ k lf x (t + 1) = Hs σ k lf x t := propext eh
        rw [eh2, st, iN_f g, Nat.add_zero]
        exact ⟨rfl, e0, b3, b5⟩
      by_cases d : bt c t = true
      · have hC : CanP σ x t := (c3 t hit).mp d
        obtain ⟨g, g1, g2, g3, g4⟩ := hn t hit hC
        have y7 : pmN x t < 729 := (pm_all x x7 t (by omega)).1
        have yx := pm_ne x x7 t (by omega)
        rw [d, if_pos rfl, if_pos rfl]
        unfold f6_findNext_J70
        rw [if_neg (by decide), f6_pumped_eq x7 (by omega) hT]
        unfold f6_findNext_J88
        rw [if_neg (by decide), ck_nat y7 (by omega), b2 _ yx, g1, show (1 : Int32) = iI 1 from rfl, iI_sub, ite_eq ⟨g2, ⟨by omega, by omega⟩⟩]
        by_cases e : g = (k : Int) - 1
        · have e2 := g3.mp e
          have hH : Hs σ k lf x (t + 1) := Hs_s.mpr (Or.inr ⟨hC, e2⟩)
          rw [if_pos e, ck_nat x7 (by omega), nm_eq, ck_nat x7 (by omega), ck_nat y7 (by omega), ck_nat x7 (by omega), nm_eq, nm_eq, show iI 1 = (1 : Int32) from rfl, nx, sI_2, b5, b4 _ yx, g4 e2, j_add]
          refine ⟨(iI (bI (A ∨ Hs σ k lf x (t + 1))), iI (t + 1 : Nat), sL (sI T 18 x (iI k)) 19 x (Int64.ofInt ((sN t (fun t => iN (CanP σ x t ∧ lf (pmN x t) = (k : Int) - 1) (V (pmN x t))) + V (pmN x t) : Nat) : Int))), ⟨rfl, rfl, fun j hj => ?_, fun y hy => ?_, ?_, fun y hy => ?_, ?_⟩, ?_⟩
          · dsimp only; rw [sL_1, sI_cell _ _ _ hj]; exact b1 j hj
          · dsimp only; rw [sL_1, sI_place _ _ _ hy]; exact b2 y hy
          · dsimp only; rw [sL_1, sI_same, cI_t hH]
          · dsimp only; rw [sL_place _ _ _ hy, sI_2]; exact b4 y hy
          · dsimp only; rw [sL_same, st, iN_t ⟨hC, e2⟩]
          · dsimp only; rw [bI_t (Or.inr hH)]; rfl
        · rw [if_neg e, nm_eq, show iI 1 = (1 : Int32) from rfl, nx]
          obtain ⟨-, s1, s2, s3⟩ := same (fun q => e (g3.mpr q.2))
          exact ⟨(a, iI (t + 1 : Nat), T), ⟨s1, rfl, b1, b2, s2, b4, s3⟩, rfl⟩
      · have d' : bt c t = false := by cases q : bt c t
                                       · rfl
                                       · exact absurd q d
        rw [d', if_neg (show ¬ (false = true) by decide), if_neg (by decide)]
        unfold f6_findNext_J70
        rw [if_pos rfl]
        unfold f6_findNext_J88
        rw [if_pos rfl, nm_eq, nx]
        obtain ⟨-, s1, s2, s3⟩ := same (fun q => d ((c3 t hit).mpr q.1))
        exact ⟨(a, iI (t + 1 : Nat), T), ⟨s1, rfl, b1, b2, s2, b4, s3⟩, rfl⟩)
    (by
      intro fuel s ⟨e0, e1, b1, b2, b3, b4, b5⟩
      obtain ⟨a, v, T⟩ := s
      dsimp only at e0 e1 b1 b2 b3 b4 b5 ⊢
      subst e1
      have hT : T.1 0 6 = iI (σ 0 0) := by rw [b1 0 (by omega)]; exact hS.1
      rw [f6_findNext_L20, hT, ite_le ⟨⟨by omega, by omega⟩, ⟨by omega, by omega⟩⟩, if_pos (by omega)])
    FU 0 (iI (bI A), iI 0, T0) (by omega) (by rw [FU_eq]; omega) (by
      have n0 : ¬ Hs σ k lf x 0 := fun ⟨u, hu, _⟩ => by omega
      refine ⟨?_, rfl, fun _ _ => rfl, fun _ _ => rfl, ?_, fun _ _ => rfl, h19⟩
      · dsimp only
        rw [bI_congr (q := A) ⟨fun g => g.elim id (fun g => absurd g n0), Or.inl⟩]
      · dsimp only; rw [cI_f n0]; exact h18)
  obtain ⟨a, v, T⟩ := s'
  obtain ⟨e0, e1, b1, b2, b3, b4, b5⟩ := h1
  dsimp only at e0 e1 b1 b2 b3 b4 b5 h2
  subst e0
  exact ⟨T, ⟨b1, b2, b3, b4, b5⟩, h2⟩
theorem M_out {α : Type} {σ : Sg} (h : Gd σ) {T0 : MS} (hS : ShM σ T0) {x k : Nat} (hx : x < 729) {z : Int} (hz : 0 ≤ z ∧ z < k) (hk : k ≤ 1000) (h18 : T0.1 18 x = iI z) (a : Int32) (KX : Int32 → MS → Option α) : f6_findNext_L20 (iI k) (iI x) (fun a _ S => KX a S) FU a (iI 0) T0 = KX a T0 := by
  have hn6 := h.1
  obtain ⟨f, hf⟩ : ∃ f, FU = f + 1 := ⟨799, by rw [FU_eq]⟩
  rw [hf, f6_findNext_L20, hS.1, ite_le ⟨⟨by omega, by omega⟩, by decide⟩]
  by_cases c : (σ 0 0 : Int) ≤ 0
  · rw [if_pos c]
  · rw [if_neg c, ck_nat hx (by omega), h18, show (-9 : Int32) = iI (-9) from rfl, ite_eq ⟨⟨by omega, by omega⟩, by decide⟩, if_neg (by omega), ck_nat hx (by omega), h18, ite_eq ⟨⟨by omega, by omega⟩, ⟨by omega, by omega⟩⟩, if_neg (by omega)]
theorem M_round {α : Type} {σ : Sg} (h : Gd σ) {S : MS} (hS : ShM σ S) {k : Nat} (hk : 1 ≤ k ∧ k ≤ 1000) {lf : Nat → Int} {V : Nat → Nat} (hN : NI (3 ^ σ 0 0) (σ 0 0) (CanP σ) pmN (Gl σ) k lf V) (hL : LkM σ S lf V (3 ^ σ 0 0)) (K : Int32 → MS → Option α) : ∃ T, (∀ j, j ≠ 18 → T.1 j = S.1 j) ∧ LkM σ T (lfN (σ 0 0) (CanP σ) pmN k lf) (VN (σ 0 0) (CanP σ) pmN k lf V) (3 ^ σ 0 0) ∧ f6_findNext (iI k) S K = K (iI (bI (∃ y, y < 3 ^ σ 0 0 ∧ Nw (σ 0 0) (CanP σ) pmN k lf y))) T := by
  have hn6 := h.1
  have h3 := p3_bd hn6
  have hp : ∀ x t, x < 3 ^ σ 0 0 → t < σ 0 0 → pmN x t < 3 ^ σ 0 0 := fun x t hx ht => pm_ltn _ hn6 x hx t ht
  unfold f6_findNext
  obtain ⟨s', h1, h2⟩ := loop_rel (σ := Int32 × Int32 × MS) (L := fun fuel s => f6_findNext_L4 (iI k) (fun v2 _ S21 => zb v2 (K v2 S21)) fuel s.1 s.2.1 s.2.2) (KX := fun s => zb s.1 (K s.1 s.2.2)) (3 ^ σ 0 0) (fun x s => s.1 = iI (bI (∃ y, y < x ∧ Nw (σ 0 0) (CanP σ) pmN k lf y)) ∧ s.2.1 = iI x ∧ (∀ j, j ≠ 18 → s.2.2.1 j = S.1 j) ∧ ∀ y, y < 3 ^ σ 0 0 → s.2.2.1 18 y = iI (if y < x then lfN (σ 0 0) (CanP σ) pmN k lf y else lf y) ∧ s.2.2.2 19 y = Int64.ofInt ((if y < x then VN (σ 0 0) (CanP σ) pmN k lf V y else V y : Nat) : Int))
    (by
      intro fuel x s hit ⟨e0, e1, b1, b2⟩
      obtain ⟨a, v, T⟩ := s
      dsimp only at e0 e1 b1 b2 ⊢
      subst e1
      subst e0
      have hT : ShM σ T := ShM_of hS ⟨by rw [b1 0 (by omega)], by rw [b1 0 (by omega)], by rw [b1 0 (by omega)]⟩ (fun j hj => b1 j (by omega))
      have nx : iI (x : Int) + 1 = iI (x + 1 : Nat) := by rw [show (1 : Int32) = iI 1 from rfl, iI_add]; rfl
      have bx := b2 x hit
      rw [if_neg (Nat.lt_irrefl x), if_neg (Nat.lt_irrefl x)] at bx
      rw [f6_findNext_L4, hT.1, ck_nat (show σ 0 0 < 7 by omega) (by omega), hT.2.2.2.2.2.2 _ (by omega), ite_le ⟨⟨by omega, by omega⟩, ⟨by omega, by omega⟩⟩, if_neg (by omega), show (0 : Int32) = iI 0 from rfl]
      simp only [nm_eq, nx]
      by_cases c9 : lf x = -9
      · have hv0 := (hN.2.2.2.2 x hit).1 c9
        rw [c9, hv0] at bx
        obtain ⟨T', ⟨a1, a2, a3, a4, a5⟩, a6⟩ := M_in h hT hit hk (lf := lf) (V := V) (CnM_of (hL x hit).1 (by rw [b1 17 (by omega)])) bx.1 bx.2 (fun t ht hC => by
          have hy := hp x t hit ht
          have b := b2 (pmN x t) hy
          refine ⟨_, b.1, ?_, ?_, fun g => ?_⟩
          · have r := hN.1 (pmN x t) hy
            split
            · by_cases d : Nw (σ 0 0) (CanP σ) pmN k lf (pmN x t)
              · rw [lfN_t d]; exact ⟨by omega, by omega⟩
              · rw [lfN_f d]; exact ⟨by omega, by omega⟩
            · exact ⟨by omega, by omega⟩
          · split
            · exact lfN_eq (by omega)
            · exact Iff.rfl
          · rw [b.2]
            split
            · rw [VN_f (fun d => by have := d.1; omega)]
            · rfl) (∃ y, y < x ∧ Nw (σ 0 0) (CanP σ) pmN k lf y) (fun v2_18 S17 => f6_findNext_L4 (iI k) (fun v2 _ S21 => zb v2 (K v2 S21)) fuel v2_18 (iI (x + 1 : Nat)) S17)
        have eN : Nw (σ 0 0) (CanP σ) pmN k lf x ↔ Hs σ k lf x (σ 0 0) := ⟨fun g => g.2, fun g => ⟨c9, g⟩⟩
        refine ⟨(iI (bI (∃ y, y < x + 1 ∧ Nw (σ 0 0) (CanP σ) pmN k lf y)), iI (x + 1 : Nat), T'), ⟨rfl, rfl, fun j hj => (a1 j hj).trans (b1 j hj), fun y hy => ?_⟩, ?_⟩
        · dsimp only
          by_cases d : y = x
          · subst d
            rw [if_pos (by omega), if_pos (by omega), a3, a5]
            by_cases e : Nw (σ 0 0) (CanP σ) pmN k lf y
            · rw [cI_t (eN.mp e), lfN_t e, VN_t e]; exact ⟨rfl, rfl⟩
            · rw [cI_f (fun g => e (eN.mpr g)), lfN_f e, VN_f e, c9, hv0]
              refine ⟨rfl, ?_⟩
              rw [sN_zero (fun t ht => iN_f (fun g => e ⟨c9, t, ht, g.1, g.2⟩) _)]
          · rw [a2 y d, a4 y d]
            have b := b2 y hy
            by_cases e : y < x
            · rw [if_pos (by omega), if_pos (by omega)]; rw [if_pos e, if_pos e] at b; exact b
            · rw [if_neg (by omega), if_neg (by omega)]; rw [if_neg e, if_neg e] at b; exact b
        · dsimp only
          refine a6.trans ?_
          rw [bI_congr (p := (∃ y, y < x ∧ Nw (σ 0 0) (CanP σ) pmN k lf y) ∨ Hs σ k lf x (σ 0 0)) (q := ∃ y, y < x + 1 ∧ Nw (σ 0 0) (CanP σ) pmN k lf y)]
          constructor
          · rintro (⟨y, g1, g2⟩ | g)
            · exact ⟨y, by omega, g2⟩
            · exact ⟨x, by omega, eN.mpr g⟩
          · rintro ⟨y, g1, g2⟩
            by_cases d : y = x
            · subst d; exact Or.inr (eN.mp g2)
            · exact Or.inl ⟨y, by omega, g2⟩
      · have r := hN.1 x hit
        have nN : ¬ Nw (σ 0 0) (CanP σ) pmN k lf x := fun g => c9 g.1
        rw [M_out h hT (by omega) (z := lf x) (by omega) hk.2 bx.1]
        refine ⟨(iI (bI (∃ y, y < x + 1 ∧ Nw (σ 0 0) (CanP σ) pmN k lf y)), iI (x + 1 : Nat), T), ⟨rfl, rfl, b1, fun y hy => ?_⟩, ?_⟩
        · dsimp only
          by_cases d : y = x
          · subst d
            rw [if_pos (by omega), if_pos (by omega), lfN_f nN, VN_f nN]
            exact bx
          · have b := b2 y hy
            by_cases e : y < x
            · rw [if_pos (by omega), if_pos (by omega)]; rw [if_pos e, if_pos e] at b; exact b
            · rw [if_neg (by omega), if_neg (by omega)]; rw [if_neg e, if_neg e] at b; exact b
        · dsimp only
          rw [bI_congr (p := ∃ y, y < x ∧ Nw (σ 0 0) (CanP σ) pmN k lf y) (q := ∃ y, y < x + 1 ∧ Nw (σ 0 0) (CanP σ) pmN k lf y)]
          constructor
          · rintro ⟨y, g1, g2⟩
            exact ⟨y, by omega, g2⟩
          · rintro ⟨y, g1, g2⟩
            by_cases d : y = x
            · subst d; exact absurd g2 nN
            · exact ⟨y, by omega, g2⟩)
    (by
      intro fuel s ⟨e0, e1, b1, b2⟩
      obtain ⟨a, v, T⟩ := s
      dsimp only at e0 e1 b1 b2 ⊢
      subst e1
      have hT : ShM σ T := ShM_of hS ⟨by rw [b1 0 (by omega)], by rw [b1 0 (by omega)], by rw [b1 0 (by omega)]⟩ (fun j hj => b1 j (by omega))
      rw [f6_findNext_L4, hT.1, ck_nat (show σ 0 0 < 7 by omega) (by omega), hT.2.2.2.2.2.2 _ (by omega), ite_le ⟨⟨by omega, by omega⟩, ⟨by omega, by omega⟩⟩, if_pos (by omega)])
    FU 0 (iI 0, iI 0, S) (by omega) (by rw [FU_eq]; omega) (by
      refine ⟨?_, rfl, fun _ _ => rfl, fun y hy => ?_⟩
      · dsimp only; rw [bI_f (fun ⟨y, g, _⟩ => by omega)]
      · dsimp only; rw [if_neg (by omega), if_neg (by omega)]; exact (hL y hy).2)
  obtain ⟨a, v, T⟩ := s'
  obtain ⟨e0, e1, b1, b2⟩ := h1
  dsimp only at e0 e1 b1 b2 h2
  subst e0
  rw [zb_bI] at h2
  refine ⟨T, b1, fun y hy => ?_, h2⟩
  have b := b2 y hy
  rw [if_pos hy, if_pos hy] at b
  exact ⟨CnM_of (hL y hy).1 (by rw [b1 17 (by omega)]), b⟩
def PMs (σ : Sg) (T : MS) : Prop := ∃ (lf : Nat → Int) (V : Nat → Nat), MI (3 ^ σ 0 0) (σ 0 0) (CanP σ) pmN (Gl σ) lf V ∧ LkM σ T lf V (3 ^ σ 0 0)
theorem M_rounds {α : Type} {σ : Sg} (h : Gd σ) (K : MS → Option α) : ∀ (fuel k : Nat) (S : MS) (lf : Nat → Int) (V : Nat → Nat), ShM σ S → 1 ≤ k → k + cnP (fun x => lf x = -9) (3 ^ σ 0 0) ≤ 731 → cnP (fun x => lf x = -9) (3 ^ σ 0 0) < fuel → NI (3 ^ σ 0 0) (σ 0 0) (CanP σ) pmN (Gl σ) k lf V → LkM σ S lf V (3 ^ σ 0 0) → ∃ T, SrM S T ∧ PMs σ T ∧ f6_findLeft_L19 (fun _ S7 => K S7) fuel (iI k) S = K T := by
  have hn6 := h.1
  have hp : ∀ x t, x < 3 ^ σ 0 0 → t < σ 0 0 → pmN x t < 3 ^ σ 0 0 := fun x t hx ht => pm_ltn _ hn6 x hx t ht
  intro fuel
  induction fuel with
  | zero => intro k S lf V _ _ _ g; omega
  | succ fuel ih =>
    intro k S lf V hS hk hb hf hN hL
    obtain ⟨T, a1, a2, a3⟩ := M_round h hS ⟨hk, by omega⟩ hN hL (fun r5 S4 => if r5 = 0 then K S4 else (nm (iI k + 1) fun x1_6 => f6_findLeft_L19 (fun _ S7 => K S7) fuel x1_6 S4))
    have sr : SrM S T := ⟨fun j _ hj => a1 j (by omega), fun f _ => by rw [a1 0 (by omega)]⟩
    rw [f6_findLeft_L19]
    by_cases c : ∃ y, y < 3 ^ σ 0 0 ∧ Nw (σ 0 0) (CanP σ) pmN k lf y
    · have cn := NI.cnt c hk
      obtain ⟨T', t1, t2, t3⟩ := ih (k + 1) T _ _ (sr.sh hS) (by omega) (by omega) (by omega) (hN.next hp hk) a2
      refine ⟨T', sr.tr t1, t2, ?_⟩
      refine a3.trans ?_
      rw [bI_t c, if_neg (by decide), nm_eq, show (1 : Int32) = iI 1 from rfl, iI_add]
      exact t3
    · refine ⟨T, sr, ⟨lf, V, hN.last (by omega) (fun x hx g => c ⟨x, hx, g⟩), fun y hy => ?_⟩, ?_⟩
      · obtain ⟨y1, y2, y3⟩ := a2 y hy
        have nN : ¬ Nw (σ 0 0) (CanP σ) pmN k lf y := fun g => c ⟨y, hy, g⟩
        rw [lfN_f nN] at y2
        rw [VN_f nN] at y3
        exact ⟨y1, y2, y3⟩
      · refine a3.trans ?_
        rw [bI_f c, if_pos (by decide)]
theorem M_findLeft {α : Type} {PX : Sg → MS → Prop} {σ : Sg} {SX SM : MS} (h : RelS PX PMs σ SX SM) (K : MS → Option α) : ∃ T, f6_findLeft SM K = K T ∧ PMs σ T ∧ T.1 0 28 = 1 ∧ SrN SM T := by
  have hM := h.2.2.1
  have h3 := p3_bd h.1.1
  unfold f6_findLeft
  rcases h.2.2.2.2.2.2.2.2 with c | ⟨c, S0, ag, d⟩
  · rw [c, if_pos rfl, nm_eq]
    have hM1 : ShM σ (sI SM 0 28 1) := ShM_of hM ⟨by simp (disch := omega) only [rfS_cell, sI_cell, sI_place, sI_same, sI_2], by simp (disch := omega) only [rfS_cell, sI_cell, sI_place, sI_same, sI_2], by simp (disch := omega) only [rfS_cell, sI_cell, sI_place, sI_same, sI_2]⟩ (fun j hj => by simp (disch := omega) only [rfS_cell, sI_cell, sI_place, sI_same, sI_2])
    obtain ⟨T1, a1, a2, a3⟩ := M_prepare h.1 hM1 (fun S2 => f6_findLeft_L19 (fun v1_8 S7 => K S7) FU 1 S2)
    have cn := cnP_le (fun x => lf0 σ x = -9) (3 ^ σ 0 0)
    obtain ⟨T2, b1, b2, b3⟩ := M_rounds h.1 K FU 1 T1 _ _ (a1.sh hM1) (by omega) (by omega) (by rw [FU_eq]; omega) (NI_start σ _) a2
    refine ⟨T2, a3.trans b3, b2, ?_, fun j x y => ?_, fun f hf => ?_⟩
    · rw [(a1.tr b1).2 28 (by omega), sI_same]
    · rw [(a1.tr b1).1 j x y]; simp (disch := omega) only [rfS_cell, sI_cell, sI_place, sI_same, sI_2]
    · rw [(a1.tr b1).2 f (by omega)]; simp (disch := omega) only [rfS_cell, sI_cell, sI_place, sI_same, sI_2]
  · rw [c, if_neg (by decide)]
    refine ⟨SM, rfl, ?_, c, fun _ _ _ => rfl, fun _ _ => rfl⟩
    obtain ⟨lf, V, d1, d2⟩ := d
    refine ⟨lf, V, d1, fun x hx => ?_⟩
    obtain ⟨y1, y2, y3⟩ := d2 x hx
    exact ⟨CnM_of y1 (by rw [ag.1 17 (by omega)]), by rw [ag.1 18 (by omega)]; exact y2, by rw [ag.2]; exact y3⟩
