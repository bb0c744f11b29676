/-! PURE PART 33: the class's search -/
theorem sL_same (S : MS) (j f : Nat) (v : Int64) : (sL S j f v).2 j f = v := by rw [sL_at, if_pos ⟨rfl, rfl⟩]
theorem sL_place {f f' : Nat} (S : MS) (j : Nat) (v : Int64) (h : f' ≠ f) : (sL S j f v).2 j f' = S.2 j f' := by rw [sL_at, if_neg (fun g => h g.2)]
theorem j_add (a b : Nat) : Int64.ofInt (a : Int) + Int64.ofInt (b : Int) = Int64.ofInt ((a + b : Nat) : Int) := by
  rw [← Int64.ofInt_add]; rfl
def LkX (T : MS) (r : Nat) (q par lt lev w : Nat → Nat) : Prop :=
  T.1 3 8 = iI r ∧ (∀ j, j < r → T.1 9 j = iI (q j) ∧ T.1 10 (q j) = iI (lev j) ∧ T.2 13 (q j) = Int64.ofInt ((w j : Nat) : Int)) ∧ (∀ j, 0 < j → j < r → T.1 11 (q j) = iI (q (par j)) ∧ T.1 12 (q j) = iI (lt j)) ∧ (∀ x, x < 729 → (∀ j, j < r → q j ≠ x) → T.1 10 x = iI (-9))
theorem BF.lev_j {N n s : Nat} {E : Nat → Nat → Prop} {p : Nat → Nat → Nat} {r : Nat} {q par lt lev w : Nat → Nat} {i t : Nat} (h : BF N n s E p r q par lt lev w i t) : ∀ j, j < r → lev j ≤ j := by
  intro j
  induction j using Nat.strongRecOn with
  | ind j ih =>
    intro hj
    by_cases z : j = 0
    · subst z; rw [h.1.2.2]; omega
    · obtain ⟨c1, -, -, -, c5, -⟩ := h.2.2.2.1 j (by omega) hj
      have := ih (par j) c1 (by omega)
      omega
/-- the state of the search: all pairs ahead of (i, t) are done -/
def EXi (σ : Sg) (S : MS) (i t : Nat) (T : MS) : Prop := SrX S T ∧ PpX σ T ∧ ∃ (r : Nat) (q par lt lev w : Nat → Nat), BF (3 ^ σ 0 0) (σ 0 0) (σ 0 1) (CanP σ) pmN r q par lt lev w i t ∧ LkX T r q par lt lev w ∧ i ≤ r
def EXj (σ : Sg) (S : MS) (i t x : Nat) (T : MS) : Prop := SrX S T ∧ PpX σ T ∧ ∃ (r : Nat) (q par lt lev w : Nat → Nat), BF (3 ^ σ 0 0) (σ 0 0) (σ 0 1) (CanP σ) pmN r q par lt lev w i t ∧ LkX T r q par lt lev w ∧ i < r ∧ q i = x
theorem PpX_of {σ : Sg} {T U : MS} (h : PpX σ T) (e : U.1 15 = T.1 15) : PpX σ U := fun F hF => by
  obtain ⟨a, a1, a2, a3⟩ := h F hF
  exact ⟨a, a1, by rw [e]; exact a2, a3⟩
theorem SrX.l1 (S : MS) (f : Nat) (v : Int64) : SrX S (sL S 13 f v) := fun _ _ _ _ _ => rfl
theorem X_step {α : Type} {σ : Sg} (h : Gd σ) {S : MS} {i t x : Nat} {T : MS} (ht : t < σ 0 0) (hB : EXj σ S i t x T) (hC : CanP σ x t) (K : MS → Option α) : ∃ T', EXj σ S i (t + 1) x T' ∧ f2_step (iI x) (iI t) T K = K T' := by
  have hn6 := h.1
  have h3 := p3_bd hn6
  obtain ⟨b1, b2, r, q, par, lt, lev, w, hF, ⟨k1, k2, k3, k4⟩, hir, hq⟩ := hB
  have hx : x < 3 ^ σ 0 0 := by rw [← hq]; exact hF.2.1 i hir
  have hy : pmN x t < 3 ^ σ 0 0 := pm_ltn _ hn6 x hx t ht
  have hrN := hF.rN
  have hlv := hF.lev_j i hir
  have kx := k2 i hir
  rw [hq] at kx
  have E0 : f2_step (iI x) (iI t) T K = ck (iI (pmN x t)) 729 fun k3 => if (T.1 10 k3) = (-9) then (if 729 ≤ (T.1 3 8) then (f2_step_J82 (iI x) (iI (pmN x t)) T K) else (ck (iI x) 729 fun k10 => ck (iI (pmN x t)) 729 fun k11 => nm (sI T 10 k11 ((T.1 10 k10) + 1)) fun S12 => ck (iI (pmN x t)) 729 fun k13 => nm (sL S12 13 k13 0) fun S14 => ck (iI (pmN x t)) 729 fun k15 => nm (sI S14 11 k15 (iI x)) fun S16 => ck (iI (pmN x t)) 729 fun k17 => nm (sI S16 12 k17 (iI t)) fun S18 => ck (S18.1 3 8) 729 fun k19 => nm (sI S18 9 k19 (iI (pmN x t))) fun S20 => nm (sI S20 3 8 ((S20.1 3 8) + 1)) fun S21 => f2_step_J82 (iI x) (iI (pmN x t)) S21 K)) else (f2_step_J82 (iI x) (iI (pmN x t)) T K) := by
    unfold f2_step
    rw [f5_pumped_eq (by omega) (by omega)]
  generalize hyy : pmN x t = y at hy E0
  have y7 : y < 729 := by omega
  have x7 : x < 729 := by omega
  rw [E0, ck_nat y7 (by omega)]
  by_cases hold : ∃ j0, j0 < r ∧ q j0 = y
  · obtain ⟨j0, hj0, e0⟩ := hold
    have ky := k2 j0 hj0
    rw [e0] at ky
    have hlj := hF.lev_j j0 hj0
    have hC' : CanP σ (q i) t := by rw [hq]; exact hC
    have e0' : q j0 = pmN (q i) t := by rw [hq, hyy]; exact e0
    have hF2 := hF.old hir (by omega) ht hC' hj0 e0'
    have n9 : ¬ iI (lev j0 : Int) = (-9 : Int32) := fun g => by
      rw [show (-9 : Int32) = iI (-9) from rfl, iI_eq ⟨by omega, by omega⟩ ⟨by omega, by omega⟩] at g
      omega
    rw [ky.2.1, if_neg n9]
    unfold f2_step_J82
    rw [ck_nat y7 (by omega), ck_nat x7 (by omega), ky.2.1, kx.2.1, show (1 : Int32) = iI 1 from rfl, iI_add, ite_eq ⟨⟨by omega, by omega⟩, ⟨by omega, by omega⟩⟩]
    by_cases c : lev j0 = lev i + 1
    · rw [if_pos (by omega), ck_nat y7 (by omega), ck_nat x7 (by omega), ck_nat y7 (by omega), nm_eq, ky.2.2, kx.2.2, j_add]
      refine ⟨_, ⟨b1.tr (SrX.l1 _ _ _), PpX_of b2 (by rw [sL_1]), r, q, par, lt, lev, _, hF2, ⟨by rw [sL_1]; exact k1, fun j hj => ?_, fun j h1 h2 => by rw [sL_1]; exact k3 j h1 h2, fun x h1 h2 => by rw [sL_1]; exact k4 x h1 h2⟩, hir, hq⟩, rfl⟩
      refine ⟨by rw [sL_1]; exact (k2 j hj).1, by rw [sL_1]; exact (k2 j hj).2.1, ?_⟩
      by_cases d : j = j0
      · subst d
        dsimp only; rw [e0, sL_same, if_pos ⟨rfl, c⟩]
      · have : q j ≠ y := fun g => d (hF.2.2.1 j j0 hj hj0 (g.trans e0.symm))
        dsimp only; rw [sL_place _ _ _ this, if_neg (fun g => d g.1)]
        exact (k2 j hj).2.2
    · rw [if_neg (by omega)]
      refine ⟨T, ⟨b1, b2, r, q, par, lt, lev, _, hF2, ⟨k1, fun j hj => ?_, k3, k4⟩, hir, hq⟩, rfl⟩
      refine ⟨(k2 j hj).1, (k2 j hj).2.1, ?_⟩
      dsimp only
      rw [if_neg (fun g => c g.2)]
      exact (k2 j hj).2.2
  · have hnew : ∀ j, j < r → q j ≠ y := fun j hj g => hold ⟨j, hj, g⟩
    have hrl : r < 3 ^ σ 0 0 := hF.rN1 hy hnew
    have hC' : CanP σ (q i) t := by rw [hq]; exact hC
    have hF2 := hF.new hir (by omega) ht hC' (by rw [hq, hyy]; exact hy) (by rw [hq, hyy]; exact hnew)
    rw [hq, hyy] at hF2
    have xy : x ≠ y := by rw [← hq]; exact hnew i hir
    rw [k4 y y7 hnew, if_pos (by decide), k1, show (729 : Int32) = iI 729 from rfl, ite_le ⟨by decide, ⟨by omega, by omega⟩⟩, if_neg (by omega), ck_nat x7 (by omega), ck_nat y7 (by omega), nm_eq, ck_nat y7 (by omega), nm_eq, ck_nat y7 (by omega), nm_eq, ck_nat y7 (by omega), nm_eq, kx.2.1, show (1 : Int32) = iI 1 from rfl, iI_add]
    have e38 : (sI (sI (sL (sI T 10 y (iI ((lev i : Int) + 1))) 13 y 0) 11 y (iI x)) 12 y (iI t)).1 3 8 = iI r := by simp (disch := omega) only [sL_1, rfS_cell, sI_cell, sI_place, sI_same, sI_2]; exact k1
    rw [e38, ck_nat (show r < 729 by omega) (by omega), nm_eq, nm_eq]
    have e38' : (sI (sI (sI (sL (sI T 10 y (iI ((lev i : Int) + 1))) 13 y 0) 11 y (iI x)) 12 y (iI t)) 9 r (iI y)).1 3 8 = iI r := by simp (disch := omega) only [sL_1, rfS_cell, sI_cell, sI_place, sI_same, sI_2]; exact k1
    rw [e38', iI_add]
    unfold f2_step_J82
    have p1 : (sI (sI (sI (sI (sL (sI T 10 y (iI ((lev i : Int) + 1))) 13 y 0) 11 y (iI x)) 12 y (iI t)) 9 r (iI y)) 3 8 (iI ((r : Int) + 1))).1 10 y = iI ((lev i : Int) + 1) := by simp (disch := omega) only [sL_1, rfS_cell, sI_cell, sI_place, sI_same, sI_2]
    have p2 : (sI (sI (sI (sI (sL (sI T 10 y (iI ((lev i : Int) + 1))) 13 y 0) 11 y (iI x)) 12 y (iI t)) 9 r (iI y)) 3 8 (iI ((r : Int) + 1))).1 10 x = iI (lev i) := by simp (disch := omega) only [sL_1, rfS_cell, sI_cell, sI_place, sI_same, sI_2]; exact kx.2.1
    have p3 : (sI (sI (sI (sI (sL (sI T 10 y (iI ((lev i : Int) + 1))) 13 y 0) 11 y (iI x)) 12 y (iI t)) 9 r (iI y)) 3 8 (iI ((r : Int) + 1))).2 13 y = 0 := by
      simp only [sI_2]; rw [sL_same]
    have p4 : (sI (sI (sI (sI (sL (sI T 10 y (iI ((lev i : Int) + 1))) 13 y 0) 11 y (iI x)) 12 y (iI t)) 9 r (iI y)) 3 8 (iI ((r : Int) + 1))).2 13 x = Int64.ofInt ((w i : Nat) : Int) := by
      simp only [sI_2]; rw [sL_place _ _ _ xy, sI_2]; exact kx.2.2
    rw [ck_nat y7 (by omega), ck_nat x7 (by omega), p1, p2, show (1 : Int32) = iI 1 from rfl, iI_add, if_pos rfl, ck_nat y7 (by omega), ck_nat x7 (by omega), ck_nat y7 (by omega), nm_eq, p3, p4]
    have z0 : (0 : Int64) + Int64.ofInt ((w i : Nat) : Int) = Int64.ofInt ((w i : Nat) : Int) := by
      have := j_add 0 (w i)
      rw [Nat.zero_add] at this
      exact this
    rw [z0]
    refine ⟨_, ⟨?_, ?_, r + 1, _, _, _, _, _, hF2, ⟨?_, fun j hj => ?_, fun j h1 h2 => ?_, fun u h1 h2 => ?_⟩, by omega, ?_⟩, rfl⟩
    · exact b1.tr ((SrX.s1 _ _ (by omega)).tr ((SrX.l1 _ _ _).tr ((SrX.s1 _ _ (by omega)).tr ((SrX.s1 _ _ (by omega)).tr ((SrX.s1 _ _ (by omega)).tr ((SrX.s1 _ _ (by omega)).tr (SrX.l1 _ _ _)))))))
    · exact PpX_of b2 (by simp (disch := omega) only [sL_1, rfS_cell, sI_cell, sI_place, sI_same, sI_2])
    · rw [sL_1, sI_same]; rfl
    · by_cases c : j = r
      · subst c
        simp only [if_pos]
        refine ⟨by simp (disch := omega) only [sL_1, rfS_cell, sI_cell, sI_place, sI_same, sI_2], ?_, by rw [sL_same]⟩
        rw [sL_1]; exact p1
      · simp only [if_neg c]
        have kj := k2 j (by omega)
        have qy := hnew j (by omega)
        refine ⟨?_, ?_, ?_⟩
        · simp (disch := omega) only [sL_1, rfS_cell, sI_cell, sI_place, sI_same, sI_2]; exact kj.1
        · simp (disch := omega) only [sL_1, rfS_cell, sI_cell, sI_place, sI_same, sI_2]; exact kj.2.1
        · rw [sL_place _ _ _ qy]; simp only [sI_2]; rw [sL_place _ _ _ qy]; exact kj.2.2
    · by_cases c : j = r
      · subst c
        simp only [if_pos]
        rw [if_neg (show ¬ i = j by omega), hq]
        exact ⟨by simp (disch := omega) only [sL_1, rfS_cell, sI_cell, sI_place, sI_same, sI_2], by simp (disch := omega) only [sL_1, rfS_cell, sI_cell, sI_place, sI_same, sI_2]⟩
      · simp only [if_neg c]
        have kj := k3 j h1 (by omega)
        have qy := hnew j (by omega)
        have c1 := (hF.2.2.2.1 j h1 (by omega)).1
        rw [if_neg (show ¬ par j = r by omega)]
        refine ⟨?_, ?_⟩
        · simp (disch := omega) only [sL_1, rfS_cell, sI_cell, sI_place, sI_same, sI_2]; exact kj.1
        · simp (disch := omega) only [sL_1, rfS_cell, sI_cell, sI_place, sI_same, sI_2]; exact kj.2
    · have uy : u ≠ y := fun g => by
        have := h2 r (by omega)
        dsimp only at this
        rw [if_pos rfl] at this
        exact this g.symm
      simp (disch := omega) only [sL_1, rfS_cell, sI_cell, sI_place, sI_same, sI_2]
      refine k4 u h1 (fun j hj => ?_)
      have := h2 j (by omega)
      dsimp only at this
      rw [if_neg (show ¬ j = r by omega)] at this
      exact this
    · show (if i = r then y else q i) = x
      rw [if_neg (by omega)]; exact hq
