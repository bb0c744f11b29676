/-! PURE PART 24: a tank, and all tanks, as the reference reads them -/
section Read2
variable {z : Nat → Int}
theorem M_tank (hz : ∀ p, rg (z p)) {A n t : Nat} (ht : t < 6) (hA : A + n ≤ 240) {S : MS} (hQ : RQ A n z t (2 + 6 * t) S) (hp : 2 + 6 * t ≤ n) : ∃ S', ScM S S' ∧ ((∃ p, 2 + 6 * t ≤ p ∧ p ≤ n ∧ p ≤ 6 + 6 * t ∧ (∀ q, 2 + 6 * t ≤ q → q < p → GO q (z q)) ∧ ¬ GO p (zz n z p) ∧ S'.1 0 15 = iI ((A + p : Nat) : Int) ∧ ∀ (α : Type) (K : Int32 → MS → Option α), f6_readTank (iI ((A + n : Nat) : Int)) S K = K (iI 0) S') ∨ (7 + 6 * t ≤ n ∧ (∀ q, 2 + 6 * t ≤ q → q < 7 + 6 * t → GO q (z q)) ∧ RQ A n z (t + 1) (7 + 6 * t) S' ∧ ∀ (α : Type) (K : Int32 → MS → Option α), f6_readTank (iI ((A + n : Nat) : Int)) S K = K (iI 1) S')) := by
  obtain ⟨q1, q2, q3, q4, q5, q6, q7⟩ := hQ
  have go1 : ∀ x : Int, GO (2 + 6 * t) x ↔ kdI x ≠ -9 := fun x => by
    rw [show 2 + 6 * t = 1 + 6 * t + 1 by omega, GO_j ht (by omega)]; exact Iff.rfl
  have go2 : ∀ x : Int, GO (3 + 6 * t) x ↔ dgI x 0 6 ≠ -9 := fun x => by
    rw [show 3 + 6 * t = 1 + 6 * t + 2 by omega, GO_j ht (by omega)]; exact Iff.rfl
  have go3 : ∀ x : Int, GO (4 + 6 * t) x ↔ sdI x ≠ -9 := fun x => by
    rw [show 4 + 6 * t = 1 + 6 * t + 3 by omega, GO_j ht (by omega)]; exact Iff.rfl
  have go4 : ∀ x : Int, GO (5 + 6 * t) x ↔ dgI x 1 9 ≠ -9 := fun x => by
    rw [show 5 + 6 * t = 1 + 6 * t + 4 by omega, GO_j ht (by omega)]; exact Iff.rfl
  have go5 : ∀ x : Int, GO (6 + 6 * t) x ↔ wtI x ≠ -9 := fun x => by
    rw [show 6 + 6 * t = 1 + 6 * t + 5 by omega, GO_j ht (by omega)]; exact Iff.rfl
  by_cases c1 : kdI (zz n z (2 + 6 * t)) = -9
  · refine ⟨sI S 11 t (iI (-9)), ScM.one _ _ (by omega), Or.inl ⟨2 + 6 * t, by omega, hp, by omega, fun q h1 h2 => by omega, fun g => (go1 _).mp g c1, by simp (disch := omega) only [rfS_cell, sI_cell, sI_place, sI_same, sI_2]; exact q1, fun α K => ?_⟩⟩
    rw [rt_eq, q2, rt1_eq hz hA ht q1 hp q6, if_pos c1]
  · have g1 := (go1 _).mpr c1
    obtain ⟨l1, e1⟩ := zz_lt g1
    have E1 : ∀ (α : Type) (K : Int32 → MS → Option α), f6_readTank (iI ((A + n : Nat) : Int)) S K = rt2 (iI ((A + n : Nat) : Int)) (iI t) (sI (sI S 11 t (iI (kdI (z (2 + 6 * t))))) 0 15 (iI ((A + (3 + 6 * t) : Nat) : Int))) K := by
      intro α K
      rw [rt_eq, q2, rt1_eq hz hA ht q1 hp q6, if_neg c1, e1, show 2 + 6 * t + 1 = 3 + 6 * t by omega]
    rw [e1] at g1
    have T1sc : ScM S (sI (sI S 11 t (iI (kdI (z (2 + 6 * t))))) 0 15 (iI ((A + (3 + 6 * t) : Nat) : Int))) := (ScM.one _ _ (by omega)).tr (ScM.one _ _ (by omega))
    have T1a : (sI (sI S 11 t (iI (kdI (z (2 + 6 * t))))) 0 15 (iI ((A + (3 + 6 * t) : Nat) : Int))).1 0 15 = iI ((A + (3 + 6 * t) : Nat) : Int) := sI_same _ _ _ _
    have T1b : ∀ f, f ≠ 15 → (sI (sI S 11 t (iI (kdI (z (2 + 6 * t))))) 0 15 (iI ((A + (3 + 6 * t) : Nat) : Int))).1 0 f = S.1 0 f := fun f hf => by simp (disch := omega) only [rfS_cell, sI_cell, sI_place, sI_same, sI_2]
    have T1c : ∀ j, j ≠ 0 → j ≠ 11 → (sI (sI S 11 t (iI (kdI (z (2 + 6 * t))))) 0 15 (iI ((A + (3 + 6 * t) : Nat) : Int))).1 j = S.1 j := fun j h1 h2 => by simp (disch := omega) only [rfS_cell, sI_cell, sI_place, sI_same, sI_2]
    have T1d : ∀ q, q < t + 1 → (sI (sI S 11 t (iI (kdI (z (2 + 6 * t))))) 0 15 (iI ((A + (3 + 6 * t) : Nat) : Int))).1 11 q = iI (kdI (z (2 + 6 * q))) := fun q hq => by
      rw [sI_cell _ _ _ (by omega), sI_at]
      by_cases e : q = t
      · rw [if_pos ⟨rfl, e⟩, e]
      · rw [if_neg (by omega)]; exact (q5 q (by omega)).1
    generalize sI (sI S 11 t (iI (kdI (z (2 + 6 * t))))) 0 15 (iI ((A + (3 + 6 * t) : Nat) : Int)) = T1 at E1 T1sc T1a T1b T1c T1d
    have T1q : ∀ p, p < n → T1.1 3 (A + p) = iI (z p) := fun p hp => by rw [T1c 3 (by omega) (by omega)]; exact q6 p hp
    by_cases c2 : dgI (zz n z (3 + 6 * t)) 0 6 = -9
    · refine ⟨sI T1 12 t (iI (-9)), T1sc.tr (ScM.one _ _ (by omega)), Or.inl ⟨3 + 6 * t, by omega, by omega, by omega, fun q h1 h2 => ?_, fun g => (go2 _).mp g c2, by simp (disch := omega) only [rfS_cell, sI_cell, sI_place, sI_same, sI_2]; exact T1a, fun α K => ?_⟩⟩
      · rw [show q = 2 + 6 * t by omega]; exact g1
      · rw [E1, rt2_eq hz hA ht T1a (by omega) T1q, if_pos c2]
    · have g2 := (go2 _).mpr c2
      obtain ⟨l2, e2⟩ := zz_lt g2
      have E2 : ∀ (α : Type) (K : Int32 → MS → Option α), f6_readTank (iI ((A + n : Nat) : Int)) S K = rt3 (iI ((A + n : Nat) : Int)) (iI t) (sI (sI T1 12 t (iI (dgI (z (3 + 6 * t)) 0 6))) 0 15 (iI ((A + (4 + 6 * t) : Nat) : Int))) K := by
        intro α K
        rw [E1, rt2_eq hz hA ht T1a (by omega) T1q, if_neg c2, e2, show 3 + 6 * t + 1 = 4 + 6 * t by omega]
      rw [e2] at g2
      have T2sc : ScM S (sI (sI T1 12 t (iI (dgI (z (3 + 6 * t)) 0 6))) 0 15 (iI ((A + (4 + 6 * t) : Nat) : Int))) := T1sc.tr ((ScM.one _ _ (by omega)).tr (ScM.one _ _ (by omega)))
      have T2a : (sI (sI T1 12 t (iI (dgI (z (3 + 6 * t)) 0 6))) 0 15 (iI ((A + (4 + 6 * t) : Nat) : Int))).1 0 15 = iI ((A + (4 + 6 * t) : Nat) : Int) := sI_same _ _ _ _
      have T2b : ∀ f, f ≠ 15 → (sI (sI T1 12 t (iI (dgI (z (3 + 6 * t)) 0 6))) 0 15 (iI ((A + (4 + 6 * t) : Nat) : Int))).1 0 f = S.1 0 f := fun f hf => by simp (disch := omega) only [rfS_cell, sI_cell, sI_place, sI_same, sI_2]; exact T1b f hf
      have T2c : ∀ j, j ≠ 0 → j ≠ 11 → j ≠ 12 → (sI (sI T1 12 t (iI (dgI (z (3 + 6 * t)) 0 6))) 0 15 (iI ((A + (4 + 6 * t) : Nat) : Int))).1 j = S.1 j := fun j h1 h2 h3 => by simp (disch := omega) only [rfS_cell, sI_cell, sI_place, sI_same, sI_2]; exact T1c j h1 h2
      have T2d : ∀ q, q < t + 1 → (sI (sI T1 12 t (iI (dgI (z (3 + 6 * t)) 0 6))) 0 15 (iI ((A + (4 + 6 * t) : Nat) : Int))).1 11 q = iI (kdI (z (2 + 6 * q))) ∧ (sI (sI T1 12 t (iI (dgI (z (3 + 6 * t)) 0 6))) 0 15 (iI ((A + (4 + 6 * t) : Nat) : Int))).1 12 q = iI (dgI (z (3 + 6 * q)) 0 6) := fun q hq => by
        refine ⟨by simp (disch := omega) only [rfS_cell, sI_cell, sI_place, sI_same, sI_2]; exact T1d q hq, ?_⟩
        rw [sI_cell _ _ _ (by omega), sI_at]
        by_cases e : q = t
        · rw [if_pos ⟨rfl, e⟩, e]
        · rw [if_neg (by omega), T1c 12 (by omega) (by omega)]; exact (q5 q (by omega)).2.1
      generalize sI (sI T1 12 t (iI (dgI (z (3 + 6 * t)) 0 6))) 0 15 (iI ((A + (4 + 6 * t) : Nat) : Int)) = T2 at E2 T2sc T2a T2b T2c T2d
      have T2q : ∀ p, p < n → T2.1 3 (A + p) = iI (z p) := fun p hp => by rw [T2c 3 (by omega) (by omega) (by omega)]; exact q6 p hp
      by_cases c3 : sdI (zz n z (4 + 6 * t)) = -9
      · refine ⟨sI T2 13 t (iI (-9)), T2sc.tr (ScM.one _ _ (by omega)), Or.inl ⟨4 + 6 * t, by omega, by omega, by omega, fun q h1 h2 => ?_, fun g => (go3 _).mp g c3, by simp (disch := omega) only [rfS_cell, sI_cell, sI_place, sI_same, sI_2]; exact T2a, fun α K => ?_⟩⟩
        · rcases (show q = 2 + 6 * t ∨ q = 3 + 6 * t by omega) with e | e <;> rw [e]
          · exact g1
          · exact g2
        · rw [E2, rt3_eq hz hA ht T2a (by omega) T2q, if_pos c3]
      · have g3 := (go3 _).mpr c3
        obtain ⟨l3, e3⟩ := zz_lt g3
        have E3 : ∀ (α : Type) (K : Int32 → MS → Option α), f6_readTank (iI ((A + n : Nat) : Int)) S K = rt4 (iI ((A + n : Nat) : Int)) (iI t) (sI (sI T2 13 t (iI (sdI (z (4 + 6 * t))))) 0 15 (iI ((A + (5 + 6 * t) : Nat) : Int))) K := by
          intro α K
          rw [E2, rt3_eq hz hA ht T2a (by omega) T2q, if_neg c3, e3, show 4 + 6 * t + 1 = 5 + 6 * t by omega]
        rw [e3] at g3
        have T3sc : ScM S (sI (sI T2 13 t (iI (sdI (z (4 + 6 * t))))) 0 15 (iI ((A + (5 + 6 * t) : Nat) : Int))) := T2sc.tr ((ScM.one _ _ (by omega)).tr (ScM.one _ _ (by omega)))
        have T3a : (sI (sI T2 13 t (iI (sdI (z (4 + 6 * t))))) 0 15 (iI ((A + (5 + 6 * t) : Nat) : Int))).1 0 15 = iI ((A + (5 + 6 * t) : Nat) : Int) := sI_same _ _ _ _
        have T3b : ∀ f, f ≠ 15 → (sI (sI T2 13 t (iI (sdI (z (4 + 6 * t))))) 0 15 (iI ((A + (5 + 6 * t) : Nat) : Int))).1 0 f = S.1 0 f := fun f hf => by simp (disch := omega) only [rfS_cell, sI_cell, sI_place, sI_same, sI_2]; exact T2b f hf
        have T3c : ∀ j, j ≠ 0 → j ≠ 11 → j ≠ 12 → j ≠ 13 → (sI (sI T2 13 t (iI (sdI (z (4 + 6 * t))))) 0 15 (iI ((A + (5 + 6 * t) : Nat) : Int))).1 j = S.1 j := fun j h1 h2 h3 h4 => by simp (disch := omega) only [rfS_cell, sI_cell, sI_place, sI_same, sI_2]; exact T2c j h1 h2 h3
        have T3d : ∀ q, q < t + 1 → (sI (sI T2 13 t (iI (sdI (z (4 + 6 * t))))) 0 15 (iI ((A + (5 + 6 * t) : Nat) : Int))).1 11 q = iI (kdI (z (2 + 6 * q))) ∧ (sI (sI T2 13 t (iI (sdI (z (4 + 6 * t))))) 0 15 (iI ((A + (5 + 6 * t) : Nat) : Int))).1 12 q = iI (dgI (z (3 + 6 * q)) 0 6) ∧ (sI (sI T2 13 t (iI (sdI (z (4 + 6 * t))))) 0 15 (iI ((A + (5 + 6 * t) : Nat) : Int))).1 13 q = iI (sdI (z (4 + 6 * q))) := fun q hq => by
          refine ⟨by simp (disch := omega) only [rfS_cell, sI_cell, sI_place, sI_same, sI_2]; exact (T2d q hq).1, by simp (disch := omega) only [rfS_cell, sI_cell, sI_place, sI_same, sI_2]; exact (T2d q hq).2, ?_⟩
          rw [sI_cell _ _ _ (by omega), sI_at]
          by_cases e : q = t
          · rw [if_pos ⟨rfl, e⟩, e]
          · rw [if_neg (by omega), T2c 13 (by omega) (by omega) (by omega)]; exact (q5 q (by omega)).2.2.1
        generalize sI (sI T2 13 t (iI (sdI (z (4 + 6 * t))))) 0 15 (iI ((A + (5 + 6 * t) : Nat) : Int)) = T3 at E3 T3sc T3a T3b T3c T3d
        have T3q : ∀ p, p < n → T3.1 3 (A + p) = iI (z p) := fun p hp => by rw [T3c 3 (by omega) (by omega) (by omega) (by omega)]; exact q6 p hp
        by_cases c4 : dgI (zz n z (5 + 6 * t)) 1 9 = -9
        · refine ⟨sI T3 14 t (iI (-9)), T3sc.tr (ScM.one _ _ (by omega)), Or.inl ⟨5 + 6 * t, by omega, by omega, by omega, fun q h1 h2 => ?_, fun g => (go4 _).mp g c4, by simp (disch := omega) only [rfS_cell, sI_cell, sI_place, sI_same, sI_2]; exact T3a, fun α K => ?_⟩⟩
          · rcases (show q = 2 + 6 * t ∨ q = 3 + 6 * t ∨ q = 4 + 6 * t by omega) with e | e | e <;> rw [e]
            · exact g1
            · exact g2
            · exact g3
          · rw [E3, rt4_eq hz hA ht T3a (by omega) T3q, if_pos c4]
        · have g4 := (go4 _).mpr c4
          obtain ⟨l4, e4⟩ := zz_lt g4
          have E4 : ∀ (α : Type) (K : Int32 → MS → Option α), f6_readTank (iI ((A + n : Nat) : Int)) S K = rt5 (iI ((A + n : Nat) : Int)) (iI t) (sI (sI T3 14 t (iI (dgI (z (5 + 6 * t)) 1 9))) 0 15 (iI ((A + (6 + 6 * t) : Nat) : Int))) K := by
            intro α K
            rw [E3, rt4_eq hz hA ht T3a (by omega) T3q, if_neg c4, e4, show 5 + 6 * t + 1 = 6 + 6 * t by omega]
          rw [e4] at g4
          have T4sc : ScM S (sI (sI T3 14 t (iI (dgI (z (5 + 6 * t)) 1 9))) 0 15 (iI ((A + (6 + 6 * t) : Nat) : Int))) := T3sc.tr ((ScM.one _ _ (by omega)).tr (ScM.one _ _ (by omega)))
          have T4a : (sI (sI T3 14 t (iI (dgI (z (5 + 6 * t)) 1 9))) 0 15 (iI ((A + (6 + 6 * t) : Nat) : Int))).1 0 15 = iI ((A + (6 + 6 * t) : Nat) : Int) := sI_same _ _ _ _
          have T4b : ∀ f, f ≠ 15 → (sI (sI T3 14 t (iI (dgI (z (5 + 6 * t)) 1 9))) 0 15 (iI ((A + (6 + 6 * t) : Nat) : Int))).1 0 f = S.1 0 f := fun f hf => by simp (disch := omega) only [rfS_cell, sI_cell, sI_place, sI_same, sI_2]; exact T3b f hf
          have T4c : ∀ j, j ≠ 0 → j ≠ 11 → j ≠ 12 → j ≠ 13 → j ≠ 14 → (sI (sI T3 14 t (iI (dgI (z (5 + 6 * t)) 1 9))) 0 15 (iI ((A + (6 + 6 * t) : Nat) : Int))).1 j = S.1 j := fun j h1 h2 h3 h4 h5 => by simp (disch := omega) only [rfS_cell, sI_cell, sI_place, sI_same, sI_2]; exact T3c j h1 h2 h3 h4
          have T4d : ∀ q, q < t + 1 → (sI (sI T3 14 t (iI (dgI (z (5 + 6 * t)) 1 9))) 0 15 (iI ((A + (6 + 6 * t) : Nat) : Int))).1 11 q = iI (kdI (z (2 + 6 * q))) ∧ (sI (sI T3 14 t (iI (dgI (z (5 + 6 * t)) 1 9))) 0 15 (iI ((A + (6 + 6 * t) : Nat) : Int))).1 12 q = iI (dgI (z (3 + 6 * q)) 0 6) ∧ (sI (sI T3 14 t (iI (dgI (z (5 + 6 * t)) 1 9))) 0 15 (iI ((A + (6 + 6 * t) : Nat) : Int))).1 13 q = iI (sdI (z (4 + 6 * q))) ∧ (sI (sI T3 14 t (iI (dgI (z (5 + 6 * t)) 1 9))) 0 15 (iI ((A + (6 + 6 * t) : Nat) : Int))).1 14 q = iI (dgI (z (5 + 6 * q)) 1 9) := fun q hq => by
            refine ⟨by simp (disch := omega) only [rfS_cell, sI_cell, sI_place, sI_same, sI_2]; exact (T3d q hq).1, by simp (disch := omega) only [rfS_cell, sI_cell, sI_place, sI_same, sI_2]; exact (T3d q hq).2.1, by simp (disch := omega) only [rfS_cell, sI_cell, sI_place, sI_same, sI_2]; exact (T3d q hq).2.2, ?_⟩
            rw [sI_cell _ _ _ (by omega), sI_at]
            by_cases e : q = t
            · rw [if_pos ⟨rfl, e⟩, e]
            · rw [if_neg (by omega), T3c 14 (by omega) (by omega) (by omega) (by omega)]; exact (q5 q (by omega)).2.2.2
          generalize sI (sI T3 14 t (iI (dgI (z (5 + 6 * t)) 1 9))) 0 15 (iI ((A + (6 + 6 * t) : Nat) : Int)) = T4 at E4 T4sc T4a T4b T4c T4d
          have T4q : ∀ p, p < n → T4.1 3 (A + p) = iI (z p) := fun p hp => by rw [T4c 3 (by omega) (by omega) (by omega) (by omega) (by omega)]; exact q6 p hp
          have T4p : ∀ j, j ≤ 6 → T4.1 4 j = iI ((3 ^ j : Nat) : Int) := fun j hj => by rw [T4c 4 (by omega) (by omega) (by omega) (by omega) (by omega)]; exact q7 j hj
          have E5 : ∀ (α : Type) (K : Int32 → MS → Option α), _ := fun α K => (E4 α K).trans (rt5_eq hz hA ht (dueN_lt z t) T4a ((T4b 16 (by omega)).trans q2) ((T4b 17 (by omega)).trans q3) ((T4b 18 (by omega)).trans q4) (by omega) T4q T4p K)
          by_cases c5 : wtI (zz n z (6 + 6 * t)) = -9
          · refine ⟨sI (sI (sI T4 0 17 (iI (smN (dueN z t) t))) 0 18 (iI (dueN z t))) 0 16 (iI (t + 1 : Nat)), T4sc.tr ((ScM.one _ _ (by omega)).tr ((ScM.one _ _ (by omega)).tr (ScM.one _ _ (by omega)))), Or.inl ⟨6 + 6 * t, by omega, by omega, by omega, fun q h1 h2 => ?_, fun g => (go5 _).mp g c5, by simp (disch := omega) only [rfS_cell, sI_cell, sI_place, sI_same, sI_2]; exact T4a, fun α K => ?_⟩⟩
            · rcases (show q = 2 + 6 * t ∨ q = 3 + 6 * t ∨ q = 4 + 6 * t ∨ q = 5 + 6 * t by omega) with e | e | e | e <;> rw [e]
              · exact g1
              · exact g2
              · exact g3
              · exact g4
            · rw [E5, if_pos c5]
          · have g5 := (go5 _).mpr c5
            obtain ⟨l5, e5⟩ := zz_lt g5
            have E6 : ∀ (α : Type) (K : Int32 → MS → Option α), f6_readTank (iI ((A + n : Nat) : Int)) S K = K (iI 1) (sI (sI (sI (sI T4 0 17 (iI (smN (dueN z (t + 1)) (t + 1) : Nat))) 0 18 (iI (dueN z (t + 1) : Nat))) 0 16 (iI (t + 1 : Nat))) 0 15 (iI ((A + (7 + 6 * t) : Nat) : Int))) := by
              intro α K
              rw [E5, if_neg c5, e5, show 6 + 6 * t + 1 = 7 + 6 * t by omega]
              rfl
            rw [e5] at g5
            refine ⟨_, ?_, Or.inr ⟨by omega, fun q h1 h2 => ?_, ?_, E6⟩⟩
            · exact T4sc.tr ((ScM.one _ _ (by omega)).tr ((ScM.one _ _ (by omega)).tr ((ScM.one _ _ (by omega)).tr (ScM.one _ _ (by omega)))))
            · rcases (show q = 2 + 6 * t ∨ q = 3 + 6 * t ∨ q = 4 + 6 * t ∨ q = 5 + 6 * t ∨ q = 6 + 6 * t by omega) with e | e | e | e | e <;> rw [e]
              · exact g1
              · exact g2
              · exact g3
              · exact g4
              · exact g5
            · refine ⟨sI_same _ _ _ _, by simp (disch := omega) only [rfS_cell, sI_cell, sI_place, sI_same, sI_2], by simp (disch := omega) only [rfS_cell, sI_cell, sI_place, sI_same, sI_2], by simp (disch := omega) only [rfS_cell, sI_cell, sI_place, sI_same, sI_2], fun q hq => ?_, fun p hp => ?_, fun j hj => ?_⟩
              · simp (disch := omega) only [rfS_cell, sI_cell, sI_place, sI_same, sI_2]; exact T4d q hq
              · simp (disch := omega) only [rfS_cell, sI_cell, sI_place, sI_same, sI_2]; exact T4q p hp
              · simp (disch := omega) only [rfS_cell, sI_cell, sI_place, sI_same, sI_2]; exact T4p j hj
theorem M_all (hz : ∀ p, rg (z p)) {A n : Nat} (hA : A + n ≤ 240) : ∀ (m t : Nat) (S : MS), t + m = 6 → 1 + 6 * t ≤ n → (∀ q, q < 1 + 6 * t → GO q (z q)) → RQ A n z t (1 + 6 * t) S → ∃ S', ScM S S' ∧ ((∃ p, p ≤ n ∧ (∀ q, q < p → GO q (z q)) ∧ ¬ GO p (zz n z p) ∧ ¬ (p = n ∧ 1 < n ∧ n % 6 = 1) ∧ S'.1 0 15 = iI ((A + p : Nat) : Int) ∧ ∀ (α : Type) (K : Int32 → MS → Option α) (fuel : Nat), m < fuel → f6_readAll_L37 (iI ((A + n : Nat) : Int)) K (fun S14 => if (S14.1 0 15) = iI ((A + n : Nat) : Int) then (K 1 S14) else (K 0 S14)) fuel S = K (iI 0) S') ∨ (∃ t', 1 ≤ t' ∧ t' ≤ 6 ∧ n = 1 + 6 * t' ∧ (∀ q, q < n → GO q (z q)) ∧ RQ A n z t' n S' ∧ ∀ (α : Type) (K : Int32 → MS → Option α) (fuel : Nat), m < fuel → f6_readAll_L37 (iI ((A + n : Nat) : Int)) K (fun S14 => if (S14.1 0 15) = iI ((A + n : Nat) : Int) then (K 1 S14) else (K 0 S14)) fuel S = K (iI 1) S')) := by
  intro m
  induction m with
  | zero =>
    intro t S htm hp hg hQ
    obtain rfl : t = 6 := by omega
    refine ⟨S, ScM.rf S, ?_⟩
    have q1 := hQ.1
    have q2 := hQ.2.1
    have ex : ∀ (α : Type) (K : Int32 → MS → Option α) (fuel : Nat), 0 < fuel → f6_readAll_L37 (iI ((A + n : Nat) : Int)) K (fun S14 => if (S14.1 0 15) = iI ((A + n : Nat) : Int) then (K 1 S14) else (K 0 S14)) fuel S = if iI ((A + (1 + 6 * 6) : Nat) : Int) = iI ((A + n : Nat) : Int) then (K 1 S) else (K 0 S) := by
      intro α K fuel hf
      obtain ⟨f, rfl⟩ : ∃ f, fuel = f + 1 := ⟨fuel - 1, by omega⟩
      rw [f6_readAll_L37, q2, if_neg (by decide), if_pos (by decide)]
      show (if (S.1 0 15) = iI ((A + n : Nat) : Int) then (K 1 S) else (K 0 S)) = _
      rw [q1]
    by_cases c : n = 37
    · subst c
      exact Or.inr ⟨6, by omega, by omega, by omega, hg, hQ, fun α K fuel hf => by rw [ex α K fuel hf, if_pos rfl]; rfl⟩
    · refine Or.inl ⟨37, by omega, hg, ?_, by omega, q1, fun α K fuel hf => ?_⟩
      · unfold GO; rw [if_neg (by omega), if_pos (by omega)]; exact id
      · rw [ex α K fuel hf, if_neg]
        · rfl
        · intro q
          have := (iI_eq ⟨by omega, by omega⟩ ⟨by omega, by omega⟩).mp q
          omega
  | succ m ih =>
    intro t S htm hp hg hQ
    have q1 := hQ.1
    have q2 := hQ.2.1
    have q6 := hQ.2.2.2.2.2.1
    have go0 : ∀ x : Int, GO (1 + 6 * t) x ↔ x = 59 := fun x => by
      rw [show 1 + 6 * t = 1 + 6 * t + 0 by omega, GO_j (by omega) (by omega)]; exact Iff.rfl
    have hzr := zz_rg hz n (1 + 6 * t)
    by_cases c : zz n z (1 + 6 * t) = 59
    · have g1 := (go0 _).mpr c
      obtain ⟨l1, e1⟩ := zz_lt g1
      rw [e1] at g1
      have hQ2 : RQ A n z t (2 + 6 * t) (sI S 0 15 (iI ((A + (2 + 6 * t) : Nat) : Int))) := by
        obtain ⟨y1, y2, y3, y4, y5, y6, y7⟩ := hQ
        refine ⟨sI_same _ _ _ _, by simp (disch := omega) only [rfS_cell, sI_cell, sI_place, sI_same, sI_2]; exact y2, by simp (disch := omega) only [rfS_cell, sI_cell, sI_place, sI_same, sI_2]; exact y3, by simp (disch := omega) only [rfS_cell, sI_cell, sI_place, sI_same, sI_2]; exact y4, fun q hq => ?_, fun p hp => ?_, fun j hj => ?_⟩
        · simp (disch := omega) only [rfS_cell, sI_cell, sI_place, sI_same, sI_2]; exact y5 q hq
        · simp (disch := omega) only [rfS_cell, sI_cell, sI_place, sI_same, sI_2]; exact y6 p hp
        · simp (disch := omega) only [rfS_cell, sI_cell, sI_place, sI_same, sI_2]; exact y7 j hj
      have hsc : ScM S (sI S 0 15 (iI ((A + (2 + 6 * t) : Nat) : Int))) := ScM.one _ _ (by omega)
      obtain ⟨S', s1, r⟩ := M_tank hz (show t < 6 by omega) hA hQ2 (by omega)
      have E : ∀ (α : Type) (K : Int32 → MS → Option α) (f : Nat), f6_readAll_L37 (iI ((A + n : Nat) : Int)) K (fun S14 => if (S14.1 0 15) = iI ((A + n : Nat) : Int) then (K 1 S14) else (K 0 S14)) (f + 1) S = f6_readTank (iI ((A + n : Nat) : Int)) (sI S 0 15 (iI ((A + (2 + 6 * t) : Nat) : Int))) fun r11 S10 => if r11 = 0 then (K 0 S10) else (f6_readAll_L37 (iI ((A + n : Nat) : Int)) K (fun S14 => if (S14.1 0 15) = iI ((A + n : Nat) : Int) then (K 1 S14) else (K 0 S14)) f S10) := by
        intro α K f
        rw [f6_readAll_L37, q2]
        have J : ∀ (KB KX : MS → Option α), f6_readAll_J63 (iI ((A + n : Nat) : Int)) S K KB KX = f6_readTank (iI ((A + n : Nat) : Int)) (sI S 0 15 (iI ((A + (2 + 6 * t) : Nat) : Int))) fun r11 S10 => if r11 = 0 then (K 0 S10) else KB S10 := by
          intro KB KX
          unfold f6_readAll_J63
          rw [f6_code_eq hA q1 hp q6, c, if_pos (show iI 59 = (59 : Int32) from rfl), nm_eq, q1, show (1 : Int32) = iI 1 from rfl, iI_add, show (((A + (1 + 6 * t) : Nat) : Int) + 1) = ((A + (2 + 6 * t) : Nat) : Int) by omega]
        by_cases ct : t = 0
        · subst ct
          rw [if_pos (by decide), J]
        · rw [show (0 : Int32) = iI 0 from rfl, ite_eq ⟨⟨by omega, by omega⟩, by decide⟩, if_neg (by omega), show (6 : Int32) = iI 6 from rfl, ite_le ⟨by decide, ⟨by omega, by omega⟩⟩, if_neg (by omega), f6_code_eq hA q1 hp q6, c, if_pos (show iI 59 = (59 : Int32) from rfl), J]
          rfl
      rcases r with ⟨p, p1, p2, p3, p4, p5, p6, p7⟩ | ⟨p1, p2, p3, p4⟩
      · refine ⟨S', hsc.tr s1, Or.inl ⟨p, p2, fun q hq => ?_, p5, by omega, p6, fun α K fuel hf => ?_⟩⟩
        · by_cases d : q < 1 + 6 * t
          · exact hg q d
          · by_cases d2 : q = 1 + 6 * t
            · rw [d2]; exact g1
            · exact p4 q (by omega) hq
        · obtain ⟨f, rfl⟩ : ∃ f, fuel = f + 1 := ⟨fuel - 1, by omega⟩
          rw [E, p7, if_pos (by decide)]
          rfl
      · have hg2 : ∀ q, q < 1 + 6 * (t + 1) → GO q (z q) := fun q hq => by
          by_cases d : q < 1 + 6 * t
          · exact hg q d
          · by_cases d2 : q = 1 + 6 * t
            · rw [d2]; exact g1
            · exact p2 q (by omega) (by omega)
        obtain ⟨S2, s2, r2⟩ := ih (t + 1) S' (by omega) (by omega) hg2 (by rw [show 1 + 6 * (t + 1) = 7 + 6 * t by omega]; exact p3)
        refine ⟨S2, hsc.tr (s1.tr s2), ?_⟩
        rcases r2 with ⟨p, a1, a2, a3, a4, a5, a6⟩ | ⟨t', a1, a2, a3, a4, a5, a6⟩
        · refine Or.inl ⟨p, a1, a2, a3, a4, a5, fun α K fuel hf => ?_⟩
          obtain ⟨f, rfl⟩ : ∃ f, fuel = f + 1 := ⟨fuel - 1, by omega⟩
          rw [E, p4, if_neg (by decide)]
          exact a6 α K f (by omega)
        · refine Or.inr ⟨t', a1, a2, a3, a4, a5, fun α K fuel hf => ?_⟩
          obtain ⟨f, rfl⟩ : ∃ f, fuel = f + 1 := ⟨fuel - 1, by omega⟩
          rw [E, p4, if_neg (by decide)]
          exact a6 α K f (by omega)
    · have ng : ¬ GO (1 + 6 * t) (zz n z (1 + 6 * t)) := fun g => c ((go0 _).mp g)
      have c59 : ¬ iI (zz n z (1 + 6 * t)) = 59 := fun q => c ((iI_eq hzr (by decide)).mp q)
      refine ⟨S, ScM.rf S, ?_⟩
      by_cases ct : t = 0
      · subst ct
        refine Or.inl ⟨1, hp, hg, ng, by omega, q1, fun α K fuel hf => ?_⟩
        obtain ⟨f, rfl⟩ : ∃ f, fuel = f + 1 := ⟨fuel - 1, by omega⟩
        rw [f6_readAll_L37, q2, if_pos (by decide)]
        unfold f6_readAll_J63
        rw [f6_code_eq hA q1 hp q6, if_neg c59]
        rfl
      · have ex : ∀ (α : Type) (K : Int32 → MS → Option α) (f : Nat), f6_readAll_L37 (iI ((A + n : Nat) : Int)) K (fun S14 => if (S14.1 0 15) = iI ((A + n : Nat) : Int) then (K 1 S14) else (K 0 S14)) (f + 1) S = if iI ((A + (1 + 6 * t) : Nat) : Int) = iI ((A + n : Nat) : Int) then (K 1 S) else (K 0 S) := by
          intro α K f
          rw [f6_readAll_L37, q2, show (0 : Int32) = iI 0 from rfl, ite_eq ⟨⟨by omega, by omega⟩, by decide⟩, if_neg (by omega), show (6 : Int32) = iI 6 from rfl, ite_le ⟨by decide, ⟨by omega, by omega⟩⟩, if_neg (by omega), f6_code_eq hA q1 hp q6, if_neg c59]
          show (if (S.1 0 15) = iI ((A + n : Nat) : Int) then (K 1 S) else (K 0 S)) = _
          rw [q1]
          rfl
        by_cases cn : n = 1 + 6 * t
        · subst cn
          refine Or.inr ⟨t, by omega, by omega, rfl, hg, hQ, fun α K fuel hf => ?_⟩
          obtain ⟨f, rfl⟩ : ∃ f, fuel = f + 1 := ⟨fuel - 1, by omega⟩
          rw [ex, if_pos rfl]; rfl
        · refine Or.inl ⟨1 + 6 * t, hp, hg, ng, by omega, q1, fun α K fuel hf => ?_⟩
          obtain ⟨f, rfl⟩ : ∃ f, fuel = f + 1 := ⟨fuel - 1, by omega⟩
          rw [ex, if_neg]
          · rfl
          · intro q
            have := (iI_eq ⟨by omega, by omega⟩ ⟨by omega, by omega⟩).mp q
            omega
end Read2
