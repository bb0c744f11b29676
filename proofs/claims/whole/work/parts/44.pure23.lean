/-! PURE PART 23: the text of a ship, as the reference reads it -/
def dueN (z : Nat → Int) : Nat → Nat
  | 0 => 0
  | t + 1 => dueN z t + if z (6 + 6 * t) = 111 then 2 ^ t else 0
theorem dueN_lt (z : Nat → Int) (t : Nat) : dueN z t < 2 ^ t := by
  induction t with
  | zero => simp [dueN]
  | succ n ih =>
    have e : 2 ^ (n + 1) = 2 ^ n + 2 ^ n := by rw [Nat.pow_succ]; omega
    unfold dueN
    split <;> omega
theorem sm_step : ∀ t, t < 6 → ∀ F, F < 2 ^ t → smN (F + 2 ^ t) (t + 1) = smN F t + 3 ^ t ∧ smN F (t + 1) = smN F t := by decide +kernel
theorem sm_fu : ∀ t, t ≤ 6 → ∀ F, F < 2 ^ t → fuN (smN F t) t = F ∧ smN F t < 3 ^ t := by decide +kernel
theorem or_all : ∀ t, t < 6 → ∀ a, a < 2 ^ t → iI (a : Nat) ||| 0 = iI (a : Nat) := by decide +kernel
def zz (n : Nat) (z : Nat → Int) (p : Nat) : Int := if p < n then z p else -9
theorem zz_rg {z : Nat → Int} (hz : ∀ p, rg (z p)) (n p : Nat) : rg (zz n z p) := by
  unfold zz; split
  · exact hz p
  · decide
theorem zz_lt {n : Nat} {z : Nat → Int} {p : Nat} (h : GO p (zz n z p)) : p < n ∧ zz n z p = z p := by
  by_cases c : p < n
  · exact ⟨c, if_pos c⟩
  · have : zz n z p = -9 := if_neg c
    rw [this] at h
    exact absurd h (GO_m9 p)
def RQ (A n : Nat) (z : Nat → Int) (t p : Nat) (S : MS) : Prop := S.1 0 15 = iI ((A + p : Nat) : Int) ∧ S.1 0 16 = iI t ∧ S.1 0 17 = iI (smN (dueN z t) t) ∧ S.1 0 18 = iI (dueN z t) ∧ (∀ q, q < t → S.1 11 q = iI (kdI (z (2 + 6 * q))) ∧ S.1 12 q = iI (dgI (z (3 + 6 * q)) 0 6) ∧ S.1 13 q = iI (sdI (z (4 + 6 * q))) ∧ S.1 14 q = iI (dgI (z (5 + 6 * q)) 1 9)) ∧ (∀ p, p < n → S.1 3 (A + p) = iI (z p)) ∧ ∀ j, j ≤ 6 → S.1 4 j = iI ((3 ^ j : Nat) : Int)
theorem ScM.one (S : MS) {j f : Nat} (v : Int32) (h : (11 ≤ j ∧ j ≤ 16) ∨ j = 20 ∨ (j = 0 ∧ 15 ≤ f ∧ f ≤ 18)) : ScM S (sI S j f v) := ⟨fun q h0 hq => sI_cell _ _ _ (by omega), fun q hq => by
  by_cases e : j = 0
  · subst e; exact sI_place _ _ _ (by omega)
  · rw [sI_cell _ _ _ (by omega)], rfl⟩
noncomputable def rt5 {α : Type} (p1 x2_1 : Int32) (S36 : MS) (K : Int32 → MS → Option α) : Option α := f6_code p1 S36 fun r39 S38 => if r39 = 101 then (f6_readTank_J157 x2_1 0 S38 K) else (f6_code p1 S38 fun r41 S40 => if r41 = 111 then (f6_readTank_J157 x2_1 1 S40 K) else (f6_readTank_J157 x2_1 (-9) S40 K))
noncomputable def rt4 {α : Type} (p1 x2_1 : Int32) (S27 : MS) (K : Int32 → MS → Option α) : Option α := f6_code p1 S27 fun r30 S29 => f6_digitBy r30 1 9 S29 fun r32 S31 => ck x2_1 6 fun k33 => nm (sI S31 14 k33 r32) fun S34 => ck x2_1 6 fun k35 => f6_takes (S34.1 14 k35) S34 fun r37 S36 => if r37 = 0 then (K 0 S36) else rt5 p1 x2_1 S36 K
noncomputable def rt3 {α : Type} (p1 x2_1 : Int32) (S18 : MS) (K : Int32 → MS → Option α) : Option α := f6_code p1 S18 fun r21 S20 => f6_sideBy r21 S20 fun r23 S22 => ck x2_1 6 fun k24 => nm (sI S22 13 k24 r23) fun S25 => ck x2_1 6 fun k26 => f6_takes (S25.1 13 k26) S25 fun r28 S27 => if r28 = 0 then (K 0 S27) else rt4 p1 x2_1 S27 K
noncomputable def rt2 {α : Type} (p1 x2_1 : Int32) (S9 : MS) (K : Int32 → MS → Option α) : Option α := f6_code p1 S9 fun r12 S11 => f6_digitBy r12 0 6 S11 fun r14 S13 => ck x2_1 6 fun k15 => nm (sI S13 12 k15 r14) fun S16 => ck x2_1 6 fun k17 => f6_takes (S16.1 12 k17) S16 fun r19 S18 => if r19 = 0 then (K 0 S18) else rt3 p1 x2_1 S18 K
noncomputable def rt1 {α : Type} (p1 x2_1 : Int32) (S : MS) (K : Int32 → MS → Option α) : Option α := f6_code p1 S fun r3 S2 => f6_kindBy r3 S2 fun r5 S4 => ck x2_1 6 fun k6 => nm (sI S4 11 k6 r5) fun S7 => ck x2_1 6 fun k8 => f6_takes (S7.1 11 k8) S7 fun r10 S9 => if r10 = 0 then (K 0 S9) else rt2 p1 x2_1 S9 K
theorem rt_eq {α : Type} (p1 : Int32) (S : MS) (K : Int32 → MS → Option α) : f6_readTank p1 S K = rt1 p1 (S.1 0 16) S K := rfl
section Read
variable {z : Nat → Int} (hz : ∀ p, rg (z p)) {A n : Nat} (hA : A + n ≤ 240) {S : MS}
theorem f6_code_eq {α : Type} (hA : A + n ≤ 240) {p : Nat} (h15 : S.1 0 15 = iI ((A + p : Nat) : Int)) (hp : p ≤ n) (hc : ∀ p, p < n → S.1 3 (A + p) = iI (z p)) (K : Int32 → MS → Option α) : f6_code (iI ((A + n : Nat) : Int)) S K = K (iI (zz n z p)) S := by
  unfold f6_code zz
  rw [h15, ite_le ⟨⟨by omega, by omega⟩, ⟨by omega, by omega⟩⟩]
  by_cases c : p < n
  · rw [if_neg (by omega), if_pos c, ck_nat (by omega) (by omega), hc p c]
  · rw [if_pos (by omega), if_neg c]; rfl
theorem rt1_eq {α : Type} (hz : ∀ p, rg (z p)) (hA : A + n ≤ 240) {t p : Nat} (ht : t < 6) (h15 : S.1 0 15 = iI ((A + p : Nat) : Int)) (hp : p ≤ n) (hc : ∀ p, p < n → S.1 3 (A + p) = iI (z p)) (K : Int32 → MS → Option α) : rt1 (iI ((A + n : Nat) : Int)) (iI t) S K = if kdI (zz n z p) = -9 then K (iI 0) (sI S 11 t (iI (-9))) else rt2 (iI ((A + n : Nat) : Int)) (iI t) (sI (sI S 11 t (iI (kdI (zz n z p)))) 0 15 (iI ((A + (p + 1) : Nat) : Int))) K := by
  have r9 : rg (kdI (zz n z p)) := by rcases kdI_in (zz n z p) with e | e <;> constructor <;> omega
  unfold rt1
  rw [f6_code_eq hA h15 hp hc, f6_kindBy_eq (zz_rg hz n p), ck_nat ht (by omega), nm_eq, ck_nat ht (by omega), sI_same]
  by_cases c : kdI (zz n z p) = -9
  · rw [if_pos c, c, f6_takes_f, if_pos (by decide)]; rfl
  · rw [if_neg c, f6_takes_t r9 c, if_neg (by decide), sI_cell _ _ _ (by omega), h15, iI_add]; rfl
theorem rt2_eq {α : Type} (hz : ∀ p, rg (z p)) (hA : A + n ≤ 240) {t p : Nat} (ht : t < 6) (h15 : S.1 0 15 = iI ((A + p : Nat) : Int)) (hp : p ≤ n) (hc : ∀ p, p < n → S.1 3 (A + p) = iI (z p)) (K : Int32 → MS → Option α) : rt2 (iI ((A + n : Nat) : Int)) (iI t) S K = if dgI (zz n z p) 0 6 = -9 then K (iI 0) (sI S 12 t (iI (-9))) else rt3 (iI ((A + n : Nat) : Int)) (iI t) (sI (sI S 12 t (iI (dgI (zz n z p) 0 6))) 0 15 (iI ((A + (p + 1) : Nat) : Int))) K := by
  have r9 : rg (dgI (zz n z p) 0 6) := by rcases dgI_in (zz n z p) 0 6 with e | e <;> constructor <;> omega
  unfold rt2
  rw [f6_code_eq hA h15 hp hc, show (0 : Int32) = iI 0 from rfl, show (6 : Int32) = iI 6 from rfl, f6_digitBy_eq (zz_rg hz n p) (by decide) (by decide), ck_nat ht (by omega), nm_eq, ck_nat ht (by omega), sI_same]
  by_cases c : dgI (zz n z p) 0 6 = -9
  · rw [if_pos c, c, f6_takes_f, if_pos rfl]
  · rw [if_neg c, f6_takes_t r9 c, if_neg (by decide), sI_cell _ _ _ (by omega), h15, iI_add]; rfl
theorem rt3_eq {α : Type} (hz : ∀ p, rg (z p)) (hA : A + n ≤ 240) {t p : Nat} (ht : t < 6) (h15 : S.1 0 15 = iI ((A + p : Nat) : Int)) (hp : p ≤ n) (hc : ∀ p, p < n → S.1 3 (A + p) = iI (z p)) (K : Int32 → MS → Option α) : rt3 (iI ((A + n : Nat) : Int)) (iI t) S K = if sdI (zz n z p) = -9 then K (iI 0) (sI S 13 t (iI (-9))) else rt4 (iI ((A + n : Nat) : Int)) (iI t) (sI (sI S 13 t (iI (sdI (zz n z p)))) 0 15 (iI ((A + (p + 1) : Nat) : Int))) K := by
  have r9 : rg (sdI (zz n z p)) := by rcases sdI_in (zz n z p) with e | e <;> constructor <;> omega
  unfold rt3
  rw [f6_code_eq hA h15 hp hc, f6_sideBy_eq (zz_rg hz n p), ck_nat ht (by omega), nm_eq, ck_nat ht (by omega), sI_same]
  by_cases c : sdI (zz n z p) = -9
  · rw [if_pos c, c, f6_takes_f, if_pos (by decide)]; rfl
  · rw [if_neg c, f6_takes_t r9 c, if_neg (by decide), sI_cell _ _ _ (by omega), h15, iI_add]; rfl
theorem rt4_eq {α : Type} (hz : ∀ p, rg (z p)) (hA : A + n ≤ 240) {t p : Nat} (ht : t < 6) (h15 : S.1 0 15 = iI ((A + p : Nat) : Int)) (hp : p ≤ n) (hc : ∀ p, p < n → S.1 3 (A + p) = iI (z p)) (K : Int32 → MS → Option α) : rt4 (iI ((A + n : Nat) : Int)) (iI t) S K = if dgI (zz n z p) 1 9 = -9 then K (iI 0) (sI S 14 t (iI (-9))) else rt5 (iI ((A + n : Nat) : Int)) (iI t) (sI (sI S 14 t (iI (dgI (zz n z p) 1 9))) 0 15 (iI ((A + (p + 1) : Nat) : Int))) K := by
  have r9 : rg (dgI (zz n z p) 1 9) := by rcases dgI_in (zz n z p) 1 9 with e | e <;> constructor <;> omega
  unfold rt4
  rw [f6_code_eq hA h15 hp hc, show (1 : Int32) = iI 1 from rfl, show (9 : Int32) = iI 9 from rfl, f6_digitBy_eq (zz_rg hz n p) (by decide) (by decide), ck_nat ht (by omega), nm_eq, ck_nat ht (by omega), sI_same]
  by_cases c : dgI (zz n z p) 1 9 = -9
  · rw [if_pos c, c, f6_takes_f, if_pos (by decide)]; rfl
  · rw [if_neg c, f6_takes_t r9 c, if_neg (by decide), sI_cell _ _ _ (by omega), h15, iI_add]; rfl
theorem rt5_eq {α : Type} (hz : ∀ p, rg (z p)) (hA : A + n ≤ 240) {t p D : Nat} (ht : t < 6) (hD : D < 2 ^ t) (h15 : S.1 0 15 = iI ((A + p : Nat) : Int)) (h16 : S.1 0 16 = iI t) (h17 : S.1 0 17 = iI (smN D t)) (h18 : S.1 0 18 = iI D) (hp : p ≤ n) (hc : ∀ p, p < n → S.1 3 (A + p) = iI (z p)) (h4 : ∀ j, j ≤ 6 → S.1 4 j = iI ((3 ^ j : Nat) : Int)) (K : Int32 → MS → Option α) : rt5 (iI ((A + n : Nat) : Int)) (iI t) S K = if wtI (zz n z p) = -9 then K (iI 0) (sI (sI (sI S 0 17 (iI (smN D t))) 0 18 (iI D)) 0 16 (iI (t + 1 : Nat))) else K (iI 1) (sI (sI (sI (sI S 0 17 (iI (smN (D + if zz n z p = 111 then 2 ^ t else 0) (t + 1) : Nat))) 0 18 (iI (D + if zz n z p = 111 then 2 ^ t else 0 : Nat))) 0 16 (iI (t + 1 : Nat))) 0 15 (iI ((A + (p + 1) : Nat) : Int))) := by
  have hzr := zz_rg hz n p
  obtain ⟨s1, s2⟩ := sm_step t ht D hD
  have o1 := set_all t ht D hD
  have o2 := or_all t ht D hD
  unfold rt5
  rw [f6_code_eq hA h15 hp hc, show (101 : Int32) = iI 101 from rfl, show (111 : Int32) = iI 111 from rfl, ite_eq ⟨hzr, by decide⟩, f6_code_eq hA h15 hp hc, ite_eq ⟨hzr, by decide⟩]
  by_cases c1 : zz n z p = 101
  · rw [if_pos c1]
    unfold f6_readTank_J157 f6_readTank_J178
    rw [if_neg (by decide), nm_eq, if_neg (by decide), nm_eq, nm_eq, show (0 : Int32) = iI 0 from rfl, f6_takes_t (by decide) (by decide), h17, iI_add, Int.add_zero]
    have e18 : (sI S 0 17 (iI (smN D t))).1 0 18 = iI D := by simp (disch := omega) only [rfS_cell, sI_cell, sI_place, sI_same, sI_2]; exact h18
    rw [e18, show iI 0 = (0 : Int32) from rfl, o2]
    have e16 : (sI (sI S 0 17 (iI (smN D t))) 0 18 (iI D)).1 0 16 = iI t := by simp (disch := omega) only [rfS_cell, sI_cell, sI_place, sI_same, sI_2]; exact h16
    rw [e16]
    have e15 : (sI (sI (sI S 0 17 (iI (smN D t))) 0 18 (iI D)) 0 16 (iI t + 1)).1 0 15 = iI ((A + p : Nat) : Int) := by simp (disch := omega) only [rfS_cell, sI_cell, sI_place, sI_same, sI_2]; exact h15
    rw [e15, show (1 : Int32) = iI 1 from rfl, iI_add, iI_add]
    have w0 : wtI (zz n z p) ≠ -9 := by rw [c1]; decide
    rw [if_neg w0, if_neg (by omega), Nat.add_zero, s2]
    rfl
  · rw [if_neg c1]
    by_cases c2 : zz n z p = 111
    · rw [if_pos c2]
      unfold f6_readTank_J157 f6_readTank_J178
      rw [if_pos rfl, ck_nat (show t < 7 by omega) (by omega), h4 t (by omega), nm_eq, if_pos rfl, nm_eq, nm_eq, show (1 : Int32) = iI 1 from rfl, f6_takes_t (by decide) (by decide), h17, iI_add]
      have e18 : (sI S 0 17 (iI ((smN D t : Int) + (3 ^ t : Nat)))).1 0 18 = iI D := by simp (disch := omega) only [rfS_cell, sI_cell, sI_place, sI_same, sI_2]; exact h18
      rw [e18, show iI 1 = (1 : Int32) from rfl, o1]
      have e16 : (sI (sI S 0 17 (iI ((smN D t : Int) + (3 ^ t : Nat)))) 0 18 (iI (D + 2 ^ t : Nat))).1 0 16 = iI t := by simp (disch := omega) only [rfS_cell, sI_cell, sI_place, sI_same, sI_2]; exact h16
      rw [e16]
      have e15 : (sI (sI (sI S 0 17 (iI ((smN D t : Int) + (3 ^ t : Nat)))) 0 18 (iI (D + 2 ^ t : Nat))) 0 16 (iI t + 1)).1 0 15 = iI ((A + p : Nat) : Int) := by simp (disch := omega) only [rfS_cell, sI_cell, sI_place, sI_same, sI_2]; exact h15
      rw [e15, show (1 : Int32) = iI 1 from rfl, iI_add, iI_add]
      have w0 : wtI (zz n z p) ≠ -9 := by rw [c2]; decide
      rw [if_neg w0, if_pos c2, s1]
      rfl
    · rw [if_neg c2]
      unfold f6_readTank_J157 f6_readTank_J178
      rw [if_neg (by decide), nm_eq, if_neg (by decide), nm_eq, nm_eq, show (-9 : Int32) = iI (-9) from rfl, f6_takes_f, h17, show (0 : Int32) = iI 0 from rfl, iI_add, Int.add_zero]
      have e18 : (sI S 0 17 (iI (smN D t))).1 0 18 = iI D := by simp (disch := omega) only [rfS_cell, sI_cell, sI_place, sI_same, sI_2]; exact h18
      rw [e18, show iI 0 = (0 : Int32) from rfl, o2]
      have e16 : (sI (sI S 0 17 (iI (smN D t))) 0 18 (iI D)).1 0 16 = iI t := by simp (disch := omega) only [rfS_cell, sI_cell, sI_place, sI_same, sI_2]; exact h16
      rw [e16, show (1 : Int32) = iI 1 from rfl, iI_add]
      have w0 : wtI (zz n z p) = -9 := by unfold wtI; rw [if_neg c1, if_neg c2]
      rw [if_pos w0]
      rfl
end Read
