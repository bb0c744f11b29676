/-! PURE PART 16: kinds, masses, odds -/
section Kinds
/-- all readings are z -/
def AllR (SX : MS) (rc : Nat) (z : Int32) : Prop := ∀ q, q < rc → SX.1 4 q = z
theorem readX {α : Type} (rc : Nat) (hrc : rc ≤ 8) (z : Int32) (S : MS) (h4 : S.1 0 4 = iI rc) (K : Int32 → MS → Option α) : ∀ fuel i, i ≤ rc → rc < fuel + i → (∀ q, q < i → S.1 4 q = z) → f5_readingsHoldWith_L13 z K (fun _ S5 => K 1 S5) fuel (iI (i : Nat)) S = K (iI (bI (AllR S rc z))) S := by
  intro fuel
  induction fuel with
  | zero => intro i h1 h2; omega
  | succ fuel ih =>
    intro i h1 h2 h3
    rw [f5_readingsHoldWith_L13, h4, ite_le ⟨⟨by omega, by omega⟩, ⟨by omega, by omega⟩⟩]
    by_cases hi : i = rc
    · subst hi
      rw [if_pos (by omega), bI_t (show AllR S i z from h3)]; rfl
    · rw [if_neg (by omega), ck_nat (show i < 8 by omega) (by omega)]
      by_cases hz : S.1 4 i = z
      · rw [if_pos hz, nm_eq, show (1 : Int32) = iI 1 from rfl, iI_add]
        exact ih (i + 1) (by omega) (by omega) (fun q hq => by
          by_cases e : q = i
          · rw [e]; exact hz
          · exact h3 q (by omega))
      · rw [if_neg hz, bI_f (fun q => hz (q i (by omega)))]; rfl
theorem readM {α : Type} (rc : Nat) (hrc : rc ≤ 8) (z : Int32) (S : MS) (h4 : S.1 0 34 = iI rc) (K : Int32 → MS → Option α) : ∀ fuel i, i ≤ rc → rc < fuel + i → (∀ q, q < i → S.1 21 q = z) → f6_areSo_L12 z K (fun _ S5 => K 1 S5) fuel (iI (i : Nat)) S = K (iI (bI (∀ q, q < rc → S.1 21 q = z))) S := by
  intro fuel
  induction fuel with
  | zero => intro i h1 h2; omega
  | succ fuel ih =>
    intro i h1 h2 h3
    rw [f6_areSo_L12, h4, ite_le ⟨⟨by omega, by omega⟩, ⟨by omega, by omega⟩⟩]
    by_cases hi : i = rc
    · subst hi
      rw [if_pos (by omega), bI_t h3]; rfl
    · rw [if_neg (by omega), ck_nat (show i < 8 by omega) (by omega)]
      by_cases hz : S.1 21 i = z
      · rw [if_pos hz, nm_eq, show (1 : Int32) = iI 1 from rfl, iI_add]
        exact ih (i + 1) (by omega) (by omega) (fun q hq => by
          by_cases e : q = i
          · rw [e]; exact hz
          · exact h3 q (by omega))
      · rw [if_neg hz, bI_f (fun q => hz (q i (by omega)))]; rfl
/-- the trim with another weight of one tank -/
def trW (σ : Sg) (t : Nat) (w : Int) : Int := trG σ (σ 0 0) (g1 σ (σ 0 1)) + if dg (σ 0 1) t = 0 then 0 else (w - wtN σ t) * ((σ 3 t : Int) - 3)
theorem f3_trimWith_eq {α : Type} {σ : Sg} (h : Gd σ) {S : MS} (hS : ShX σ S) {t : Nat} (ht : t < σ 0 0) (w : Int) (K : Int32 → MS → Option α) : f3_trimWith (iI t) (iI w) S K = K (iI (trW σ t w)) (LdS σ (σ 0 0) (g1 σ (σ 0 1)) S) := by
  have hn6 := h.1
  have hw := w729 h
  have hL := LdS_is σ (σ 0 0) (g1 σ (σ 0 1)) S
  have hS2 : ShX σ (LdS σ (σ 0 0) (g1 σ (σ 0 1)) S) := LdS_Sh hS
  have hd := dg_lt (σ 0 1) t
  unfold f3_trimWith
  rw [hS.2.1, f3_fullSet_eq h hS hw, ldNow h hS hw, nm_eq, hS2.2.1, f5_waterIn_eq hw (by omega), show (0 : Int32) = iI 0 from rfl, ite_eq ⟨⟨by omega, by omega⟩, by decide⟩, hL.2.1]
  unfold trW
  by_cases hz : dg (σ 0 1) t = 0
  · rw [if_pos (by omega), if_pos hz, Int.add_zero]
  · rw [if_neg (by omega), if_neg hz, ck_nat (show t < 6 by omega) (by omega), f4_weight_eq h ht hS2, ck_nat (show t < 6 by omega) (by omega), (hS2.2.2.2.2.2 t ht).2.1, show (3 : Int32) = iI 3 from rfl, iI_sub, iI_sub, iI_mul, iI_add]
theorem f5_hold_eq {α : Type} {σ : Sg} (h : Gd σ) {S : MS} (hS : ShX σ S) {t rc : Nat} (ht : t < σ 0 0) (hrc : rc ≤ 8) (h4 : S.1 0 4 = iI rc) (w : Int) (K : Int32 → MS → Option α) : f5_readingsHoldWith (iI t) (iI w) S K = K (iI (bI (AllR S rc (iI (trW σ t w))))) (LdS σ (σ 0 0) (g1 σ (σ 0 1)) S) := by
  unfold f5_readingsHoldWith
  rw [f3_trimWith_eq h hS ht]
  have e := readX rc hrc (iI (trW σ t w)) (LdS σ (σ 0 0) (g1 σ (σ 0 1)) S) (by rw [LdS_cell _ _ _ _ (by omega) (by omega)]; exact h4) K FU 0 (by omega) (by rw [FU_eq]; omega) (fun q hq => by omega)
  have e2 : AllR (LdS σ (σ 0 0) (g1 σ (σ 0 1)) S) rc (iI (trW σ t w)) ↔ AllR S rc (iI (trW σ t w)) := by
    unfold AllR
    rw [LdS_cell _ _ _ _ (by omega) (by omega)]
  rw [bI_congr e2] at e
  exact e
/-- the reference's ship with another kind or mass of one tank -/
theorem trG_swap {σ τ : Sg} {t : Nat} (ht : t < σ 0 0) (h0 : τ 0 0 = σ 0 0) (h01 : τ 0 1 = σ 0 1) (h3 : ∀ q, τ 3 q = σ 3 q) (hw : ∀ q, q ≠ t → wtN τ q = wtN σ q) : trG τ (τ 0 0) (g1 τ (τ 0 1)) = trW σ t (wtN τ t) := by
  have key : ∀ n, trG τ n (g1 τ (σ 0 1)) = trG σ n (g1 σ (σ 0 1)) + if t < n then (if dg (σ 0 1) t = 0 then 0 else ((wtN τ t : Int) - wtN σ t) * ((σ 3 t : Int) - 3)) else 0 := by
    intro n
    induction n with
    | zero => rfl
    | succ n ih =>
      show trG τ n (g1 τ (σ 0 1)) + g1 τ (σ 0 1) n * ((τ 3 n : Int) - 3) = trG σ n (g1 σ (σ 0 1)) + g1 σ (σ 0 1) n * ((σ 3 n : Int) - 3) + _
      rw [ih, h3]
      by_cases e : n = t
      · subst e
        rw [if_neg (by omega), if_pos (by omega)]
        unfold g1
        by_cases hz : dg (σ 0 1) n = 0
        · rw [if_pos hz, if_pos hz, if_pos hz]; simp
        · rw [if_neg hz, if_neg hz, if_neg hz, Int.sub_mul]; omega
      · have e2 : g1 τ (σ 0 1) n = g1 σ (σ 0 1) n := by unfold g1; rw [hw n e]
        rw [e2]
        by_cases c : t < n
        · rw [if_pos c, if_pos (show t < n + 1 by omega), Int.add_right_comm]
        · rw [if_neg c, if_neg (show ¬ t < n + 1 by omega), Int.add_zero, Int.add_zero]
  unfold trW
  rw [h0, h01, key, if_pos ht]
theorem f6_areSo_eq {α : Type} {τ : Sg} (h : Gd τ) {S : MS} (hS : ShM τ S) {rc : Nat} (hrc : rc ≤ 8) (h4 : S.1 0 34 = iI rc) (K : Int32 → MS → Option α) : f6_areSo S K = K (iI (bI (∀ q, q < rc → S.1 21 q = iI (trG τ (τ 0 0) (g1 τ (τ 0 1)))))) (WmS τ (τ 0 0) (gW τ (τ 0 1) (-9)) 7 S) := by
  have hw := w729 h
  unfold f6_areSo
  rw [hS.2.1, show (0 : Int32) = iI ((0 : Nat) : Int) from rfl, f6_measured_eq h hS hw (by omega)]
  have e := readM rc hrc (iI (msI τ (τ 0 1) 0)) (WmS τ (τ 0 0) (gW τ (τ 0 1) (-9)) 7 S) (by rw [WmS_0 _ _ _ _ _ (by omega)]; exact h4) K FU 0 (by omega) (by rw [FU_eq]; omega) (fun q hq => by omega)
  rw [WmS_cell _ _ _ _ _ (by omega) (by omega) (by omega)] at e
  exact e
def wtK (v m : Nat) : Nat := if v = 0 then m else if v = 1 then m + 1 else 2 * m
noncomputable def stN (P : Nat → Prop) : Nat → Nat
  | 0 => 0
  | n + 1 => stN P n + @ite Nat (P n) (Classical.propDecidable _) (2 ^ n) 0
theorem stN_lt (P : Nat → Prop) (n : Nat) : stN P n < 2 ^ n := by
  induction n with
  | zero => simp [stN]
  | succ n ih =>
    have e : 2 ^ (n + 1) = 2 ^ n + 2 ^ n := by rw [Nat.pow_succ]; omega
    by_cases h : P n
    · rw [stN, if_pos h]; omega
    · rw [stN, if_neg h]; omega
theorem stN_t {P : Nat → Prop} {n : Nat} (h : P n) : stN P (n + 1) = stN P n + 2 ^ n := by rw [stN, if_pos h]
theorem stN_f {P : Nat → Prop} {n : Nat} (h : ¬ P n) : stN P (n + 1) = stN P n := by rw [stN, if_neg h, Nat.add_zero]
theorem stN_congr {P Q : Nat → Prop} {n : Nat} (h : ∀ v, v < n → (P v ↔ Q v)) : stN P n = stN Q n := by
  induction n with
  | zero => rfl
  | succ n ih =>
    rw [stN, stN, ih (fun v hv => h v (by omega))]
    congr 1
    rw [propext (h n (by omega))]
theorem set_all10 : ∀ t, t < 10 → ∀ a, a < 2 ^ t → iI (a : Nat) ||| ((1 : Int32) <<< (iI (t : Nat) &&& 31)) = iI ((a + 2 ^ t : Nat) : Int) := by decide +kernel
theorem or_0 (x : Int32) : x ||| 0 = x := by simp
theorem f5_wtK {α : Type} {v m : Nat} (hv : v ≤ 2) (S : MS) (K : Int32 → MS → Option α) : f5_weightOf (iI v) (iI m) S K = K (iI (wtK v m)) S := by
  unfold f5_weightOf wtK
  rcases (show v = 0 ∨ v = 1 ∨ v = 2 by omega) with rfl | rfl | rfl
  · rfl
  · show K (iI m + 1) S = _; rw [show (1 : Int32) = iI 1 from rfl, iI_add]; rfl
  · show K ((2 : Int32) * iI m) S = _; rw [show (2 : Int32) = iI 2 from rfl, iI_mul]; rfl
/-- one round of the class's loops over kinds and masses -/
theorem X_kinds {α : Type} {σ : Sg} (h : Gd σ) {S : MS} (hS : ShX σ S) {t rc : Nat} (ht : t < σ 0 0) (hrc : rc ≤ 8) (h4 : S.1 0 4 = iI rc) (KX : Int32 → Int32 → MS → Option α) : f5_kinds_L14 (iI t) KX FU (iI 0) (iI 0) S = KX (iI (stN (fun v => AllR S rc (iI (trW σ t (wtK v (σ 5 t))))) 3)) (iI 3) (LdS σ (σ 0 0) (g1 σ (σ 0 1)) S) := by
  have hn6 := h.1
  have h1 := loop_eq (σ := Int32 × Int32 × MS) (L := fun fuel s => f5_kinds_L14 (iI t) KX fuel s.1 s.2.1 s.2.2) (KX := fun s => KX s.1 s.2.1 s.2.2) 3 (fun i => (iI (stN (fun v => AllR S rc (iI (trW σ t (wtK v (σ 5 t))))) i), iI i, if i = 0 then S else LdS σ (σ 0 0) (g1 σ (σ 0 1)) S))
    (by
      intro fuel i hi
      show f5_kinds_L14 (iI t) KX (fuel + 1) (iI (stN _ i)) (iI i) (if i = 0 then S else LdS σ (σ 0 0) (g1 σ (σ 0 1)) S) = f5_kinds_L14 (iI t) KX fuel (iI (stN _ (i + 1))) (iI (i + 1 : Nat)) (if i + 1 = 0 then S else LdS σ (σ 0 0) (g1 σ (σ 0 1)) S)
      generalize hT : (if i = 0 then S else LdS σ (σ 0 0) (g1 σ (σ 0 1)) S) = T
      have sm : SmX σ S T := by
        rw [← hT]
        split
        · exact SmX.rf _ _
        · exact SmX.ld _ _ _
      have hT2 := sm.sh hS
      have e4 : T.1 0 4 = iI rc := by rw [sm.cell (by omega) (by omega)]; exact h4
      have eL : LdS σ (σ 0 0) (g1 σ (σ 0 1)) T = LdS σ (σ 0 0) (g1 σ (σ 0 1)) S := by
        rcases sm with rfl | ⟨g, rfl⟩
        · rfl
        · exact LdS_two _ _ _ _ _
      have eA : AllR T rc (iI (trW σ t (wtK i (σ 5 t)))) ↔ AllR S rc (iI (trW σ t (wtK i (σ 5 t)))) := by
        unfold AllR; rw [sm.cell (by omega) (by omega)]
      rw [f5_kinds_L14, show (2 : Int32) = iI 2 from rfl, ite_lt ⟨by decide, ⟨by omega, by omega⟩⟩, if_neg (by omega), ck_nat (show t < 6 by omega) (by omega), (hT2.2.2.2.2.2 t ht).2.2.2, f5_wtK (by omega), f5_hold_eq h hT2 ht hrc e4, ite_bI, eL]
      simp only [nm_eq]
      rw [set_all i (by omega) _ (stN_lt _ i), show (1 : Int32) = iI 1 from rfl, iI_add, if_neg (show ¬ (i + 1 = 0) by omega)]
      by_cases hp : AllR T rc (iI (trW σ t (wtK i (σ 5 t))))
      · rw [if_pos hp, stN_t (P := fun v => AllR S rc (iI (trW σ t (wtK v (σ 5 t))))) (n := i) (eA.mp hp)]; rfl
      · rw [if_neg hp, stN_f (P := fun v => AllR S rc (iI (trW σ t (wtK v (σ 5 t))))) (n := i) (fun q => hp (eA.mpr q))]; rfl)
    (by
      intro fuel
      show f5_kinds_L14 (iI t) KX (fuel + 1) _ (iI (3 : Nat)) _ = _
      rw [f5_kinds_L14, show (2 : Int32) = iI 2 from rfl, ite_lt ⟨by decide, ⟨by omega, by omega⟩⟩, if_pos (by omega)])
    FU 0 (by omega) (by rw [FU_eq]; omega)
  exact h1
theorem X_masses {α : Type} {σ : Sg} (h : Gd σ) {S : MS} (hS : ShX σ S) {t rc : Nat} (ht : t < σ 0 0) (hrc : rc ≤ 8) (h4 : S.1 0 4 = iI rc) (KX : Int32 → Int32 → MS → Option α) : f5_masses_L14 (iI t) KX FU (iI 0) (iI 1) S = KX (iI (stN (fun v => 1 ≤ v ∧ AllR S rc (iI (trW σ t (wtK (σ 2 t) v)))) 10)) (iI 10) (LdS σ (σ 0 0) (g1 σ (σ 0 1)) S) := by
  have hn6 := h.1
  have hk := (h.2.2.2.2.2 t ht).1
  have s1 : stN (fun v => 1 ≤ v ∧ AllR S rc (iI (trW σ t (wtK (σ 2 t) v)))) 1 = 0 := by
    rw [stN, if_neg (by omega)]; rfl
  have h1 := loop_eq (σ := Int32 × Int32 × MS) (L := fun fuel s => f5_masses_L14 (iI t) KX fuel s.1 s.2.1 s.2.2) (KX := fun s => KX s.1 s.2.1 s.2.2) 9 (fun i => (iI (stN (fun v => 1 ≤ v ∧ AllR S rc (iI (trW σ t (wtK (σ 2 t) v)))) (i + 1)), iI (i + 1 : Nat), if i = 0 then S else LdS σ (σ 0 0) (g1 σ (σ 0 1)) S))
    (by
      intro fuel i hi
      show f5_masses_L14 (iI t) KX (fuel + 1) (iI (stN _ (i + 1))) (iI (i + 1 : Nat)) (if i = 0 then S else LdS σ (σ 0 0) (g1 σ (σ 0 1)) S) = f5_masses_L14 (iI t) KX fuel (iI (stN _ (i + 1 + 1))) (iI (i + 1 + 1 : Nat)) (if i + 1 = 0 then S else LdS σ (σ 0 0) (g1 σ (σ 0 1)) S)
      generalize hT : (if i = 0 then S else LdS σ (σ 0 0) (g1 σ (σ 0 1)) S) = T
      have sm : SmX σ S T := by
        rw [← hT]
        split
        · exact SmX.rf _ _
        · exact SmX.ld _ _ _
      have hT2 := sm.sh hS
      have e4 : T.1 0 4 = iI rc := by rw [sm.cell (by omega) (by omega)]; exact h4
      have eL : LdS σ (σ 0 0) (g1 σ (σ 0 1)) T = LdS σ (σ 0 0) (g1 σ (σ 0 1)) S := by
        rcases sm with rfl | ⟨g, rfl⟩
        · rfl
        · exact LdS_two _ _ _ _ _
      have eA : AllR T rc (iI (trW σ t (wtK (σ 2 t) (i + 1 : Nat)))) ↔ AllR S rc (iI (trW σ t (wtK (σ 2 t) (i + 1 : Nat)))) := by
        unfold AllR; rw [sm.cell (by omega) (by omega)]
      rw [f5_masses_L14, show (9 : Int32) = iI 9 from rfl, ite_lt ⟨by decide, ⟨by omega, by omega⟩⟩, if_neg (by omega), ck_nat (show t < 6 by omega) (by omega), (hT2.2.2.2.2.2 t ht).1, f5_wtK (by omega), f5_hold_eq h hT2 ht hrc e4, ite_bI, eL]
      simp only [nm_eq]
      rw [set_all10 (i + 1) (by omega) _ (stN_lt _ (i + 1)), show (1 : Int32) = iI 1 from rfl, iI_add, if_neg (show ¬ (i + 1 = 0) by omega)]
      by_cases hp : AllR T rc (iI (trW σ t (wtK (σ 2 t) (i + 1 : Nat))))
      · rw [if_pos hp, stN_t (P := fun v => 1 ≤ v ∧ AllR S rc (iI (trW σ t (wtK (σ 2 t) v)))) (n := i + 1) ⟨by omega, eA.mp hp⟩]; rfl
      · rw [if_neg hp, stN_f (P := fun v => 1 ≤ v ∧ AllR S rc (iI (trW σ t (wtK (σ 2 t) v)))) (n := i + 1) (fun q => hp (eA.mpr q.2))]; rfl)
    (by
      intro fuel
      show f5_masses_L14 (iI t) KX (fuel + 1) _ (iI (10 : Nat)) _ = _
      rw [f5_masses_L14, show (9 : Int32) = iI 9 from rfl, ite_lt ⟨by decide, ⟨by omega, by omega⟩⟩, if_pos (by omega)])
    FU 0 (by omega) (by rw [FU_eq]; omega)
  dsimp only at h1
  rw [s1] at h1
  exact h1
end Kinds
