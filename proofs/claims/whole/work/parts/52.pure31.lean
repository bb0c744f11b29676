/-! PURE PART 31: pumpable tanks, as the class finds them -/
theorem and_all : ∀ F, F < 64 → ∀ W, W < 64 → iI (F : Nat) &&& iI (W : Nat) = iI ((F &&& W : Nat) : Int) ∧ F &&& W < 64 := by decide +kernel
theorem andb_all : ∀ F, F < 64 → ∀ W, W < 64 → ∀ t, t < 6 → bt (F &&& W) t = (bt F t && bt W t) := by decide +kernel
def orN (a t : Nat) : Nat := if bt a t then a else a + 2 ^ t
theorem orN_all : ∀ a, a < 64 → ∀ t, t < 6 → iI (a : Nat) ||| ((1 : Int32) <<< (iI (t : Nat) &&& 31)) = iI (orN a t) ∧ orN a t < 64 ∧ ∀ q, q < 6 → bt (orN a t) q = if q = t then true else bt a q := by decide +kernel
def fw (F t : Nat) : Nat := if bt F t then F else F + 2 ^ t
theorem fw_all : ∀ F, F < 64 → ∀ t, t < 6 → fw F t < 64 ∧ bt (fw F t) t = true ∧ (F = fw F t ∨ F = xrN (fw F t) t) ∧ ∀ q, q < 6 → q ≠ t → bt F q = bt (fw F t) q := by decide +kernel
theorem fw_ltn : ∀ n, n ≤ 6 → ∀ F, F < 2 ^ n → ∀ t, t < n → fw F t < 2 ^ n := by decide +kernel
theorem fw_back : ∀ F, F < 64 → ∀ t, t < 6 → bt F t = true → fw F t = F ∧ fw (xrN F t) t = F ∧ xrN (xrN F t) t = F ∧ xrN F t ≠ F := by decide +kernel
theorem bt_zero : ∀ t, t < 6 → bt 0 t = false := by decide
def PP (σ : Sg) (F t : Nat) : Prop := bt (σ 0 3) t = true ∧ Sf σ 2 (σ 0 0) (gH σ F t) ∧ Sf σ 1 (σ 0 0) (gF σ (xrN F t))
theorem PP_can {σ : Sg} (h : Gd σ) {w t : Nat} (hw : w < 729) (ht : t < σ 0 0) : PP σ (fuN w (σ 0 0)) t ↔ CanP σ w t := by
  have hn6 := h.1
  have hfu : fuN w (σ 0 0) < 64 := by have := fuN_lt w (σ 0 0); have := p2_bd hn6; omega
  have e1 : Sf σ 2 (σ 0 0) (gH σ (fuN w (σ 0 0)) t) ↔ Sf σ 2 (σ 0 0) (gW σ w t) := Sf_congr (fun q hq => gH_gW h hq)
  obtain ⟨x1, x2⟩ := xr_all _ hfu t (by omega)
  have e2 : Sf σ 1 (σ 0 0) (gF σ (xrN (fuN w (σ 0 0)) t)) ↔ Sf σ 2 (σ 0 0) (gW σ (pmN w t) (-9)) := SfF (fun q hq => by
    rw [x2 q (by omega), (pm_all w hw t (by omega)).2 q (by omega), bt_fuN w hq, bt_fuN w ht]
    by_cases e : q = t
    · rw [if_pos e, if_pos e]
      by_cases hd : dg w t = 0
      · rw [if_pos hd]; simp [hd]
      · rw [if_neg hd]; simp [hd]
    · rw [if_neg e, if_neg e])
  unfold PP CanP
  rw [e1, e2]
theorem gH_same {σ : Sg} (h : Gd σ) {F F' t : Nat} (he : ∀ q, q < 6 → q ≠ t → bt F q = bt F' q) : Sf σ 2 (σ 0 0) (gH σ F t) ↔ Sf σ 2 (σ 0 0) (gH σ F' t) := by
  have hn6 := h.1
  refine Sf_congr (fun q hq => ?_)
  unfold gH
  by_cases e : q = t
  · rw [if_pos e, if_pos e]
  · rw [if_neg e, if_neg e, he q (by omega) e]
/-- the cells of the class that the search writes -/
def SrX (S T : MS) : Prop := (∀ j, j ≠ 3 → j ≠ 5 → j ≠ 6 → ¬ (9 ≤ j ∧ j ≤ 15) → T.1 j = S.1 j)
theorem SrX.rf (S : MS) : SrX S S := fun _ _ _ _ _ => rfl
theorem SrX.tr {a b c : MS} (h1 : SrX a b) (h2 : SrX b c) : SrX a c := fun j a b c d => (h2 j a b c d).trans (h1 j a b c d)
theorem SrX.sh {σ : Sg} {S T : MS} (h : SrX S T) (hS : ShX σ S) : ShX σ T := ShX_of hS (fun j hj => h j (by omega) (by omega) (by omega) (by omega))
theorem SrX.sm {σ : Sg} {S T : MS} (h : SmX σ S T) : SrX S T := fun j a b c d => h.cell b c
theorem SrX.s1 (S : MS) {j f : Nat} (v : Int32) (hj : j = 3 ∨ (9 ≤ j ∧ j ≤ 15)) : SrX S (sI S j f v) := fun q a b c d => sI_cell _ _ _ (by omega)
def FP1 (σ : Sg) (S : MS) (i : Nat) (T : MS) : Prop := SrX S T ∧ (∀ F, F < i → T.1 14 F = iI (bI (Sf σ 1 (σ 0 0) (gF σ F))) ∧ T.1 15 F = iI 0)
def FP2 (σ : Sg) (S : MS) (F0 t0 : Nat) (T : MS) : Prop := SrX S T ∧ (∀ F, F < 2 ^ σ 0 0 → T.1 14 F = iI (bI (Sf σ 1 (σ 0 0) (gF σ F)))) ∧ (∀ F, F < 2 ^ σ 0 0 → ∃ a : Nat, a < 64 ∧ T.1 15 F = iI a ∧ ∀ t, t < σ 0 0 → (bt a t = true ↔ PP σ F t ∧ Lx (fw F t) t F0 t0))
theorem nar_bI (p : Prop) : vp_nar .boolean (iI (bI p)) = iI (bI p) := by
  rcases bI_01 p with h | h <;> rw [h] <;> decide
theorem X_fp1 {α : Type} {σ : Sg} (h : Gd σ) {S : MS} (hS : ShX σ S) (KX : Int32 → MS → Option α) : ∃ T, FP1 σ S (2 ^ σ 0 0) T ∧ f2_findPumpable_L2 KX FU (iI 0) S = KX (iI (2 ^ σ 0 0 : Nat)) T := by
  have hn6 := h.1
  have hp2 := p2_bd hn6
  have s1 := shl_all (σ 0 0) hn6
  obtain ⟨s', h1, h2⟩ := loop_rel (σ := Int32 × MS) (L := fun fuel s => f2_findPumpable_L2 KX fuel s.1 s.2) (KX := fun s => KX s.1 s.2) (2 ^ σ 0 0) (fun i s => s.1 = iI i ∧ FP1 σ S i s.2)
    (by
      intro fuel i s hit ⟨e1, b1, b2⟩
      obtain ⟨v, T⟩ := s
      dsimp only at e1 b1 b2 ⊢
      subst e1
      have hT := b1.sh hS
      refine ⟨(iI (i + 1 : Nat), sI (sI (LdS σ (σ 0 0) (gF σ i) T) 14 i (iI (bI (Sf σ 1 (σ 0 0) (gF σ i))))) 15 i (iI 0)), ⟨rfl, ?_, fun F hF => ?_⟩, ?_⟩
      · exact b1.tr ((SrX.sm (SmX.ld σ _ T)).tr ((SrX.s1 _ _ (by omega)).tr (SrX.s1 _ _ (by omega))))
      · dsimp only
        by_cases e : F = i
        · subst e; exact ⟨by simp (disch := omega) only [rfS_cell, sI_cell, sI_place, sI_same, sI_2], by simp (disch := omega) only [rfS_cell, sI_cell, sI_place, sI_same, sI_2]⟩
        · have := b2 F (by omega)
          refine ⟨?_, ?_⟩
          · simp (disch := omega) only [rfS_cell, sI_cell, sI_place, sI_same, sI_2]; rw [LdS_cell _ _ _ _ (by omega) (by omega)]; exact this.1
          · simp (disch := omega) only [rfS_cell, sI_cell, sI_place, sI_same, sI_2]; rw [LdS_cell _ _ _ _ (by omega) (by omega)]; exact this.2
      · dsimp only
        rw [f2_findPumpable_L2, hT.1, s1, ite_le ⟨⟨by omega, by omega⟩, ⟨by omega, by omega⟩⟩, if_neg (by omega), f3_isSafe_eq h hT (by omega), ck_nat (by omega) (by omega), nm_eq, nar_bI, ck_nat (by omega) (by omega), nm_eq, nm_eq, show (1 : Int32) = iI 1 from rfl, iI_add]
        rfl)
    (by
      intro fuel s ⟨e1, b1, b2⟩
      obtain ⟨v, T⟩ := s
      dsimp only at e1 b1 b2 ⊢
      subst e1
      rw [f2_findPumpable_L2, (b1.sh hS).1, s1, ite_le ⟨⟨by omega, by omega⟩, ⟨by omega, by omega⟩⟩, if_pos (by omega)])
    FU 0 (iI 0, S) (by omega) (by rw [FU_eq]; omega) ⟨rfl, SrX.rf S, fun F hF => by omega⟩
  obtain ⟨v, T⟩ := s'
  obtain ⟨e1, hB2⟩ := h1
  dsimp only at e1 hB2 h2
  subst e1
  exact ⟨T, hB2, h2⟩
theorem FP2_skip {σ : Sg} (h : Gd σ) {S : MS} {F0 t0 : Nat} {T : MS} (hF0 : F0 < 2 ^ σ 0 0) (ht0 : t0 < σ 0 0) (hB : FP2 σ S F0 t0 T) (hno : bt F0 t0 = true → ¬ (bt (σ 0 3) t0 = true ∧ Sf σ 2 (σ 0 0) (gH σ F0 t0))) : FP2 σ S F0 (t0 + 1) T := by
  have hn6 := h.1
  have hp2 := p2_bd hn6
  obtain ⟨b1, b2, b3⟩ := hB
  refine ⟨b1, b2, fun F hF => ?_⟩
  obtain ⟨a, a1, a2, a3⟩ := b3 F hF
  refine ⟨a, a1, a2, fun t ht => (a3 t ht).trans ?_⟩
  obtain ⟨f1, f2, f3, f4⟩ := fw_all F (by omega) t (by omega)
  by_cases e : fw F t = F0 ∧ t = t0
  · obtain ⟨rfl, rfl⟩ := e
    have : ¬ PP σ F t := fun g => hno f2 ⟨g.1, (gH_same h f4).mp g.2.1⟩
    constructor
    · intro g; exact absurd g.1 this
    · intro g; exact absurd g.1 this
  · have : Lx (fw F t) t F0 t0 ↔ Lx (fw F t) t F0 (t0 + 1) := by unfold Lx; omega
    rw [this]
theorem FP2_next {σ : Sg} {S : MS} {F0 : Nat} {T : MS} (hB : FP2 σ S F0 (σ 0 0) T) : FP2 σ S (F0 + 1) 0 T := by
  obtain ⟨b1, b2, b3⟩ := hB
  refine ⟨b1, b2, fun F hF => ?_⟩
  obtain ⟨a, a1, a2, a3⟩ := b3 F hF
  refine ⟨a, a1, a2, fun t ht => (a3 t ht).trans ?_⟩
  have : Lx (fw F t) t F0 (σ 0 0) ↔ Lx (fw F t) t (F0 + 1) 0 := by unfold Lx; omega
  rw [this]
/-- two steps of marking: the tank out of F0, and into what is left of it -/
theorem FP2_mark {σ : Sg} (h : Gd σ) {S : MS} {F0 t0 : Nat} {T : MS} (hF0 : F0 < 2 ^ σ 0 0) (ht0 : t0 < σ 0 0) (hB : FP2 σ S F0 t0 T) (hb : bt F0 t0 = true) (hk : bt (σ 0 3) t0 = true) (hh : Sf σ 2 (σ 0 0) (gH σ F0 t0)) {T' : MS} (hs : SrX T T') (h14 : T'.1 14 = T.1 14)
    (hu : ∀ F, F ≠ F0 → F ≠ xrN F0 t0 → T'.1 15 F = T.1 15 F)
    (h1 : T'.1 15 F0 = if bI (Sf σ 1 (σ 0 0) (gF σ (xrN F0 t0))) = 1 then T.1 15 F0 ||| ((1 : Int32) <<< (iI (t0 : Nat) &&& 31)) else T.1 15 F0)
    (h2 : T'.1 15 (xrN F0 t0) = if bI (Sf σ 1 (σ 0 0) (gF σ F0)) = 1 then T.1 15 (xrN F0 t0) ||| ((1 : Int32) <<< (iI (t0 : Nat) &&& 31)) else T.1 15 (xrN F0 t0)) : FP2 σ S F0 (t0 + 1) T' := by
  have hn6 := h.1
  have hp2 := p2_bd hn6
  obtain ⟨b1, b2, b3⟩ := hB
  obtain ⟨k1, k2, k3, k4⟩ := fw_back F0 (by omega) t0 (by omega) hb
  have b01 : ∀ P : Prop, bI P = 1 ↔ P := fun P => ⟨fun g => Classical.byContradiction (fun n => by rw [bI_f n] at g; omega), bI_t⟩
  have hx : ∀ q, q < 6 → q ≠ t0 → bt (xrN F0 t0) q = bt F0 q := fun q hq hne => by rw [(xr_all F0 (by omega) t0 (by omega)).2 q hq, if_neg hne]
  have gen : ∀ F, F < 2 ^ σ 0 0 → fw F t0 = F0 → (T'.1 15 F = @ite _ (PP σ F t0) (Classical.propDecidable _) (T.1 15 F ||| ((1 : Int32) <<< (iI (t0 : Nat) &&& 31))) (T.1 15 F)) → ∃ a : Nat, a < 64 ∧ T'.1 15 F = iI a ∧ ∀ t, t < σ 0 0 → (bt a t = true ↔ PP σ F t ∧ Lx (fw F t) t F0 (t0 + 1)) := by
    intro F hF hfw hT
    obtain ⟨a, a1, a2, a3⟩ := b3 F hF
    obtain ⟨o1, o2, o3⟩ := orN_all a a1 t0 (by omega)
    by_cases hp : PP σ F t0
    · rw [if_pos hp, a2, o1] at hT
      refine ⟨orN a t0, o2, hT, fun t ht => ?_⟩
      rw [o3 t (by omega)]
      by_cases e : t = t0
      · subst e
        rw [if_pos rfl]
        exact ⟨fun _ => ⟨hp, Or.inr ⟨hfw, by omega⟩⟩, fun _ => rfl⟩
      · rw [if_neg e]
        have : Lx (fw F t) t F0 t0 ↔ Lx (fw F t) t F0 (t0 + 1) := by unfold Lx; omega
        rw [← this]
        exact a3 t ht
    · rw [if_neg hp, a2] at hT
      refine ⟨a, a1, hT, fun t ht => ?_⟩
      by_cases e : t = t0
      · subst e
        have := a3 t ht
        constructor
        · intro g; exact absurd (this.mp g).1 hp
        · intro g; exact absurd g.1 hp
      · have : Lx (fw F t) t F0 t0 ↔ Lx (fw F t) t F0 (t0 + 1) := by unfold Lx; omega
        rw [← this]
        exact a3 t ht
  refine ⟨b1.tr hs, fun F hF => by rw [h14]; exact b2 F hF, fun F hF => ?_⟩
  by_cases e1 : F = F0
  · subst e1
    refine gen F hF k1 (h1.trans ?_)
    have : bI (Sf σ 1 (σ 0 0) (gF σ (xrN F t0))) = 1 ↔ PP σ F t0 := by
      rw [b01]; exact ⟨fun g => ⟨hk, hh, g⟩, fun g => g.2.2⟩
    by_cases c : PP σ F t0
    · rw [if_pos c, if_pos (this.mpr c)]
    · rw [if_neg c, if_neg (fun g => c (this.mp g))]
  · by_cases e2 : F = xrN F0 t0
    · subst e2
      refine gen _ hF k2 (h2.trans ?_)
      have : bI (Sf σ 1 (σ 0 0) (gF σ F0)) = 1 ↔ PP σ (xrN F0 t0) t0 := by
        rw [b01]
        unfold PP
        rw [k3]
        exact ⟨fun g => ⟨hk, (gH_same h (fun q h1 h2 => (hx q h1 h2).symm)).mp hh, g⟩, fun g => g.2.2⟩
      by_cases c : PP σ (xrN F0 t0) t0
      · rw [if_pos c, if_pos (this.mpr c)]
      · rw [if_neg c, if_neg (fun g => c (this.mp g))]
    · obtain ⟨a, a1, a2, a3⟩ := b3 F hF
      refine ⟨a, a1, by rw [hu F e1 e2]; exact a2, fun t ht => (a3 t ht).trans ?_⟩
      obtain ⟨f1, f2, f3, f4⟩ := fw_all F (by omega) t (by omega)
      have ne : ¬ (fw F t = F0 ∧ t = t0) := by
        rintro ⟨g1, g2⟩
        rw [g1, g2] at f3
        rcases f3 with f | f
        · exact e1 f
        · exact e2 f
      have : Lx (fw F t) t F0 t0 ↔ Lx (fw F t) t F0 (t0 + 1) := by unfold Lx; omega
      rw [this]
