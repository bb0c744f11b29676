/-! PURE PART 32: pumpable tanks, the loops -/
theorem FP2_sm {σ : Sg} {S : MS} {F0 t0 : Nat} {T U : MS} (hB : FP2 σ S F0 t0 T) (hs : SmX σ T U) : FP2 σ S F0 t0 U := by
  obtain ⟨b1, b2, b3⟩ := hB
  refine ⟨b1.tr (SrX.sm hs), fun F hF => by rw [hs.cell (by omega) (by omega)]; exact b2 F hF, fun F hF => ?_⟩
  obtain ⟨a, a1, a2, a3⟩ := b3 F hF
  exact ⟨a, a1, by rw [hs.cell (by omega) (by omega)]; exact a2, a3⟩
theorem X_fp50 {α : Type} {σ : Sg} (h : Gd σ) {S : MS} (hS : ShX σ S) {F0 : Nat} (hF0 : F0 < 2 ^ σ 0 0) {T0 : MS} (hB : FP2 σ S F0 0 T0) (KX : Int32 → MS → Option α) : ∃ T, FP2 σ S F0 (σ 0 0) T ∧ f2_findPumpable_L50 (iI F0) KX FU (iI 0) T0 = KX (iI (σ 0 0)) T := by
  have hn6 := h.1
  have hp2 := p2_bd hn6
  have hd := d64 h
  obtain ⟨s', h1, h2⟩ := loop_rel (σ := Int32 × MS) (L := fun fuel s => f2_findPumpable_L50 (iI F0) KX fuel s.1 s.2) (KX := fun s => KX s.1 s.2) (σ 0 0) (fun i s => s.1 = iI i ∧ FP2 σ S F0 i s.2)
    (by
      intro fuel t s hit ⟨e1, hB⟩
      obtain ⟨v, T⟩ := s
      dsimp only at e1 hB ⊢
      subst e1
      have hT := hB.1.sh hS
      have F64 : F0 < 64 := by omega
      obtain ⟨an1, an2⟩ := and_all F0 F64 (σ 0 3) hd.2
      have an3 := andb_all F0 F64 (σ 0 3) hd.2 t (by omega)
      have nx : iI (t : Int) + 1 = iI (t + 1 : Nat) := by rw [show (1 : Int32) = iI 1 from rfl, iI_add]; rfl
      have E0 : f2_findPumpable_L50 (iI F0) KX (fuel + 1) (iI t) T = if bt (F0 &&& σ 0 3) t = true then (f3_isSafeHalfway (iI F0) (iI t) T fun r14 S13 => if r14 = 0 then (f2_findPumpable_L50 (iI F0) KX fuel (iI (t + 1 : Nat)) S13) else (ck (iI (xrN F0 t)) 64 fun k17 => if (S13.1 14 k17) = 0 then (f2_findPumpable_J109 (iI F0) (iI t) (iI (xrN F0 t)) S13 (f2_findPumpable_L50 (iI F0) KX fuel) KX) else (ck (iI F0) 64 fun k24 => ck (iI F0) 64 fun k25 => nm (sI S13 15 k25 ((S13.1 15 k24) ||| ((1 : Int32) <<< (iI t &&& 31)))) fun S26 => f2_findPumpable_J109 (iI F0) (iI t) (iI (xrN F0 t)) S26 (f2_findPumpable_L50 (iI F0) KX fuel) KX))) else f2_findPumpable_L50 (iI F0) KX fuel (iI (t + 1 : Nat)) T := by
        rw [f2_findPumpable_L50, hT.1, ite_le ⟨⟨by omega, by omega⟩, ⟨by omega, by omega⟩⟩, if_neg (by omega), hT.2.2.2.1, an1, f5_holds_eq an2 (by omega), xor_all F0 F64 t (by omega)]
        simp only [nm_eq, nx]
        by_cases c : bt (F0 &&& σ 0 3) t = true
        · rw [if_pos c, if_pos c, if_neg (by decide)]; rfl
        · rw [if_neg c, if_neg c]; rfl
      rw [E0]
      by_cases c : bt (F0 &&& σ 0 3) t = true
      · rw [if_pos c, f3_isSafeHalfway_eq h hT F64 hit, ite_bI]
        have hbb : bt F0 t = true ∧ bt (σ 0 3) t = true := by
          rw [an3] at c
          simpa using c
        have hU := FP2_sm hB (SmX.ld σ (gH σ F0 t) T)
        generalize LdS σ (σ 0 0) (gH σ F0 t) T = U at hU
        by_cases c2 : Sf σ 2 (σ 0 0) (gH σ F0 t)
        · rw [if_pos c2]
          obtain ⟨k1, k2, k3, k4⟩ := fw_back F0 F64 t (by omega) hbb.1
          have hx := xr_ltn (σ 0 0) hn6 F0 hF0 t hit
          have sx := hU.2.1 _ hx
          have s0 := hU.2.1 F0 hF0
          rw [ck_nat (show xrN F0 t < 64 by omega) (by omega), sx, ite_bI]
          by_cases c3 : Sf σ 1 (σ 0 0) (gF σ (xrN F0 t))
          · rw [if_pos c3, ck_nat F64 (by omega), ck_nat F64 (by omega), nm_eq]
            unfold f2_findPumpable_J109
            rw [ck_nat F64 (by omega), sI_cell _ _ _ (show 14 ≠ 15 by omega), s0, ite_bI]
            by_cases c4 : Sf σ 1 (σ 0 0) (gF σ F0)
            · rw [if_pos c4, ck_nat (show xrN F0 t < 64 by omega) (by omega), ck_nat (show xrN F0 t < 64 by omega) (by omega), nm_eq, nm_eq, nx]
              refine ⟨(iI (t + 1 : Nat), (sI (sI U 15 F0 (U.1 15 F0 ||| ((1 : Int32) <<< (iI (t : Nat) &&& 31)))) 15 (xrN F0 t) ((sI U 15 F0 (U.1 15 F0 ||| ((1 : Int32) <<< (iI (t : Nat) &&& 31)))).1 15 (xrN F0 t) ||| ((1 : Int32) <<< (iI (t : Nat) &&& 31))))), ⟨rfl, FP2_mark h hF0 hit hU hbb.1 hbb.2 c2 (T' := (sI (sI U 15 F0 (U.1 15 F0 ||| ((1 : Int32) <<< (iI (t : Nat) &&& 31)))) 15 (xrN F0 t) ((sI U 15 F0 (U.1 15 F0 ||| ((1 : Int32) <<< (iI (t : Nat) &&& 31)))).1 15 (xrN F0 t) ||| ((1 : Int32) <<< (iI (t : Nat) &&& 31))))) ((SrX.s1 _ _ (by omega)).tr (SrX.s1 _ _ (by omega))) (by simp (disch := omega) only [rfS_cell, sI_cell, sI_place, sI_same, sI_2]) (fun F f1 f2 => by simp (disch := omega) only [rfS_cell, sI_cell, sI_place, sI_same, sI_2]) ?_ ?_⟩, rfl⟩
              · rw [if_pos (bI_t c3), sI_place _ _ _ (by omega), sI_same]
              · rw [if_pos (bI_t c4), sI_same, sI_place _ _ _ k4]
            · rw [if_neg c4, nm_eq, nx]
              refine ⟨(iI (t + 1 : Nat), (sI U 15 F0 (U.1 15 F0 ||| ((1 : Int32) <<< (iI (t : Nat) &&& 31))))), ⟨rfl, FP2_mark (T' := (sI U 15 F0 (U.1 15 F0 ||| ((1 : Int32) <<< (iI (t : Nat) &&& 31))))) h hF0 hit hU hbb.1 hbb.2 c2 (SrX.s1 _ _ (by omega)) (by simp (disch := omega) only [rfS_cell, sI_cell, sI_place, sI_same, sI_2]) (fun F f1 f2 => by simp (disch := omega) only [rfS_cell, sI_cell, sI_place, sI_same, sI_2]) ?_ ?_⟩, rfl⟩
              · rw [if_pos (bI_t c3), sI_same]
              · rw [if_neg (by rw [bI_f c4]; omega), sI_place _ _ _ k4]
          · rw [if_neg c3]
            unfold f2_findPumpable_J109
            rw [ck_nat F64 (by omega), s0, ite_bI]
            by_cases c4 : Sf σ 1 (σ 0 0) (gF σ F0)
            · rw [if_pos c4, ck_nat (show xrN F0 t < 64 by omega) (by omega), ck_nat (show xrN F0 t < 64 by omega) (by omega), nm_eq, nm_eq, nx]
              refine ⟨(iI (t + 1 : Nat), (sI U 15 (xrN F0 t) (U.1 15 (xrN F0 t) ||| ((1 : Int32) <<< (iI (t : Nat) &&& 31))))), ⟨rfl, FP2_mark (T' := (sI U 15 (xrN F0 t) (U.1 15 (xrN F0 t) ||| ((1 : Int32) <<< (iI (t : Nat) &&& 31))))) h hF0 hit hU hbb.1 hbb.2 c2 (SrX.s1 _ _ (by omega)) (by simp (disch := omega) only [rfS_cell, sI_cell, sI_place, sI_same, sI_2]) (fun F f1 f2 => by simp (disch := omega) only [rfS_cell, sI_cell, sI_place, sI_same, sI_2]) ?_ ?_⟩, rfl⟩
              · rw [if_neg (by rw [bI_f c3]; omega), sI_place _ _ _ (by omega)]
              · rw [if_pos (bI_t c4), sI_same]
            · rw [if_neg c4, nm_eq, nx]
              refine ⟨(iI (t + 1 : Nat), U), ⟨rfl, FP2_mark (T' := U) h hF0 hit hU hbb.1 hbb.2 c2 (SrX.rf U) rfl (fun F f1 f2 => rfl) ?_ ?_⟩, rfl⟩
              · rw [if_neg (by rw [bI_f c3]; omega)]
              · rw [if_neg (by rw [bI_f c4]; omega)]
        · rw [if_neg c2]
          exact ⟨(iI (t + 1 : Nat), U), ⟨rfl, FP2_skip h hF0 hit hU (fun _ g => c2 g.2)⟩, rfl⟩
      · rw [if_neg c]
        refine ⟨(iI (t + 1 : Nat), T), ⟨rfl, FP2_skip h hF0 hit hB (fun g1 g2 => c ?_)⟩, rfl⟩
        rw [an3, g1, g2.1]
        rfl)
    (by
      intro fuel s ⟨e1, hB⟩
      obtain ⟨v, T⟩ := s
      dsimp only at e1 hB ⊢
      subst e1
      rw [f2_findPumpable_L50, (hB.1.sh hS).1, ite_le ⟨⟨by omega, by omega⟩, ⟨by omega, by omega⟩⟩, if_pos (by omega)])
    FU 0 (iI 0, T0) (by omega) (by rw [FU_eq]; omega) ⟨rfl, hB⟩
  obtain ⟨v, T⟩ := s'
  obtain ⟨e1, hB2⟩ := h1
  dsimp only at e1 hB2 h2
  subst e1
  exact ⟨T, hB2, h2⟩
/-- the class's table of pumpable tanks -/
def PpX (σ : Sg) (T : MS) : Prop := ∀ F, F < 2 ^ σ 0 0 → ∃ a : Nat, a < 64 ∧ T.1 15 F = iI a ∧ ∀ t, t < σ 0 0 → (bt a t = true ↔ PP σ F t)
theorem X_findPumpable {α : Type} {σ : Sg} (h : Gd σ) {S : MS} (hS : ShX σ S) (K : MS → Option α) : ∃ T, SrX S T ∧ PpX σ T ∧ f2_findPumpable S K = K T := by
  have hn6 := h.1
  have hp2 := p2_bd hn6
  have s1 := shl_all (σ 0 0) hn6
  unfold f2_findPumpable
  obtain ⟨T1, ⟨a1, a2⟩, a3⟩ := X_fp1 h hS (fun v2_9 S8 => f2_findPumpable_L38 (fun v2_31 S30 => K S30) FU 0 S8)
  have hB : FP2 σ S 0 0 T1 := ⟨a1, fun F hF => (a2 F hF).1, fun F hF => ⟨0, by omega, (a2 F hF).2, fun t ht => by
    rw [bt_zero t (by omega)]
    constructor
    · intro g; cases g
    · intro g; have := g.2; unfold Lx at this; omega⟩⟩
  obtain ⟨s', h1, h2⟩ := loop_rel (σ := Int32 × MS) (L := fun fuel s => f2_findPumpable_L38 (fun v2_31 S30 => K S30) fuel s.1 s.2) (KX := fun s => K s.2) (2 ^ σ 0 0) (fun i s => s.1 = iI i ∧ FP2 σ S i 0 s.2)
    (by
      intro fuel F0 s hit ⟨e1, hB⟩
      obtain ⟨v, T⟩ := s
      dsimp only at e1 hB ⊢
      subst e1
      obtain ⟨T', b1, b2⟩ := X_fp50 h hS hit hB (fun v3_28 S27 => nm (iI F0 + 1) fun x2_29 => f2_findPumpable_L38 (fun v2_31 S30 => K S30) fuel x2_29 S27)
      refine ⟨(iI (F0 + 1 : Nat), T'), ⟨rfl, FP2_next b1⟩, ?_⟩
      dsimp only
      rw [f2_findPumpable_L38, (hB.1.sh hS).1, s1, ite_le ⟨⟨by omega, by omega⟩, ⟨by omega, by omega⟩⟩, if_neg (by omega), show (0 : Int32) = iI 0 from rfl]
      refine b2.trans ?_
      rw [nm_eq, show (1 : Int32) = iI 1 from rfl, iI_add]
      rfl)
    (by
      intro fuel s ⟨e1, hB⟩
      obtain ⟨v, T⟩ := s
      dsimp only at e1 hB ⊢
      subst e1
      rw [f2_findPumpable_L38, (hB.1.sh hS).1, s1, ite_le ⟨⟨by omega, by omega⟩, ⟨by omega, by omega⟩⟩, if_pos (by omega)])
    FU 0 (iI 0, T1) (by omega) (by rw [FU_eq]; omega) ⟨rfl, hB⟩
  obtain ⟨v, T⟩ := s'
  obtain ⟨e1, b1, b2, b3⟩ := h1
  dsimp only at e1 b1 b2 b3 h2
  refine ⟨T, b1, fun F hF => ?_, ?_⟩
  · obtain ⟨a, a1, a2, a3⟩ := b3 F hF
    refine ⟨a, a1, a2, fun t ht => (a3 t ht).trans ⟨fun g => g.1, fun g => ⟨g, Or.inl (fw_ltn _ hn6 F hF t ht)⟩⟩⟩
  · rw [show (0 : Int32) = iI 0 from rfl]
    exact a3.trans h2
