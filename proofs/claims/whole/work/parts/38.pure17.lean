/-! PURE PART 17: kinds and masses of the reference -/
theorem sI_Wm {j : Nat} (τ : Sg) (n : Nat) (g : Nat → Int) (S : MS) (f : Nat) (v : Int32) (h0 : j ≠ 0) (h15 : j ≠ 15) (h16 : j ≠ 16) : sI (WmS τ n g 7 S) j f v = WmS τ n g 7 (sI S j f v) := by
  refine ms_ext (fun a b => ?_) rfl
  rw [sI_at, WmS_at, WmS_at, sI_at]
  by_cases e : a = j ∧ b = f
  · rw [if_pos e, if_neg (by omega), if_neg (by omega), if_neg (by omega), if_neg (by omega), if_neg (by omega), if_pos e]
  · simp only [if_neg e]
theorem sI_two (S : MS) (j f : Nat) (u v : Int32) : sI (sI S j f u) j f v = sI S j f v := by
  refine ms_ext (fun a b => ?_) rfl
  simp only [sI_at]
  by_cases e : a = j ∧ b = f
  · simp only [if_pos e]
  · simp only [if_neg e]
theorem sI_self (S : MS) (j f : Nat) : sI S j f (S.1 j f) = S := by
  refine ms_ext (fun a b => ?_) rfl
  rw [sI_at]
  by_cases e : a = j ∧ b = f
  · rw [if_pos e, e.1, e.2]
  · rw [if_neg e]
section KM
variable {σ : Sg} (h : Gd σ) {S : MS} (hS : ShM σ S) {t rc : Nat} (ht : t < σ 0 0) (hrc : rc ≤ 8) (h4 : S.1 0 34 = iI rc)
theorem Gd_kind (h : Gd σ) {t v : Nat} (hv : v ≤ 2) : Gd (upS σ 2 t v) := ⟨h.1, h.2.1, h.2.2.1, h.2.2.2.1, h.2.2.2.2.1, fun q hq => by
  have b := h.2.2.2.2.2 q hq
  show (if (2 : Nat) = 2 ∧ q = t then v else σ 2 q) ≤ 2 ∧ σ 3 q ≤ 6 ∧ σ 4 q ≤ 2 ∧ 1 ≤ σ 5 q ∧ σ 5 q ≤ 9
  split <;> omega⟩
theorem Gd_mass (h : Gd σ) {t v : Nat} (hv : 1 ≤ v ∧ v ≤ 9) : Gd (upS σ 5 t v) := ⟨h.1, h.2.1, h.2.2.1, h.2.2.2.1, h.2.2.2.2.1, fun q hq => by
  have b := h.2.2.2.2.2 q hq
  show σ 2 q ≤ 2 ∧ σ 3 q ≤ 6 ∧ σ 4 q ≤ 2 ∧ 1 ≤ (if (5 : Nat) = 5 ∧ q = t then v else σ 5 q) ∧ (if (5 : Nat) = 5 ∧ q = t then v else σ 5 q) ≤ 9
  split <;> omega⟩
theorem Sh_kind (hS : ShM σ S) (t v : Nat) : ShM (upS σ 2 t v) (sI S 5 t (iI v)) := by
  obtain ⟨y1, y2, y3, y4, y5, y6, y7⟩ := hS
  refine ⟨?_, ?_, ?_, fun q hq => ?_, fun q hq => ?_, fun q hq => ?_, fun j hj => ?_⟩
  · simp (disch := omega) only [rfS_cell, sI_cell, sI_place, sI_same, sI_2]; exact y1
  · simp (disch := omega) only [rfS_cell, sI_cell, sI_place, sI_same, sI_2]; exact y2
  · simp (disch := omega) only [rfS_cell, sI_cell, sI_place, sI_same, sI_2]; exact y3
  · simp (disch := omega) only [rfS_cell, sI_cell, sI_place, sI_same, sI_2]; exact y4 q hq
  · simp (disch := omega) only [rfS_cell, sI_cell, sI_place, sI_same, sI_2]; exact y5 q hq
  · obtain ⟨u1, u2, u3, u4⟩ := y6 q hq
    show _ = iI ((if (2 : Nat) = 2 ∧ q = t then v else σ 2 q : Nat) : Int) ∧ _ = iI (σ 3 q) ∧ _ = iI (σ 4 q) ∧ _ = iI (σ 5 q)
    by_cases e : q = t
    · subst e; simp (disch := omega) only [rfS_cell, sI_cell, sI_place, sI_same, sI_2]; rw [if_pos (by simp)]; exact ⟨rfl, u2, u3, u4⟩
    · simp (disch := omega) only [rfS_cell, sI_cell, sI_place, sI_same, sI_2]; rw [if_neg (by omega)]; exact ⟨u1, u2, u3, u4⟩
  · simp (disch := omega) only [rfS_cell, sI_cell, sI_place, sI_same, sI_2]; exact y7 j hj
theorem Sh_mass (hS : ShM σ S) (t v : Nat) : ShM (upS σ 5 t v) (sI S 8 t (iI v)) := by
  obtain ⟨y1, y2, y3, y4, y5, y6, y7⟩ := hS
  refine ⟨?_, ?_, ?_, fun q hq => ?_, fun q hq => ?_, fun q hq => ?_, fun j hj => ?_⟩
  · simp (disch := omega) only [rfS_cell, sI_cell, sI_place, sI_same, sI_2]; exact y1
  · simp (disch := omega) only [rfS_cell, sI_cell, sI_place, sI_same, sI_2]; exact y2
  · simp (disch := omega) only [rfS_cell, sI_cell, sI_place, sI_same, sI_2]; exact y3
  · simp (disch := omega) only [rfS_cell, sI_cell, sI_place, sI_same, sI_2]; exact y4 q hq
  · simp (disch := omega) only [rfS_cell, sI_cell, sI_place, sI_same, sI_2]; exact y5 q hq
  · obtain ⟨u1, u2, u3, u4⟩ := y6 q hq
    show _ = iI (σ 2 q) ∧ _ = iI (σ 3 q) ∧ _ = iI (σ 4 q) ∧ _ = iI ((if (5 : Nat) = 5 ∧ q = t then v else σ 5 q : Nat) : Int)
    by_cases e : q = t
    · subst e; simp (disch := omega) only [rfS_cell, sI_cell, sI_place, sI_same, sI_2]; rw [if_pos (by simp)]; exact ⟨u1, u2, u3, rfl⟩
    · simp (disch := omega) only [rfS_cell, sI_cell, sI_place, sI_same, sI_2]; rw [if_neg (by omega)]; exact ⟨u1, u2, u3, u4⟩
  · simp (disch := omega) only [rfS_cell, sI_cell, sI_place, sI_same, sI_2]; exact y7 j hj
theorem tr_kind (ht : t < σ 0 0) (v : Nat) : trG (upS σ 2 t v) (σ 0 0) (g1 (upS σ 2 t v) (σ 0 1)) = trW σ t (wtK v (σ 5 t)) := by
  have e : wtN (upS σ 2 t v) t = wtK v (σ 5 t) := by
    unfold wtN wtK upS; simp
  rw [← e]
  exact trG_swap (τ := upS σ 2 t v) ht rfl rfl (fun q => rfl) (fun q hq => by unfold wtN upS; simp [hq])
theorem tr_mass (ht : t < σ 0 0) (v : Nat) : trG (upS σ 5 t v) (σ 0 0) (g1 (upS σ 5 t v) (σ 0 1)) = trW σ t (wtK (σ 2 t) v) := by
  have e : wtN (upS σ 5 t v) t = wtK (σ 2 t) v := by
    unfold wtN wtK upS; simp
  rw [← e]
  exact trG_swap (τ := upS σ 5 t v) ht rfl rfl (fun q => rfl) (fun q hq => by unfold wtN upS; simp [hq])
theorem M_kinds {α : Type} (h : Gd σ) (hS : ShM σ S) (ht : t < σ 0 0) (hrc : rc ≤ 8) (h4 : S.1 0 34 = iI rc) (c2 : Int32) (KX : Int32 → Int32 → MS → Option α) : f6_kinds_L22 (iI t) c2 KX FU (iI 0) (iI 0) S = KX (iI (stN (fun v => ∀ q, q < rc → S.1 21 q = iI (trW σ t (wtK v (σ 5 t)))) 3)) (iI 3) (WmS (upS σ 2 t 2) (σ 0 0) (gW (upS σ 2 t 2) (σ 0 1) (-9)) 7 (sI S 5 t (iI (2 : Nat)))) := by
  have hn6 := h.1
  have h1 := loop_eq (σ := Int32 × Int32 × MS) (L := fun fuel s => f6_kinds_L22 (iI t) c2 KX fuel s.1 s.2.1 s.2.2) (KX := fun s => KX s.1 s.2.1 s.2.2) 3 (fun i => (iI (stN (fun v => ∀ q, q < rc → S.1 21 q = iI (trW σ t (wtK v (σ 5 t)))) i), iI i, if i = 0 then S else WmS (upS σ 2 t (i - 1)) (σ 0 0) (gW (upS σ 2 t (i - 1)) (σ 0 1) (-9)) 7 (sI S 5 t (iI (i - 1 : Nat)))))
    (by
      intro fuel i hi
      show f6_kinds_L22 (iI t) c2 KX (fuel + 1) (iI (stN _ i)) (iI i) (if i = 0 then S else WmS (upS σ 2 t (i - 1)) (σ 0 0) (gW (upS σ 2 t (i - 1)) (σ 0 1) (-9)) 7 (sI S 5 t (iI (i - 1 : Nat)))) = f6_kinds_L22 (iI t) c2 KX fuel (iI (stN _ (i + 1))) (iI (i + 1 : Nat)) (if i + 1 = 0 then S else WmS (upS σ 2 t (i + 1 - 1)) (σ 0 0) (gW (upS σ 2 t (i + 1 - 1)) (σ 0 1) (-9)) 7 (sI S 5 t (iI (i + 1 - 1 : Nat))))
      have hT : sI (if i = 0 then S else WmS (upS σ 2 t (i - 1)) (σ 0 0) (gW (upS σ 2 t (i - 1)) (σ 0 1) (-9)) 7 (sI S 5 t (iI (i - 1 : Nat)))) 5 t (iI i) = sI S 5 t (iI i) ∨ ∃ (τ : Sg) (n : Nat) (g : Nat → Int), sI (if i = 0 then S else WmS (upS σ 2 t (i - 1)) (σ 0 0) (gW (upS σ 2 t (i - 1)) (σ 0 1) (-9)) 7 (sI S 5 t (iI (i - 1 : Nat)))) 5 t (iI i) = WmS τ n g 7 (sI S 5 t (iI i)) := by
        by_cases e : i = 0
        · rw [if_pos e]; exact Or.inl rfl
        · rw [if_neg e, sI_Wm _ _ _ _ _ _ (by omega) (by omega) (by omega), sI_two]
          exact Or.inr ⟨_, _, _, rfl⟩
      have sm : SmM (upS σ 2 t i) (sI S 5 t (iI i)) (sI (if i = 0 then S else WmS (upS σ 2 t (i - 1)) (σ 0 0) (gW (upS σ 2 t (i - 1)) (σ 0 1) (-9)) 7 (sI S 5 t (iI (i - 1 : Nat)))) 5 t (iI i)) := hT
      rw [f6_kinds_L22, show (3 : Int32) = iI 3 from rfl, ite_le ⟨by decide, ⟨by omega, by omega⟩⟩, if_neg (by omega), ck_nat (show t < 6 by omega) (by omega), nm_eq]
      generalize sI (if i = 0 then S else WmS (upS σ 2 t (i - 1)) (σ 0 0) (gW (upS σ 2 t (i - 1)) (σ 0 1) (-9)) 7 (sI S 5 t (iI (i - 1 : Nat)))) 5 t (iI i) = T at sm
      have hT2 := sm.sh (Sh_kind hS t i)
      have e4 : T.1 0 34 = iI rc := by rw [sm.zero (by omega)]; simp (disch := omega) only [rfS_cell, sI_cell, sI_place, sI_same, sI_2]; exact h4
      have eL : WmS (upS σ 2 t i) (σ 0 0) (gW (upS σ 2 t i) (σ 0 1) (-9)) 7 T = WmS (upS σ 2 t i) (σ 0 0) (gW (upS σ 2 t i) (σ 0 1) (-9)) 7 (sI S 5 t (iI i)) := by
        rcases sm with e | ⟨τ, n, g, e⟩
        · rw [e]
        · rw [e, WmS_two2]
      have e21 : T.1 21 = S.1 21 := by rw [sm.cell (by omega) (by omega) (by omega)]; simp (disch := omega) only [rfS_cell, sI_cell, sI_place, sI_same, sI_2]
      rw [f6_areSo_eq (Gd_kind h (by omega)) hT2 hrc e4, ite_bI]
      rw [show upS σ 2 t i 0 0 = σ 0 0 from rfl, show upS σ 2 t i 0 1 = σ 0 1 from rfl, e21, tr_kind ht, or_0]
      simp only [nm_eq]
      rw [set_all i (by omega) _ (stN_lt _ i), show (1 : Int32) = iI 1 from rfl, iI_add, if_neg (show ¬ (i + 1 = 0) by omega), Nat.add_sub_cancel, ← eL]
      by_cases hp : ∀ q, q < rc → S.1 21 q = iI (trW σ t (wtK i (σ 5 t)))
      · rw [if_pos hp, stN_t (P := fun v => ∀ q, q < rc → S.1 21 q = iI (trW σ t (wtK v (σ 5 t)))) (n := i) hp]; rfl
      · rw [if_neg hp, stN_f (P := fun v => ∀ q, q < rc → S.1 21 q = iI (trW σ t (wtK v (σ 5 t)))) (n := i) hp]; rfl)
    (by
      intro fuel
      show f6_kinds_L22 (iI t) c2 KX (fuel + 1) _ (iI (3 : Nat)) _ = _
      rw [f6_kinds_L22, show (3 : Int32) = iI 3 from rfl, ite_le ⟨by decide, ⟨by omega, by omega⟩⟩, if_pos (by omega)])
    FU 0 (by omega) (by rw [FU_eq]; omega)
  exact h1
theorem M_masses {α : Type} (h : Gd σ) (hS : ShM σ S) (ht : t < σ 0 0) (hrc : rc ≤ 8) (h4 : S.1 0 34 = iI rc) (c2 : Int32) (KX : Int32 → Int32 → MS → Option α) : f6_masses_L22 (iI t) c2 KX FU (iI 0) (iI 1) S = KX (iI (stN (fun v => 1 ≤ v ∧ ∀ q, q < rc → S.1 21 q = iI (trW σ t (wtK (σ 2 t) v))) 10)) (iI 10) (WmS (upS σ 5 t 9) (σ 0 0) (gW (upS σ 5 t 9) (σ 0 1) (-9)) 7 (sI S 8 t (iI (9 : Nat)))) := by
  have hn6 := h.1
  have s1 : stN (fun v => 1 ≤ v ∧ ∀ q, q < rc → S.1 21 q = iI (trW σ t (wtK (σ 2 t) v))) 1 = 0 := by
    rw [stN, if_neg (by omega)]; rfl
  have h1 := loop_eq (σ := Int32 × Int32 × MS) (L := fun fuel s => f6_masses_L22 (iI t) c2 KX fuel s.1 s.2.1 s.2.2) (KX := fun s => KX s.1 s.2.1 s.2.2) 9 (fun i => (iI (stN (fun v => 1 ≤ v ∧ ∀ q, q < rc → S.1 21 q = iI (trW σ t (wtK (σ 2 t) v))) (i + 1)), iI (i + 1 : Nat), if i = 0 then S else WmS (upS σ 5 t i) (σ 0 0) (gW (upS σ 5 t i) (σ 0 1) (-9)) 7 (sI S 8 t (iI i))))
    (by
      intro fuel i hi
      show f6_masses_L22 (iI t) c2 KX (fuel + 1) (iI (stN _ (i + 1))) (iI (i + 1 : Nat)) (if i = 0 then S else WmS (upS σ 5 t i) (σ 0 0) (gW (upS σ 5 t i) (σ 0 1) (-9)) 7 (sI S 8 t (iI i))) = f6_masses_L22 (iI t) c2 KX fuel (iI (stN _ (i + 1 + 1))) (iI (i + 1 + 1 : Nat)) (if i + 1 = 0 then S else WmS (upS σ 5 t (i + 1)) (σ 0 0) (gW (upS σ 5 t (i + 1)) (σ 0 1) (-9)) 7 (sI S 8 t (iI (i + 1 : Nat))))
      have hT : sI (if i = 0 then S else WmS (upS σ 5 t i) (σ 0 0) (gW (upS σ 5 t i) (σ 0 1) (-9)) 7 (sI S 8 t (iI i))) 8 t (iI (i + 1 : Nat)) = sI S 8 t (iI (i + 1 : Nat)) ∨ ∃ (τ : Sg) (n : Nat) (g : Nat → Int), sI (if i = 0 then S else WmS (upS σ 5 t i) (σ 0 0) (gW (upS σ 5 t i) (σ 0 1) (-9)) 7 (sI S 8 t (iI i))) 8 t (iI (i + 1 : Nat)) = WmS τ n g 7 (sI S 8 t (iI (i + 1 : Nat))) := by
        by_cases e : i = 0
        · rw [if_pos e]; exact Or.inl rfl
        · rw [if_neg e, sI_Wm _ _ _ _ _ _ (by omega) (by omega) (by omega), sI_two]
          exact Or.inr ⟨_, _, _, rfl⟩
      have sm : SmM (upS σ 5 t (i + 1)) (sI S 8 t (iI (i + 1 : Nat))) (sI (if i = 0 then S else WmS (upS σ 5 t i) (σ 0 0) (gW (upS σ 5 t i) (σ 0 1) (-9)) 7 (sI S 8 t (iI i))) 8 t (iI (i + 1 : Nat))) := hT
      rw [f6_masses_L22, show (9 : Int32) = iI 9 from rfl, ite_lt ⟨by decide, ⟨by omega, by omega⟩⟩, if_neg (by omega), ck_nat (show t < 6 by omega) (by omega), nm_eq]
      generalize sI (if i = 0 then S else WmS (upS σ 5 t i) (σ 0 0) (gW (upS σ 5 t i) (σ 0 1) (-9)) 7 (sI S 8 t (iI i))) 8 t (iI (i + 1 : Nat)) = T at sm
      have hT2 := sm.sh (Sh_mass hS t (i + 1))
      have e4 : T.1 0 34 = iI rc := by rw [sm.zero (by omega)]; simp (disch := omega) only [rfS_cell, sI_cell, sI_place, sI_same, sI_2]; exact h4
      have eL : WmS (upS σ 5 t (i + 1)) (σ 0 0) (gW (upS σ 5 t (i + 1)) (σ 0 1) (-9)) 7 T = WmS (upS σ 5 t (i + 1)) (σ 0 0) (gW (upS σ 5 t (i + 1)) (σ 0 1) (-9)) 7 (sI S 8 t (iI (i + 1 : Nat))) := by
        rcases sm with e | ⟨τ, n, g, e⟩
        · rw [e]
        · rw [e, WmS_two2]
      have e21 : T.1 21 = S.1 21 := by rw [sm.cell (by omega) (by omega) (by omega)]; simp (disch := omega) only [rfS_cell, sI_cell, sI_place, sI_same, sI_2]
      rw [f6_areSo_eq (Gd_mass h (by omega)) hT2 hrc e4, ite_bI]
      rw [show upS σ 5 t (i + 1) 0 0 = σ 0 0 from rfl, show upS σ 5 t (i + 1) 0 1 = σ 0 1 from rfl, e21, tr_mass ht, or_0]
      simp only [nm_eq]
      rw [set_all10 (i + 1) (by omega) _ (stN_lt _ (i + 1)), show (1 : Int32) = iI 1 from rfl, iI_add, if_neg (show ¬ (i + 1 = 0) by omega), ← eL]
      by_cases hp : ∀ q, q < rc → S.1 21 q = iI (trW σ t (wtK (σ 2 t) (i + 1 : Nat)))
      · rw [if_pos hp, stN_t (P := fun v => 1 ≤ v ∧ ∀ q, q < rc → S.1 21 q = iI (trW σ t (wtK (σ 2 t) v))) (n := i + 1) ⟨by omega, hp⟩]; rfl
      · rw [if_neg hp, stN_f (P := fun v => 1 ≤ v ∧ ∀ q, q < rc → S.1 21 q = iI (trW σ t (wtK (σ 2 t) v))) (n := i + 1) (fun q => hp q.2)]; rfl)
    (by
      intro fuel
      show f6_masses_L22 (iI t) c2 KX (fuel + 1) _ (iI (10 : Nat)) _ = _
      rw [f6_masses_L22, show (9 : Int32) = iI 9 from rfl, ite_lt ⟨by decide, ⟨by omega, by omega⟩⟩, if_pos (by omega)])
    FU 0 (by omega) (by rw [FU_eq]; omega)
  dsimp only at h1
  rw [s1] at h1
  exact h1
end KM
section Ops9
variable {PX PM : Sg → MS → Prop} {σ : Sg} {SX SM : MS}
theorem sim_kinds (cX : ClX PX) (a : Int32) : SimI (RelP PX PM) (f5_kinds a) (f6_kinds a) := by
  intro SX SM ⟨σ, h⟩
  obtain ⟨z1, rfl, hz1⟩ := iI_of a
  obtain ⟨rc, g1', g2, g3, g4⟩ := h.2.2.2.1
  have hn := h.1.1
  by_cases c1 : 0 ≤ z1 ∧ z1 < σ 0 0
  · obtain ⟨t, rfl⟩ : ∃ k : Nat, z1 = k := ⟨z1.toNat, by omega⟩
    have ht : t < σ 0 0 := by omega
    obtain ⟨m1, m2, m3, m4⟩ := h.2.2.1.2.2.2.2.2.1 t ht
    have e : stN (fun v => AllR SX rc (iI (trW σ t (wtK v (σ 5 t))))) 3 = stN (fun v => ∀ q, q < rc → SM.1 21 q = iI (trW σ t (wtK v (σ 5 t)))) 3 := stN_congr (fun v _ => by
      unfold AllR
      constructor
      · intro hh q hq; rw [← g4 q hq]; exact hh q hq
      · intro hh q hq; rw [g4 q hq]; exact hh q hq)
    refine ⟨iI (stN (fun v => ∀ q, q < rc → SM.1 21 q = iI (trW σ t (wtK v (σ 5 t)))) 3), _, _, ?_, ?_, σ, rel_sm cX h (SmX.ld σ (g1 σ (σ 0 1)) SX) (Or.inr ⟨upS σ 2 t 2, σ 0 0, gW (upS σ 2 t 2) (σ 0 1) (-9), rfl⟩)⟩
    · rw [← e]
      unfold f5_kinds
      simp (disch := omega) only [↓f5_isTank_eq hz1 hn h.2.1.1, f5_isTank_eq hz1 hn h.2.1.1, ↓X_kinds h.1 h.2.1 ht g1' g2, X_kinds h.1 h.2.1 ht g1' g2, ↓reduceIte, ↓nm_eq, ↓ck_in, ck_in, il_0, il_1, il_2, il_3, il_4, il_5, il_6, il_7, il_8, il_9, il_10, il_15, il_20, il_31, il_30, il_37, il_48, il_49, il_54, il_57, il_59, il_60, il_68, il_80, il_87, il_99, il_100, il_101, il_111, il_112, il_115, il_243, il_500, il_729, il_999, il_1000, il_10000, il_m1, il_m2, il_m3, il_m4, il_m9, il_m10, il_m100, il_m500, iI_le', iI_lt', iI_eq', iI_add, iI_sub, iI_mul, iI_neg, dc_ltT, dc_ltF, dc_leT, dc_leF, dc_eqT, dc_eqF, ↓dc_andT, ↓dc_andF, dc_andT, dc_andF, and_self, and_true, true_and, and_false, false_and, or_self, or_true, true_or, or_false, false_or, not_true_eq_false, not_false_eq_true, Int.toNat_natCast, jl_0, jl_1, jl_2, jl_3, jl_4, jl_5, jl_6, jl_9, jl_10, jl_15, jl_19, jl_30, jl_500, jl_999, jl_m1, jl_m500, i64_of, ↓f6_within_eq, f6_within_eq]
    · unfold f6_kinds
      simp (disch := omega) only [↓f6_isTank_eq hz1 hn h.2.2.1.1, f6_isTank_eq hz1 hn h.2.2.1.1, ↓M_kinds h.1 h.2.2.1 ht g1' g3, M_kinds h.1 h.2.2.1 ht g1' g3, ↓reduceIte, ↓nm_eq, ↓ck_in, ck_in, il_0, il_1, il_2, il_3, il_4, il_5, il_6, il_7, il_8, il_9, il_10, il_15, il_20, il_31, il_30, il_37, il_48, il_49, il_54, il_57, il_59, il_60, il_68, il_80, il_87, il_99, il_100, il_101, il_111, il_112, il_115, il_243, il_500, il_729, il_999, il_1000, il_10000, il_m1, il_m2, il_m3, il_m4, il_m9, il_m10, il_m100, il_m500, iI_le', iI_lt', iI_eq', iI_add, iI_sub, iI_mul, iI_neg, dc_ltT, dc_ltF, dc_leT, dc_leF, dc_eqT, dc_eqF, ↓dc_andT, ↓dc_andF, dc_andT, dc_andF, and_self, and_true, true_and, and_false, false_and, or_self, or_true, true_or, or_false, false_or, not_true_eq_false, not_false_eq_true, Int.toNat_natCast, jl_0, jl_1, jl_2, jl_3, jl_4, jl_5, jl_6, jl_9, jl_10, jl_15, jl_19, jl_30, jl_500, jl_999, jl_m1, jl_m500, i64_of, ↓f6_within_eq, f6_within_eq]
      rw [sI_Wm _ _ _ _ _ _ (by omega) (by omega) (by omega), sI_two, sI_self]
  · refine ⟨iI (-1), SX, SM, ?_, ?_, σ, h⟩
    · unfold f5_kinds; simp (disch := omega) only [↓f5_isTank_eq hz1 hn h.2.1.1, f5_isTank_eq hz1 hn h.2.1.1, ↓reduceIte, ↓nm_eq, ↓ck_in, ck_in, il_0, il_1, il_2, il_3, il_4, il_5, il_6, il_7, il_8, il_9, il_10, il_15, il_20, il_31, il_30, il_37, il_48, il_49, il_54, il_57, il_59, il_60, il_68, il_80, il_87, il_99, il_100, il_101, il_111, il_112, il_115, il_243, il_500, il_729, il_999, il_1000, il_10000, il_m1, il_m2, il_m3, il_m4, il_m9, il_m10, il_m100, il_m500, iI_le', iI_lt', iI_eq', iI_add, iI_sub, iI_mul, iI_neg, dc_ltT, dc_ltF, dc_leT, dc_leF, dc_eqT, dc_eqF, ↓dc_andT, ↓dc_andF, dc_andT, dc_andF, and_self, and_true, true_and, and_false, false_and, or_self, or_true, true_or, or_false, false_or, not_true_eq_false, not_false_eq_true, Int.toNat_natCast, jl_0, jl_1, jl_2, jl_3, jl_4, jl_5, jl_6, jl_9, jl_10, jl_15, jl_19, jl_30, jl_500, jl_999, jl_m1, jl_m500, i64_of, ↓f6_within_eq, f6_within_eq]
    · unfold f6_kinds; simp (disch := omega) only [↓f6_isTank_eq hz1 hn h.2.2.1.1, f6_isTank_eq hz1 hn h.2.2.1.1, ↓reduceIte, ↓nm_eq, ↓ck_in, ck_in, il_0, il_1, il_2, il_3, il_4, il_5, il_6, il_7, il_8, il_9, il_10, il_15, il_20, il_31, il_30, il_37, il_48, il_49, il_54, il_57, il_59, il_60, il_68, il_80, il_87, il_99, il_100, il_101, il_111, il_112, il_115, il_243, il_500, il_729, il_999, il_1000, il_10000, il_m1, il_m2, il_m3, il_m4, il_m9, il_m10, il_m100, il_m500, iI_le', iI_lt', iI_eq', iI_add, iI_sub, iI_mul, iI_neg, dc_ltT, dc_ltF, dc_leT, dc_leF, dc_eqT, dc_eqF, ↓dc_andT, ↓dc_andF, dc_andT, dc_andF, and_self, and_true, true_and, and_false, false_and, or_self, or_true, true_or, or_false, false_or, not_true_eq_false, not_false_eq_true, Int.toNat_natCast, jl_0, jl_1, jl_2, jl_3, jl_4, jl_5, jl_6, jl_9, jl_10, jl_15, jl_19, jl_30, jl_500, jl_999, jl_m1, jl_m500, i64_of, ↓f6_within_eq, f6_within_eq]
theorem sim_masses (cX : ClX PX) (a : Int32) : SimI (RelP PX PM) (f5_masses a) (f6_masses a) := by
  intro SX SM ⟨σ, h⟩
  obtain ⟨z1, rfl, hz1⟩ := iI_of a
  obtain ⟨rc, g1', g2, g3, g4⟩ := h.2.2.2.1
  have hn := h.1.1
  by_cases c1 : 0 ≤ z1 ∧ z1 < σ 0 0
  · obtain ⟨t, rfl⟩ : ∃ k : Nat, z1 = k := ⟨z1.toNat, by omega⟩
    have ht : t < σ 0 0 := by omega
    obtain ⟨m1, m2, m3, m4⟩ := h.2.2.1.2.2.2.2.2.1 t ht
    have e : stN (fun v => 1 ≤ v ∧ AllR SX rc (iI (trW σ t (wtK (σ 2 t) v)))) 10 = stN (fun v => 1 ≤ v ∧ ∀ q, q < rc → SM.1 21 q = iI (trW σ t (wtK (σ 2 t) v))) 10 := stN_congr (fun v _ => by
      unfold AllR
      constructor
      · intro hh; exact ⟨hh.1, fun q hq => by rw [← g4 q hq]; exact hh.2 q hq⟩
      · intro hh; exact ⟨hh.1, fun q hq => by rw [g4 q hq]; exact hh.2 q hq⟩)
    refine ⟨iI (stN (fun v => 1 ≤ v ∧ ∀ q, q < rc → SM.1 21 q = iI (trW σ t (wtK (σ 2 t) v))) 10), _, _, ?_, ?_, σ, rel_sm cX h (SmX.ld σ (g1 σ (σ 0 1)) SX) (Or.inr ⟨upS σ 5 t 9, σ 0 0, gW (upS σ 5 t 9) (σ 0 1) (-9), rfl⟩)⟩
    · rw [← e]
      unfold f5_masses
      simp (disch := omega) only [↓f5_isTank_eq hz1 hn h.2.1.1, f5_isTank_eq hz1 hn h.2.1.1, ↓X_masses h.1 h.2.1 ht g1' g2, X_masses h.1 h.2.1 ht g1' g2, ↓reduceIte, ↓nm_eq, ↓ck_in, ck_in, il_0, il_1, il_2, il_3, il_4, il_5, il_6, il_7, il_8, il_9, il_10, il_15, il_20, il_31, il_30, il_37, il_48, il_49, il_54, il_57, il_59, il_60, il_68, il_80, il_87, il_99, il_100, il_101, il_111, il_112, il_115, il_243, il_500, il_729, il_999, il_1000, il_10000, il_m1, il_m2, il_m3, il_m4, il_m9, il_m10, il_m100, il_m500, iI_le', iI_lt', iI_eq', iI_add, iI_sub, iI_mul, iI_neg, dc_ltT, dc_ltF, dc_leT, dc_leF, dc_eqT, dc_eqF, ↓dc_andT, ↓dc_andF, dc_andT, dc_andF, and_self, and_true, true_and, and_false, false_and, or_self, or_true, true_or, or_false, false_or, not_true_eq_false, not_false_eq_true, Int.toNat_natCast, jl_0, jl_1, jl_2, jl_3, jl_4, jl_5, jl_6, jl_9, jl_10, jl_15, jl_19, jl_30, jl_500, jl_999, jl_m1, jl_m500, i64_of, ↓f6_within_eq, f6_within_eq]
    · unfold f6_masses
      simp (disch := omega) only [↓f6_isTank_eq hz1 hn h.2.2.1.1, f6_isTank_eq hz1 hn h.2.2.1.1, ↓M_masses h.1 h.2.2.1 ht g1' g3, M_masses h.1 h.2.2.1 ht g1' g3, ↓reduceIte, ↓nm_eq, ↓ck_in, ck_in, il_0, il_1, il_2, il_3, il_4, il_5, il_6, il_7, il_8, il_9, il_10, il_15, il_20, il_31, il_30, il_37, il_48, il_49, il_54, il_57, il_59, il_60, il_68, il_80, il_87, il_99, il_100, il_101, il_111, il_112, il_115, il_243, il_500, il_729, il_999, il_1000, il_10000, il_m1, il_m2, il_m3, il_m4, il_m9, il_m10, il_m100, il_m500, iI_le', iI_lt', iI_eq', iI_add, iI_sub, iI_mul, iI_neg, dc_ltT, dc_ltF, dc_leT, dc_leF, dc_eqT, dc_eqF, ↓dc_andT, ↓dc_andF, dc_andT, dc_andF, and_self, and_true, true_and, and_false, false_and, or_self, or_true, true_or, or_false, false_or, not_true_eq_false, not_false_eq_true, Int.toNat_natCast, jl_0, jl_1, jl_2, jl_3, jl_4, jl_5, jl_6, jl_9, jl_10, jl_15, jl_19, jl_30, jl_500, jl_999, jl_m1, jl_m500, i64_of, ↓f6_within_eq, f6_within_eq]
      rw [sI_Wm _ _ _ _ _ _ (by omega) (by omega) (by omega), sI_two, sI_self]
  · refine ⟨iI (-1), SX, SM, ?_, ?_, σ, h⟩
    · unfold f5_masses; simp (disch := omega) only [↓f5_isTank_eq hz1 hn h.2.1.1, f5_isTank_eq hz1 hn h.2.1.1, ↓reduceIte, ↓nm_eq, ↓ck_in, ck_in, il_0, il_1, il_2, il_3, il_4, il_5, il_6, il_7, il_8, il_9, il_10, il_15, il_20, il_31, il_30, il_37, il_48, il_49, il_54, il_57, il_59, il_60, il_68, il_80, il_87, il_99, il_100, il_101, il_111, il_112, il_115, il_243, il_500, il_729, il_999, il_1000, il_10000, il_m1, il_m2, il_m3, il_m4, il_m9, il_m10, il_m100, il_m500, iI_le', iI_lt', iI_eq', iI_add, iI_sub, iI_mul, iI_neg, dc_ltT, dc_ltF, dc_leT, dc_leF, dc_eqT, dc_eqF, ↓dc_andT, ↓dc_andF, dc_andT, dc_andF, and_self, and_true, true_and, and_false, false_and, or_self, or_true, true_or, or_false, false_or, not_true_eq_false, not_false_eq_true, Int.toNat_natCast, jl_0, jl_1, jl_2, jl_3, jl_4, jl_5, jl_6, jl_9, jl_10, jl_15, jl_19, jl_30, jl_500, jl_999, jl_m1, jl_m500, i64_of, ↓f6_within_eq, f6_within_eq]
    · unfold f6_masses; simp (disch := omega) only [↓f6_isTank_eq hz1 hn h.2.2.1.1, f6_isTank_eq hz1 hn h.2.2.1.1, ↓reduceIte, ↓nm_eq, ↓ck_in, ck_in, il_0, il_1, il_2, il_3, il_4, il_5, il_6, il_7, il_8, il_9, il_10, il_15, il_20, il_31, il_30, il_37, il_48, il_49, il_54, il_57, il_59, il_60, il_68, il_80, il_87, il_99, il_100, il_101, il_111, il_112, il_115, il_243, il_500, il_729, il_999, il_1000, il_10000, il_m1, il_m2, il_m3, il_m4, il_m9, il_m10, il_m100, il_m500, iI_le', iI_lt', iI_eq', iI_add, iI_sub, iI_mul, iI_neg, dc_ltT, dc_ltF, dc_leT, dc_leF, dc_eqT, dc_eqF, ↓dc_andT, ↓dc_andF, dc_andT, dc_andF, and_self, and_true, true_and, and_false, false_and, or_self, or_true, true_or, or_false, false_or, not_true_eq_false, not_false_eq_true, Int.toNat_natCast, jl_0, jl_1, jl_2, jl_3, jl_4, jl_5, jl_6, jl_9, jl_10, jl_15, jl_19, jl_30, jl_500, jl_999, jl_m1, jl_m500, i64_of, ↓f6_within_eq, f6_within_eq]
end Ops9
