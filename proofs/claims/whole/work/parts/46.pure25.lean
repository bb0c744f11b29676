/-! PURE PART 25: a ship is built -/
theorem f3_fullSet_n {α : Type} {n : Nat} (hn6 : n ≤ 6) {S : MS} (hS : S.1 2 3 = iI n) {w : Nat} (hw : w < 729) (K : Int32 → MS → Option α) : f3_fullSet (iI w) S K = K (iI (fuN w n)) S := by
  unfold f3_fullSet
  have h1 := loop_eq (σ := Int32 × Int32) (L := fun fuel s => f3_fullSet_L4 (iI w) (fun v2 _ S1 => K v2 S1) fuel s.1 s.2 S) (KX := fun s => K s.1 S) n (fun i => (iI (fuN w i), iI i))
    (by
      intro fuel i hi
      show f3_fullSet_L4 (iI w) _ (fuel + 1) (iI (fuN w i)) (iI i) S = f3_fullSet_L4 (iI w) _ fuel (iI (fuN w (i + 1))) (iI (i + 1 : Nat)) S
      have hd : dg w i < 3 := Nat.mod_lt _ (by omega)
      rw [f3_fullSet_L4, hS, ite_le ⟨⟨by omega, by omega⟩, ⟨by omega, by omega⟩⟩, if_neg (by omega), f5_waterIn_eq hw (by omega), show (0 : Int32) = iI 0 from rfl, ite_eq ⟨⟨by omega, by omega⟩, by decide⟩]
      by_cases hz : dg w i = 0
      · rw [if_pos (by omega), nm_eq, show (1 : Int32) = iI 1 from rfl, iI_add, show fuN w (i + 1) = fuN w i by show fuN w i + _ = _; rw [if_pos hz, Nat.add_zero]]
        rfl
      · rw [if_neg (by omega), nm_eq, nm_eq, set_all i (by omega) _ (fuN_lt w i), show (1 : Int32) = iI 1 from rfl, iI_add, show fuN w (i + 1) = fuN w i + 2 ^ i by show fuN w i + _ = _; rw [if_neg hz]]
        rfl)
    (by
      intro fuel
      show f3_fullSet_L4 (iI w) _ (fuel + 1) (iI (fuN w n)) (iI n) S = _
      rw [f3_fullSet_L4, hS, ite_le ⟨⟨by omega, by omega⟩, ⟨by omega, by omega⟩⟩, if_pos (by omega)])
    FU 0 (by omega) (by rw [FU_eq]; omega)
  exact h1
/-- tank q of a good text -/
theorem tank_ok {z : Nat → Int} {t n : Nat} (ht : t ≤ 6) (hn : n = 1 + 6 * t) (hg : ∀ q, q < n → GO q (z q)) {q : Nat} (hq : q < t) : (0 ≤ kdI (z (2 + 6 * q)) ∧ kdI (z (2 + 6 * q)) ≤ 2) ∧ (0 ≤ dgI (z (3 + 6 * q)) 0 6 ∧ dgI (z (3 + 6 * q)) 0 6 ≤ 6) ∧ (0 ≤ sdI (z (4 + 6 * q)) ∧ sdI (z (4 + 6 * q)) ≤ 2) ∧ (1 ≤ dgI (z (5 + 6 * q)) 1 9 ∧ dgI (z (5 + 6 * q)) 1 9 ≤ 9) ∧ dgI (z (3 + 6 * q)) 0 6 = z (3 + 6 * q) - 48 ∧ dgI (z (5 + 6 * q)) 1 9 = z (5 + 6 * q) - 48 := by
  have g1 : kdI (z (2 + 6 * q)) ≠ -9 := by
    have := hg (2 + 6 * q) (by omega)
    rw [show 2 + 6 * q = 1 + 6 * q + 1 by omega, GO_j (by omega) (by omega)] at this
    rw [show 2 + 6 * q = 1 + 6 * q + 1 by omega]; exact this
  have g2 : dgI (z (3 + 6 * q)) 0 6 ≠ -9 := by
    have := hg (3 + 6 * q) (by omega)
    rw [show 3 + 6 * q = 1 + 6 * q + 2 by omega, GO_j (by omega) (by omega)] at this
    rw [show 3 + 6 * q = 1 + 6 * q + 2 by omega]; exact this
  have g3 : sdI (z (4 + 6 * q)) ≠ -9 := by
    have := hg (4 + 6 * q) (by omega)
    rw [show 4 + 6 * q = 1 + 6 * q + 3 by omega, GO_j (by omega) (by omega)] at this
    rw [show 4 + 6 * q = 1 + 6 * q + 3 by omega]; exact this
  have g4 : dgI (z (5 + 6 * q)) 1 9 ≠ -9 := by
    have := hg (5 + 6 * q) (by omega)
    rw [show 5 + 6 * q = 1 + 6 * q + 4 by omega, GO_j (by omega) (by omega)] at this
    rw [show 5 + 6 * q = 1 + 6 * q + 4 by omega]; exact this
  have k1 := kdI_in (z (2 + 6 * q))
  have k2 := dgI_in (z (3 + 6 * q)) 0 6
  have k3 := sdI_in (z (4 + 6 * q))
  have k4 := dgI_in (z (5 + 6 * q)) 1 9
  have d2 : dgI (z (3 + 6 * q)) 0 6 = z (3 + 6 * q) - 48 := by
    unfold dgI at g2 ⊢
    split
    · rfl
    · rename_i c; rw [if_neg c] at g2; exact absurd rfl g2
  have d4 : dgI (z (5 + 6 * q)) 1 9 = z (5 + 6 * q) - 48 := by
    unfold dgI at g4 ⊢
    split
    · rfl
    · rename_i c; rw [if_neg c] at g4; exact absurd rfl g4
  refine ⟨by omega, by omega, by omega, by omega, d2, d4⟩
def newS (z : Nat → Int) (t : Nat) : Sg := fun a b => if a = 0 then (if b = 0 then t else if b = 1 then smN (dueN z t) t else if b = 2 then dueN z t else 2 ^ t - 1) else if a = 1 then 999 else if a = 2 then (kdI (z (2 + 6 * b))).toNat else if a = 3 then (dgI (z (3 + 6 * b)) 0 6).toNat else if a = 4 then (sdI (z (4 + 6 * b))).toNat else (dgI (z (5 + 6 * b)) 1 9).toNat
theorem newS_Gd {z : Nat → Int} {t n : Nat} (ht : t ≤ 6) (hn : n = 1 + 6 * t) (hg : ∀ q, q < n → GO q (z q)) : Gd (newS z t) := by
  have hd := dueN_lt z t
  have hp := p2_bd ht
  refine ⟨ht, (sm_fu t ht _ hd).2, hd, by show 2 ^ t - 1 < 2 ^ t; omega, fun k hk => by show 999 ≤ 999; omega, fun q hq => ?_⟩
  obtain ⟨a, b, c, d, -⟩ := tank_ok ht hn hg (q := q) hq
  show (kdI (z (2 + 6 * q))).toNat ≤ 2 ∧ (dgI (z (3 + 6 * q)) 0 6).toNat ≤ 6 ∧ (sdI (z (4 + 6 * q))).toNat ≤ 2 ∧ 1 ≤ (dgI (z (5 + 6 * q)) 1 9).toNat ∧ (dgI (z (5 + 6 * q)) 1 9).toNat ≤ 9
  omega
theorem newS_tank {z : Nat → Int} {t n : Nat} (ht : t ≤ 6) (hn : n = 1 + 6 * t) (hg : ∀ q, q < n → GO q (z q)) {q : Nat} (hq : q < t) : iI (newS z t 2 q) = iI (kdI (z (2 + 6 * q))) ∧ iI (newS z t 3 q) = iI (dgI (z (3 + 6 * q)) 0 6) ∧ iI (newS z t 4 q) = iI (sdI (z (4 + 6 * q))) ∧ iI (newS z t 5 q) = iI (dgI (z (5 + 6 * q)) 1 9) := by
  obtain ⟨a, b, c, d, -⟩ := tank_ok ht hn hg (q := q) hq
  refine ⟨?_, ?_, ?_, ?_⟩
  · show iI (((kdI (z (2 + 6 * q))).toNat : Nat) : Int) = _
    congr 1; omega
  · show iI (((dgI (z (3 + 6 * q)) 0 6).toNat : Nat) : Int) = _
    congr 1; omega
  · show iI (((sdI (z (4 + 6 * q))).toNat : Nat) : Int) = _
    congr 1; omega
  · show iI (((dgI (z (5 + 6 * q)) 1 9).toNat : Nat) : Int) = _
    congr 1; omega
theorem bt_all : ∀ t, t ≤ 6 → ∀ q, q < t → bt (2 ^ t - 1) q = true := by decide +kernel
section Build
variable {z : Nat → Int}
def BX (z : Nat → Int) (t : Nat) (S0 : MS) (i : Nat) (T : MS) : Prop := T.1 2 3 = iI t ∧ T.1 2 4 = iI (smN (dueN z i) i) ∧ (∀ q, q < i → T.1 (24 + q) 0 = iI (kdI (z (2 + 6 * q))) ∧ T.1 (24 + q) 1 = iI (dgI (z (3 + 6 * q)) 0 6) ∧ T.1 (24 + q) 2 = iI (sdI (z (4 + 6 * q))) ∧ T.1 (24 + q) 3 = iI (dgI (z (5 + 6 * q)) 1 9)) ∧ (∀ j, j ≠ 2 → j < 24 → T.1 j = S0.1 j) ∧ T.2 = S0.2
theorem X_build {α : Type} (hz : ∀ p, rg (z p)) {t n k i0 : Nat} (hk : k < 4) (ht : t ≤ 6) (hn : n = 1 + 6 * t) (hi : i0 + n ≤ 60) (hg : ∀ q, q < n → GO q (z q)) {S0 T0 : MS} (hc : ∀ p, p < n → S0.1 (20 + k) (i0 + p) = iI (z p)) (hB : BX z t S0 0 T0) (KX : Int32 → MS → Option α) : ∃ T, BX z t S0 t T ∧ f3_build_L21 k (iI i0) KX FU (iI 0) T0 = KX (iI t) T := by
  obtain ⟨s', h1, h2⟩ := loop_rel (σ := Int32 × MS) (L := fun fuel s => f3_build_L21 k (iI i0) KX fuel s.1 s.2) (KX := fun s => KX s.1 s.2) t (fun i s => s.1 = iI i ∧ BX z t S0 i s.2)
    (by
      intro fuel i s hit ⟨e1, b1, b2, b3, b4, b5⟩
      obtain ⟨v, T⟩ := s
      dsimp only at e1 b1 b2 b3 b4 b5 ⊢
      subst e1
      obtain ⟨a, b, c, d, d2, d4⟩ := tank_ok ht hn hg (q := i) hit
      have x20 : T.1 (20 + k) = S0.1 (20 + k) := b4 _ (by omega) (by omega)
      have c2 := hc (2 + 6 * i) (by omega)
      have c3 := hc (3 + 6 * i) (by omega)
      have c4 := hc (4 + 6 * i) (by omega)
      have c5 := hc (5 + 6 * i) (by omega)
      have c6 := hc (6 + 6 * i) (by omega)
      rw [← x20] at c2 c3 c4 c5 c6
      have r6 := hz (6 + 6 * i)
      have i2 : ((i0 : Int) + 1 + (i : Int) * 6 + 1).toNat = i0 + (2 + 6 * i) := by omega
      have i3 : ((i0 : Int) + 1 + (i : Int) * 6 + 2).toNat = i0 + (3 + 6 * i) := by omega
      have i4 : ((i0 : Int) + 1 + (i : Int) * 6 + 3).toNat = i0 + (4 + 6 * i) := by omega
      have i5 : ((i0 : Int) + 1 + (i : Int) * 6 + 4).toNat = i0 + (5 + 6 * i) := by omega
      have i6 : ((i0 : Int) + 1 + (i : Int) * 6 + 5).toNat = i0 + (6 + 6 * i) := by omega
      obtain ⟨s1, s2⟩ := sm_step i (by omega) (dueN z i) (dueN_lt z i)
      have pw := pw3_eq (t := i) (by omega)
      by_cases c111 : z (6 + 6 * i) = 111
      · refine ⟨(iI (i + 1 : Nat), sI (sI (sI (sI (sI T (24 + i) 0 (iI (kdI (z (2 + 6 * i))))) (24 + i) 1 (iI (z (3 + 6 * i) - 48))) (24 + i) 2 (iI (sdI (z (4 + 6 * i))))) (24 + i) 3 (iI (z (5 + 6 * i) - 48))) 2 4 (iI (smN (dueN z i) i + 1 * (3 ^ i : Nat)))), ⟨rfl, ?_, ?_, fun q hq => ?_, fun j h1 h2 => ?_, ?_⟩, ?_⟩
        · dsimp only; simp (disch := omega) only [rfS_cell, sI_cell, sI_place, sI_same, sI_2]; exact b1
        · dsimp only; rw [sI_same, show dueN z (i + 1) = dueN z i + 2 ^ i by rw [dueN, if_pos c111], s1]; congr 1; omega
        · dsimp only
          by_cases e : q = i
          · subst e; simp (disch := omega) only [rfS_cell, sI_cell, sI_place, sI_same, sI_2]; rw [d2, d4]; exact ⟨trivial, rfl, trivial, rfl⟩
          · simp (disch := omega) only [rfS_cell, sI_cell, sI_place, sI_same, sI_2]; exact b3 q (by omega)
        · dsimp only; simp (disch := omega) only [rfS_cell, sI_cell, sI_place, sI_same, sI_2]; exact b4 j h1 h2
        · exact b5
        · dsimp only
          rw [f3_build_L21]
          simp (disch := omega) only [sI_cell, b1, b2, i2, i3, i4, i5, i6, c2, c3, c4, c5, c6, ↓f5_kindOf_eq (hz _), f5_kindOf_eq (hz _), ↓f5_sideOf_eq (hz _), f5_sideOf_eq (hz _), pw, c111, ↓reduceIte, ↓nm_eq, ↓ck_in, ck_in, il_0, il_1, il_2, il_3, il_4, il_5, il_6, il_7, il_8, il_9, il_10, il_15, il_20, il_31, il_30, il_37, il_48, il_49, il_54, il_57, il_59, il_60, il_68, il_80, il_87, il_99, il_100, il_101, il_111, il_112, il_115, il_243, il_500, il_729, il_999, il_1000, il_10000, il_m1, il_m2, il_m3, il_m4, il_m9, il_m10, il_m100, il_m500, iI_le', iI_lt', iI_eq', iI_add, iI_sub, iI_mul, iI_neg, dc_ltT, dc_ltF, dc_leT, dc_leF, dc_eqT, dc_eqF, ↓dc_andT, ↓dc_andF, dc_andT, dc_andF, and_self, and_true, true_and, and_false, false_and, or_self, or_true, true_or, or_false, false_or, not_true_eq_false, not_false_eq_true, Int.toNat_natCast, jl_0, jl_1, jl_2, jl_3, jl_4, jl_5, jl_6, jl_9, jl_10, jl_15, jl_19, jl_30, jl_500, jl_999, jl_m1, jl_m500, i64_of, ↓f6_within_eq, f6_within_eq]
          rfl
      · refine ⟨(iI (i + 1 : Nat), sI (sI (sI (sI T (24 + i) 0 (iI (kdI (z (2 + 6 * i))))) (24 + i) 1 (iI (z (3 + 6 * i) - 48))) (24 + i) 2 (iI (sdI (z (4 + 6 * i))))) (24 + i) 3 (iI (z (5 + 6 * i) - 48))), ⟨rfl, ?_, ?_, fun q hq => ?_, fun j h1 h2 => ?_, ?_⟩, ?_⟩
        · dsimp only; simp (disch := omega) only [rfS_cell, sI_cell, sI_place, sI_same, sI_2]; exact b1
        · dsimp only; simp (disch := omega) only [rfS_cell, sI_cell, sI_place, sI_same, sI_2]; rw [show dueN z (i + 1) = dueN z i by rw [dueN, if_neg c111, Nat.add_zero], s2]; exact b2
        · dsimp only
          by_cases e : q = i
          · subst e; simp (disch := omega) only [rfS_cell, sI_cell, sI_place, sI_same, sI_2]; rw [d2, d4]; exact ⟨trivial, rfl, trivial, rfl⟩
          · simp (disch := omega) only [rfS_cell, sI_cell, sI_place, sI_same, sI_2]; exact b3 q (by omega)
        · dsimp only; simp (disch := omega) only [rfS_cell, sI_cell, sI_place, sI_same, sI_2]; exact b4 j h1 h2
        · exact b5
        · dsimp only
          rw [f3_build_L21]
          simp (disch := omega) only [sI_cell, b1, b2, i2, i3, i4, i5, i6, c2, c3, c4, c5, c6, ↓f5_kindOf_eq (hz _), f5_kindOf_eq (hz _), ↓f5_sideOf_eq (hz _), f5_sideOf_eq (hz _), pw, ↓reduceIte, ↓nm_eq, ↓ck_in, ck_in, il_0, il_1, il_2, il_3, il_4, il_5, il_6, il_7, il_8, il_9, il_10, il_15, il_20, il_31, il_30, il_37, il_48, il_49, il_54, il_57, il_59, il_60, il_68, il_80, il_87, il_99, il_100, il_101, il_111, il_112, il_115, il_243, il_500, il_729, il_999, il_1000, il_10000, il_m1, il_m2, il_m3, il_m4, il_m9, il_m10, il_m100, il_m500, iI_le', iI_lt', iI_eq', iI_add, iI_sub, iI_mul, iI_neg, dc_ltT, dc_ltF, dc_leT, dc_leF, dc_eqT, dc_eqF, ↓dc_andT, ↓dc_andF, dc_andT, dc_andF, and_self, and_true, true_and, and_false, false_and, or_self, or_true, true_or, or_false, false_or, not_true_eq_false, not_false_eq_true, Int.toNat_natCast, jl_0, jl_1, jl_2, jl_3, jl_4, jl_5, jl_6, jl_9, jl_10, jl_15, jl_19, jl_30, jl_500, jl_999, jl_m1, jl_m500, i64_of, ↓f6_within_eq, f6_within_eq]
          rfl)
    (by
      intro fuel s ⟨e1, b1, b2, b3, b4, b5⟩
      obtain ⟨v, T⟩ := s
      dsimp only at e1 b1 b2 b3 b4 b5 ⊢
      subst e1
      rw [f3_build_L21, b1, ite_le ⟨⟨by omega, by omega⟩, ⟨by omega, by omega⟩⟩, if_pos (by omega)])
    FU 0 (iI 0, T0) (by omega) (by rw [FU_eq]; omega) ⟨rfl, hB⟩
  obtain ⟨v, T⟩ := s'
  obtain ⟨e1, hB2⟩ := h1
  dsimp only at e1 hB2 h2
  subst e1
  exact ⟨T, hB2, h2⟩
def BM (z : Nat → Int) (t : Nat) (S0 : MS) (i : Nat) (T : MS) : Prop := T.1 0 6 = iI t ∧ (∀ q, q < i → T.1 5 q = iI (kdI (z (2 + 6 * q))) ∧ T.1 6 q = iI (dgI (z (3 + 6 * q)) 0 6) ∧ T.1 7 q = iI (sdI (z (4 + 6 * q))) ∧ T.1 8 q = iI (dgI (z (5 + 6 * q)) 1 9) ∧ T.1 9 q = iI 0) ∧ (∀ j, ¬ (5 ≤ j ∧ j ≤ 9) → T.1 j = S0.1 j) ∧ T.2 = S0.2
theorem M_build {α : Type} {t : Nat} (ht : t ≤ 6) {S0 : MS} (h6 : S0.1 0 6 = iI t) (hr : ∀ q, q < t → S0.1 11 q = iI (kdI (z (2 + 6 * q))) ∧ S0.1 12 q = iI (dgI (z (3 + 6 * q)) 0 6) ∧ S0.1 13 q = iI (sdI (z (4 + 6 * q))) ∧ S0.1 14 q = iI (dgI (z (5 + 6 * q)) 1 9)) (KX : Int32 → MS → Option α) : ∃ T, BM z t S0 t T ∧ f6_ship_L95 KX FU (iI 0) S0 = KX (iI t) T := by
  obtain ⟨s', h1, h2⟩ := loop_rel (σ := Int32 × MS) (L := fun fuel s => f6_ship_L95 KX fuel s.1 s.2) (KX := fun s => KX s.1 s.2) t (fun i s => s.1 = iI i ∧ BM z t S0 i s.2)
    (by
      intro fuel i s hit ⟨e1, b1, b3, b4, b5⟩
      obtain ⟨v, T⟩ := s
      dsimp only at e1 b1 b3 b4 b5 ⊢
      subst e1
      obtain ⟨r1, r2, r3, r4⟩ := hr i hit
      rw [← b4 11 (by omega)] at r1
      rw [← b4 12 (by omega)] at r2
      rw [← b4 13 (by omega)] at r3
      rw [← b4 14 (by omega)] at r4
      have n0 : vp_nar .boolean (iI 0) = iI 0 := by decide
      refine ⟨(iI (i + 1 : Nat), sI (sI (sI (sI (sI T 5 i (iI (kdI (z (2 + 6 * i))))) 6 i (iI (dgI (z (3 + 6 * i)) 0 6))) 7 i (iI (sdI (z (4 + 6 * i))))) 8 i (iI (dgI (z (5 + 6 * i)) 1 9))) 9 i (iI 0)), ⟨rfl, ?_, fun q hq => ?_, fun j h1 => ?_, ?_⟩, ?_⟩
      · dsimp only; simp (disch := omega) only [rfS_cell, sI_cell, sI_place, sI_same, sI_2]; exact b1
      · dsimp only
        by_cases e : q = i
        · subst e; simp (disch := omega) only [rfS_cell, sI_cell, sI_place, sI_same, sI_2]; exact ⟨trivial, trivial, trivial, trivial, trivial⟩
        · simp (disch := omega) only [rfS_cell, sI_cell, sI_place, sI_same, sI_2]; exact b3 q (by omega)
      · dsimp only; simp (disch := omega) only [rfS_cell, sI_cell, sI_place, sI_same, sI_2]; exact b4 j h1
      · exact b5
      · dsimp only
        rw [f6_ship_L95]
        simp (disch := omega) only [sI_cell, b1, r1, r2, r3, r4, n0, ↓reduceIte, ↓nm_eq, ↓ck_in, ck_in, il_0, il_1, il_2, il_3, il_4, il_5, il_6, il_7, il_8, il_9, il_10, il_15, il_20, il_31, il_30, il_37, il_48, il_49, il_54, il_57, il_59, il_60, il_68, il_80, il_87, il_99, il_100, il_101, il_111, il_112, il_115, il_243, il_500, il_729, il_999, il_1000, il_10000, il_m1, il_m2, il_m3, il_m4, il_m9, il_m10, il_m100, il_m500, iI_le', iI_lt', iI_eq', iI_add, iI_sub, iI_mul, iI_neg, dc_ltT, dc_ltF, dc_leT, dc_leF, dc_eqT, dc_eqF, ↓dc_andT, ↓dc_andF, dc_andT, dc_andF, and_self, and_true, true_and, and_false, false_and, or_self, or_true, true_or, or_false, false_or, not_true_eq_false, not_false_eq_true, Int.toNat_natCast, jl_0, jl_1, jl_2, jl_3, jl_4, jl_5, jl_6, jl_9, jl_10, jl_15, jl_19, jl_30, jl_500, jl_999, jl_m1, jl_m500, i64_of, ↓f6_within_eq, f6_within_eq]
        rfl)
    (by
      intro fuel s ⟨e1, b1, b3, b4, b5⟩
      obtain ⟨v, T⟩ := s
      dsimp only at e1 b1 b3 b4 b5 ⊢
      subst e1
      rw [f6_ship_L95, b1, ite_le ⟨⟨by omega, by omega⟩, ⟨by omega, by omega⟩⟩, if_pos (by omega)])
    FU 0 (iI 0, S0) (by omega) (by rw [FU_eq]; omega) ⟨rfl, h6, fun q hq => by omega, fun j _ => rfl, rfl⟩
  obtain ⟨v, T⟩ := s'
  obtain ⟨e1, hB2⟩ := h1
  dsimp only at e1 hB2 h2
  subst e1
  exact ⟨T, hB2, h2⟩
theorem M_bounds {α : Type} (S : MS) (KX : Int32 → MS → Option α) : f6_ship_L177 KX FU (iI 0) S = KX (iI 3) (rfS 10 0 3 (iI 999) S) := by
  have h := loop_eq (σ := Int32 × MS) (L := fun fuel s => f6_ship_L177 KX fuel s.1 s.2) (KX := fun s => KX s.1 s.2) 3 (fun i => (iI i, rfS 10 0 i (iI 999) S))
    (by
      intro fuel i hi
      show f6_ship_L177 KX (fuel + 1) (iI i) _ = f6_ship_L177 KX fuel (iI (i + 1 : Nat)) (rfS 10 0 (i + 1) (iI 999) _)
      rw [f6_ship_L177, show (3 : Int32) = iI 3 from rfl, ite_le ⟨by decide, ⟨by omega, by omega⟩⟩, if_neg (by omega), ck_nat hi (by omega), nm_eq, nm_eq, show (1 : Int32) = iI 1 from rfl, iI_add, show (999 : Int32) = iI 999 from rfl, ← rfS_s, Nat.zero_add]
      rfl)
    (by
      intro fuel
      show f6_ship_L177 KX (fuel + 1) (iI (3 : Nat)) _ = _
      rw [f6_ship_L177, show (3 : Int32) = iI 3 from rfl, ite_le ⟨by decide, ⟨by omega, by omega⟩⟩, if_pos (by omega)])
    FU 0 (by omega) (by rw [FU_eq]; omega)
  dsimp only at h
  rw [rfS_0] at h
  exact h
end Build
