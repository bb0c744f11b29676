/-! PURE PART 3: filling, sheets -/
theorem iI_ofNat (n : Nat) : Int32.ofNat n = iI n := by
  first | rfl | exact (Int32.ofInt_eq_ofNat).symm | simp [iI]
theorem loop_eq {σ : Type} {α : Type} {L : Nat → σ → Option α} {KX : σ → Option α} (n : Nat) (s : Nat → σ) (step : ∀ fuel i, i < n → L (fuel + 1) (s i) = L fuel (s (i + 1))) (last : ∀ fuel, L (fuel + 1) (s n) = KX (s n)) : ∀ fuel i, i ≤ n → n < fuel + i → L fuel (s i) = KX (s n) := by
  intro fuel
  induction fuel with
  | zero => intro i h1 h2; omega
  | succ fuel ih =>
    intro i h1 h2
    by_cases hi : i = n
    · subst hi; exact last fuel
    · rw [step fuel i (by omega)]
      exact ih (i + 1) (by omega) (by omega)
def rfS (j a n : Nat) (v : Int32) (S : MS) : MS := (va_up S.1 j (fun q => if a ≤ q ∧ q < a + n then v else S.1 j q), S.2)
theorem rfS_0 (j a : Nat) (v : Int32) (S : MS) : rfS j a 0 v S = S := by
  unfold rfS
  apply Prod.ext
  · funext q
    by_cases h : q = j
    · subst h; funext f; simp [va_up]; omega
    · simp [va_up, h]
  · rfl
theorem rfS_s (j a i : Nat) (v : Int32) (S : MS) : sI (rfS j a i v S) j (a + i) v = rfS j a (i + 1) v S := by
  unfold rfS sI
  apply Prod.ext
  · funext q
    by_cases h : q = j
    · subst h; funext f
      simp only [va_up, upd, if_true]
      by_cases h2 : f = a + i
      · subst h2; simp
      · rw [if_neg h2]
        by_cases h3 : a ≤ f ∧ f < a + i
        · rw [if_pos h3, if_pos (by omega)]
        · rw [if_neg h3, if_neg (by omega)]
    · simp [va_up, h]
  · rfl
theorem rfS_at (j a n : Nat) (v : Int32) (S : MS) (j' f : Nat) : (rfS j a n v S).1 j' f = if j' = j ∧ a ≤ f ∧ f < a + n then v else S.1 j' f := by
  by_cases h : j' = j
  · subst h; simp [rfS, va_up]
  · simp [rfS, va_up, h]
theorem rfS_cell {j j' : Nat} (a n : Nat) (v : Int32) (S : MS) (h : j' ≠ j) : (rfS j a n v S).1 j' = S.1 j' := by simp [rfS, va_up, h]
theorem fill_eq {α : Type} (j n : Nat) (hn : n ≤ 729) (v : Int32) (S : MS) (K : MS → Option α) : fJ7_fill j n v S K = K (rfS j 0 n v S) := by
  unfold fJ7_fill
  rw [nm_eq, iI_ofNat]
  have h := loop_eq (σ := Int32 × MS) (L := fun fuel s => fJ7_fill_L5 j n v (iI n) (fun _ S1 => K S1) fuel s.1 s.2) (KX := fun s => K s.2) n (fun i => (iI i, rfS j 0 i v S))
    (by
      intro fuel i hi
      show fJ7_fill_L5 j n v (iI n) _ (fuel + 1) (iI i) (rfS j 0 i v S) = fJ7_fill_L5 j n v (iI n) _ fuel (iI (i + 1 : Nat)) (rfS j 0 (i + 1) v S)
      rw [fJ7_fill_L5, ite_le ⟨⟨by omega, by omega⟩, ⟨by omega, by omega⟩⟩, if_neg (by omega), ck_nat hi (by omega)]
      simp only [nm]
      rw [show (1 : Int32) = iI 1 from rfl, iI_add, ← rfS_s, Nat.zero_add]
      rfl)
    (by
      intro fuel
      show fJ7_fill_L5 j n v (iI n) _ (fuel + 1) (iI n) (rfS j 0 n v S) = _
      rw [fJ7_fill_L5, ite_le ⟨⟨by omega, by omega⟩, ⟨by omega, by omega⟩⟩, if_pos (by omega)])
    FU 0 (by omega) (by rw [FU_eq]; omega)
  dsimp only at h
  rw [rfS_0] at h
  exact h
section Ops2
variable {PX PM : Sg → MS → Prop} {σ : Sg} {SX SM : MS}
theorem sim_reading (cX : ClX PX) (a : Int32) : SimI (RelP PX PM) (f5_reading a) (f6_reading a) := by
  intro SX SM ⟨σ, h⟩
  obtain ⟨z, rfl, hz⟩ := iI_of a
  obtain ⟨rc, g1, g2, g3, g4⟩ := h.2.2.2.1
  have hG := h.1.1
  have hX1 := h.2.1.1
  have hM1 := h.2.2.1.1
  have rn : rg ((σ 0 0 : Nat) : Int) := ⟨by omega, by omega⟩
  have rr : rg (rc : Int) := ⟨by omega, by omega⟩
  by_cases hn : σ 0 0 = 0
  · refine ⟨-3, SX, SM, ?_, ?_, σ, h⟩
    · unfold f5_reading; rw [f5_hasNoShip_eq hG hX1, if_pos hn]; rfl
    · unfold f6_reading; rw [hM1, show (0 : Int32) = iI 0 from rfl, ite_eq ⟨rn, by decide⟩, if_pos (by omega)]
  by_cases hin : -500 ≤ z ∧ z ≤ 500
  · by_cases hf : rc < 8
    · have hc : ((rc : Int) + 1) = ((rc + 1 : Nat) : Int) := by omega
      have e1 : (sI SX 4 rc (iI z)).1 0 4 = iI rc := by rw [sI_cell _ _ _ (by omega)]; exact g2
      have e2 : (sI SM 21 rc (iI z)).1 0 34 = iI rc := by rw [sI_cell _ _ _ (by omega)]; exact g3
      refine ⟨iI ((rc : Int) + 1 - 1), sI (sI SX 4 rc (iI z)) 0 4 (iI ((rc : Int) + 1)), sI (sI SM 21 rc (iI z)) 0 34 (iI ((rc : Int) + 1)), ?_, ?_, σ, ?_⟩
      · unfold f5_reading
        rw [f5_hasNoShip_eq hG hX1, if_neg hn, if_pos rfl, show (-500 : Int32) = iI (-500) from rfl, ite_lt ⟨hz, by decide⟩, if_neg (by omega), show (500 : Int32) = iI 500 from rfl, ite_le ⟨hz, by decide⟩, if_pos hin.2, g2, show (8 : Int32) = iI 8 from rfl, ite_lt ⟨rr, by decide⟩, if_pos (by omega), ck_nat hf (by omega)]
        simp only [nm]
        rw [e1, show (1 : Int32) = iI 1 from rfl, iI_add, sI_same, iI_sub]
      · unfold f6_reading
        rw [hM1, show (0 : Int32) = iI 0 from rfl, ite_eq ⟨rn, by decide⟩, if_neg (by omega), i64_of hz, show (-500 : Int64) = Int64.ofInt (-500) from rfl, show (500 : Int64) = Int64.ofInt 500 from rfl, f6_within_eq hz (by decide) (by decide), if_pos hin, if_neg (by decide), g3, show (8 : Int32) = iI 8 from rfl, ite_eq ⟨rr, by decide⟩, if_neg (by omega), ck_nat hf (by omega)]
        simp only [nm]
        rw [e2, show (1 : Int32) = iI 1 from rfl, iI_add, sI_same, iI_sub]
      · refine rel_keep cX h (fun j hj => by rw [sI_cell _ _ _ (by omega), sI_cell _ _ _ (by omega)]) rfl ?_ (fun j hj => by rw [sI_cell _ _ _ (by omega), sI_cell _ _ _ (by omega)]) rfl ?_ ?_ ?_ ?_
        · simp [sI_at]
        · refine ⟨rc + 1, by omega, by rw [sI_same, hc], by rw [sI_same, hc], fun q hq => ?_⟩
          simp only [sI_at]
          by_cases hq2 : q = rc
          · subst hq2; simp
          · simp [hq2]; exact g4 q (by omega)
        · simp only [sI_at]; simp; exact h.2.2.2.2.1
        · simp only [sI_at]; simp; exact h.2.2.2.2.2.1
        · exact sk_keep h.2.2.2.2.2.2.1 (fun j hj => by rw [sI_cell _ _ _ (by omega), sI_cell _ _ _ (by omega)]) (fun j hj => by rw [sI_cell _ _ _ (by omega), sI_cell _ _ _ (by omega)])
    · refine ⟨-4, SX, SM, ?_, ?_, σ, h⟩
      · unfold f5_reading
        rw [f5_hasNoShip_eq hG hX1, if_neg hn, if_pos rfl, show (-500 : Int32) = iI (-500) from rfl, ite_lt ⟨hz, by decide⟩, if_neg (by omega), show (500 : Int32) = iI 500 from rfl, ite_le ⟨hz, by decide⟩, if_pos hin.2, g2, show (8 : Int32) = iI 8 from rfl, ite_lt ⟨rr, by decide⟩, if_neg (by omega)]
      · unfold f6_reading
        rw [hM1, show (0 : Int32) = iI 0 from rfl, ite_eq ⟨rn, by decide⟩, if_neg (by omega), i64_of hz, show (-500 : Int64) = Int64.ofInt (-500) from rfl, show (500 : Int64) = Int64.ofInt 500 from rfl, f6_within_eq hz (by decide) (by decide), if_pos hin, if_neg (by decide), g3, show (8 : Int32) = iI 8 from rfl, ite_eq ⟨rr, by decide⟩, if_pos (by omega)]
  · refine ⟨-2, SX, SM, ?_, ?_, σ, h⟩
    · unfold f5_reading
      rw [f5_hasNoShip_eq hG hX1, if_neg hn, if_pos rfl, show (-500 : Int32) = iI (-500) from rfl, ite_lt ⟨hz, by decide⟩, show (500 : Int32) = iI 500 from rfl, ite_le ⟨hz, by decide⟩]
      by_cases h0 : z < -500
      · rw [if_pos h0]
      · rw [if_neg h0, if_neg (by omega)]
    · unfold f6_reading
      rw [hM1, show (0 : Int32) = iI 0 from rfl, ite_eq ⟨rn, by decide⟩, if_neg (by omega), i64_of hz, show (-500 : Int64) = Int64.ofInt (-500) from rfl, show (500 : Int64) = Int64.ofInt 500 from rfl, f6_within_eq hz (by decide) (by decide), if_neg hin]
      rfl
end Ops2
