/-! PURE PART 2: sheets, readings, tellings -/
section SmallX
variable {α : Type} {S : MS} {K : Int32 → MS → Option α}
theorem f5_isSheet_eq {z : Int} (hz : rg z) : f5_isSheet (iI z) S K = if 0 ≤ z ∧ z < 4 then K 1 S else K 0 S := by
  unfold f5_isSheet
  rw [show (0 : Int32) = iI 0 from rfl, show (4 : Int32) = iI 4 from rfl, ite_lt ⟨hz, by decide⟩, ite_le ⟨by decide, hz⟩]
  by_cases h : z < 0
  · rw [if_pos h, if_neg (by omega)]
  · by_cases h2 : 4 ≤ z
    · rw [if_neg h, if_pos h2, if_neg (by omega)]
    · rw [if_neg h, if_neg h2, if_pos (by omega)]
theorem f5_isLane_eq {z : Int} (hz : rg z) : f5_isLane (iI z) S K = if 0 ≤ z ∧ z < 3 then K 1 S else K 0 S := by
  unfold f5_isLane
  rw [show (0 : Int32) = iI 0 from rfl, show (3 : Int32) = iI 3 from rfl, ite_lt ⟨hz, by decide⟩, ite_le ⟨by decide, hz⟩]
  by_cases h : z < 0
  · rw [if_pos h, if_neg (by omega)]
  · by_cases h2 : 3 ≤ z
    · rw [if_neg h, if_pos h2, if_neg (by omega)]
    · rw [if_neg h, if_neg h2, if_pos (by omega)]
theorem f5_isTank_eq {z : Int} {n : Nat} (hz : rg z) (hn : n ≤ 6) (hS : S.1 2 3 = iI n) : f5_isTank (iI z) S K = if 0 ≤ z ∧ z < n then K 1 S else K 0 S := by
  unfold f5_isTank
  rw [hS, show (0 : Int32) = iI 0 from rfl, ite_lt ⟨hz, by decide⟩, ite_le ⟨⟨by omega, by omega⟩, hz⟩]
  by_cases h : z < 0
  · rw [if_pos h, if_neg (by omega)]
  · by_cases h2 : (n : Int) ≤ z
    · rw [if_neg h, if_pos h2, if_neg (by omega)]
    · rw [if_neg h, if_neg h2, if_pos (by omega)]
theorem f5_hasNoShip_eq {n : Nat} (hn : n ≤ 6) (hS : S.1 2 3 = iI n) : f5_hasNoShip S K = if n = 0 then K 1 S else K 0 S := by
  unfold f5_hasNoShip
  rw [hS, show (0 : Int32) = iI 0 from rfl, ite_eq ⟨⟨by omega, by omega⟩, by decide⟩]
  by_cases h : n = 0
  · rw [if_pos (by omega), if_pos h]
  · rw [if_neg (by omega), if_neg h]
theorem f6_isSheet_eq {z : Int} (hz : rg z) : f6_isSheet (iI z) S K = if 0 ≤ z ∧ z < 4 then K 1 S else K 0 S := by
  unfold f6_isSheet
  rw [i64_of hz, show (0 : Int64) = Int64.ofInt 0 from rfl, show (3 : Int64) = Int64.ofInt 3 from rfl, f6_within_eq hz (by decide) (by decide)]
  by_cases h : 0 ≤ z ∧ z < 4
  · rw [if_pos (by omega), if_pos h]; rfl
  · rw [if_neg (by omega), if_neg h]; rfl
theorem f6_isSort_eq {z : Int} (hz : rg z) : f6_isSort (iI z) S K = if 0 ≤ z ∧ z < 3 then K 1 S else K 0 S := by
  unfold f6_isSort
  rw [i64_of hz, show (0 : Int64) = Int64.ofInt 0 from rfl, show (2 : Int64) = Int64.ofInt 2 from rfl, f6_within_eq hz (by decide) (by decide)]
  by_cases h : 0 ≤ z ∧ z < 3
  · rw [if_pos (by omega), if_pos h]; rfl
  · rw [if_neg (by omega), if_neg h]; rfl
theorem f6_isTank_eq {z : Int} {n : Nat} (hz : rg z) (hn : n ≤ 6) (hS : S.1 0 6 = iI n) : f6_isTank (iI z) S K = if 0 ≤ z ∧ z < n then K 1 S else K 0 S := by
  unfold f6_isTank
  rw [i64_of hz, hS, show (1 : Int32) = iI 1 from rfl, iI_sub, i64_of ⟨by omega, by omega⟩, show (0 : Int64) = Int64.ofInt 0 from rfl, f6_within_eq hz (by decide) ⟨by omega, by omega⟩]
  by_cases h : 0 ≤ z ∧ z < n
  · rw [if_pos (by omega), if_pos h]; rfl
  · rw [if_neg (by omega), if_neg h]; rfl
end SmallX
theorem ShX_of {σ : Sg} {S S' : MS} (h : ShX σ S) (e : ∀ j, j = 2 ∨ j = 8 ∨ 24 ≤ j → S'.1 j = S.1 j) : ShX σ S' := by
  obtain ⟨h1, h2, h3, h4, h5, h6⟩ := h
  have e2 := e 2 (Or.inl rfl)
  have e8 := e 8 (Or.inr (Or.inl rfl))
  refine ⟨by rw [e2]; exact h1, by rw [e2]; exact h2, by rw [e2]; exact h3, by rw [e2]; exact h4, fun k hk => by rw [e8]; exact h5 k hk, fun t ht => ?_⟩
  rw [e (24 + t) (Or.inr (Or.inr (by omega)))]
  exact h6 t ht
theorem ShM_of {σ : Sg} {S S' : MS} (h : ShM σ S) (e0 : S'.1 0 6 = S.1 0 6 ∧ S'.1 0 14 = S.1 0 14 ∧ S'.1 0 13 = S.1 0 13) (e : ∀ j, 4 ≤ j ∧ j ≤ 10 → S'.1 j = S.1 j) : ShM σ S' := by
  obtain ⟨h1, h2, h3, h4, h5, h6, h7⟩ := h
  refine ⟨by rw [e0.1]; exact h1, by rw [e0.2.1]; exact h2, by rw [e0.2.2]; exact h3, fun t ht => by rw [e 9 (by omega)]; exact h4 t ht, fun k hk => by rw [e 10 (by omega)]; exact h5 k hk, fun t ht => ?_, fun j hj => by rw [e 4 (by omega)]; exact h7 j hj⟩
  rw [e 5 (by omega), e 6 (by omega), e 7 (by omega), e 8 (by omega)]
  exact h6 t ht
theorem ChX_of {PX : Sg → MS → Prop} (cX : ClX PX) {σ : Sg} {S S' : MS} (h : ChX PX σ S) (e : AgX S S') : ChX PX σ S' := by
  rcases h with h | ⟨h1, h2⟩
  · exact Or.inl (by rw [e.1 3 (Or.inl rfl)]; exact h)
  · exact Or.inr ⟨by rw [e.1 3 (Or.inl rfl)]; exact h1, cX σ S S' e h2⟩
theorem ChM_of {PM : Sg → MS → Prop} {σ : Sg} {S S' : MS} (h : ChM PM σ S) (e : AgM S S') (e2 : S'.1 0 28 = S.1 0 28) : ChM PM σ S' := by
  rcases h with h | ⟨h1, S0, h2, h3⟩
  · exact Or.inl (by rw [e2]; exact h)
  · exact Or.inr ⟨by rw [e2]; exact h1, S0, h2.tr e, h3⟩
section Ops1
variable {PX PM : Sg → MS → Prop} {σ : Sg} {SX SM : MS}
/-- a call that leaves the ship and the searches as they are -/
theorem rel_keep (cX : ClX PX) {SX' SM' : MS} (h : RelS PX PM σ SX SM) (x2 : ∀ j, j = 2 ∨ j = 3 ∨ (8 ≤ j ∧ j ≤ 15) ∨ 24 ≤ j → SX'.1 j = SX.1 j) (x3 : SX'.2 = SX.2) (m0 : SM'.1 0 6 = SM.1 0 6 ∧ SM'.1 0 14 = SM.1 0 14 ∧ SM'.1 0 13 = SM.1 0 13 ∧ SM'.1 0 28 = SM.1 0 28) (m2 : ∀ j, (4 ≤ j ∧ j ≤ 10) ∨ j = 17 ∨ j = 18 → SM'.1 j = SM.1 j) (m3 : SM'.2 = SM.2) (rd : RdR SX' SM') (tr : SX'.1 0 5 = SM'.1 0 1) (ft : SX'.1 0 6 = SM'.1 0 0) (sk : ∀ k, k < 4 → SkR SX' SM' k) : RelS PX PM σ SX' SM' := by
  obtain ⟨h1, h2, h3, h4, h5, h6, h7, h8, h9⟩ := h
  exact ⟨h1, ShX_of h2 (fun j hj => x2 j (by omega)), ShM_of h3 ⟨m0.1, m0.2.1, m0.2.2.1⟩ (fun j hj => m2 j (Or.inl hj)), rd, tr, ft, sk, ChX_of cX h8 ⟨fun j hj => x2 j (by omega), x3⟩, ChM_of h9 ⟨fun j hj => m2 j (Or.inr hj), m3⟩ m0.2.2.2⟩
theorem rd_keep {SX' SM' : MS} (h : RdR SX SM) (e1 : SX'.1 0 4 = SX.1 0 4) (e2 : SM'.1 0 34 = SM.1 0 34) (e3 : SX'.1 4 = SX.1 4) (e4 : SM'.1 21 = SM.1 21) : RdR SX' SM' := by
  obtain ⟨rc, g1, g2, g3, g4⟩ := h
  exact ⟨rc, g1, by rw [e1]; exact g2, by rw [e2]; exact g3, fun q hq => by rw [e3, e4]; exact g4 q hq⟩
theorem sk_keep {SX' SM' : MS} (h : ∀ k, k < 4 → SkR SX SM k) (e1 : ∀ j, 16 ≤ j ∧ j < 24 → SX'.1 j = SX.1 j) (e2 : ∀ j, 1 ≤ j ∧ j ≤ 3 → SM'.1 j = SM.1 j) : ∀ k, k < 4 → SkR SX' SM' k := by
  intro k hk
  have h := h k hk
  unfold SkR at h ⊢
  rw [e1 (16 + k) (by omega), e1 (20 + k) (by omega), e2 1 (by omega), e2 2 (by omega), e2 3 (by omega)]
  exact h
/-- the fault set anew on both sides -/
theorem rel_fault (cX : ClX PX) (h : RelS PX PM σ SX SM) (v : Int32) : RelS PX PM σ (sI SX 0 6 v) (sI SM 0 0 v) := by
  refine rel_keep cX h (fun j hj => sI_cell _ _ _ (by omega)) rfl ?_ (fun j hj => sI_cell _ _ _ (by omega)) rfl ?_ ?_ ?_ ?_
  · simp [sI_at]
  · exact rd_keep h.2.2.2.1 (by simp [sI_at]) (by simp [sI_at]) (sI_cell _ _ _ (by omega)) (sI_cell _ _ _ (by omega))
  · simp only [sI_at]; simp; exact h.2.2.2.2.1
  · simp [sI_at]
  · exact sk_keep h.2.2.2.2.2.2.1 (fun j hj => sI_cell _ _ _ (by omega)) (fun j hj => sI_cell _ _ _ (by omega))
theorem rel_trace (cX : ClX PX) (h : RelS PX PM σ SX SM) (v : Int32) : RelS PX PM σ (sI SX 0 5 v) (sI SM 0 1 v) := by
  refine rel_keep cX h (fun j hj => sI_cell _ _ _ (by omega)) rfl ?_ (fun j hj => sI_cell _ _ _ (by omega)) rfl ?_ ?_ ?_ ?_
  · simp [sI_at]
  · exact rd_keep h.2.2.2.1 (by simp [sI_at]) (by simp [sI_at]) (sI_cell _ _ _ (by omega)) (sI_cell _ _ _ (by omega))
  · simp [sI_at]
  · simp only [sI_at]; simp; exact h.2.2.2.2.2.1
  · exact sk_keep h.2.2.2.2.2.2.1 (fun j hj => sI_cell _ _ _ (by omega)) (fun j hj => sI_cell _ _ _ (by omega))
theorem sim_trace : SimI (RelP PX PM) f5_trace f6_trace := by
  intro SX SM ⟨σ, h⟩
  refine ⟨_, SX, SM, rfl, ?_, σ, h⟩
  show some (SM.1 0 1, SM) = some (SX.1 0 5, SM)
  rw [h.2.2.2.2.1]
theorem sim_fault : SimI (RelP PX PM) f5_fault f6_fault := by
  intro SX SM ⟨σ, h⟩
  refine ⟨_, SX, SM, rfl, ?_, σ, h⟩
  show some (SM.1 0 0, SM) = some (SX.1 0 6, SM)
  rw [h.2.2.2.2.2.1]
theorem sim_back (cX : ClX PX) (a : Int32) : SimI (RelP PX PM) (f5_back a) (f6_back a) := by
  intro SX SM ⟨σ, h⟩
  obtain ⟨z, rfl, hz⟩ := iI_of a
  obtain ⟨rc, g1, g2, g3, g4⟩ := h.2.2.2.1
  unfold f5_back f6_back
  rw [g2, g3, i64_of hz, i64_of ⟨by omega, by omega⟩, show (0 : Int64) = Int64.ofInt 0 from rfl, f6_within_eq hz (by decide) ⟨by omega, by omega⟩, show (0 : Int32) = iI 0 from rfl, ite_lt ⟨hz, by decide⟩, ite_le ⟨hz, ⟨by omega, by omega⟩⟩]
  by_cases hin : 0 ≤ z ∧ z ≤ rc
  · rw [if_neg (by omega), if_pos hin.2, if_pos hin, iI_sub]
    have e : iI ((rc : Int) - z) = iI ((rc - z.toNat : Nat) : Int) := by congr 1; omega
    refine ⟨iI ((rc : Int) - z), sI SX 0 4 (iI ((rc : Int) - z)), sI SM 0 34 (iI ((rc : Int) - z)), ?_, ?_, σ, ?_⟩
    · simp only [nm]; simp [sI_at]
    · show (if (1 : Int32) = 0 then _ else _) = _
      rw [if_neg (by decide)]
      simp only [nm]
      simp [sI_at, g3, iI_sub]
    · refine rel_keep cX h (fun j hj => sI_cell _ _ _ (by omega)) rfl ?_ (fun j hj => sI_cell _ _ _ (by omega)) rfl ?_ ?_ ?_ ?_
      · simp [sI_at]
      · exact ⟨rc - z.toNat, by omega, by rw [sI_same, e], by rw [sI_same, e], fun q hq => by rw [sI_cell _ _ _ (by omega), sI_cell _ _ _ (by omega)]; exact g4 q (by omega)⟩
      · simp only [sI_at]; simp; exact h.2.2.2.2.1
      · simp only [sI_at]; simp; exact h.2.2.2.2.2.1
      · exact sk_keep h.2.2.2.2.2.2.1 (fun j hj => sI_cell _ _ _ (by omega)) (fun j hj => sI_cell _ _ _ (by omega))
  · refine ⟨-2, SX, SM, ?_, ?_, σ, h⟩
    · by_cases h0 : z < 0
      · rw [if_pos h0]
      · rw [if_neg h0, if_neg (by omega)]
    · rw [if_neg hin]; rfl
end Ops1
