/-! PURE PART 19: days -/
/-- cells of the reference that nothing hangs on -/
def ScM (S S' : MS) : Prop := (∀ j, j ≠ 0 → (j ≤ 10 ∨ (17 ≤ j ∧ j ≤ 19) ∨ j = 21) → S'.1 j = S.1 j) ∧ (∀ f, f = 0 ∨ f = 1 ∨ f = 6 ∨ f = 13 ∨ f = 14 ∨ f = 28 ∨ f = 34 → S'.1 0 f = S.1 0 f) ∧ S'.2 = S.2
theorem ScM.rf (S : MS) : ScM S S := ⟨fun _ _ _ => rfl, fun _ _ => rfl, rfl⟩
theorem ScM.tr {a b c : MS} (h1 : ScM a b) (h2 : ScM b c) : ScM a c := ⟨fun j h0 hj => (h2.1 j h0 hj).trans (h1.1 j h0 hj), fun f hf => (h2.2.1 f hf).trans (h1.2.1 f hf), h2.2.2.trans h1.2.2⟩
theorem ScM.sm {σ : Sg} {S S' : MS} (h : SmM σ S S') : ScM S S' := ⟨fun j h0 hj => h.cell h0 (by omega) (by omega), fun f hf => h.zero (by omega), h.two⟩
theorem ScM.sh {σ : Sg} {S S' : MS} (h : ScM S S') (hS : ShM σ S) : ShM σ S' := ShM_of hS ⟨h.2.1 6 (by omega), h.2.1 14 (by omega), h.2.1 13 (by omega)⟩ (fun j hj => h.1 j (by omega) (by omega))
theorem rel_sc {PX PM : Sg → MS → Prop} (cX : ClX PX) {σ : Sg} {SX SM SX' SM' : MS} (h : RelS PX PM σ SX SM) (hx : SmX σ SX SX') (hm : ScM SM SM') : RelS PX PM σ SX' SM' := by
  refine rel_keep cX h (fun j hj => hx.cell (by omega) (by omega)) hx.two ⟨hm.2.1 6 (by omega), hm.2.1 14 (by omega), hm.2.1 13 (by omega), hm.2.1 28 (by omega)⟩ (fun j hj => hm.1 j (by omega) (by omega)) hm.2.2 ?_ ?_ ?_ ?_
  · exact rd_keep h.2.2.2.1 (by rw [hx.cell (by omega) (by omega)]) (hm.2.1 34 (by omega)) (hx.cell (by omega) (by omega)) (hm.1 21 (by omega) (by omega))
  · rw [hx.cell (by omega) (by omega), hm.2.1 1 (by omega)]; exact h.2.2.2.2.1
  · rw [hx.cell (by omega) (by omega), hm.2.1 0 (by omega)]; exact h.2.2.2.2.2.1
  · exact sk_keep h.2.2.2.2.2.2.1 (fun j hj => hx.cell (by omega) (by omega)) (fun j hj => hm.1 j (by omega) (by omega))
theorem ScM.s32 (S : MS) (v : Int32) : ScM S (sI S 0 32 v) := ⟨fun j h0 hj => sI_cell _ _ _ h0, fun f hf => sI_place _ _ _ (by omega), rfl⟩
section Day
/-- the day's steps from the q-th on, m of them: the first that can't be, or all waters behind -/
noncomputable def dyR (σ : Sg) (d : Nat → Nat) : Nat → Nat → Nat → Nat ⊕ Nat
  | 0, _, w => Sum.inr w
  | m + 1, q, w => @ite _ (d q < σ 0 0 ∧ CanP σ w (d q)) (Classical.propDecidable _) (dyR σ d m (q + 1) (pmN w (d q))) (Sum.inl q)
theorem dyR_lt {σ : Sg} (h : Gd σ) (d : Nat → Nat) : ∀ (m q w w' : Nat), w < 3 ^ σ 0 0 → dyR σ d m q w = Sum.inr w' → w' < 3 ^ σ 0 0 := by
  intro m
  induction m with
  | zero => intro q w w' hw e; cases e; exact hw
  | succ m ih =>
    intro q w w' hw e
    by_cases hc : d q < σ 0 0 ∧ CanP σ w (d q)
    · rw [dyR, if_pos hc] at e
      exact ih _ _ _ (pm_ltn _ h.1 _ hw _ hc.1) e
    · rw [dyR, if_neg hc] at e; cases e
theorem X_first {σ : Sg} (h : Gd σ) (d : Nat → Nat) (k i n : Nat) (hk : k < 4) (hi : i + n ≤ 60) : ∀ (m q w : Nat) (S : MS), q + m = n → w < 3 ^ σ 0 0 → ShX σ S → (∀ p, p < n → S.1 (20 + k) (i + p) = iI (d p) ∧ d p < 6) → ∃ S', SmX σ S S' ∧ ∀ (α : Type) (K : Int32 → MS → Option α) (KX : Int32 → Int32 → MS → Option α) (fuel : Nat), m < fuel → f5_firstWrong_L12 k (iI i) (iI n) K KX fuel (iI w) (iI q) S = match dyR σ d m q w with | Sum.inl c => K (iI c) S' | Sum.inr w' => KX (iI w') (iI n) S' := by
  intro m
  have hn6 := h.1
  have h3 := p3_bd hn6
  induction m with
  | zero =>
    intro q w S hq hw hS hc
    refine ⟨S, SmX.rf σ S, fun α K KX fuel hf => ?_⟩
    obtain ⟨f, rfl⟩ : ∃ f, fuel = f + 1 := ⟨fuel - 1, by omega⟩
    obtain rfl : q = n := by omega
    rw [f5_firstWrong_L12, ite_le ⟨⟨by omega, by omega⟩, ⟨by omega, by omega⟩⟩, if_pos (by omega)]
    rfl
  | succ m ih =>
    intro q w S hq hw hS hc
    obtain ⟨c1, c2⟩ := hc q (by omega)
    by_cases ht : d q < σ 0 0
    · obtain ⟨S1, sx, ex⟩ := f3_canPump_eq h hS (show w < 729 by omega) ht
      have sx : SmX σ S S1 := sx
      by_cases hp : CanP σ w (d q)
      · obtain ⟨S2, s2, e2⟩ := ih (q + 1) (pmN w (d q)) S1 (by omega) (pm_ltn _ hn6 _ hw _ ht) (sx.sh hS) (fun p hp => by rw [sx.cell (by omega) (by omega)]; exact hc p hp)
        refine ⟨S2, sx.tr s2, fun α K KX fuel hf => ?_⟩
        obtain ⟨f, rfl⟩ : ∃ f, fuel = f + 1 := ⟨fuel - 1, by omega⟩
        rw [f5_firstWrong_L12, ite_le ⟨⟨by omega, by omega⟩, ⟨by omega, by omega⟩⟩, if_neg (by omega), iI_add, show ((i : Int) + (q : Int)) = ((i + q : Nat) : Int) by omega, ck_nat (by omega) (by omega), nm_eq, c1, f5_isTank_eq ⟨by omega, by omega⟩ hn6 hS.1, if_pos (by omega), if_neg (by decide), ex, bI_t hp, if_neg (by decide), f5_pumped_eq (by omega) c2, nm_eq, show (1 : Int32) = iI 1 from rfl, iI_add, dyR, if_pos ⟨ht, hp⟩]
        exact e2 α K KX f (by omega)
      · refine ⟨S1, sx, fun α K KX fuel hf => ?_⟩
        obtain ⟨f, rfl⟩ : ∃ f, fuel = f + 1 := ⟨fuel - 1, by omega⟩
        rw [f5_firstWrong_L12, ite_le ⟨⟨by omega, by omega⟩, ⟨by omega, by omega⟩⟩, if_neg (by omega), iI_add, show ((i : Int) + (q : Int)) = ((i + q : Nat) : Int) by omega, ck_nat (by omega) (by omega), nm_eq, c1, f5_isTank_eq ⟨by omega, by omega⟩ hn6 hS.1, if_pos (by omega), if_neg (by decide), ex, bI_f hp, if_pos (by decide), dyR, if_neg (fun e => hp e.2)]
    · refine ⟨S, SmX.rf σ S, fun α K KX fuel hf => ?_⟩
      obtain ⟨f, rfl⟩ : ∃ f, fuel = f + 1 := ⟨fuel - 1, by omega⟩
      rw [f5_firstWrong_L12, ite_le ⟨⟨by omega, by omega⟩, ⟨by omega, by omega⟩⟩, if_neg (by omega), iI_add, show ((i : Int) + (q : Int)) = ((i + q : Nat) : Int) by omega, ck_nat (by omega) (by omega), nm_eq, c1, f5_isTank_eq ⟨by omega, by omega⟩ hn6 hS.1, if_neg (by omega), if_pos rfl, dyR, if_neg (fun e => ht e.1)]
theorem M_first {σ : Sg} (h : Gd σ) (d : Nat → Nat) (A n : Nat) (hA : A + n ≤ 240) (hn : n ≤ 60) : ∀ (m q w : Nat) (S : MS), q + m = n → w < 3 ^ σ 0 0 → ShM σ S → S.1 0 32 = iI w → (∀ p, p < n → S.1 3 (A + p) = iI (d p) ∧ d p < 6) → ∃ S', ScM S S' ∧ (∀ w', dyR σ d m q w = Sum.inr w' → S'.1 0 32 = iI w') ∧ ∀ (α : Type) (K : Int32 → MS → Option α) (KX : Int32 → MS → Option α) (fuel : Nat), m < fuel → f6_goDay_L10 (iI A) (iI n) K KX fuel (iI q) S = match dyR σ d m q w with | Sum.inl c => K (iI c) S' | Sum.inr w' => KX (iI n) S' := by
  intro m
  have hn6 := h.1
  have h3 := p3_bd hn6
  induction m with
  | zero =>
    intro q w S hq hw hS h32 hc
    refine ⟨S, ScM.rf S, fun w' e => by cases e; exact h32, fun α K KX fuel hf => ?_⟩
    obtain ⟨f, rfl⟩ : ∃ f, fuel = f + 1 := ⟨fuel - 1, by omega⟩
    obtain rfl : q = n := by omega
    rw [f6_goDay_L10, ite_le ⟨⟨by omega, by omega⟩, ⟨by omega, by omega⟩⟩, if_pos (by omega)]
    rfl
  | succ m ih =>
    intro q w S hq hw hS h32 hc
    obtain ⟨c1, c2⟩ := hc q (by omega)
    by_cases ht : d q < σ 0 0
    · obtain ⟨S1, sx, ex⟩ := f6_canPump_eq h hS (show w < 729 by omega) ht
      have e32 : S1.1 0 32 = iI w := by rw [sx.zero (by omega)]; exact h32
      by_cases hp : CanP σ w (d q)
      · have sc : ScM S (sI S1 0 32 (iI (pmN w (d q)))) := (ScM.sm sx).tr (ScM.s32 _ _)
        obtain ⟨S2, s2, w2, e2⟩ := ih (q + 1) (pmN w (d q)) (sI S1 0 32 (iI (pmN w (d q)))) (by omega) (pm_ltn _ hn6 _ hw _ ht) (sc.sh hS) (sI_same _ _ _ _) (fun p hp => by rw [sc.1 3 (by omega) (by omega)]; exact hc p hp)
        refine ⟨S2, sc.tr s2, fun w' e => w2 w' (by rw [dyR, if_pos ⟨ht, hp⟩] at e; exact e), fun α K KX fuel hf => ?_⟩
        obtain ⟨f, rfl⟩ : ∃ f, fuel = f + 1 := ⟨fuel - 1, by omega⟩
        rw [f6_goDay_L10, ite_le ⟨⟨by omega, by omega⟩, ⟨by omega, by omega⟩⟩, if_neg (by omega), iI_add, show ((A : Int) + (q : Int)) = ((A + q : Nat) : Int) by omega, ck_nat (by omega) (by omega), nm_eq, c1, f6_isTank_eq ⟨by omega, by omega⟩ hn6 hS.1, if_pos (by omega), if_neg (by decide), h32, ex, bI_t hp, if_neg (by decide), e32, f6_pumped_eq (by omega) c2 (sx.sh hS), nm_eq, nm_eq, show (1 : Int32) = iI 1 from rfl, iI_add, dyR, if_pos ⟨ht, hp⟩]
        exact e2 α K KX f (by omega)
      · refine ⟨S1, ScM.sm sx, fun w' e => (by rw [dyR, if_neg (fun e => hp e.2)] at e; cases e), fun α K KX fuel hf => ?_⟩
        obtain ⟨f, rfl⟩ : ∃ f, fuel = f + 1 := ⟨fuel - 1, by omega⟩
        rw [f6_goDay_L10, ite_le ⟨⟨by omega, by omega⟩, ⟨by omega, by omega⟩⟩, if_neg (by omega), iI_add, show ((A : Int) + (q : Int)) = ((A + q : Nat) : Int) by omega, ck_nat (by omega) (by omega), nm_eq, c1, f6_isTank_eq ⟨by omega, by omega⟩ hn6 hS.1, if_pos (by omega), if_neg (by decide), h32, ex, bI_f hp, if_pos (by decide), dyR, if_neg (fun e => hp e.2)]
    · refine ⟨S, ScM.rf S, fun w' e => (by rw [dyR, if_neg (fun e => ht e.1)] at e; cases e), fun α K KX fuel hf => ?_⟩
      obtain ⟨f, rfl⟩ : ∃ f, fuel = f + 1 := ⟨fuel - 1, by omega⟩
      rw [f6_goDay_L10, ite_le ⟨⟨by omega, by omega⟩, ⟨by omega, by omega⟩⟩, if_neg (by omega), iI_add, show ((A : Int) + (q : Int)) = ((A + q : Nat) : Int) by omega, ck_nat (by omega) (by omega), nm_eq, c1, f6_isTank_eq ⟨by omega, by omega⟩ hn6 hS.1, if_neg (by omega), if_pos rfl, dyR, if_neg (fun e => ht e.1)]
theorem X_behind {σ : Sg} (h : Gd σ) (d : Nat → Nat) (k i n : Nat) (hi : i + n ≤ 60) {S : MS} (hc : ∀ p, p < n → S.1 (20 + k) (i + p) = iI (d p) ∧ d p < 6) {α : Type} (KX : Int32 → Int32 → MS → Option α) (w' : Nat) : ∀ (m q w fuel : Nat), q + m = n → w < 3 ^ σ 0 0 → m < fuel → dyR σ d m q w = Sum.inr w' → f5_watersBehind_L12 k (iI i) (iI n) KX fuel (iI w) (iI (i + q : Nat)) S = KX (iI w') (iI (i + n : Nat)) S := by
  intro m
  have hn6 := h.1
  have h3 := p3_bd hn6
  induction m with
  | zero =>
    intro q w fuel hq hw hf e
    obtain ⟨f, rfl⟩ : ∃ f, fuel = f + 1 := ⟨fuel - 1, by omega⟩
    obtain rfl : q = n := by omega
    cases e
    rw [f5_watersBehind_L12, iI_add, ite_le ⟨⟨by omega, by omega⟩, ⟨by omega, by omega⟩⟩, if_pos (by omega)]
  | succ m ih =>
    intro q w fuel hq hw hf e
    obtain ⟨f, rfl⟩ : ∃ f, fuel = f + 1 := ⟨fuel - 1, by omega⟩
    obtain ⟨c1, c2⟩ := hc q (by omega)
    by_cases hp : d q < σ 0 0 ∧ CanP σ w (d q)
    · rw [dyR, if_pos hp] at e
      rw [f5_watersBehind_L12, iI_add, ite_le ⟨⟨by omega, by omega⟩, ⟨by omega, by omega⟩⟩, if_neg (by omega), ck_nat (by omega) (by omega), c1, f5_pumped_eq (by omega) c2, nm_eq, show (1 : Int32) = iI 1 from rfl, iI_add, ← ih (q + 1) (pmN w (d q)) f (by omega) (pm_ltn _ hn6 _ hw _ hp.1) (by omega) e]
      rfl
    · rw [dyR, if_neg hp] at e; cases e
theorem X_are {α : Type} (z : Nat → Int) (hz : ∀ p, rg (z p)) (k i n : Nat) (hi : i + n ≤ 60) {S : MS} (hc : ∀ p, p < n → S.1 (20 + k) (i + p) = iI (z p)) (K KX : Int32 → MS → Option α) : ∀ (m q fuel : Nat), q + m = n → m < fuel → ((∀ p, q ≤ p → p < n → 0 ≤ z p ∧ z p ≤ 5) → f5_areTankNumbers_L2 k (iI i) (iI n) K KX fuel (iI (i + q : Nat)) S = KX (iI (i + n : Nat)) S) ∧ (¬ (∀ p, q ≤ p → p < n → 0 ≤ z p ∧ z p ≤ 5) → f5_areTankNumbers_L2 k (iI i) (iI n) K KX fuel (iI (i + q : Nat)) S = K (iI 0) S) := by
  intro m
  induction m with
  | zero =>
    intro q fuel hq hf
    obtain ⟨f, rfl⟩ : ∃ f, fuel = f + 1 := ⟨fuel - 1, by omega⟩
    obtain rfl : q = n := by omega
    rw [f5_areTankNumbers_L2, iI_add, ite_le ⟨⟨by omega, by omega⟩, ⟨by omega, by omega⟩⟩, if_pos (by omega)]
    exact ⟨fun _ => rfl, fun g => absurd (fun p h1 h2 => by omega) g⟩
  | succ m ih =>
    intro q fuel hq hf
    obtain ⟨f, rfl⟩ : ∃ f, fuel = f + 1 := ⟨fuel - 1, by omega⟩
    have c1 := hc q (by omega)
    obtain ⟨i1, i2⟩ := ih (q + 1) f (by omega) (by omega)
    rw [f5_areTankNumbers_L2, iI_add, ite_le ⟨⟨by omega, by omega⟩, ⟨by omega, by omega⟩⟩, if_neg (by omega), ck_nat (by omega) (by omega), c1, show (0 : Int32) = iI 0 from rfl, ite_lt ⟨hz q, by decide⟩, ck_nat (by omega) (by omega), c1, show (6 : Int32) = iI 6 from rfl, ite_lt ⟨hz q, by decide⟩, nm_eq, show (1 : Int32) = iI 1 from rfl, iI_add, show (((i + q : Nat) : Int) + 1) = ((i + (q + 1) : Nat) : Int) by omega]
    by_cases hb : 0 ≤ z q ∧ z q ≤ 5
    · rw [if_neg (by omega), if_pos (by omega)]
      have e : (∀ p, q ≤ p → p < n → 0 ≤ z p ∧ z p ≤ 5) ↔ (∀ p, q + 1 ≤ p → p < n → 0 ≤ z p ∧ z p ≤ 5) := by
        constructor
        · intro g p h1 h2; exact g p (by omega) h2
        · intro g p h1 h2
          by_cases e : p = q
          · subst e; exact hb
          · exact g p (by omega) h2
      rw [e]
      exact ⟨i1, i2⟩
    · constructor
      · intro g; exact absurd (g q (by omega) (by omega)) hb
      · intro g
        by_cases h0 : z q < 0
        · rw [if_pos h0]
        · rw [if_neg h0, if_neg (by omega)]
theorem M_are {α : Type} (z : Nat → Int) (hz : ∀ p, rg (z p)) (A n : Nat) (c5 : Int32) (hA : A + n ≤ 240) (hn : n ≤ 60) {S : MS} (hc : ∀ p, p < n → S.1 3 (A + p) = iI (z p)) (K KX : Int32 → MS → Option α) : ∀ (m q fuel : Nat), q + m = n → m < fuel → ((∀ p, q ≤ p → p < n → 0 ≤ z p ∧ z p ≤ 5) → f6_day_L109 (iI n) c5 (iI A) K KX fuel (iI q) S = KX (iI n) S) ∧ (¬ (∀ p, q ≤ p → p < n → 0 ≤ z p ∧ z p ≤ 5) → f6_day_L109 (iI n) c5 (iI A) K KX fuel (iI q) S = K (iI (-2)) S) := by
  intro m
  induction m with
  | zero =>
    intro q fuel hq hf
    obtain ⟨f, rfl⟩ : ∃ f, fuel = f + 1 := ⟨fuel - 1, by omega⟩
    obtain rfl : q = n := by omega
    rw [f6_day_L109, ite_le ⟨⟨by omega, by omega⟩, ⟨by omega, by omega⟩⟩, if_pos (by omega)]
    exact ⟨fun _ => rfl, fun g => absurd (fun p h1 h2 => by omega) g⟩
  | succ m ih =>
    intro q fuel hq hf
    obtain ⟨f, rfl⟩ : ∃ f, fuel = f + 1 := ⟨fuel - 1, by omega⟩
    have c1 := hc q (by omega)
    obtain ⟨i1, i2⟩ := ih (q + 1) f (by omega) (by omega)
    rw [f6_day_L109, ite_le ⟨⟨by omega, by omega⟩, ⟨by omega, by omega⟩⟩, if_neg (by omega), iI_add, show ((A : Int) + (q : Int)) = ((A + q : Nat) : Int) by omega, ck_nat (by omega) (by omega), c1, i64_of (hz q), show (0 : Int64) = Int64.ofInt 0 from rfl, show (5 : Int64) = Int64.ofInt 5 from rfl, f6_within_eq (hz q) (by decide) (by decide)]
    by_cases hb : 0 ≤ z q ∧ z q ≤ 5
    · rw [if_pos hb, if_neg (by decide), nm_eq, show (1 : Int32) = iI 1 from rfl, iI_add, show ((q : Int) + 1) = ((q + 1 : Nat) : Int) by omega]
      have e : (∀ p, q ≤ p → p < n → 0 ≤ z p ∧ z p ≤ 5) ↔ (∀ p, q + 1 ≤ p → p < n → 0 ≤ z p ∧ z p ≤ 5) := by
        constructor
        · intro g p h1 h2; exact g p (by omega) h2
        · intro g p h1 h2
          by_cases e : p = q
          · subst e; exact hb
          · exact g p (by omega) h2
      rw [e]
      exact ⟨i1, i2⟩
    · rw [if_neg hb, if_pos rfl]
      exact ⟨fun g => absurd (g q (by omega) (by omega)) hb, fun _ => rfl⟩
end Day
