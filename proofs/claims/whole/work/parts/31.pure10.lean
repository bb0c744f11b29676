/-! PURE PART 10: pumping, of the class -/
/-- weights: the tanks that are full in x, told twice; the tank 'half' once -/
def gW (σ : Sg) (x : Nat) (half : Int) : Nat → Int := fun t => if (t : Int) = half then (wtN σ t : Int) else if dg x t = 0 then 0 else 2 * (wtN σ t : Int)
theorem gW_wo {σ : Sg} (h : Gd σ) (x : Nat) (q : Int) : Wo (σ 0 0) (gW σ x q) := ⟨h.1, fun t ht => by
  have := wtN_le h ht
  unfold gW
  split
  · omega
  · split <;> omega⟩
/-- what a tank is pumped to -/
def pmN (x t : Nat) : Nat := if dg x t = 0 then x + 2 * 3 ^ t else x - dg x t * 3 ^ t
theorem dg_lt (x t : Nat) : dg x t < 3 := Nat.mod_lt _ (by omega)
theorem dg_le (x t : Nat) : dg x t * 3 ^ t ≤ x := by
  unfold dg
  have h1 : x / 3 ^ t % 3 ≤ x / 3 ^ t := Nat.mod_le _ _
  have h2 : x / 3 ^ t * 3 ^ t ≤ x := Nat.div_mul_le_self _ _
  exact Nat.le_trans (Nat.mul_le_mul_right _ h1) h2
theorem pm_all : ∀ x, x < 729 → ∀ t, t < 6 → pmN x t < 729 ∧ (∀ q, q < 6 → dg (pmN x t) q = if q = t then (if dg x t = 0 then 2 else 0) else dg x q) := by decide +kernel
theorem pm_ltn : ∀ n, n ≤ 6 → ∀ x, x < 3 ^ n → ∀ t, t < n → pmN x t < 3 ^ n := by decide +kernel
/-- whether tank t can be pumped in x -/
def CanP (σ : Sg) (x t : Nat) : Prop := bt (σ 0 3) t = true ∧ Sf σ 2 (σ 0 0) (gW σ x t) ∧ Sf σ 2 (σ 0 0) (gW σ (pmN x t) (-9))
theorem gH_gW {σ : Sg} (h : Gd σ) {x t : Nat} {q : Nat} (hq : q < σ 0 0) : gH σ (fuN x (σ 0 0)) t q = gW σ x t q := by
  unfold gH gW
  by_cases e : q = t
  · rw [if_pos e, if_pos (by omega)]
  · rw [if_neg e, if_neg (show ¬ ((q : Int) = (t : Int)) by omega), bt_fuN x hq]
    by_cases hd : dg x q = 0
    · rw [if_pos hd]; simp [hd]
    · rw [if_neg hd]; simp [hd]
theorem gF_gW {σ : Sg} {x F : Nat} (hF : ∀ q, q < σ 0 0 → bt F q = (dg x q != 0)) {q : Nat} (hq : q < σ 0 0) : 2 * gF σ F q = gW σ x (-9) q := by
  unfold gF gW
  rw [if_neg (show ¬ ((q : Int) = -9) by omega), hF q hq]
  by_cases hd : dg x q = 0
  · rw [if_pos hd]; simp [hd]
  · rw [if_neg hd]; simp [hd]
theorem SfF {σ : Sg} {x F : Nat} (hF : ∀ q, q < σ 0 0 → bt F q = (dg x q != 0)) : Sf σ 1 (σ 0 0) (gF σ F) ↔ Sf σ 2 (σ 0 0) (gW σ x (-9)) := by
  rw [← Sf_dbl]
  exact Sf_congr (fun t ht => gF_gW hF ht)
/-- the set with one tank the other way -/
def xrN (F t : Nat) : Nat := if bt F t then F - 2 ^ t else F + 2 ^ t
theorem xr_all : ∀ F, F < 64 → ∀ t, t < 6 → xrN F t < 64 ∧ ∀ q, q < 6 → bt (xrN F t) q = if q = t then !(bt F t) else bt F q := by decide +kernel
theorem f3_canPump_eq {σ : Sg} (h : Gd σ) {S : MS} (hS : ShX σ S) {w t : Nat} (hw : w < 729) (ht : t < σ 0 0) : ∃ S', (S' = S ∨ ∃ g, S' = LdS σ (σ 0 0) g S) ∧ ∀ (α : Type) (K : Int32 → MS → Option α), f3_canPump (iI w) (iI t) S K = K (iI (bI (CanP σ w t))) S' := by
  have hn6 := h.1
  have hfu : fuN w (σ 0 0) < 64 := by have := fuN_lt w (σ 0 0); have := p2_bd hn6; omega
  have hwk : σ 0 3 < 64 := by have := h.2.2.2.1; have := p2_bd hn6; omega
  have e1 : Sf σ 2 (σ 0 0) (gH σ (fuN w (σ 0 0)) t) ↔ Sf σ 2 (σ 0 0) (gW σ w t) := Sf_congr (fun q hq => gH_gW h hq)
  obtain ⟨x1, x2⟩ := xr_all _ hfu t (by omega)
  have e2 : Sf σ 1 (σ 0 0) (gF σ (xrN (fuN w (σ 0 0)) t)) ↔ Sf σ 2 (σ 0 0) (gW σ (pmN w t) (-9)) := SfF (fun q hq => by
    rw [x2 q (by omega), (pm_all w hw t (by omega)).2 q (by omega), bt_fuN w hq, bt_fuN w ht]
    by_cases e : q = t
    · rw [if_pos e, if_pos e]
      by_cases hd : dg w t = 0
      · rw [if_pos hd]; simp [hd]
      · rw [if_neg hd]; simp [hd]
    · rw [if_neg e, if_neg e])
  have key : ∀ (α : Type) (K : Int32 → MS → Option α), f3_canPump (iI w) (iI t) S K = if bt (σ 0 3) t = true then (@ite _ (Sf σ 2 (σ 0 0) (gW σ w t)) (Classical.propDecidable _) (@ite _ (Sf σ 2 (σ 0 0) (gW σ (pmN w t) (-9))) (Classical.propDecidable _) (K 1 (LdS σ (σ 0 0) (gF σ (xrN (fuN w (σ 0 0)) t)) (LdS σ (σ 0 0) (gH σ (fuN w (σ 0 0)) t) S))) (K 0 (LdS σ (σ 0 0) (gF σ (xrN (fuN w (σ 0 0)) t)) (LdS σ (σ 0 0) (gH σ (fuN w (σ 0 0)) t) S)))) (K 0 (LdS σ (σ 0 0) (gH σ (fuN w (σ 0 0)) t) S))) else K 0 S := by
    intro α K
    unfold f3_canPump
    rw [f3_fullSet_eq h hS hw, hS.2.2.2.1, f5_holds_eq hwk (by omega)]
    by_cases hb : bt (σ 0 3) t = true
    · rw [if_pos hb, if_pos hb, show (1 : Int32) = iI 1 from rfl, show (0 : Int32) = iI 0 from rfl, ite_eq ⟨by decide, by decide⟩, if_neg (by omega), f3_isSafeHalfway_eq h hS hfu ht, bI_congr e1, show iI 0 = (0 : Int32) from rfl, ite_bI]
      by_cases hs : Sf σ 2 (σ 0 0) (gW σ w t)
      · rw [if_pos hs, if_pos hs, show iI 1 = (1 : Int32) from rfl, xor_all _ hfu t (by omega), show (if bt (fuN w (σ 0 0)) t = true then fuN w (σ 0 0) - 2 ^ t else fuN w (σ 0 0) + 2 ^ t) = xrN (fuN w (σ 0 0)) t from rfl, f3_isSafe_eq h (LdS_Sh hS) x1, bI_congr e2, ite_bI]
      · rw [if_neg hs, if_neg hs]
    · rw [if_neg hb, if_neg hb, if_pos rfl]
  by_cases hb : bt (σ 0 3) t = true
  · by_cases hs : Sf σ 2 (σ 0 0) (gW σ w t)
    · have e3 : LdS σ (σ 0 0) (gF σ (xrN (fuN w (σ 0 0)) t)) (LdS σ (σ 0 0) (gH σ (fuN w (σ 0 0)) t) S) = LdS σ (σ 0 0) (gF σ (xrN (fuN w (σ 0 0)) t)) S := by
        refine ms_ext (fun j f => ?_) rfl
        simp only [LdS_at]
        by_cases a1 : j = 5 ∧ f = 1
        · simp only [if_pos a1]
        · by_cases a2 : j = 5 ∧ f = 2
          · simp only [if_neg a1, if_pos a2]
          · by_cases a3 : j = 5 ∧ f = 3
            · simp only [if_neg a1, if_neg a2, if_pos a3]
            · by_cases a4 : j = 6 ∧ f < 7
              · simp only [if_neg a1, if_neg a2, if_neg a3, if_pos a4]
              · simp only [if_neg a1, if_neg a2, if_neg a3, if_neg a4]
      refine ⟨LdS σ (σ 0 0) (gF σ (xrN (fuN w (σ 0 0)) t)) S, Or.inr ⟨_, rfl⟩, fun α K => ?_⟩
      rw [key, if_pos hb, if_pos hs, e3]
      by_cases hs2 : Sf σ 2 (σ 0 0) (gW σ (pmN w t) (-9))
      · rw [if_pos hs2, bI_t ⟨hb, hs, hs2⟩]; rfl
      · rw [if_neg hs2, bI_f (fun q => hs2 q.2.2)]; rfl
    · refine ⟨LdS σ (σ 0 0) (gH σ (fuN w (σ 0 0)) t) S, Or.inr ⟨_, rfl⟩, fun α K => ?_⟩
      rw [key, if_pos hb, if_neg hs, bI_f (fun q => hs q.2.1)]; rfl
  · refine ⟨S, Or.inl rfl, fun α K => ?_⟩
    rw [key, if_neg hb, bI_f (fun q => hb q.1)]; rfl
theorem pump_eq {w t : Nat} (hw : w < 729) (ht : t < 6) : iI w + (iI (if dg w t = 0 then 2 else 0) - iI (dg w t)) * iI ((3 ^ t : Nat) : Int) = iI (pmN w t) := by
  rw [iI_sub, iI_mul, iI_add]
  congr 1
  have h1 := dg_le w t
  unfold pmN
  by_cases hd : dg w t = 0
  · rw [if_pos hd, if_pos hd, hd]
    simp
  · rw [if_neg hd, if_neg hd, Int.ofNat_sub h1]
    simp [Int.neg_mul]
    omega
theorem f5_pumped_eq {α : Type} {w t : Nat} (hw : w < 729) (ht : t < 6) (S : MS) (K : Int32 → MS → Option α) : f5_pumped (iI w) (iI t) S K = K (iI (pmN w t)) S := by
  have hd3 := dg_lt w t
  unfold f5_pumped
  rw [f5_waterIn_eq hw ht, show (0 : Int32) = iI 0 from rfl, ite_eq ⟨⟨by omega, by omega⟩, by decide⟩, ck_nat ht (by omega), ck_nat ht (by omega), pw3_eq ht, ← pump_eq hw ht]
  by_cases hd : dg w t = 0
  · rw [if_pos (by omega), if_pos hd]; rfl
  · rw [if_neg (by omega), if_neg hd]
