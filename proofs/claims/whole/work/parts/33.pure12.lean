/-! PURE PART 12: safety and pumping of the reference; both sides' scratch cells -/
def SmX (σ : Sg) (S S' : MS) : Prop := S' = S ∨ ∃ g, S' = LdS σ (σ 0 0) g S
def SmM (σ : Sg) (S S' : MS) : Prop := S' = S ∨ ∃ (τ : Sg) (n : Nat) (g : Nat → Int), S' = WmS τ n g 7 S
theorem LdS_two (σ : Sg) (n : Nat) (g g' : Nat → Int) (S : MS) : LdS σ n g' (LdS σ n g S) = LdS σ n g' S := by
  refine ms_ext (fun j f => ?_) rfl
  simp only [LdS_at]
  by_cases a1 : j = 5 ∧ f = 1
  · simp only [if_pos a1]
  · by_cases a2 : j = 5 ∧ f = 2
    · simp only [if_neg a1, if_pos a2]
    · by_cases a3 : j = 5 ∧ f = 3
      · simp only [if_neg a1, if_neg a2, if_pos a3]
      · by_cases a4 : j = 6 ∧ f < 7
        · simp only [if_neg a1, if_neg a2, if_neg a3, if_pos a4]
        · simp only [if_neg a1, if_neg a2, if_neg a3, if_neg a4]
theorem WmS_two2 (σ τ : Sg) (n m : Nat) (g g' : Nat → Int) (S : MS) : WmS σ n g' 7 (WmS τ m g 7 S) = WmS σ n g' 7 S := by
  refine ms_ext (fun j f => ?_) rfl
  simp only [WmS_at]
  by_cases a1 : j = 0 ∧ f = 25
  · simp only [if_pos a1]
  · by_cases a2 : j = 0 ∧ f = 26
    · simp only [if_neg a1, if_pos a2]
    · by_cases a3 : j = 0 ∧ f = 27
      · simp only [if_neg a1, if_neg a2, if_pos a3]
      · by_cases a4 : j = 15 ∧ f < 7
        · simp only [if_neg a1, if_neg a2, if_neg a3, if_pos a4]
        · by_cases a5 : j = 16 ∧ f < 7
          · simp only [if_neg a1, if_neg a2, if_neg a3, if_neg a4, if_pos a5]
          · simp only [if_neg a1, if_neg a2, if_neg a3, if_neg a4, if_neg a5]
theorem WmS_two (σ : Sg) (n : Nat) (g g' : Nat → Int) (S : MS) : WmS σ n g' 7 (WmS σ n g 7 S) = WmS σ n g' 7 S := WmS_two2 σ σ n n g g' S
theorem SmX.rf (σ : Sg) (S : MS) : SmX σ S S := Or.inl rfl
theorem SmM.rf (σ : Sg) (S : MS) : SmM σ S S := Or.inl rfl
theorem SmX.ld (σ : Sg) (g : Nat → Int) (S : MS) : SmX σ S (LdS σ (σ 0 0) g S) := Or.inr ⟨g, rfl⟩
theorem SmM.wm (σ : Sg) (g : Nat → Int) (S : MS) : SmM σ S (WmS σ (σ 0 0) g 7 S) := Or.inr ⟨σ, σ 0 0, g, rfl⟩
theorem SmX.tr {σ : Sg} {a b c : MS} (h1 : SmX σ a b) (h2 : SmX σ b c) : SmX σ a c := by
  rcases h1 with rfl | ⟨g, rfl⟩
  · exact h2
  · rcases h2 with rfl | ⟨g', rfl⟩
    · exact Or.inr ⟨g, rfl⟩
    · exact Or.inr ⟨g', LdS_two _ _ _ _ _⟩
theorem SmM.tr {σ : Sg} {a b c : MS} (h1 : SmM σ a b) (h2 : SmM σ b c) : SmM σ a c := by
  rcases h1 with rfl | ⟨τ, n, g, rfl⟩
  · exact h2
  · rcases h2 with rfl | ⟨τ', n', g', rfl⟩
    · exact Or.inr ⟨τ, n, g, rfl⟩
    · exact Or.inr ⟨τ', n', g', WmS_two2 _ _ _ _ _ _ _⟩
theorem SmX.cell {σ : Sg} {S S' : MS} (h : SmX σ S S') {j : Nat} (h5 : j ≠ 5) (h6 : j ≠ 6) : S'.1 j = S.1 j := by
  rcases h with rfl | ⟨g, rfl⟩
  · rfl
  · exact LdS_cell _ _ _ _ h5 h6
theorem SmX.two {σ : Sg} {S S' : MS} (h : SmX σ S S') : S'.2 = S.2 := by
  rcases h with rfl | ⟨g, rfl⟩ <;> rfl
theorem SmM.cell {σ : Sg} {S S' : MS} (h : SmM σ S S') {j : Nat} (h0 : j ≠ 0) (h15 : j ≠ 15) (h16 : j ≠ 16) : S'.1 j = S.1 j := by
  rcases h with rfl | ⟨τ, n, g, rfl⟩
  · rfl
  · exact WmS_cell _ _ _ _ _ h0 h15 h16
theorem SmM.zero {σ : Sg} {S S' : MS} (h : SmM σ S S') {f : Nat} (hf : f < 25 ∨ 27 < f) : S'.1 0 f = S.1 0 f := by
  rcases h with rfl | ⟨τ, n, g, rfl⟩
  · rfl
  · exact WmS_0 _ _ _ _ _ hf
theorem SmM.two {σ : Sg} {S S' : MS} (h : SmM σ S S') : S'.2 = S.2 := by
  rcases h with rfl | ⟨τ, n, g, rfl⟩ <;> rfl
theorem SmX.sh {σ : Sg} {S S' : MS} (h : SmX σ S S') (hS : ShX σ S) : ShX σ S' := ShX_of hS (fun j hj => h.cell (by omega) (by omega))
theorem SmM.sh {σ : Sg} {S S' : MS} (h : SmM σ S S') (hS : ShM σ S) : ShM σ S' := ShM_of hS ⟨h.zero (by omega), h.zero (by omega), h.zero (by omega)⟩ (fun j hj => h.cell (by omega) (by omega) (by omega))
theorem rel_sm {PX PM : Sg → MS → Prop} (cX : ClX PX) {σ : Sg} {SX SM SX' SM' : MS} (h : RelS PX PM σ SX SM) (hx : SmX σ SX SX') (hm : SmM σ SM SM') : RelS PX PM σ SX' SM' := by
  refine rel_keep cX h (fun j hj => hx.cell (by omega) (by omega)) hx.two ⟨hm.zero (by omega), hm.zero (by omega), hm.zero (by omega), hm.zero (by omega)⟩ (fun j hj => hm.cell (by omega) (by omega) (by omega)) hm.two ?_ ?_ ?_ ?_
  · exact rd_keep h.2.2.2.1 (by rw [hx.cell (by omega) (by omega)]) (hm.zero (by omega)) (hx.cell (by omega) (by omega)) (hm.cell (by omega) (by omega) (by omega))
  · rw [hx.cell (by omega) (by omega), hm.zero (by omega)]; exact h.2.2.2.2.1
  · rw [hx.cell (by omega) (by omega), hm.zero (by omega)]; exact h.2.2.2.2.2.1
  · exact sk_keep h.2.2.2.2.2.2.1 (fun j hj => hx.cell (by omega) (by omega)) (fun j hj => hm.cell (by omega) (by omega) (by omega))
theorem f6_isSafe_eq {α : Type} {σ : Sg} (h : Gd σ) {S : MS} (hS : ShM σ S) {x : Nat} (hx : x < 729) {q : Int} (hq : rg q) (K : Int32 → MS → Option α) : f6_isSafe (iI x) (iI q) S K = K (iI (bI (Sf σ 2 (σ 0 0) (gW σ x q)))) (WmS σ (σ 0 0) (gW σ x q) 7 S) := by
  have hw := gW_wo h x q
  have hL := WmS_Sh (τ := σ) (n := σ 0 0) (k := 7) (g := gW σ x q) hS
  have c0 := h.2.2.2.2.1 0 (by omega)
  have c1 := h.2.2.2.2.1 1 (by omega)
  have c2 := h.2.2.2.2.1 2 (by omega)
  have e0 := hL.2.2.2.2.1 0 (by omega)
  have e1 := hL.2.2.2.2.1 1 (by omega)
  have e2 := hL.2.2.2.2.1 2 (by omega)
  have b1 := trG_bd (σ := σ) hw (fun t ht => (h.2.2.2.2.2 t ht).2.1)
  have b2 := heG_bd (σ := σ) hw (fun t ht => (h.2.2.2.2.2 t ht).2.2.1)
  have b3 := bdG_bd (σ := σ) hw (k := 7) (by omega)
  have a1 := abI_bd (z := trG σ (σ 0 0) (gW σ x q)) (a := 648) (by omega)
  have a2 := abI_bd (z := heG σ (σ 0 0) (gW σ x q)) (a := 648) (by omega)
  unfold f6_isSafe
  rw [f6_weigh_eq h hS hx hq]
  have e25 : (WmS σ (σ 0 0) (gW σ x q) 7 S).1 0 25 = iI (trG σ (σ 0 0) (gW σ x q)) := by rw [WmS_at]; simp
  have e26 : (WmS σ (σ 0 0) (gW σ x q) 7 S).1 0 26 = iI (heG σ (σ 0 0) (gW σ x q)) := by rw [WmS_at]; simp
  have e27 : (WmS σ (σ 0 0) (gW σ x q) 7 S).1 0 27 = iI (bdG σ (σ 0 0) (gW σ x q) 7) := by rw [WmS_at]; simp
  rw [e25, f6_plain_eq (by omega), show (0 : Int32) = iI ((0 : Nat) : Int) from rfl, ck_nat (by omega) (by omega), e0, show (2 : Int32) = iI ((2 : Nat) : Int) from rfl, iI_mul, ite_lt ⟨⟨by omega, by omega⟩, ⟨by omega, by omega⟩⟩]
  by_cases h0 : ((2 : Nat) : Int) * (σ 1 0 : Int) < abI (trG σ (σ 0 0) (gW σ x q))
  · rw [if_pos h0, bI_f (by unfold Sf; omega)]; rfl
  · rw [if_neg h0, e26, f6_plain_eq (by omega), show (1 : Int32) = iI ((1 : Nat) : Int) from rfl, ck_nat (by omega) (by omega), e1, iI_mul, ite_lt ⟨⟨by omega, by omega⟩, ⟨by omega, by omega⟩⟩]
    by_cases h1 : ((2 : Nat) : Int) * (σ 1 1 : Int) < abI (heG σ (σ 0 0) (gW σ x q))
    · rw [if_pos h1, bI_f (by unfold Sf; omega)]; rfl
    · rw [if_neg h1, ck_nat (by omega) (by omega), e2, e27, iI_mul, ite_lt ⟨⟨by omega, by omega⟩, ⟨by omega, by omega⟩⟩]
      by_cases h2 : ((2 : Nat) : Int) * (σ 1 2 : Int) < bdG σ (σ 0 0) (gW σ x q) 7
      · rw [if_pos h2, bI_f (by unfold Sf; omega)]; rfl
      · rw [if_neg h2, bI_t (by unfold Sf; omega)]; rfl
theorem f6_pumped_eq {α : Type} {σ : Sg} {w t : Nat} (hw : w < 729) (ht : t < 6) {S : MS} (hS : ShM σ S) (K : Int32 → MS → Option α) : f6_pumped (iI w) (iI t) S K = K (iI (pmN w t)) S := by
  have hd3 := dg_lt w t
  have hp3 := p3_bd (show t ≤ 6 by omega)
  have hle := dg_le w t
  unfold f6_pumped
  rw [f6_waterIn_eq hw ht hS, show (0 : Int32) = iI 0 from rfl, ite_eq ⟨⟨by omega, by omega⟩, by decide⟩, ck_nat (show t < 7 by omega) (by omega), ck_nat (show t < 7 by omega) (by omega), hS.2.2.2.2.2.2 t (by omega), show (2 : Int32) = iI 2 from rfl, iI_mul, iI_mul, iI_add, iI_sub]
  unfold pmN
  by_cases hd : dg w t = 0
  · rw [if_pos (by omega), if_pos hd]
    congr 2
  · rw [if_neg (by omega), if_neg hd, Int.ofNat_sub hle]
    congr 2
theorem f6_canPump_eq {σ : Sg} (h : Gd σ) {S : MS} (hS : ShM σ S) {w t : Nat} (hw : w < 729) (ht : t < σ 0 0) : ∃ S', SmM σ S S' ∧ ∀ (α : Type) (K : Int32 → MS → Option α), f6_canPump (iI w) (iI t) S K = K (iI (bI (CanP σ w t))) S' := by
  have hn6 := h.1
  have hL := WmS_Sh (τ := σ) (n := σ 0 0) (k := 7) (g := gW σ w t) hS
  by_cases hb : bt (σ 0 3) t = true
  · by_cases hs : Sf σ 2 (σ 0 0) (gW σ w t)
    · refine ⟨_, Or.inr ⟨σ, σ 0 0, _, WmS_two _ _ (gW σ w t) (gW σ (pmN w t) (-9)) S⟩, fun α K => ?_⟩
      unfold f6_canPump
      rw [ck_nat (show t < 6 by omega) (by omega), hS.2.2.2.1 t ht, if_pos hb, if_pos rfl, f6_isSafe_eq h hS hw ⟨by omega, by omega⟩, ite_bI, if_pos hs, f6_pumped_eq hw (by omega) hL, show (-9 : Int32) = iI (-9) from rfl, f6_isSafe_eq h hL (pm_all w hw t (by omega)).1 (by decide), ite_bI]
      by_cases hs2 : Sf σ 2 (σ 0 0) (gW σ (pmN w t) (-9))
      · rw [if_pos hs2, bI_t ⟨hb, hs, hs2⟩]; rfl
      · rw [if_neg hs2, bI_f (fun q => hs2 q.2.2)]; rfl
    · refine ⟨_, SmM.wm σ (gW σ w t) S, fun α K => ?_⟩
      unfold f6_canPump
      rw [ck_nat (show t < 6 by omega) (by omega), hS.2.2.2.1 t ht, if_pos hb, if_pos rfl, f6_isSafe_eq h hS hw ⟨by omega, by omega⟩, ite_bI, if_neg hs, bI_f (fun q => hs q.2.1)]; rfl
  · refine ⟨S, Or.inl rfl, fun α K => ?_⟩
    unfold f6_canPump
    rw [ck_nat (show t < 6 by omega) (by omega), hS.2.2.2.1 t ht, if_neg hb, if_neg (by decide), bI_f (fun q => hb q.1)]; rfl
/-- the weights as they are, and what is measured by them -/
def g1 (σ : Sg) (x : Nat) : Nat → Int := fun t => if dg x t = 0 then 0 else (wtN σ t : Int)
theorem g1_wo {σ : Sg} (h : Gd σ) (x : Nat) : Wo (σ 0 0) (g1 σ x) := ⟨h.1, fun t ht => by
  have := wtN_le h ht
  unfold g1
  split <;> omega⟩
theorem gW_g1 (σ : Sg) (x t : Nat) : gW σ x (-9) t = 2 * g1 σ x t := by
  unfold gW g1
  rw [if_neg (show ¬ ((t : Int) = -9) by omega)]
  split <;> simp
theorem gF_g1 {σ : Sg} (x : Nat) {t : Nat} (ht : t < σ 0 0) : gF σ (fuN x (σ 0 0)) t = g1 σ x t := by
  unfold gF g1
  rw [bt_fuN x ht]
  by_cases hd : dg x t = 0
  · simp [hd]
  · simp [hd]
def msI (σ : Sg) (x : Nat) (what : Nat) : Int := if what = 0 then trG σ (σ 0 0) (g1 σ x) else if what = 1 then heG σ (σ 0 0) (g1 σ x) else bdG σ (σ 0 0) (g1 σ x) 7
theorem msI_bd {σ : Sg} (h : Gd σ) (x what : Nat) : -100000 ≤ msI σ x what ∧ msI σ x what ≤ 100000 := by
  have hw := g1_wo h x
  have b1 := trG_bd (σ := σ) hw (fun t ht => (h.2.2.2.2.2 t ht).2.1)
  have b2 := heG_bd (σ := σ) hw (fun t ht => (h.2.2.2.2.2 t ht).2.2.1)
  have b3 := bdG_bd (σ := σ) hw (k := 7) (by omega)
  unfold msI
  split
  · omega
  · split <;> omega
theorem f6_measured_eq {α : Type} {σ : Sg} (h : Gd σ) {S : MS} (hS : ShM σ S) {x what : Nat} (hx : x < 729) (hw : what ≤ 2) (K : Int32 → MS → Option α) : f6_measured (iI x) (iI what) S K = K (iI (msI σ x what)) (WmS σ (σ 0 0) (gW σ x (-9)) 7 S) := by
  have hb := msI_bd h x what
  obtain ⟨q1, q2, q3, q4, q5, q6, q7⟩ := congr_all (σ := σ) (n := σ 0 0) (fun t _ => gW_g1 σ x t)
  unfold f6_measured
  rw [show (-9 : Int32) = iI (-9) from rfl, f6_weigh_eq h hS hx (by decide)]
  have e25 : (WmS σ (σ 0 0) (gW σ x (-9)) 7 S).1 0 25 = iI (2 * trG σ (σ 0 0) (g1 σ x)) := by rw [WmS_at, ← dbl_tr, ← q1]; simp
  have e26 : (WmS σ (σ 0 0) (gW σ x (-9)) 7 S).1 0 26 = iI (2 * heG σ (σ 0 0) (g1 σ x)) := by rw [WmS_at, ← dbl_he, ← q2]; simp
  have e27 : (WmS σ (σ 0 0) (gW σ x (-9)) 7 S).1 0 27 = iI (2 * bdG σ (σ 0 0) (g1 σ x) 7) := by rw [WmS_at, ← dbl_bd, ← q7]; simp
  rw [e25, e26, e27]
  unfold msI at hb ⊢
  rcases (show what = 0 ∨ what = 1 ∨ what = 2 by omega) with rfl | rfl | rfl
  · rw [iI_half (by simp at hb; omega)]; rfl
  · rw [iI_half (z := heG σ (σ 0 0) (g1 σ x)) (by simp at hb; omega)]; rfl
  · rw [iI_half (z := bdG σ (σ 0 0) (g1 σ x) 7) (by simp at hb; omega)]; rfl
