/-! PURE PART 8: the class's loads -/
theorem pw3_eq {t : Nat} (h : t < 6) : pw3 t = iI ((3 ^ t : Nat) : Int) := by
  rcases (show t = 0 ∨ t = 1 ∨ t = 2 ∨ t = 3 ∨ t = 4 ∨ t = 5 by omega) with rfl | rfl | rfl | rfl | rfl | rfl <;> rfl
theorem p3_bd {t : Nat} (h : t ≤ 6) : 1 ≤ 3 ^ t ∧ 3 ^ t ≤ 729 := by
  rcases (show t = 0 ∨ t = 1 ∨ t = 2 ∨ t = 3 ∨ t = 4 ∨ t = 5 ∨ t = 6 by omega) with rfl | rfl | rfl | rfl | rfl | rfl | rfl <;> decide
theorem p2_bd {t : Nat} (h : t ≤ 6) : 1 ≤ 2 ^ t ∧ 2 ^ t ≤ 64 := by
  rcases (show t = 0 ∨ t = 1 ∨ t = 2 ∨ t = 3 ∨ t = 4 ∨ t = 5 ∨ t = 6 by omega) with rfl | rfl | rfl | rfl | rfl | rfl | rfl <;> decide
theorem dig_eq {w t : Nat} (hw : w < 729) (ht : t ≤ 6) : iI w / iI ((3 ^ t : Nat) : Int) - iI w / iI ((3 ^ t : Nat) : Int) / iI 3 * iI 3 = iI (dg w t) := by
  have h3 := p3_bd ht
  rw [iI_div (by omega) (by omega) (by omega) (by omega)]
  have e : ((w : Int) / ((3 ^ t : Nat) : Int)) = ((w / 3 ^ t : Nat) : Int) := by simp
  have hq : w / 3 ^ t ≤ w := Nat.div_le_self _ _
  rw [e]
  unfold dg
  generalize w / 3 ^ t = q at hq
  rw [iI_div (by omega) (by omega) (by omega) (by omega), iI_mul, iI_sub]
  congr 1
  omega
theorem f5_waterIn_eq {α : Type} {w t : Nat} (hw : w < 729) (ht : t < 6) (S : MS) (K : Int32 → MS → Option α) : f5_waterIn (iI w) (iI t) S K = K (iI (dg w t)) S := by
  have h3 := p3_bd (show t ≤ 6 by omega)
  unfold f5_waterIn
  rw [ck_nat ht (by omega), pw3_eq ht, dz_ne (by omega) ⟨by omega, by omega⟩, show (3 : Int32) = iI 3 from rfl, dig_eq hw (by omega)]
theorem f6_waterIn_eq {α : Type} {σ : Sg} {w t : Nat} (hw : w < 729) (ht : t < 6) {S : MS} (hS : ShM σ S) (K : Int32 → MS → Option α) : f6_waterIn (iI w) (iI t) S K = K (iI (dg w t)) S := by
  have h3 := p3_bd (show t ≤ 6 by omega)
  unfold f6_waterIn
  rw [ck_nat (show t < 7 by omega) (by omega), hS.2.2.2.2.2.2 t (by omega), dz_ne (by omega) ⟨by omega, by omega⟩, show (3 : Int32) = iI 3 from rfl, dig_eq hw (by omega)]
theorem bit_all : ∀ m, m < 64 → ∀ t, t < 6 → (iI (m : Nat) >>> (iI (t : Nat) &&& 31)) &&& 1 = if bt m t then 1 else 0 := by decide +kernel
theorem set_all : ∀ t, t < 6 → ∀ a, a < 2 ^ t → iI (a : Nat) ||| ((1 : Int32) <<< (iI (t : Nat) &&& 31)) = iI ((a + 2 ^ t : Nat) : Int) := by decide +kernel
theorem xor_all : ∀ m, m < 64 → ∀ t, t < 6 → iI (m : Nat) ^^^ ((1 : Int32) <<< (iI (t : Nat) &&& 31)) = iI ((if bt m t then m - 2 ^ t else m + 2 ^ t : Nat) : Int) := by decide +kernel
theorem shl_all : ∀ t, t ≤ 6 → (1 : Int32) <<< (iI (t : Nat) &&& 31) = iI ((2 ^ t : Nat) : Int) := by decide +kernel
theorem f5_holds_eq {α : Type} {m t : Nat} (hm : m < 64) (ht : t < 6) (S : MS) (K : Int32 → MS → Option α) : f5_holds (iI m) (iI t) S K = if bt m t then K 1 S else K 0 S := by
  unfold f5_holds
  rw [bit_all m hm t ht]
  cases bt m t <;> rfl
theorem f5_weightOf_eq {α : Type} {σ : Sg} (h : Gd σ) {t : Nat} (ht : t < σ 0 0) (S : MS) (K : Int32 → MS → Option α) : f5_weightOf (iI (σ 2 t)) (iI (σ 5 t)) S K = K (iI (wtN σ t)) S := by
  obtain ⟨h1, h2, h3, h4, h5⟩ := h.2.2.2.2.2 t ht
  unfold f5_weightOf wtN
  rcases (show σ 2 t = 0 ∨ σ 2 t = 1 ∨ σ 2 t = 2 by omega) with e | e | e
  · rw [e]; rfl
  · rw [e]; show K (iI (σ 5 t) + 1) S = _; rw [show (1 : Int32) = iI 1 from rfl, iI_add]; rfl
  · rw [e]; show K ((2 : Int32) * iI (σ 5 t)) S = _; rw [show (2 : Int32) = iI 2 from rfl, iI_mul]; rfl
theorem f4_weight_eq {α : Type} {σ : Sg} (h : Gd σ) {t : Nat} (ht : t < σ 0 0) {S : MS} (hS : ShX σ S) (K : Int32 → MS → Option α) : f4_weight t S K = K (iI (wtN σ t)) S := by
  obtain ⟨x1, x2, x3, x4⟩ := hS.2.2.2.2.2 t ht
  unfold f4_weight
  rw [x1, x4, f5_weightOf_eq h ht]
/-- the class's load of n tanks with weights g -/
def LdS (σ : Sg) (n : Nat) (g : Nat → Int) (S : MS) : MS := (fun j f => if j = 5 ∧ f = 1 then iI (toG n g) else if j = 5 ∧ f = 2 then iI (trG σ n g) else if j = 5 ∧ f = 3 then iI (heG σ n g) else if j = 6 ∧ f < 7 then iI (frG σ n g f) else S.1 j f, S.2)
theorem LdS_at (σ : Sg) (n : Nat) (g : Nat → Int) (S : MS) (j f : Nat) : (LdS σ n g S).1 j f = if j = 5 ∧ f = 1 then iI (toG n g) else if j = 5 ∧ f = 2 then iI (trG σ n g) else if j = 5 ∧ f = 3 then iI (heG σ n g) else if j = 6 ∧ f < 7 then iI (frG σ n g f) else S.1 j f := rfl
theorem LdS_cell {j : Nat} (σ : Sg) (n : Nat) (g : Nat → Int) (S : MS) (h5 : j ≠ 5) (h6 : j ≠ 6) : (LdS σ n g S).1 j = S.1 j := by
  funext f
  rw [LdS_at, if_neg (by omega), if_neg (by omega), if_neg (by omega), if_neg (by omega)]
theorem LdS_Sh {σ τ : Sg} {n : Nat} {g : Nat → Int} {S : MS} (h : ShX σ S) : ShX σ (LdS τ n g S) := ShX_of h (fun j hj => LdS_cell _ _ _ _ (by omega) (by omega))
theorem LdS_congr {σ : Sg} {n : Nat} {g h : Nat → Int} (S : MS) (e : ∀ t, t < n → g t = h t) : LdS σ n g S = LdS σ n h S := by
  obtain ⟨h1, h2, h3, h4, -⟩ := congr_all (σ := σ) e
  unfold LdS
  simp only [h1, h2, h3, h4]
theorem f0_clear_eq {α : Type} (σ : Sg) (g : Nat → Int) (S : MS) (K : MS → Option α) : f0_clear S K = K (LdS σ 0 g S) := by
  unfold f0_clear
  rw [fill_eq _ _ (by omega)]
  simp only [nm_eq]
  congr 1
  refine ms_ext (fun j f => ?_) rfl
  simp only [sI_at, rfS_at, LdS_at]
  by_cases h5 : j = 5
  · subst h5
    by_cases a : f = 3
    · subst a; rfl
    · by_cases b : f = 2
      · subst b; rfl
      · by_cases c : f = 1
        · subst c; rfl
        · simp [a, b, c]
  · by_cases h6 : j = 6
    · subst h6
      by_cases a : f < 7
      · simp [a]; rfl
      · simp [a]
    · simp [h5, h6]
theorem f0_add_eq {α : Type} {σ : Sg} (h : Gd σ) {n : Nat} (hn : n < σ 0 0) {S : MS} (hS : ShX σ S) {g : Nat → Int} (K : MS → Option α) : f0_add n (iI (g n)) (LdS σ n g S) K = K (LdS σ (n + 1) g S) := by
  obtain ⟨h1, h2, h3, h4, h5⟩ := h.2.2.2.2.2 n hn
  obtain ⟨x1, x2, x3, x4⟩ := hS.2.2.2.2.2 n hn
  have hn6 := h.1
  have y2 : (LdS σ n g S).1 (24 + n) 1 = iI (σ 3 n) := by rw [LdS_cell _ _ _ _ (by omega) (by omega)]; exact x2
  have y3 : (LdS σ n g S).1 (24 + n) 2 = iI (σ 4 n) := by rw [LdS_cell _ _ _ _ (by omega) (by omega)]; exact x3
  unfold f0_add
  rw [y2, ck_nat (show σ 3 n < 7 by omega) (by omega), ck_nat (show σ 3 n < 7 by omega) (by omega)]
  simp only [nm_eq]
  congr 1
  refine ms_ext (fun j f => ?_) rfl
  have e6 : (LdS σ n g S).1 6 (σ 3 n) = iI (frG σ n g (σ 3 n)) := by rw [LdS_at]; simp; omega
  have e51 : (LdS σ n g S).1 5 1 = iI (toG n g) := by rw [LdS_at]; simp
  have e52 : (LdS σ n g S).1 5 2 = iI (trG σ n g) := by rw [LdS_at]; simp
  have e53 : (LdS σ n g S).1 5 3 = iI (heG σ n g) := by rw [LdS_at]; simp
  rw [show (3 : Int32) = iI 3 from rfl, show (1 : Int32) = iI 1 from rfl]
  simp (disch := omega) only [sI_cell, sI_place, e6, e51, e52, e53, y2, y3, iI_add, iI_mul, iI_sub]
  by_cases c5 : j = 5
  · subst c5
    by_cases a : f = 3
    · subst a; rw [sI_same, LdS_at]; simp; rfl
    · by_cases b : f = 2
      · subst b; rw [sI_place _ _ _ (by omega), sI_same, LdS_at]; simp; rfl
      · by_cases c : f = 1
        · subst c; rw [sI_place _ _ _ (by omega), sI_place _ _ _ (by omega), sI_same, LdS_at]; simp; rfl
        · rw [sI_place _ _ _ (by omega), sI_place _ _ _ (by omega), sI_place _ _ _ (by omega), sI_cell _ _ _ (by omega), LdS_at, LdS_at]; simp [a, b, c]
  · rw [sI_cell _ _ _ (by omega), sI_cell _ _ _ (by omega), sI_cell _ _ _ (by omega), sI_at, LdS_at, LdS_at]
    by_cases c6 : j = 6
    · subst c6
      by_cases a : f = σ 3 n
      · subst a
        rw [if_pos ⟨rfl, rfl⟩]
        simp [show σ 3 n < 7 by omega]
        unfold frG
        show _ = iI (sumI n _ + if σ 3 n = σ 3 n then g n else 0)
        rw [if_pos rfl]
      · rw [if_neg (by omega)]
        by_cases b : f < 7
        · simp [b]
          unfold frG
          show _ = iI (sumI n _ + if σ 3 n = f then g n else 0)
          rw [if_neg (by omega), Int.add_zero]
        · simp [b]
    · simp [c5, c6]
theorem LdS_skip {σ : Sg} {n : Nat} {g : Nat → Int} (S : MS) (h : g n = 0) : LdS σ (n + 1) g S = LdS σ n g S := by
  have h1 : trG σ (n + 1) g = trG σ n g := by show sumI n _ + g n * _ = _; rw [h, Int.zero_mul, Int.add_zero]; rfl
  have h2 : heG σ (n + 1) g = heG σ n g := by show sumI n _ + g n * _ = _; rw [h, Int.zero_mul, Int.add_zero]; rfl
  have h3 : toG (n + 1) g = toG n g := by show sumI n _ + g n = _; rw [h, Int.add_zero]; rfl
  have h4 : ∀ f, frG σ (n + 1) g f = frG σ n g f := fun f => by
    show sumI n _ + (if σ 3 n = f then g n else 0) = _
    rw [h]; simp; rfl
  unfold LdS
  simp only [h1, h2, h3, h4]
def gF (σ : Sg) (F : Nat) : Nat → Int := fun t => if bt F t then (wtN σ t : Int) else 0
def gH (σ : Sg) (F h : Nat) : Nat → Int := fun t => if t = h then (wtN σ t : Int) else if bt F t then 2 * (wtN σ t : Int) else 0
theorem f3_loadOf_eq {α : Type} {σ : Sg} (h : Gd σ) {S : MS} (hS : ShX σ S) {F : Nat} (hF : F < 64) (K : MS → Option α) : f3_loadOf (iI F) S K = K (LdS σ (σ 0 0) (gF σ F) S) := by
  have hn6 := h.1
  unfold f3_loadOf
  rw [f0_clear_eq σ (gF σ F)]
  have h1 := loop_eq (σ := Int32 × MS) (L := fun fuel s => f3_loadOf_L9 (iI F) (fun _ S1 => K S1) fuel s.1 s.2) (KX := fun s => K s.2) (σ 0 0) (fun i => (iI i, LdS σ i (gF σ F) S))
    (by
      intro fuel i hi
      show f3_loadOf_L9 (iI F) _ (fuel + 1) (iI i) (LdS σ i (gF σ F) S) = f3_loadOf_L9 (iI F) _ fuel (iI (i + 1 : Nat)) (LdS σ (i + 1) (gF σ F) S)
      have hL := LdS_Sh (τ := σ) (n := i) (g := gF σ F) hS
      rw [f3_loadOf_L9, hL.1, ite_le ⟨⟨by omega, by omega⟩, ⟨by omega, by omega⟩⟩, if_neg (by omega), f5_holds_eq hF (by omega)]
      by_cases hb : bt F i = true
      · rw [if_pos hb, show (1 : Int32) = iI 1 from rfl, show (0 : Int32) = iI 0 from rfl, ite_eq ⟨by decide, by decide⟩, if_neg (by omega), ck_nat (show i < 6 by omega) (by omega), ck_nat (show i < 6 by omega) (by omega), f4_weight_eq h hi hL, show (wtN σ i : Int) = gF σ F i by unfold gF; rw [if_pos hb], f0_add_eq h hi hS, nm_eq, iI_add]
        rfl
      · rw [if_neg hb, if_pos rfl, nm_eq, show (1 : Int32) = iI 1 from rfl, iI_add, LdS_skip S (by unfold gF; rw [if_neg hb])]
        rfl)
    (by
      intro fuel
      have hL := LdS_Sh (τ := σ) (n := σ 0 0) (g := gF σ F) hS
      show f3_loadOf_L9 (iI F) _ (fuel + 1) (iI (σ 0 0)) (LdS σ (σ 0 0) (gF σ F) S) = _
      rw [f3_loadOf_L9, hL.1, ite_le ⟨⟨by omega, by omega⟩, ⟨by omega, by omega⟩⟩, if_pos (by omega)])
    FU 0 (by omega) (by rw [FU_eq]; omega)
  exact h1
theorem f3_loadHalfway_eq {α : Type} {σ : Sg} (h : Gd σ) {S : MS} (hS : ShX σ S) {F t : Nat} (hF : F < 64) (ht : t < σ 0 0) (K : MS → Option α) : f3_loadHalfway (iI F) (iI t) S K = K (LdS σ (σ 0 0) (gH σ F t) S) := by
  have hn6 := h.1
  unfold f3_loadHalfway
  rw [f0_clear_eq σ (gH σ F t)]
  have h1 := loop_eq (σ := Int32 × MS) (L := fun fuel s => f3_loadHalfway_L9 (iI F) (iI t) (fun _ S1 => K S1) fuel s.1 s.2) (KX := fun s => K s.2) (σ 0 0) (fun i => (iI i, LdS σ i (gH σ F t) S))
    (by
      intro fuel i hi
      show f3_loadHalfway_L9 (iI F) (iI t) _ (fuel + 1) (iI i) (LdS σ i (gH σ F t) S) = f3_loadHalfway_L9 (iI F) (iI t) _ fuel (iI (i + 1 : Nat)) (LdS σ (i + 1) (gH σ F t) S)
      have hL := LdS_Sh (τ := σ) (n := i) (g := gH σ F t) hS
      rw [f3_loadHalfway_L9, hL.1, ite_le ⟨⟨by omega, by omega⟩, ⟨by omega, by omega⟩⟩, if_neg (by omega), ck_nat (show i < 6 by omega) (by omega), f4_weight_eq h hi hL, ite_eq ⟨⟨by omega, by omega⟩, ⟨by omega, by omega⟩⟩]
      by_cases hit : i = t
      · rw [if_pos (by omega), ck_nat (show i < 6 by omega) (by omega), show (wtN σ i : Int) = gH σ F t i by unfold gH; rw [if_pos hit], f0_add_eq h hi hS, nm_eq, show (1 : Int32) = iI 1 from rfl, iI_add]
        rfl
      · rw [if_neg (by omega), f5_holds_eq hF (by omega)]
        by_cases hb : bt F i = true
        · rw [if_pos hb, show (1 : Int32) = iI 1 from rfl, show (0 : Int32) = iI 0 from rfl, ite_eq ⟨by decide, by decide⟩, if_neg (by omega), ck_nat (show i < 6 by omega) (by omega), show (2 : Int32) = iI 2 from rfl, iI_mul, show 2 * (wtN σ i : Int) = gH σ F t i by unfold gH; rw [if_neg hit, if_pos hb], f0_add_eq h hi hS, nm_eq, iI_add]
          rfl
        · rw [if_neg hb, if_pos rfl, nm_eq, show (1 : Int32) = iI 1 from rfl, iI_add, LdS_skip S (by unfold gH; rw [if_neg hit, if_neg hb])]
          rfl)
    (by
      intro fuel
      have hL := LdS_Sh (τ := σ) (n := σ 0 0) (g := gH σ F t) hS
      show f3_loadHalfway_L9 (iI F) (iI t) _ (fuel + 1) (iI (σ 0 0)) (LdS σ (σ 0 0) (gH σ F t) S) = _
      rw [f3_loadHalfway_L9, hL.1, ite_le ⟨⟨by omega, by omega⟩, ⟨by omega, by omega⟩⟩, if_pos (by omega)])
    FU 0 (by omega) (by rw [FU_eq]; omega)
  exact h1
