/-! PURE PART 9: the class's bending, safety, pumping -/
theorem mabs_eq {z : Int} (h : -1000000 ≤ z ∧ z ≤ 1000000) : (if 0 ≤ iI z then iI z else 0 - iI z) = iI (abI z) := by
  rw [show (0 : Int32) = iI 0 from rfl]
  unfold abI
  by_cases hz : 0 ≤ z
  · rw [if_pos hz, if_pos ((iI_le (by decide) ⟨by omega, by omega⟩).mpr hz)]
  · rw [if_neg hz, if_neg (fun q => hz ((iI_le (by decide) ⟨by omega, by omega⟩).mp q)), iI_sub]
    congr 1; omega
theorem mmax_eq {a b : Int} (ha : -1000000 ≤ a ∧ a ≤ 1000000) (hb : -1000000 ≤ b ∧ b ≤ 1000000) : (if iI a < iI b then iI b else iI a) = iI (if a < b then b else a) := by
  by_cases h : a < b
  · rw [if_pos h, if_pos ((iI_lt ⟨by omega, by omega⟩ ⟨by omega, by omega⟩).mpr h)]
  · rw [if_neg h, if_neg (fun q => h ((iI_lt ⟨by omega, by omega⟩ ⟨by omega, by omega⟩).mp q))]
/-- a memory whose load is that of weights g -/
def LdIs (σ : Sg) (n : Nat) (g : Nat → Int) (S : MS) : Prop := S.1 5 1 = iI (toG n g) ∧ S.1 5 2 = iI (trG σ n g) ∧ S.1 5 3 = iI (heG σ n g) ∧ ∀ f, f < 7 → S.1 6 f = iI (frG σ n g f)
theorem LdS_is (σ : Sg) (n : Nat) (g : Nat → Int) (S : MS) : LdIs σ n g (LdS σ n g S) := by
  refine ⟨by rw [LdS_at]; simp, by rw [LdS_at]; simp, by rw [LdS_at]; simp, fun f hf => by rw [LdS_at]; simp [hf]⟩
theorem f0_bending_eq {α : Type} {σ : Sg} {n : Nat} {g : Nat → Int} (hw : Wo n g) {S : MS} (hL : LdIs σ n g S) (K : Int32 → MS → Option α) : f0_bending S K = K (iI (bdG σ n g 7)) S := by
  unfold f0_bending
  have h1 := loop_eq (σ := Int32 × Int32 × Int32 × Int32) (L := fun fuel s => f0_bending_L9 (fun _ _ v3 _ S1 => K v3 S1) fuel s.1 s.2.1 s.2.2.1 s.2.2.2 S) (KX := fun s => K s.2.2.1 S) 7 (fun i => (iI (shG σ n g i), iI (moG σ n g i), iI (bdG σ n g i), iI i))
    (by
      intro fuel i hi
      show f0_bending_L9 _ (fuel + 1) (iI (shG σ n g i)) (iI (moG σ n g i)) (iI (bdG σ n g i)) (iI i) S = f0_bending_L9 _ fuel (iI (shG σ n g (i + 1))) (iI (moG σ n g (i + 1))) (iI (bdG σ n g (i + 1))) (iI (i + 1 : Nat)) S
      have b1 := moG_bd (σ := σ) hw (f := i + 1) (by omega)
      have b2 := bdG_bd (σ := σ) hw (k := i) (by omega)
      have b3 := abI_bd (z := moG σ n g (i + 1)) (a := 74088) (by omega)
      have e1 : shG σ n g i + (7 * frG σ n g i - toG n g) = shG σ n g (i + 1) := rfl
      have e2 : moG σ n g i + shG σ n g (i + 1) = moG σ n g (i + 1) := rfl
      rw [f0_bending_L9, show (7 : Int32) = iI 7 from rfl, ite_le ⟨by decide, ⟨by omega, by omega⟩⟩, if_neg (by omega), ck_nat hi (by omega), hL.2.2.2 i hi, hL.1, iI_mul, iI_sub, iI_add, e1]
      simp only [nm_eq]
      rw [iI_add, e2, mabs_eq (by omega), mmax_eq (by omega) (by omega), show (1 : Int32) = iI 1 from rfl, iI_add]
      rfl)
    (by
      intro fuel
      show f0_bending_L9 _ (fuel + 1) _ _ (iI (bdG σ n g 7)) (iI (7 : Nat)) S = _
      rw [f0_bending_L9, show (7 : Int32) = iI 7 from rfl, ite_le ⟨by decide, ⟨by omega, by omega⟩⟩, if_pos (by omega)])
    FU 0 (by omega) (by rw [FU_eq]; omega)
  exact h1
/-- all bounds are kept, the bounds taken p times -/
def Sf (σ : Sg) (p : Int) (n : Nat) (g : Nat → Int) : Prop := abI (trG σ n g) ≤ p * σ 1 0 ∧ abI (heG σ n g) ≤ p * σ 1 1 ∧ bdG σ n g 7 ≤ p * σ 1 2
theorem Sf_dbl (σ : Sg) (n : Nat) (g : Nat → Int) : Sf σ 2 n (fun t => 2 * g t) ↔ Sf σ 1 n g := by
  have e : ∀ z : Int, abI (2 * z) = 2 * abI z := fun z => by
    unfold abI
    by_cases h : 0 ≤ z
    · rw [if_pos h, if_pos (by omega)]
    · rw [if_neg h, if_neg (by omega)]; omega
  unfold Sf
  rw [dbl_tr, dbl_he, dbl_bd, e, e]
  omega
theorem Sf_congr {σ : Sg} {p : Int} {n : Nat} {g h : Nat → Int} (e : ∀ t, t < n → g t = h t) : Sf σ p n g ↔ Sf σ p n h := by
  obtain ⟨h1, h2, h3, h4, h5, h6, h7⟩ := congr_all (σ := σ) e
  unfold Sf
  rw [h1, h2, h7]
noncomputable def bI (p : Prop) : Int := @ite Int p (Classical.propDecidable p) 1 0
theorem bI_t {p : Prop} (h : p) : bI p = 1 := by unfold bI; exact if_pos h
theorem bI_f {p : Prop} (h : ¬ p) : bI p = 0 := by unfold bI; exact if_neg h
theorem bI_01 (p : Prop) : bI p = 0 ∨ bI p = 1 := by
  by_cases h : p
  · exact Or.inr (bI_t h)
  · exact Or.inl (bI_f h)
theorem bI_congr {p q : Prop} (h : p ↔ q) : bI p = bI q := by rw [propext h]
theorem zb_bI {α : Type} (p : Prop) (A : Option α) : zb (iI (bI p)) A = A := by
  rcases bI_01 p with h | h <;> rw [h] <;> rfl
theorem ite_bI {α : Type} (p : Prop) (A B : Option α) : (if iI (bI p) = 0 then A else B) = @ite _ p (Classical.propDecidable p) B A := by
  by_cases h : p
  · rw [bI_t h, if_neg (by decide), if_pos h]
  · rw [bI_f h, if_pos (by decide), if_neg h]
theorem f0_isWithin_eq {α : Type} {σ : Sg} (hG : Gd σ) {n : Nat} {g : Nat → Int} (hn : n ≤ σ 0 0) (hw : Wo n g) {S : MS} (hL : LdIs σ n g S) (hS : ShX σ S) {p : Int} (hp : p = 1 ∨ p = 2) (K : Int32 → MS → Option α) : f0_isWithin (iI p) S K = K (iI (bI (Sf σ p n g))) S := by
  have c0 := hG.2.2.2.2.1 0 (by omega)
  have c1 := hG.2.2.2.2.1 1 (by omega)
  have c2 := hG.2.2.2.2.1 2 (by omega)
  have e0 := hS.2.2.2.2.1 0 (by omega)
  have e1 := hS.2.2.2.2.1 1 (by omega)
  have e2 := hS.2.2.2.2.1 2 (by omega)
  have hs3 : ∀ t, t < n → σ 3 t ≤ 6 := fun t ht => (hG.2.2.2.2.2 t (by omega)).2.1
  have hs4 : ∀ t, t < n → σ 4 t ≤ 2 := fun t ht => (hG.2.2.2.2.2 t (by omega)).2.2.1
  have b1 := trG_bd (σ := σ) hw hs3
  have b2 := heG_bd (σ := σ) hw hs4
  have b3 := bdG_bd (σ := σ) hw (k := 7) (by omega)
  have a1 := abI_bd (z := trG σ n g) (a := 648) (by omega)
  have a2 := abI_bd (z := heG σ n g) (a := 648) (by omega)
  have q0 : 0 ≤ p * (σ 1 0 : Int) ∧ p * (σ 1 0 : Int) ≤ 1998 := by rcases hp with rfl | rfl <;> omega
  have q1 : 0 ≤ p * (σ 1 1 : Int) ∧ p * (σ 1 1 : Int) ≤ 1998 := by rcases hp with rfl | rfl <;> omega
  have q2 : 0 ≤ p * (σ 1 2 : Int) ∧ p * (σ 1 2 : Int) ≤ 1998 := by rcases hp with rfl | rfl <;> omega
  unfold f0_isWithin
  rw [show (0 : Int32) = iI ((0 : Nat) : Int) from rfl, ck_nat (by omega) (by omega), e0, hL.2.1, show iI ((0 : Nat) : Int) = (0 : Int32) from rfl, mabs_eq (by omega), iI_mul, ite_lt ⟨⟨by omega, by omega⟩, ⟨by omega, by omega⟩⟩]
  by_cases h0 : p * (σ 1 0 : Int) < abI (trG σ n g)
  · rw [if_pos h0, bI_f (by unfold Sf; omega)]; rfl
  · rw [if_neg h0, show (1 : Int32) = iI ((1 : Nat) : Int) from rfl, ck_nat (by omega) (by omega), e1, hL.2.2.1, mabs_eq (by omega), iI_mul, ite_lt ⟨⟨by omega, by omega⟩, ⟨by omega, by omega⟩⟩]
    by_cases h1 : p * (σ 1 1 : Int) < abI (heG σ n g)
    · rw [if_pos h1, bI_f (by unfold Sf; omega)]; rfl
    · rw [if_neg h1, f0_bending_eq hw hL, show (2 : Int32) = iI ((2 : Nat) : Int) from rfl, ck_nat (by omega) (by omega), e2, iI_mul, ite_lt ⟨⟨by omega, by omega⟩, ⟨by omega, by omega⟩⟩]
      by_cases h2 : p * (σ 1 2 : Int) < bdG σ n g 7
      · rw [if_pos h2, bI_f (by unfold Sf; omega)]; rfl
      · rw [if_neg h2, bI_t (by unfold Sf; omega)]; rfl
theorem gF_wo {σ : Sg} (h : Gd σ) (F : Nat) : Wo (σ 0 0) (gF σ F) := ⟨h.1, fun t ht => by
  have := wtN_le h ht
  unfold gF
  split <;> omega⟩
theorem gH_wo {σ : Sg} (h : Gd σ) (F q : Nat) : Wo (σ 0 0) (gH σ F q) := ⟨h.1, fun t ht => by
  have := wtN_le h ht
  unfold gH
  split
  · omega
  · split <;> omega⟩
theorem f3_isSafe_eq {α : Type} {σ : Sg} (h : Gd σ) {S : MS} (hS : ShX σ S) {F : Nat} (hF : F < 64) (K : Int32 → MS → Option α) : f3_isSafe (iI F) S K = K (iI (bI (Sf σ 1 (σ 0 0) (gF σ F)))) (LdS σ (σ 0 0) (gF σ F) S) := by
  unfold f3_isSafe
  rw [f3_loadOf_eq h hS hF, show (1 : Int32) = iI 1 from rfl, f0_isWithin_eq h (Nat.le_refl _) (gF_wo h F) (LdS_is _ _ _ _) (LdS_Sh hS) (Or.inl rfl), zb_bI]
theorem f3_isSafeHalfway_eq {α : Type} {σ : Sg} (h : Gd σ) {S : MS} (hS : ShX σ S) {F t : Nat} (hF : F < 64) (ht : t < σ 0 0) (K : Int32 → MS → Option α) : f3_isSafeHalfway (iI F) (iI t) S K = K (iI (bI (Sf σ 2 (σ 0 0) (gH σ F t)))) (LdS σ (σ 0 0) (gH σ F t) S) := by
  unfold f3_isSafeHalfway
  rw [f3_loadHalfway_eq h hS hF ht, show (2 : Int32) = iI 2 from rfl, f0_isWithin_eq h (Nat.le_refl _) (gH_wo h F t) (LdS_is _ _ _ _) (LdS_Sh hS) (Or.inr rfl), zb_bI]
/-- the set of the full tanks among the first n -/
def fuN (w : Nat) : Nat → Nat
  | 0 => 0
  | n + 1 => fuN w n + if dg w n = 0 then 0 else 2 ^ n
theorem fuN_lt (w n : Nat) : fuN w n < 2 ^ n := by
  induction n with
  | zero => simp [fuN]
  | succ n ih =>
    have e : 2 ^ (n + 1) = 2 ^ n + 2 ^ n := by rw [Nat.pow_succ]; omega
    unfold fuN
    split <;> omega
theorem bt_fuN (w : Nat) : ∀ {n t : Nat}, t < n → bt (fuN w n) t = (dg w t != 0) := by
  intro n
  induction n with
  | zero => intro t h; omega
  | succ n ih =>
    intro t ht
    by_cases e : t = n
    · subst e
      have h1 := fuN_lt w t
      have h2 : 0 < 2 ^ t := Nat.two_pow_pos t
      unfold fuN bt
      by_cases hd : dg w t = 0
      · rw [if_pos hd, Nat.add_zero, Nat.div_eq_of_lt h1]; simp [hd]
      · rw [if_neg hd, Nat.add_div_right _ h2, Nat.div_eq_of_lt h1]; simp [hd]
    · have h1 := ih (t := t) (by omega)
      have e2 : (if dg w n = 0 then 0 else 2 ^ n) = 2 ^ t * (if dg w n = 0 then 0 else 2 ^ (n - t)) := by
        split
        · simp
        · rw [← Nat.pow_add]; congr 1; omega
      have e3 : (if dg w n = 0 then 0 else 2 ^ (n - t)) % 2 = 0 := by
        split
        · rfl
        · rw [show n - t = (n - t - 1) + 1 by omega, Nat.pow_succ]; omega
      rw [← h1, show fuN w (n + 1) = fuN w n + (if dg w n = 0 then 0 else 2 ^ n) from rfl, e2]
      unfold bt
      rw [Nat.add_mul_div_left _ _ (Nat.two_pow_pos t), Nat.add_mod, e3, Nat.add_zero, Nat.mod_mod]
theorem f3_fullSet_eq {α : Type} {σ : Sg} (h : Gd σ) {S : MS} (hS : ShX σ S) {w : Nat} (hw : w < 729) (K : Int32 → MS → Option α) : f3_fullSet (iI w) S K = K (iI (fuN w (σ 0 0))) S := by
  have hn6 := h.1
  unfold f3_fullSet
  have h1 := loop_eq (σ := Int32 × Int32) (L := fun fuel s => f3_fullSet_L4 (iI w) (fun v2 _ S1 => K v2 S1) fuel s.1 s.2 S) (KX := fun s => K s.1 S) (σ 0 0) (fun i => (iI (fuN w i), iI i))
    (by
      intro fuel i hi
      show f3_fullSet_L4 (iI w) _ (fuel + 1) (iI (fuN w i)) (iI i) S = f3_fullSet_L4 (iI w) _ fuel (iI (fuN w (i + 1))) (iI (i + 1 : Nat)) S
      have hd : dg w i < 3 := Nat.mod_lt _ (by omega)
      rw [f3_fullSet_L4, hS.1, ite_le ⟨⟨by omega, by omega⟩, ⟨by omega, by omega⟩⟩, if_neg (by omega), f5_waterIn_eq hw (by omega), show (0 : Int32) = iI 0 from rfl, ite_eq ⟨⟨by omega, by omega⟩, by decide⟩]
      by_cases hz : dg w i = 0
      · rw [if_pos (by omega), nm_eq, show (1 : Int32) = iI 1 from rfl, iI_add, show fuN w (i + 1) = fuN w i by show fuN w i + _ = _; rw [if_pos hz, Nat.add_zero]]
        rfl
      · rw [if_neg (by omega), nm_eq, nm_eq, set_all i (by omega) _ (fuN_lt w i), show (1 : Int32) = iI 1 from rfl, iI_add, show fuN w (i + 1) = fuN w i + 2 ^ i by show fuN w i + _ = _; rw [if_neg hz]]
        rfl)
    (by
      intro fuel
      show f3_fullSet_L4 (iI w) _ (fuel + 1) (iI (fuN w (σ 0 0))) (iI (σ 0 0)) S = _
      rw [f3_fullSet_L4, hS.1, ite_le ⟨⟨by omega, by omega⟩, ⟨by omega, by omega⟩⟩, if_pos (by omega)])
    FU 0 (by omega) (by rw [FU_eq]; omega)
  exact h1
