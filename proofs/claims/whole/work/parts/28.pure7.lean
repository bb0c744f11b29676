/-! PURE PART 7: sums, weights, moments -/
def sumI : Nat → (Nat → Int) → Int
  | 0, _ => 0
  | n + 1, f => sumI n f + f n
theorem sumI_congr {n : Nat} {f g : Nat → Int} (h : ∀ t, t < n → f t = g t) : sumI n f = sumI n g := by
  induction n with
  | zero => rfl
  | succ n ih => rw [sumI, sumI, ih (fun t ht => h t (by omega)), h n (by omega)]
theorem sumI_mul (n : Nat) (c : Int) (f : Nat → Int) : sumI n (fun t => c * f t) = c * sumI n f := by
  induction n with
  | zero => simp [sumI]
  | succ n ih => rw [sumI, sumI, ih, Int.mul_add]
theorem sumI_add (n : Nat) (f g : Nat → Int) : sumI n (fun t => f t + g t) = sumI n f + sumI n g := by
  induction n with
  | zero => rfl
  | succ n ih => rw [sumI, sumI, sumI, ih]; omega
theorem sumI_bd {n : Nat} {f : Nat → Int} {a b : Int} (ha : a ≤ 0) (hb : 0 ≤ b) (h : ∀ t, t < n → a ≤ f t ∧ f t ≤ b) (m : Nat) (hm : n ≤ m) : m * a ≤ sumI n f ∧ sumI n f ≤ m * b := by
  have key : n * a ≤ sumI n f ∧ sumI n f ≤ n * b := by
    induction n with
    | zero => simp [sumI]
    | succ n ih =>
      have h1 := ih (fun t ht => h t (by omega)) (by omega)
      have h2 := h n (by omega)
      have e1 : ((n + 1 : Nat) : Int) * a = n * a + a := by rw [Int.natCast_add, Int.add_mul]; simp
      have e2 : ((n + 1 : Nat) : Int) * b = n * b + b := by rw [Int.natCast_add, Int.add_mul]; simp
      rw [sumI, e1, e2]
      omega
  have h3 : (m : Int) * a ≤ n * a := Int.mul_le_mul_of_nonpos_right (by omega) ha
  have h4 : (n : Int) * b ≤ m * b := Int.mul_le_mul_of_nonneg_right (by omega) hb
  omega
def wtN (σ : Sg) (t : Nat) : Nat := if σ 2 t = 0 then σ 5 t else if σ 2 t = 1 then σ 5 t + 1 else 2 * σ 5 t
def dg (w t : Nat) : Nat := w / 3 ^ t % 3
def trG (σ : Sg) (n : Nat) (g : Nat → Int) : Int := sumI n (fun t => g t * ((σ 3 t : Int) - 3))
def heG (σ : Sg) (n : Nat) (g : Nat → Int) : Int := sumI n (fun t => g t * ((σ 4 t : Int) - 1))
def toG (n : Nat) (g : Nat → Int) : Int := sumI n g
def frG (σ : Sg) (n : Nat) (g : Nat → Int) (f : Nat) : Int := sumI n (fun t => if σ 3 t = f then g t else 0)
/-- a frame's load, its shear, its moment; the bending of the first k frames -/
def loG (σ : Sg) (n : Nat) (g : Nat → Int) (f : Nat) : Int := 7 * frG σ n g f - toG n g
def shG (σ : Sg) (n : Nat) (g : Nat → Int) (f : Nat) : Int := sumI f (loG σ n g)
def moG (σ : Sg) (n : Nat) (g : Nat → Int) (f : Nat) : Int := sumI f (fun h => shG σ n g (h + 1))
def abI (z : Int) : Int := if 0 ≤ z then z else -z
def bdG (σ : Sg) (n : Nat) (g : Nat → Int) : Nat → Int
  | 0 => 0
  | k + 1 => if bdG σ n g k < abI (moG σ n g (k + 1)) then abI (moG σ n g (k + 1)) else bdG σ n g k
theorem wtN_le {σ : Sg} (h : Gd σ) {t : Nat} (ht : t < σ 0 0) : 1 ≤ wtN σ t ∧ wtN σ t ≤ 18 := by
  obtain ⟨h1, h2, h3, h4, h5⟩ := h.2.2.2.2.2 t ht
  unfold wtN
  split
  · omega
  · split <;> omega
/-- weights that can be -/
def Wo (n : Nat) (g : Nat → Int) : Prop := n ≤ 6 ∧ ∀ t, t < n → 0 ≤ g t ∧ g t ≤ 36
theorem trG_bd {σ : Sg} {n : Nat} {g : Nat → Int} (hw : Wo n g) (hs : ∀ t, t < n → σ 3 t ≤ 6) : -648 ≤ trG σ n g ∧ trG σ n g ≤ 648 := by
  have := sumI_bd (n := n) (f := fun t => g t * ((σ 3 t : Int) - 3)) (a := -108) (b := 108) (by omega) (by omega) (fun t ht => by
    have h1 := hw.2 t ht
    have h2 := hs t ht
    rcases (show σ 3 t = 0 ∨ σ 3 t = 1 ∨ σ 3 t = 2 ∨ σ 3 t = 3 ∨ σ 3 t = 4 ∨ σ 3 t = 5 ∨ σ 3 t = 6 by omega) with e | e | e | e | e | e | e <;> rw [e] <;> constructor <;> simp <;> omega) 6 hw.1
  unfold trG
  omega
theorem heG_bd {σ : Sg} {n : Nat} {g : Nat → Int} (hw : Wo n g) (hs : ∀ t, t < n → σ 4 t ≤ 2) : -648 ≤ heG σ n g ∧ heG σ n g ≤ 648 := by
  have := sumI_bd (n := n) (f := fun t => g t * ((σ 4 t : Int) - 1)) (a := -108) (b := 108) (by omega) (by omega) (fun t ht => by
    have h1 := hw.2 t ht
    have h2 := hs t ht
    rcases (show σ 4 t = 0 ∨ σ 4 t = 1 ∨ σ 4 t = 2 by omega) with e | e | e <;> rw [e] <;> constructor <;> simp <;> omega) 6 hw.1
  unfold heG
  omega
theorem toG_bd {n : Nat} {g : Nat → Int} (hw : Wo n g) : 0 ≤ toG n g ∧ toG n g ≤ 216 := by
  have := sumI_bd (n := n) (f := g) (a := 0) (b := 36) (by omega) (by omega) (fun t ht => hw.2 t ht) 6 hw.1
  unfold toG
  omega
theorem frG_bd {σ : Sg} {n : Nat} {g : Nat → Int} (hw : Wo n g) (f : Nat) : 0 ≤ frG σ n g f ∧ frG σ n g f ≤ 216 := by
  have := sumI_bd (n := n) (f := fun t => if σ 3 t = f then g t else 0) (a := 0) (b := 36) (by omega) (by omega) (fun t ht => by
    have h1 := hw.2 t ht
    split <;> omega) 6 hw.1
  unfold frG
  omega
theorem loG_bd {σ : Sg} {n : Nat} {g : Nat → Int} (hw : Wo n g) (f : Nat) : -216 ≤ loG σ n g f ∧ loG σ n g f ≤ 1512 := by
  have h1 := frG_bd (σ := σ) hw f
  have h2 := toG_bd hw
  unfold loG
  omega
theorem shG_bd {σ : Sg} {n : Nat} {g : Nat → Int} (hw : Wo n g) {f : Nat} (hf : f ≤ 7) : -1512 ≤ shG σ n g f ∧ shG σ n g f ≤ 10584 := by
  have := sumI_bd (n := f) (f := loG σ n g) (a := -216) (b := 1512) (by omega) (by omega) (fun t ht => loG_bd hw t) 7 hf
  unfold shG
  omega
theorem moG_bd {σ : Sg} {n : Nat} {g : Nat → Int} (hw : Wo n g) {f : Nat} (hf : f ≤ 7) : -10584 ≤ moG σ n g f ∧ moG σ n g f ≤ 74088 := by
  have := sumI_bd (n := f) (f := fun h => shG σ n g (h + 1)) (a := -1512) (b := 10584) (by omega) (by omega) (fun t ht => shG_bd hw (by omega)) 7 hf
  unfold moG
  omega
theorem abI_bd {z a : Int} (h : -a ≤ z ∧ z ≤ a) : 0 ≤ abI z ∧ abI z ≤ a := by
  unfold abI
  split <;> omega
theorem bdG_bd {σ : Sg} {n : Nat} {g : Nat → Int} (hw : Wo n g) : ∀ {k : Nat}, k ≤ 7 → 0 ≤ bdG σ n g k ∧ bdG σ n g k ≤ 74088 := by
  intro k
  induction k with
  | zero => intro _; simp [bdG]
  | succ k ih =>
    intro hk
    have h1 := ih (by omega)
    have h2 := moG_bd (σ := σ) hw hk
    have h3 := abI_bd (z := moG σ n g (k + 1)) (a := 74088) (by omega)
    unfold bdG
    split <;> omega
/-- twice the weights, twice all -/
theorem dbl_tr (σ : Sg) (n : Nat) (g : Nat → Int) : trG σ n (fun t => 2 * g t) = 2 * trG σ n g := by
  unfold trG; rw [← sumI_mul]; exact sumI_congr (fun t _ => by rw [Int.mul_assoc])
theorem dbl_he (σ : Sg) (n : Nat) (g : Nat → Int) : heG σ n (fun t => 2 * g t) = 2 * heG σ n g := by
  unfold heG; rw [← sumI_mul]; exact sumI_congr (fun t _ => by rw [Int.mul_assoc])
theorem dbl_fr (σ : Sg) (n : Nat) (g : Nat → Int) (f : Nat) : frG σ n (fun t => 2 * g t) f = 2 * frG σ n g f := by
  unfold frG; rw [← sumI_mul]; exact sumI_congr (fun t _ => by split <;> simp)
theorem dbl_lo (σ : Sg) (n : Nat) (g : Nat → Int) (f : Nat) : loG σ n (fun t => 2 * g t) f = 2 * loG σ n g f := by
  unfold loG toG; rw [dbl_fr, sumI_mul]; omega
theorem dbl_sh (σ : Sg) (n : Nat) (g : Nat → Int) (f : Nat) : shG σ n (fun t => 2 * g t) f = 2 * shG σ n g f := by
  unfold shG; rw [← sumI_mul]; exact sumI_congr (fun t _ => dbl_lo σ n g t)
theorem dbl_mo (σ : Sg) (n : Nat) (g : Nat → Int) (f : Nat) : moG σ n (fun t => 2 * g t) f = 2 * moG σ n g f := by
  unfold moG; rw [← sumI_mul]; exact sumI_congr (fun t _ => dbl_sh σ n g (t + 1))
theorem dbl_bd (σ : Sg) (n : Nat) (g : Nat → Int) (k : Nat) : bdG σ n (fun t => 2 * g t) k = 2 * bdG σ n g k := by
  induction k with
  | zero => rfl
  | succ k ih =>
    have e : abI (2 * moG σ n g (k + 1)) = 2 * abI (moG σ n g (k + 1)) := by
      unfold abI
      by_cases h : 0 ≤ moG σ n g (k + 1)
      · rw [if_pos h, if_pos (by omega)]
      · rw [if_neg h, if_neg (by omega)]; omega
    unfold bdG
    rw [ih, dbl_mo, e]
    by_cases h : bdG σ n g k < abI (moG σ n g (k + 1))
    · rw [if_pos h, if_pos (by omega)]
    · rw [if_neg h, if_neg (by omega)]
/-- the reference's way to a moment -/
theorem mo_ref (σ : Sg) (n : Nat) (g : Nat → Int) (f : Nat) : moG σ n g f = sumI f (fun h => ((f : Int) - h) * loG σ n g h) := by
  induction f with
  | zero => rfl
  | succ f ih =>
    have h1 : moG σ n g (f + 1) = moG σ n g f + shG σ n g (f + 1) := rfl
    have h2 : sumI (f + 1) (fun h => (((f + 1 : Nat) : Int) - h) * loG σ n g h) = sumI (f + 1) (fun h => ((f : Int) - h) * loG σ n g h) + sumI (f + 1) (loG σ n g) := by
      rw [← sumI_add]
      exact sumI_congr (fun t _ => by rw [show ((f + 1 : Nat) : Int) - (t : Int) = ((f : Int) - t) + 1 by omega, Int.add_mul, Int.one_mul])
    rw [h1, h2, ih]
    show _ = sumI f _ + ((f : Int) - f) * loG σ n g f + _
    rw [Int.sub_self, Int.zero_mul, Int.add_zero]
    rfl
theorem congr_all {σ : Sg} {n : Nat} {g h : Nat → Int} (e : ∀ t, t < n → g t = h t) : trG σ n g = trG σ n h ∧ heG σ n g = heG σ n h ∧ toG n g = toG n h ∧ (∀ f, frG σ n g f = frG σ n h f) ∧ (∀ f, loG σ n g f = loG σ n h f) ∧ (∀ f, moG σ n g f = moG σ n h f) ∧ ∀ k, bdG σ n g k = bdG σ n h k := by
  have h1 : trG σ n g = trG σ n h := sumI_congr (fun t ht => by rw [e t ht])
  have h2 : heG σ n g = heG σ n h := sumI_congr (fun t ht => by rw [e t ht])
  have h3 : toG n g = toG n h := sumI_congr (fun t ht => e t ht)
  have h4 : ∀ f, frG σ n g f = frG σ n h f := fun f => sumI_congr (fun t ht => by rw [e t ht])
  have h5 : ∀ f, loG σ n g f = loG σ n h f := fun f => by unfold loG; rw [h4, h3]
  have h6 : ∀ f, moG σ n g f = moG σ n h f := fun f => by
    unfold moG shG
    exact sumI_congr (fun t _ => sumI_congr (fun q _ => h5 q))
  refine ⟨h1, h2, h3, h4, h5, h6, fun k => ?_⟩
  induction k with
  | zero => rfl
  | succ k ih => unfold bdG; rw [ih, h6]
