/-! PURE PART: ints as Int32, tests of programs -/
def iI (z : Int) : Int32 := Int32.ofInt z
abbrev rg (z : Int) : Prop := -2147483648 ≤ z ∧ z < 2147483648
theorem iI_toInt {z : Int} (h : rg z) : (iI z).toInt = z := Int32.toInt_ofInt_of_le h.1 h.2
theorem iI_of (x : Int32) : ∃ z : Int, x = iI z ∧ rg z := ⟨x.toInt, (Int32.ofInt_toInt x).symm, Int32.le_toInt x, Int32.toInt_lt x⟩
theorem iI_add (a b : Int) : iI a + iI b = iI (a + b) := (Int32.ofInt_add a b).symm
theorem iI_sub (a b : Int) : iI a - iI b = iI (a - b) := (Int32.ofInt_sub a b).symm
theorem iI_mul (a b : Int) : iI a * iI b = iI (a * b) := (Int32.ofInt_mul a b).symm
theorem iI_neg (a : Int) : -iI a = iI (-a) := (Int32.ofInt_neg a).symm
theorem iI_le {a b : Int} (ha : rg a) (hb : rg b) : iI a ≤ iI b ↔ a ≤ b := by
  rw [Int32.le_iff_toInt_le, iI_toInt ha, iI_toInt hb]
theorem iI_lt {a b : Int} (ha : rg a) (hb : rg b) : iI a < iI b ↔ a < b := by
  rw [Int32.lt_iff_toInt_lt, iI_toInt ha, iI_toInt hb]
theorem iI_eq {a b : Int} (ha : rg a) (hb : rg b) : iI a = iI b ↔ a = b := by
  constructor
  · intro h
    rw [← iI_toInt ha, ← iI_toInt hb, h]
  · intro h
    rw [h]
theorem iI_nat {a : Int} (h0 : 0 ≤ a) (h : a < 2147483648) : (iI a).toNatClampNeg = a.toNat := by
  have h1 : (iI a).toInt = a := iI_toInt ⟨by omega, h⟩
  show (iI a).toInt.toNat = a.toNat
  rw [h1]
theorem iI_div {a b : Int} (ha : 0 ≤ a) (ha2 : a < 2147483648) (hb : 0 < b) (hb2 : b < 2147483648) : iI a / iI b = iI (a / b) := by
  have h1 := iI_toInt (z := a) ⟨by omega, ha2⟩
  have h2 := iI_toInt (z := b) ⟨by omega, hb2⟩
  have hq : 0 ≤ a / b := Int.ediv_nonneg ha (by omega)
  have hq2 : a / b ≤ a := Int.ediv_le_self b ha
  apply Int32.toInt_inj.mp
  rw [Int32.toInt_div, h1, h2, iI_toInt ⟨by omega, by omega⟩, Int.tdiv_eq_ediv_of_nonneg ha]
  rw [Int.bmod_eq_of_le (by omega) (by omega)]
theorem tdiv2_even (z : Int) : (2 * z).tdiv 2 = z := by
  rw [Int.mul_comm, Int.mul_tdiv_cancel z (by decide)]
theorem iI_half {z : Int} (h : -1000000000 ≤ z ∧ z ≤ 1000000000) : iI (2 * z) / 2 = iI z := by
  have h1 := iI_toInt (z := 2 * z) ⟨by omega, by omega⟩
  have h2 := iI_toInt (z := z) ⟨by omega, by omega⟩
  apply Int32.toInt_inj.mp
  rw [Int32.toInt_div, h1, h2, show (2 : Int32).toInt = 2 from rfl, tdiv2_even]
  rw [Int.bmod_eq_of_le (by omega) (by omega)]
section Tests
variable {α : Type} {A B : Option α}
theorem ite_le {a b : Int} (h : rg a ∧ rg b) : (if iI a ≤ iI b then A else B) = if a ≤ b then A else B := by simp only [iI_le h.1 h.2]
theorem ite_lt {a b : Int} (h : rg a ∧ rg b) : (if iI a < iI b then A else B) = if a < b then A else B := by simp only [iI_lt h.1 h.2]
theorem ite_eq {a b : Int} (h : rg a ∧ rg b) : (if iI a = iI b then A else B) = if a = b then A else B := by simp only [iI_eq h.1 h.2]
theorem ck_in {z : Int} {n : Nat} {P : Nat → Option α} (h0 : 0 ≤ z) (h : z < n) (hn : n ≤ 1000) : ck (iI z) n P = P z.toNat := by
  unfold ck
  rw [iI_nat h0 (by omega), if_neg]
  intro q
  rcases q with q | q
  · rw [show (0 : Int32) = iI 0 from rfl, iI_lt ⟨by omega, by omega⟩ ⟨by omega, by omega⟩] at q
    omega
  · omega
theorem ck_nat {t n : Nat} {P : Nat → Option α} (h : t < n) (hn : n ≤ 1000) : ck (iI t) n P = P t := by
  rw [ck_in (by omega) (by omega) hn]
  rfl
theorem dz_ne {z : Int} (h : z ≠ 0) (hz : rg z) : dz (iI z) A = A := by
  unfold dz
  rw [if_neg]
  intro q
  rw [show (0 : Int32) = iI 0 from rfl, iI_eq hz ⟨by omega, by omega⟩] at q
  exact h q
theorem zb_0 : zb 0 A = A := rfl
theorem zb_1 : zb 1 A = A := rfl
theorem nm_eq {β : Type} (v : β) (P : β → Option α) : nm v P = P v := rfl
end Tests
/-- memory: what an update leaves -/
theorem sI_same (S : MS) (j f : Nat) (v : Int32) : (sI S j f v).1 j f = v := by simp [sI, va_up, upd]
theorem sI_cell {j j' : Nat} (S : MS) (f : Nat) (v : Int32) (h : j' ≠ j) : (sI S j f v).1 j' = S.1 j' := by simp [sI, va_up, h]
theorem sI_place {f f' : Nat} (S : MS) (j : Nat) (v : Int32) (h : f' ≠ f) : (sI S j f v).1 j f' = S.1 j f' := by simp [sI, va_up, upd, h]
theorem sI_at (S : MS) (j f : Nat) (v : Int32) (j' f' : Nat) : (sI S j f v).1 j' f' = if j' = j ∧ f' = f then v else S.1 j' f' := by
  by_cases h : j' = j
  · subst h
    by_cases h2 : f' = f
    · subst h2; simp [sI, va_up, upd]
    · simp [sI, va_up, upd, h2]
  · simp [sI, va_up, h]
theorem sI_2 (S : MS) (j f : Nat) (v : Int32) : (sI S j f v).2 = S.2 := rfl
theorem sL_1 (S : MS) (j f : Nat) (v : Int64) : (sL S j f v).1 = S.1 := rfl
theorem sL_at (S : MS) (j f : Nat) (v : Int64) (j' f' : Nat) : (sL S j f v).2 j' f' = if j' = j ∧ f' = f then v else S.2 j' f' := by
  by_cases h : j' = j
  · subst h
    by_cases h2 : f' = f
    · subst h2; simp [sL, va_up, vp_updL]
    · simp [sL, va_up, vp_updL, h2]
  · simp [sL, va_up, h]
/-- a loop of a program: with an invariant, as many rounds as told -/
theorem loop_rel {σ : Type} {α : Type} {L : Nat → σ → Option α} {KX : σ → Option α} (n : Nat) (Inv : Nat → σ → Prop)
    (step : ∀ fuel i s, i < n → Inv i s → ∃ s', Inv (i + 1) s' ∧ L (fuel + 1) s = L fuel s')
    (last : ∀ fuel s, Inv n s → L (fuel + 1) s = KX s) : ∀ fuel i s, i ≤ n → n < fuel + i → Inv i s → ∃ s', Inv n s' ∧ L fuel s = KX s' := by
  intro fuel
  induction fuel with
  | zero => intro i s h1 h2; omega
  | succ fuel ih =>
    intro i s h1 h2 h3
    by_cases hi : i = n
    · subst hi
      exact ⟨s, h3, last fuel s h3⟩
    · obtain ⟨s', g1, g2⟩ := step fuel i s (by omega) h3
      obtain ⟨s2, g3, g4⟩ := ih (i + 1) s' (by omega) (by omega) g1
      exact ⟨s2, g3, g2.trans g4⟩
