/-! PURE PART 1: the relation; small calls of both sides -/
abbrev Sg : Type := Nat → Nat → Nat
def bt (m t : Nat) : Bool := m / 2 ^ t % 2 == 1
def Gd (σ : Sg) : Prop := σ 0 0 ≤ 6 ∧ σ 0 1 < 3 ^ σ 0 0 ∧ σ 0 2 < 2 ^ σ 0 0 ∧ σ 0 3 < 2 ^ σ 0 0 ∧ (∀ k, k < 3 → σ 1 k ≤ 999) ∧ ∀ t, t < σ 0 0 → σ 2 t ≤ 2 ∧ σ 3 t ≤ 6 ∧ σ 4 t ≤ 2 ∧ 1 ≤ σ 5 t ∧ σ 5 t ≤ 9
def ShX (σ : Sg) (S : MS) : Prop := S.1 2 3 = iI (σ 0 0) ∧ S.1 2 4 = iI (σ 0 1) ∧ S.1 2 6 = iI (σ 0 2) ∧ S.1 2 5 = iI (σ 0 3) ∧ (∀ k, k < 3 → S.1 8 k = iI (σ 1 k)) ∧ ∀ t, t < σ 0 0 → S.1 (24 + t) 0 = iI (σ 2 t) ∧ S.1 (24 + t) 1 = iI (σ 3 t) ∧ S.1 (24 + t) 2 = iI (σ 4 t) ∧ S.1 (24 + t) 3 = iI (σ 5 t)
def ShM (σ : Sg) (S : MS) : Prop := S.1 0 6 = iI (σ 0 0) ∧ S.1 0 14 = iI (σ 0 1) ∧ S.1 0 13 = iI (σ 0 2) ∧ (∀ t, t < σ 0 0 → S.1 9 t = if bt (σ 0 3) t then 0 else 1) ∧ (∀ k, k < 3 → S.1 10 k = iI (σ 1 k)) ∧ (∀ t, t < σ 0 0 → S.1 5 t = iI (σ 2 t) ∧ S.1 6 t = iI (σ 3 t) ∧ S.1 7 t = iI (σ 4 t) ∧ S.1 8 t = iI (σ 5 t)) ∧ ∀ j, j ≤ 6 → S.1 4 j = iI ((3 ^ j : Nat) : Int)
def RdR (SX SM : MS) : Prop := ∃ rc : Nat, rc ≤ 8 ∧ SX.1 0 4 = iI rc ∧ SM.1 0 34 = iI rc ∧ ∀ q, q < rc → SX.1 4 q = SM.1 21 q
def SkR (SX SM : MS) (k : Nat) : Prop := (SX.1 (16 + k) 1 = iI (-1) ∧ SM.1 1 k = iI (-9)) ∨ ∃ la len : Nat, la ≤ 2 ∧ len ≤ 60 ∧ SX.1 (16 + k) 1 = iI la ∧ SM.1 1 k = iI la ∧ SX.1 (16 + k) 2 = iI len ∧ SM.1 2 k = iI len ∧ ∀ i, i < len → SX.1 (20 + k) i = SM.1 3 (60 * k + i)
def AgX (S S' : MS) : Prop := (∀ j, j = 3 ∨ (9 ≤ j ∧ j ≤ 15) → S'.1 j = S.1 j) ∧ S'.2 = S.2
def AgM (S S' : MS) : Prop := (∀ j, j = 17 ∨ j = 18 → S'.1 j = S.1 j) ∧ S'.2 = S.2
def ChX (PX : Sg → MS → Prop) (σ : Sg) (S : MS) : Prop := S.1 3 7 = 0 ∨ (S.1 3 7 = 1 ∧ PX σ S)
def ChM (PM : Sg → MS → Prop) (σ : Sg) (S : MS) : Prop := S.1 0 28 = 0 ∨ (S.1 0 28 = 1 ∧ ∃ S0, AgM S0 S ∧ PM σ S0)
def RelS (PX PM : Sg → MS → Prop) (σ : Sg) (SX SM : MS) : Prop := Gd σ ∧ ShX σ SX ∧ ShM σ SM ∧ RdR SX SM ∧ SX.1 0 5 = SM.1 0 1 ∧ SX.1 0 6 = SM.1 0 0 ∧ (∀ k, k < 4 → SkR SX SM k) ∧ ChX PX σ SX ∧ ChM PM σ SM
def RelP (PX PM : Sg → MS → Prop) (SX SM : MS) : Prop := ∃ σ, RelS PX PM σ SX SM
/-- what a predicate of the search's cells hangs on -/
def ClX (PX : Sg → MS → Prop) : Prop := ∀ σ S S', AgX S S' → PX σ S → PX σ S'
theorem AgX.rf (S : MS) : AgX S S := ⟨fun _ _ => rfl, rfl⟩
theorem AgM.rf (S : MS) : AgM S S := ⟨fun _ _ => rfl, rfl⟩
theorem AgX.tr {a b c : MS} (h1 : AgX a b) (h2 : AgX b c) : AgX a c := ⟨fun j hj => (h2.1 j hj).trans (h1.1 j hj), h2.2.trans h1.2⟩
theorem AgM.tr {a b c : MS} (h1 : AgM a b) (h2 : AgM b c) : AgM a c := ⟨fun j hj => (h2.1 j hj).trans (h1.1 j hj), h2.2.trans h1.2⟩
/-- long tests of the reference -/
theorem i64_of {z : Int} (h : rg z) : Int32.toInt64 (iI z) = Int64.ofInt z := by
  apply Int64.toInt_inj.mp
  rw [Int32.toInt_toInt64, iI_toInt h, Int64.toInt_ofInt_of_le (by have := h.1; omega) (by have := h.2; omega)]
theorem f6_within_eq {α : Type} {z a b : Int} (hz : rg z) (ha : rg a) (hb : rg b) (S : MS) (K : Int32 → MS → Option α) : f6_within (Int64.ofInt z) (Int64.ofInt a) (Int64.ofInt b) S K = if a ≤ z ∧ z ≤ b then K 1 S else K 0 S := by
  have e : ∀ {x : Int}, rg x → (Int64.ofInt x).toInt = x := fun {x} h => Int64.toInt_ofInt_of_le (by have := h.1; omega) (by have := h.2; omega)
  have hlt : ∀ {x y : Int}, rg x → rg y → (Int64.ofInt x < Int64.ofInt y ↔ x < y) := fun {x y} hx hy => by rw [Int64.lt_iff_toInt_lt, e hx, e hy]
  unfold f6_within
  simp only [lg_cmp_lt, lg_cmp_gt, hlt hz ha, hlt hb hz]
  by_cases h1 : z < a
  · rw [if_pos h1, if_neg (by omega)]
  · rw [if_neg h1]
    by_cases h2 : b < z
    · rw [if_pos h2, if_neg (by omega)]
    · rw [if_neg h2, if_pos (by omega)]
