/-! PURE PART 36: what is left, round by round -/
theorem cnP_lt {P Q : Nat → Prop} : ∀ {N : Nat}, (∀ x, x < N → Q x → P x) → (∃ c, c < N ∧ P c ∧ ¬ Q c) → cnP Q N < cnP P N := by
  have mono : ∀ {N : Nat}, (∀ x, x < N → Q x → P x) → cnP Q N ≤ cnP P N := by
    intro N
    induction N with
    | zero => intro _; exact Nat.le_refl _
    | succ N ih =>
      intro h
      have e := ih (fun x hx => h x (by omega))
      by_cases q : Q N
      · rw [cnP_t q, cnP_t (h N (by omega) q)]; omega
      · rw [cnP_f q]
        by_cases p : P N
        · rw [cnP_t p]; omega
        · rw [cnP_f p]; exact e
  intro N
  induction N with
  | zero => intro _ ⟨c, h, _⟩; omega
  | succ N ih =>
    intro h ⟨c, c1, c2, c3⟩
    have e := mono (N := N) (fun x hx => h x (by omega))
    by_cases d : c = N
    · subst d
      rw [cnP_t c2, cnP_f c3]; omega
    · have := ih (fun x hx => h x (by omega)) ⟨c, by omega, c2, c3⟩
      by_cases q : Q N
      · rw [cnP_t q, cnP_t (h N (by omega) q)]; omega
      · rw [cnP_f q]
        by_cases p : P N
        · rw [cnP_t p]; omega
        · rw [cnP_f p]; exact this
def NI (N n : Nat) (E : Nat → Nat → Prop) (p : Nat → Nat → Nat) (G : Nat → Prop) (k : Nat) (lf : Nat → Int) (V : Nat → Nat) : Prop :=
  (∀ x, x < N → lf x = -9 ∨ (0 ≤ lf x ∧ lf x < k)) ∧
  (∀ x, x < N → (lf x = 0 ↔ G x)) ∧
  (∀ x, x < N → 0 < lf x → ∃ t, t < n ∧ E x t ∧ lf (p x t) = lf x - 1) ∧
  (∀ x t, x < N → t < n → E x t → lf (p x t) ≠ -9 → (lf x = -9 ∧ lf (p x t) = (k : Int) - 1) ∨ (lf x ≠ -9 ∧ lf x ≤ lf (p x t) + 1)) ∧
  (∀ x, x < N → (lf x = -9 → V x = 0) ∧ (lf x = 0 → V x = 1) ∧ (0 < lf x → V x = sN n (fun t => iN (E x t ∧ lf (p x t) = lf x - 1) (V (p x t)))))
/-- those that are found in round k -/
def Nw (n : Nat) (E : Nat → Nat → Prop) (p : Nat → Nat → Nat) (k : Nat) (lf : Nat → Int) (x : Nat) : Prop := lf x = -9 ∧ ∃ t, t < n ∧ E x t ∧ lf (p x t) = (k : Int) - 1
noncomputable def lfN (n : Nat) (E : Nat → Nat → Prop) (p : Nat → Nat → Nat) (k : Nat) (lf : Nat → Int) (x : Nat) : Int := cI (Nw n E p k lf x) k (lf x)
noncomputable def VN (n : Nat) (E : Nat → Nat → Prop) (p : Nat → Nat → Nat) (k : Nat) (lf : Nat → Int) (V : Nat → Nat) (x : Nat) : Nat := iN (Nw n E p k lf x) (sN n (fun t => iN (E x t ∧ lf (p x t) = (k : Int) - 1) (V (p x t)))) + iN (¬ Nw n E p k lf x) (V x)
section Rounds
variable {N n : Nat} {E : Nat → Nat → Prop} {p : Nat → Nat → Nat} {G : Nat → Prop} {k : Nat} {lf : Nat → Int} {V : Nat → Nat}
theorem lfN_o {x : Nat} (h : lf x ≠ -9) : lfN n E p k lf x = lf x := by unfold lfN; exact cI_f (fun g => h g.1) _ _
theorem lfN_t {x : Nat} (h : Nw n E p k lf x) : lfN n E p k lf x = k := by unfold lfN; exact cI_t h _ _
theorem lfN_f {x : Nat} (h : ¬ Nw n E p k lf x) : lfN n E p k lf x = lf x := by unfold lfN; exact cI_f h _ _
theorem VN_t {x : Nat} (h : Nw n E p k lf x) : VN n E p k lf V x = sN n (fun t => iN (E x t ∧ lf (p x t) = (k : Int) - 1) (V (p x t))) := by unfold VN; rw [iN_t h, iN_f (fun g => g h), Nat.add_zero]
theorem VN_f {x : Nat} (h : ¬ Nw n E p k lf x) : VN n E p k lf V x = V x := by unfold VN; rw [iN_f h, iN_t h, Nat.zero_add]
/-- a number ahead of this round isn't changed in it -/
theorem lfN_eq {x : Nat} {z : Int} (hz : 0 ≤ z ∧ z < k) : lfN n E p k lf x = z ↔ lf x = z := by
  by_cases c : Nw n E p k lf x
  · rw [lfN_t c]
    constructor
    · intro g; omega
    · intro g; have := c.1; omega
  · rw [lfN_f c]
theorem NI.next (h : NI N n E p G k lf V) (hp : ∀ x t, x < N → t < n → p x t < N) (hk : 1 ≤ k) : NI N n E p G (k + 1) (lfN n E p k lf) (VN n E p k lf V) := by
  obtain ⟨h1, h2, h3, h4, h5⟩ := h
  refine ⟨fun x hx => ?_, fun x hx => ?_, fun x hx g => ?_, fun x t hx ht hE g => ?_, fun x hx => ⟨fun g => ?_, fun g => ?_, fun g => ?_⟩⟩
  · by_cases c : Nw n E p k lf x
    · rw [lfN_t c]; right; omega
    · rw [lfN_f c]; have := h1 x hx; omega
  · rw [lfN_eq (by omega)]; exact h2 x hx
  · by_cases c : Nw n E p k lf x
    · rw [lfN_t c]
      obtain ⟨t, t1, t2, t3⟩ := c.2
      exact ⟨t, t1, t2, (lfN_eq (by omega)).mpr t3⟩
    · rw [lfN_f c] at g ⊢
      obtain ⟨t, t1, t2, t3⟩ := h3 x hx g
      have := h1 x hx
      exact ⟨t, t1, t2, (lfN_eq (by omega)).mpr t3⟩
  · by_cases cy : Nw n E p k lf (p x t)
    · rw [lfN_t cy]
      by_cases cx : lfN n E p k lf x = -9
      · left; exact ⟨cx, by omega⟩
      · right
        refine ⟨cx, ?_⟩
        by_cases c : Nw n E p k lf x
        · rw [lfN_t c]; omega
        · rw [lfN_f c]; have := h1 x hx; omega
    · rw [lfN_f cy] at g ⊢
      right
      rcases h4 x t hx ht hE g with ⟨a, b⟩ | ⟨a, b⟩
      · have c : Nw n E p k lf x := ⟨a, t, ht, hE, b⟩
        rw [lfN_t c]
        exact ⟨by omega, by omega⟩
      · rw [lfN_o a]; exact ⟨a, b⟩
  · by_cases c : Nw n E p k lf x
    · rw [lfN_t c] at g; omega
    · rw [lfN_f c] at g; rw [VN_f c]; exact (h5 x hx).1 g
  · by_cases c : Nw n E p k lf x
    · rw [lfN_t c] at g; omega
    · rw [lfN_f c] at g; rw [VN_f c]; exact (h5 x hx).2.1 g
  · have inner : ∀ z : Int, 0 ≤ z → z < k → sN n (fun t => iN (E x t ∧ lf (p x t) = z) (V (p x t))) = sN n (fun t => iN (E x t ∧ lfN n E p k lf (p x t) = z) (VN n E p k lf V (p x t))) := by
      intro z z1 z2
      refine sN_congr (fun t ht => iN_congr ?_ (fun gg => ?_))
      · rw [lfN_eq ⟨z1, z2⟩]
      · rw [VN_f (fun c => by have := c.1; have := gg.2; omega)]
    by_cases c : Nw n E p k lf x
    · rw [lfN_t c, VN_t c]
      exact inner _ (by omega) (by omega)
    · rw [lfN_f c] at g ⊢
      rw [VN_f c, (h5 x hx).2.2 g]
      have := h1 x hx
      exact inner _ (by omega) (by omega)
theorem NI.last (h : NI N n E p G k lf V) (hk : k ≤ 1000) (hno : ∀ x, x < N → ¬ Nw n E p k lf x) : MI N n E p G lf V := by
  obtain ⟨h1, h2, h3, h4, h5⟩ := h
  refine ⟨fun x hx => by have := h1 x hx; omega, h2, h3, fun x t hx ht hE g => ?_, h5⟩
  rcases h4 x t hx ht hE g with ⟨a, b⟩ | ⟨a, b⟩
  · exact absurd ⟨a, t, ht, hE, b⟩ (hno x hx)
  · exact ⟨a, b⟩
theorem NI.cnt (hex : ∃ x, x < N ∧ Nw n E p k lf x) (hk : 1 ≤ k) : cnP (fun x => lfN n E p k lf x = -9) N < cnP (fun x => lf x = -9) N := by
  refine cnP_lt (fun x hx g => ?_) ?_
  · by_cases c : Nw n E p k lf x
    · rw [lfN_t c] at g; omega
    · rw [lfN_f c] at g; exact g
  · obtain ⟨x, hx, c⟩ := hex
    exact ⟨x, hx, c.1, by rw [lfN_t c]; omega⟩
end Rounds
theorem NI_start (σ : Sg) (N : Nat) : NI N (σ 0 0) (CanP σ) pmN (Gl σ) 1 (lf0 σ) (V0 σ) := by
  have two : ∀ x, lf0 σ x = -9 ∨ lf0 σ x = 0 := fun x => by
    unfold lf0
    by_cases c : Gl σ x
    · rw [cI_t c]; omega
    · rw [cI_f c]; omega
  refine ⟨fun x hx => by have := two x; omega, fun x hx => ?_, fun x hx g => by have := two x; omega, fun x t hx ht hE g => ?_, fun x hx => ⟨fun g => ?_, fun g => ?_, fun g => by have := two x; omega⟩⟩
  · unfold lf0
    by_cases c : Gl σ x
    · rw [cI_t c]; exact ⟨fun _ => c, fun _ => rfl⟩
    · rw [cI_f c]; exact ⟨fun g => by omega, fun g => absurd g c⟩
  · have a := two x
    have b := two (pmN x t)
    omega
  · unfold V0
    refine iN_f (fun c => ?_) _
    unfold lf0 at g
    rw [cI_t c] at g
    omega
  · unfold V0
    refine iN_t (Classical.byContradiction (fun c => ?_)) _
    unfold lf0 at g
    rw [cI_f c] at g
    omega
