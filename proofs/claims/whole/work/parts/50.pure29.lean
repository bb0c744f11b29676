/-! PURE PART 29: what is left, and how it fits the search -/
def MI (N n : Nat) (E : Nat → Nat → Prop) (p : Nat → Nat → Nat) (G : Nat → Prop) (lf : Nat → Int) (V : Nat → Nat) : Prop :=
  (∀ x, x < N → lf x = -9 ∨ (0 ≤ lf x ∧ lf x ≤ 1000)) ∧
  (∀ x, x < N → (lf x = 0 ↔ G x)) ∧
  (∀ x, x < N → 0 < lf x → ∃ t, t < n ∧ E x t ∧ lf (p x t) = lf x - 1) ∧
  (∀ x t, x < N → t < n → E x t → lf (p x t) ≠ -9 → lf x ≠ -9 ∧ lf x ≤ lf (p x t) + 1) ∧
  (∀ x, x < N → (lf x = -9 → V x = 0) ∧ (lf x = 0 → V x = 1) ∧ (0 < lf x → V x = sN n (fun t => iN (E x t ∧ lf (p x t) = lf x - 1) (V (p x t)))))
section Both
variable {N n s : Nat} {E : Nat → Nat → Prop} {p : Nat → Nat → Nat} {G : Nat → Prop} {lf : Nat → Int} {V : Nat → Nat} {r : Nat} {q par lt lev w : Nat → Nat}
/-- what is come to by one step -/
theorem BF.succ (h : BF N n s E p r q par lt lev w r 0) {a b : Nat} (ha : a < r) (hb : b < n) (hE : E (q a) b) : ∃ j, j < r ∧ q j = p (q a) b ∧ lev j ≤ lev a + 1 ∧ (j = 0 ∨ Lx (par j) (lt j) a (b + 1)) := by
  have hmono := h.lev_le
  obtain ⟨⟨b0, b1, b1'⟩, b2, b3, b4, b5, b6, b7⟩ := h
  obtain ⟨j, j1, j2, j3⟩ := b6 a b ha hb (Or.inl ha) hE
  refine ⟨j, j1, j2, ?_, j3⟩
  by_cases z : j = 0
  · subst z; omega
  · obtain ⟨c1, c2, c3, c4, c5, c6⟩ := b4 j (by omega) j1
    have : par j ≤ a := by rcases j3 with g | g | g <;> omega
    have := hmono a (par j) this ha
    omega
theorem tq1 (h : BF N n s E p r q par lt lev w r 0) (m : MI N n E p G lf V) : ∀ (k j : Nat), j < r → lf (q j) = k → ∃ g, g < r ∧ G (q g) ∧ lev g ≤ lev j + k := by
  intro k
  induction k with
  | zero =>
    intro j hj e
    exact ⟨j, hj, (m.2.1 _ (h.2.1 j hj)).mp e, by omega⟩
  | succ k ih =>
    intro j hj e
    obtain ⟨t, t1, t2, t3⟩ := m.2.2.1 _ (h.2.1 j hj) (by omega)
    obtain ⟨j', a1, a2, a3, -⟩ := h.succ hj t1 t2
    obtain ⟨g, g1, g2, g3⟩ := ih j' a1 (by rw [a2, t3, e]; omega)
    exact ⟨g, g1, g2, by omega⟩
/-- the way back from the end -/
def up (par : Nat → Nat) (e : Nat) : Nat → Nat
  | 0 => e
  | m + 1 => par (up par e m)
theorem up_ok (h : BF N n s E p r q par lt lev w r 0) {e : Nat} (he : e < r) : ∀ m, m ≤ lev e → up par e m < r ∧ lev (up par e m) = lev e - m := by
  obtain ⟨⟨b0, b1, b1'⟩, b2, b3, b4, b5, b6, b7⟩ := h
  intro m
  induction m with
  | zero => intro _; exact ⟨he, rfl⟩
  | succ m ih =>
    intro hm
    obtain ⟨i1, i2⟩ := ih (by omega)
    have z : 0 < up par e m := by
      by_cases z : up par e m = 0
      · rw [z, b1'] at i2; omega
      · omega
    obtain ⟨c1, c2, c3, c4, c5, c6⟩ := b4 _ z i1
    refine ⟨?_, ?_⟩
    · show par (up par e m) < r; omega
    · show lev (par (up par e m)) = _; omega
theorem up_pos (h : BF N n s E p r q par lt lev w r 0) {e : Nat} (he : e < r) {m : Nat} (hm : m < lev e) : 0 < up par e m := by
  obtain ⟨i1, i2⟩ := up_ok h he m (by omega)
  by_cases z : up par e m = 0
  · rw [z, h.1.2.2] at i2; omega
  · omega
theorem up_top (h : BF N n s E p r q par lt lev w r 0) {e : Nat} (he : e < r) : up par e (lev e) = 0 := by
  obtain ⟨i1, i2⟩ := up_ok h he (lev e) (Nat.le_refl _)
  by_cases z : up par e (lev e) = 0
  · exact z
  · have := (h.2.2.2.1 _ (by omega) i1).2.2.2.2.1
    omega
theorem tq2 (h : BF N n s E p r q par lt lev w r 0) (m : MI N n E p G lf V) {e : Nat} (he : e < r) (hG : G (q e)) : ∀ k : Nat, k ≤ lev e → lf (q (up par e k)) ≠ -9 ∧ lf (q (up par e k)) ≤ k := by
  intro k
  induction k with
  | zero =>
    intro _
    have : lf (q e) = 0 := (m.2.1 _ (h.2.1 e he)).mpr hG
    exact ⟨by show lf (q e) ≠ -9; omega, by show lf (q e) ≤ _; omega⟩
  | succ k ih =>
    intro hk
    obtain ⟨i1, i2⟩ := ih (by omega)
    obtain ⟨u1, u2⟩ := up_ok h he k (by omega)
    obtain ⟨v1, v2⟩ := up_ok h he (k + 1) hk
    obtain ⟨c1, c2, c3, c4, c5, c6⟩ := h.2.2.2.1 _ (up_pos h he (m := k) (by omega)) u1
    have e1 : p (q (up par e (k + 1))) (lt (up par e k)) = q (up par e k) := c4
    have := m.2.2.2.1 (q (up par e (k + 1))) (lt (up par e k)) (h.2.1 _ v1) c2 c3 (by rw [e1]; exact i1)
    rw [e1] at this
    exact ⟨this.1, by omega⟩
theorem tq3 (h : BF N n s E p r q par lt lev w r 0) (m : MI N n E p G lf V) {e : Nat} (hf : ∀ j, j < e → ¬ G (q j)) {j : Nat} (hj : j < r) (hl : lf (q j) ≠ -9) : (lev e : Int) ≤ lev j + lf (q j) := by
  have h0 : 0 ≤ lf (q j) := by rcases m.1 _ (h.2.1 j hj) with g | g <;> omega
  obtain ⟨k, hk⟩ : ∃ k : Nat, lf (q j) = k := ⟨(lf (q j)).toNat, by omega⟩
  obtain ⟨g, g1, g2, g3⟩ := tq1 h m k j hj hk
  have : e ≤ g := by
    by_cases c : g < e
    · exact absurd g2 (hf g c)
    · omega
  have := h.lev_le g e this g1
  omega
theorem tq4 (h : BF N n s E p r q par lt lev w r 0) (m : MI N n E p G lf V) {e : Nat} (he : e < r) (hG : G (q e)) (hf : ∀ j, j < e → ¬ G (q j)) {k : Nat} (hk : k ≤ lev e) : lf (q (up par e k)) = k := by
  obtain ⟨a1, a2⟩ := tq2 h m he hG k hk
  obtain ⟨u1, u2⟩ := up_ok h he k hk
  have := tq3 h m hf u1 a1
  omega
theorem tq4s (h : BF N n s E p r q par lt lev w r 0) (m : MI N n E p G lf V) {e : Nat} (he : e < r) (hG : G (q e)) (hf : ∀ j, j < e → ¬ G (q j)) : lf s = lev e := by
  have := tq4 h m he hG hf (Nat.le_refl (lev e))
  rw [up_top h he, h.1.2.1] at this
  exact this
theorem tq4n (h : BF N n s E p r q par lt lev w r 0) (m : MI N n E p G lf V) (hf : ∀ j, j < r → ¬ G (q j)) : lf s = -9 := by
  rcases m.1 _ (h.2.1 0 h.1.1) with g | g
  · rw [h.1.2.1] at g; exact g
  · obtain ⟨k, hk⟩ : ∃ k : Nat, lf (q 0) = k := ⟨(lf (q 0)).toNat, by omega⟩
    obtain ⟨g, g1, g2, g3⟩ := tq1 h m k 0 h.1.1 hk
    exact absurd g2 (hf g g1)
theorem par_lt (h : BF N n s E p r q par lt lev w r 0) {j k : Nat} (hj : j < r) (hk : k < r) (k0 : 0 < k) (hp : j = 0 ∨ Lx (par j) (lt j) (par k) (lt k)) : j < k := by
  by_cases c : j < k
  · exact c
  · exfalso
    rcases hp with z | z
    · omega
    · by_cases e : j = k
      · subst e; unfold Lx at z; omega
      · have := h.2.2.2.2.1 k j k0 (by omega) hj
        unfold Lx at this z
        omega
theorem tq6 (h : BF N n s E p r q par lt lev w r 0) (m : MI N n E p G lf V) {e : Nat} (he : e < r) (hf : ∀ j, j < e → ¬ G (q j)) : ∀ (k : Nat), k ≤ lev e → ∀ j, j < up par e k → lf (q j) ≠ k := by
  intro k
  induction k with
  | zero =>
    intro _ j hj e0
    have hj : j < e := hj
    exact hf j hj ((m.2.1 _ (h.2.1 j (by omega))).mp e0)
  | succ k ih =>
    intro hk j hj e0
    obtain ⟨u1, u2⟩ := up_ok h he k (by omega)
    obtain ⟨v1, v2⟩ := up_ok h he (k + 1) hk
    obtain ⟨t, t1, t2, t3⟩ := m.2.2.1 _ (h.2.1 j (by omega)) (by omega)
    obtain ⟨j', a1, a2, a3, a4⟩ := h.succ (show j < r by omega) t1 t2
    have hlt : j' < up par e k := by
      refine par_lt h a1 u1 (up_pos h he (by omega)) ?_
      rcases a4 with z | z
      · exact Or.inl z
      · right
        have hj : j < par (up par e k) := hj
        unfold Lx at z ⊢
        omega
    exact ih (by omega) j' hlt (by rw [a2, t3, e0]; omega)
/-- the first tank by which it is one less -/
theorem tq5 (h : BF N n s E p r q par lt lev w r 0) (m : MI N n E p G lf V) {e : Nat} (he : e < r) (hG : G (q e)) (hf : ∀ j, j < e → ¬ G (q j)) {k : Nat} (hk : k < lev e) : lt (up par e k) < n ∧ E (q (up par e (k + 1))) (lt (up par e k)) ∧ p (q (up par e (k + 1))) (lt (up par e k)) = q (up par e k) ∧ ∀ t, t < lt (up par e k) → ¬ (E (q (up par e (k + 1))) t ∧ lf (p (q (up par e (k + 1))) t) = k) := by
  obtain ⟨u1, u2⟩ := up_ok h he k (by omega)
  obtain ⟨v1, v2⟩ := up_ok h he (k + 1) hk
  obtain ⟨c1, c2, c3, c4, c5, c6⟩ := h.2.2.2.1 _ (up_pos h he hk) u1
  refine ⟨c2, c3, c4, fun t ht ⟨g1, g2⟩ => ?_⟩
  obtain ⟨j, a1, a2, a3, a4⟩ := h.succ v1 (show t < n by omega) g1
  have hlt : j < up par e k := by
    refine par_lt h a1 u1 (up_pos h he hk) ?_
    rcases a4 with z | z
    · exact Or.inl z
    · right
      have z : Lx (par j) (lt j) (par (up par e k)) (t + 1) := z
      unfold Lx at z ⊢
      omega
  exact tq6 h m he hf k (by omega) j hlt (by rw [a2]; exact g2)
/-- level by level, ways to it and ways from it -/
noncomputable def AL (r N : Nat) (lf : Nat → Int) (V q lev w : Nat → Nat) (L d : Nat) : Nat := sN N (fun j => iN (j < r ∧ lev j = d ∧ lf (q j) = (L : Int) - d) (w j * V (q j)))
theorem AL_step (h : BF N n s E p r q par lt lev w r 0) (m : MI N n E p G lf V) (hrN : r ≤ N) {e : Nat} (hf : ∀ j, j < e → ¬ G (q j)) {d : Nat} (hd : d < lev e) : AL r N lf V q lev w (lev e) (d + 1) = AL r N lf V q lev w (lev e) d := by
  have e1 : AL r N lf V q lev w (lev e) (d + 1) = sN N (fun j => sN N (fun a => sN n (fun b => iN (j < r ∧ lev j = d + 1 ∧ lf (q j) = (lev e : Int) - (d + 1 : Nat) ∧ a < r ∧ E (q a) b ∧ p (q a) b = q j ∧ lev j = lev a + 1) (w a * V (q j))))) := by
    refine sN_congr (fun j hj => ?_)
    by_cases c : j < r ∧ lev j = d + 1 ∧ lf (q j) = (lev e : Int) - (d + 1 : Nat)
    · have j0 : ¬ j = 0 := fun z => by
        have := c.2.1
        rw [z, h.1.2.2] at this
        omega
      rw [iN_t c, h.2.2.2.2.2.2 j c.1, iN_f j0, Nat.zero_add, ← sN_mulr]
      refine sN_congr (fun a _ => ?_)
      rw [← sN_mulr]
      refine sN_congr (fun b _ => ?_)
      by_cases c2 : a < r ∧ Lx a b r 0 ∧ E (q a) b ∧ p (q a) b = q j ∧ lev j = lev a + 1
      · rw [iN_t c2, iN_t ⟨c.1, c.2.1, c.2.2, c2.1, c2.2.2.1, c2.2.2.2.1, c2.2.2.2.2⟩]
      · rw [iN_f c2, Nat.zero_mul, iN_f (fun g => c2 ⟨g.2.2.2.1, Or.inl g.2.2.2.1, g.2.2.2.2.1, g.2.2.2.2.2.1, g.2.2.2.2.2.2⟩)]
    · rw [iN_f c, sN_zero (fun a _ => sN_zero (fun b _ => iN_f (fun g => c ⟨g.1, g.2.1, g.2.2.1⟩) _))]
  rw [e1, sN_swap]
  refine sN_congr (fun a ha => ?_)
  rw [sN_swap]
  have inner : ∀ b, b < n → sN N (fun j => iN (j < r ∧ lev j = d + 1 ∧ lf (q j) = (lev e : Int) - (d + 1 : Nat) ∧ a < r ∧ E (q a) b ∧ p (q a) b = q j ∧ lev j = lev a + 1) (w a * V (q j))) = iN (a < r ∧ lev a = d ∧ E (q a) b ∧ lf (p (q a) b) = (lev e : Int) - (d + 1 : Nat)) (w a * V (p (q a) b)) := by
    intro b hb
    by_cases c : a < r ∧ lev a = d ∧ E (q a) b ∧ lf (p (q a) b) = (lev e : Int) - (d + 1 : Nat)
    · obtain ⟨c1, c2, c3, c4⟩ := c
      obtain ⟨j, a1, a2, a3, a4⟩ := h.succ c1 hb c3
      have t3 := tq3 h m hf a1 (by rw [a2]; omega)
      rw [a2] at t3
      rw [iN_t ⟨c1, c2, c3, c4⟩, sN_one (c := j) (by omega) (fun k hk hne => iN_f (fun g => ?_) _), iN_t ⟨a1, by omega, by rw [a2]; exact c4, c1, c3, a2.symm, by omega⟩, a2]
      exact hne (h.2.2.1 k j g.1 a1 (g.2.2.2.2.2.1.symm.trans a2.symm))
    · rw [iN_f c, sN_zero (fun j _ => iN_f (fun g => c ⟨g.2.2.2.1, by omega, g.2.2.2.2.1, by rw [g.2.2.2.2.2.1]; exact g.2.2.1⟩) _)]
  rw [sN_congr inner]
  by_cases c : a < r ∧ lev a = d ∧ lf (q a) = (lev e : Int) - d
  · obtain ⟨c1, c2, c3⟩ := c
    have hv := (m.2.2.2.2 (q a) (h.2.1 a c1)).2.2 (by omega)
    rw [iN_t ⟨c1, c2, c3⟩, hv, ← sN_mul]
    refine sN_congr (fun b hb => ?_)
    by_cases c4 : E (q a) b ∧ lf (p (q a) b) = lf (q a) - 1
    · rw [iN_t c4, iN_t ⟨c1, c2, c4.1, by have := c4.2; omega⟩]
    · rw [iN_f c4, iN_f (fun g => c4 ⟨g.2.2.1, by have := g.2.2.2; omega⟩), Nat.mul_zero]
  · rw [iN_f c, sN_zero (fun b hb => iN_f (fun g => c ?_) _)]
    obtain ⟨g1, g2, g3, g4⟩ := g
    have m4 := m.2.2.2.1 (q a) b (h.2.1 a g1) hb g3 (by omega)
    have t3 := tq3 h m hf g1 m4.1
    exact ⟨g1, g2, by omega⟩
theorem AL_all (h : BF N n s E p r q par lt lev w r 0) (m : MI N n E p G lf V) (hrN : r ≤ N) {e : Nat} (he : e < r) (hG : G (q e)) (hf : ∀ j, j < e → ¬ G (q j)) : sN N (fun j => iN (j < r ∧ lev j = lev e ∧ G (q j)) (w j)) = V s := by
  have e1 : ∀ d, d ≤ lev e → AL r N lf V q lev w (lev e) d = AL r N lf V q lev w (lev e) 0 := by
    intro d
    induction d with
    | zero => intro _; rfl
    | succ d ih => intro hd; rw [AL_step h m hrN hf hd, ih (by omega)]
  have a0 : AL r N lf V q lev w (lev e) 0 = V s := by
    unfold AL
    have hs := tq4s h m he hG hf
    have w0 : w 0 = 1 := by
      rw [h.2.2.2.2.2.2 0 h.1.1, iN_t rfl, sN_zero (fun a _ => sN_zero (fun b _ => iN_f (fun g => ?_) _))]
      have := g.2.2.2.2
      rw [h.1.2.2] at this
      omega
    rw [sN_one (c := 0) (by omega) (fun j hj hne => iN_f (fun g => ?_) _), iN_t ⟨h.1.1, h.1.2.2, by rw [h.1.2.1]; omega⟩, w0, Nat.one_mul, h.1.2.1]
    have := (h.2.2.2.1 j (by omega) g.1).2.2.2.2.1
    omega
  rw [← a0, ← e1 (lev e) (Nat.le_refl _)]
  refine sN_congr (fun j hj => ?_)
  by_cases c : j < r ∧ lev j = lev e ∧ G (q j)
  · have l0 := (m.2.1 (q j) (h.2.1 j c.1)).mpr c.2.2
    rw [iN_t c, iN_t ⟨c.1, c.2.1, by omega⟩, (m.2.2.2.2 (q j) (h.2.1 j c.1)).2.1 l0, Nat.mul_one]
  · rw [iN_f c, iN_f (fun g => c ⟨g.1, g.2.1, (m.2.1 (q j) (h.2.1 j g.1)).mp (by omega)⟩)]
/-- a set with the start in it, that is closed, and in which all can be come to -/
theorem seen_all (h : BF N n s E p r q par lt lev w r 0) {Z : Nat → Prop} (z1 : Z s) (z2 : ∀ x t, x < N → t < n → Z x → E x t → Z (p x t)) (z3 : ∀ x, x < N → Z x → ∃ j, j < r ∧ q j = x) : cnP Z N = r := by
  have e : cnP Z N = cnP (fun x => ∃ j, j < r ∧ q j = x) N := by
    refine cnP_congr (fun x hx => ⟨z3 x hx, ?_⟩)
    rintro ⟨j, hj, rfl⟩
    induction j using Nat.strongRecOn with
    | ind j ih =>
      by_cases c : j = 0
      · rw [c, h.1.2.1]; exact z1
      · obtain ⟨c1, c2, c3, c4, c5, c6⟩ := h.2.2.2.1 j (by omega) hj
        rw [← c4]
        exact z2 _ _ (h.2.1 _ (by omega)) c2 (ih (par j) c1 (by omega) (h.2.1 _ (by omega))) c3
  rw [e]
  exact inj_count r h.2.1 h.2.2.1
theorem BF.rN {i t : Nat} (h : BF N n s E p r q par lt lev w i t) : r ≤ N := by
  have := inj_count (q := q) (N := N) r h.2.1 h.2.2.1
  rw [← this]
  exact cnP_le _ _
theorem BF.rN1 {i t : Nat} (h : BF N n s E p r q par lt lev w i t) {x : Nat} (hx : x < N) (hnew : ∀ j, j < r → q j ≠ x) : r < N := by
  have e := inj_count (q := q) (N := N) r h.2.1 h.2.2.1
  have e2 := cnP_ins (P := fun x => ∃ j, j < r ∧ q j = x) (c := x) (fun ⟨j, h1, h2⟩ => hnew j h1 h2) hx
  have := cnP_le (fun y => (∃ j, j < r ∧ q j = y) ∨ y = x) N
  omega
end Both
