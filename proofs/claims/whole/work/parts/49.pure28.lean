/-! PURE PART 28: sums, counts -/
def sN : Nat → (Nat → Nat) → Nat
  | 0, _ => 0
  | n + 1, f => sN n f + f n
theorem sN_congr {n : Nat} {f g : Nat → Nat} (h : ∀ i, i < n → f i = g i) : sN n f = sN n g := by
  induction n with
  | zero => rfl
  | succ n ih => rw [sN, sN, ih (fun i hi => h i (by omega)), h n (by omega)]
theorem sN_zero {n : Nat} {f : Nat → Nat} (h : ∀ i, i < n → f i = 0) : sN n f = 0 := by
  induction n with
  | zero => rfl
  | succ n ih => rw [sN, ih (fun i hi => h i (by omega)), h n (by omega)]
theorem sN_add (n : Nat) (f g : Nat → Nat) : sN n (fun i => f i + g i) = sN n f + sN n g := by
  induction n with
  | zero => rfl
  | succ n ih => rw [sN, sN, sN, ih]; omega
theorem sN_mul (n c : Nat) (f : Nat → Nat) : sN n (fun i => c * f i) = c * sN n f := by
  induction n with
  | zero => rfl
  | succ n ih => rw [sN, sN, ih, Nat.mul_add]
theorem sN_mulr (n c : Nat) (f : Nat → Nat) : sN n (fun i => f i * c) = sN n f * c := by
  induction n with
  | zero => simp [sN]
  | succ n ih => rw [sN, sN, ih, Nat.add_mul]
theorem sN_swap (n m : Nat) (f : Nat → Nat → Nat) : sN n (fun i => sN m (fun j => f i j)) = sN m (fun j => sN n (fun i => f i j)) := by
  induction n with
  | zero => rw [sN]; exact (sN_zero (fun j _ => rfl)).symm
  | succ n ih =>
    rw [sN, ih, ← sN_add]
    exact sN_congr (fun j _ => rfl)
theorem sN_one {n c : Nat} {f : Nat → Nat} (h : c < n) (hz : ∀ i, i < n → i ≠ c → f i = 0) : sN n f = f c := by
  induction n with
  | zero => omega
  | succ n ih =>
    rw [sN]
    by_cases e : c = n
    · subst e
      rw [sN_zero (fun i hi => hz i (by omega) (by omega)), Nat.zero_add]
    · rw [ih (by omega) (fun i hi => hz i (by omega)), hz n (by omega) (by omega), Nat.add_zero]
noncomputable def iN (p : Prop) (v : Nat) : Nat := @ite Nat p (Classical.propDecidable p) v 0
theorem iN_t {p : Prop} (h : p) (v : Nat) : iN p v = v := by unfold iN; exact if_pos h
theorem iN_f {p : Prop} (h : ¬ p) (v : Nat) : iN p v = 0 := by unfold iN; exact if_neg h
theorem iN_congr {p q : Prop} {u v : Nat} (h : p ↔ q) (e : p → u = v) : iN p u = iN q v := by
  by_cases hp : p
  · rw [iN_t hp, iN_t (h.mp hp), e hp]
  · rw [iN_f hp, iN_f (fun g => hp (h.mpr g))]
/-- a double sum with one point more -/
theorem sN_pt {N n a b : Nat} (ha : a < N) (hb : b < n) (f g : Nat → Nat → Nat) (c : Nat) (h : ∀ i j, i < N → j < n → ¬ (i = a ∧ j = b) → g i j = f i j) (h2 : g a b = f a b + c) : sN N (fun i => sN n (fun j => g i j)) = sN N (fun i => sN n (fun j => f i j)) + c := by
  have e : ∀ i, i < N → sN n (fun j => g i j) = sN n (fun j => f i j) + (if i = a then c else 0) := by
    intro i hi
    by_cases ei : i = a
    · subst ei
      rw [if_pos rfl]
      have : sN n (fun j => g i j) = sN n (fun j => f i j + (if j = b then c else 0)) := by
        refine sN_congr (fun j hj => ?_)
        by_cases ej : j = b
        · subst ej; rw [if_pos rfl]; exact h2
        · rw [if_neg ej, Nat.add_zero]; exact h i j hi hj (fun q => ej q.2)
      rw [this, sN_add, sN_one (c := b) (f := fun j => if j = b then c else 0) hb (fun k _ hk => if_neg hk), if_pos rfl]
    · rw [if_neg ei, Nat.add_zero]
      exact sN_congr (fun j hj => h i j hi hj (fun q => ei q.1))
  rw [sN_congr e, sN_add, sN_one (c := a) (f := fun i => if i = a then c else 0) ha (fun k _ hk => if_neg hk), if_pos rfl]
theorem cnP_ins {P : Nat → Prop} {c : Nat} (hP : ¬ P c) : ∀ {N : Nat}, c < N → cnP (fun x => P x ∨ x = c) N = cnP P N + 1 := by
  intro N
  induction N with
  | zero => intro h; omega
  | succ N ih =>
    intro h
    by_cases e : c = N
    · subst e
      have e1 : cnP (fun x => P x ∨ x = c) c = cnP P c := cnP_congr (fun i hi => ⟨fun q => q.elim id (fun q => by omega), Or.inl⟩)
      rw [cnP_t (P := fun x => P x ∨ x = c) (Or.inr rfl), e1, cnP_f hP]
    · have e1 := ih (by omega)
      by_cases hN : P N
      · rw [cnP_t (P := fun x => P x ∨ x = c) (Or.inl hN), cnP_t hN, e1]
      · rw [cnP_f (P := fun x => P x ∨ x = c) (fun q => q.elim hN (fun q => e q.symm)), cnP_f hN, e1]
theorem inj_count {q : Nat → Nat} {N : Nat} : ∀ (r : Nat), (∀ j, j < r → q j < N) → (∀ j k, j < r → k < r → q j = q k → j = k) → cnP (fun x => ∃ j, j < r ∧ q j = x) N = r := by
  intro r
  induction r with
  | zero =>
    intro _ _
    have : ∀ N, cnP (fun x => ∃ j, j < 0 ∧ q j = x) N = 0 := by
      intro N
      induction N with
      | zero => rfl
      | succ N ih => rw [cnP_f (P := fun x => ∃ j, j < 0 ∧ q j = x) (fun ⟨j, h, _⟩ => by omega), ih]
    exact this N
  | succ r ih =>
    intro h1 h2
    have e := ih (fun j hj => h1 j (by omega)) (fun j k hj hk => h2 j k (by omega) (by omega))
    have hn : ¬ (fun x => ∃ j, j < r ∧ q j = x) (q r) := fun ⟨j, h, g⟩ => by
      have := h2 j r (by omega) (by omega) g
      omega
    rw [cnP_congr (Q := fun x => (fun x => ∃ j, j < r ∧ q j = x) x ∨ x = q r) (fun x _ => ?_), cnP_ins hn (h1 r (by omega)), e]
    constructor
    · intro ⟨j, h, g⟩
      by_cases ej : j = r
      · subst ej; exact Or.inr g.symm
      · exact Or.inl ⟨j, by omega, g⟩
    · intro q
      rcases q with ⟨j, h, g⟩ | g
      · exact ⟨j, by omega, g⟩
      · exact ⟨r, by omega, g.symm⟩
/-- pairs in the order of the search -/
def Lx (a b i t : Nat) : Prop := a < i ∨ (a = i ∧ b < t)
def BF (N n s : Nat) (E : Nat → Nat → Prop) (p : Nat → Nat → Nat) (r : Nat) (q par lt lev w : Nat → Nat) (i t : Nat) : Prop :=
  (0 < r ∧ q 0 = s ∧ lev 0 = 0) ∧
  (∀ j, j < r → q j < N) ∧
  (∀ j k, j < r → k < r → q j = q k → j = k) ∧
  (∀ j, 0 < j → j < r → par j < j ∧ lt j < n ∧ E (q (par j)) (lt j) ∧ p (q (par j)) (lt j) = q j ∧ lev j = lev (par j) + 1 ∧ Lx (par j) (lt j) i t) ∧
  (∀ j k, 0 < j → j < k → k < r → Lx (par j) (lt j) (par k) (lt k)) ∧
  (∀ a b, a < r → b < n → Lx a b i t → E (q a) b → ∃ j, j < r ∧ q j = p (q a) b ∧ (j = 0 ∨ Lx (par j) (lt j) a (b + 1))) ∧
  (∀ j, j < r → w j = iN (j = 0) 1 + sN N (fun a => sN n (fun b => iN (a < r ∧ Lx a b i t ∧ E (q a) b ∧ p (q a) b = q j ∧ lev j = lev a + 1) (w a))))
section BFS
variable {N n s : Nat} {E : Nat → Nat → Prop} {p : Nat → Nat → Nat} {r : Nat} {q par lt lev w : Nat → Nat} {i t : Nat}
theorem BF.lev_le (h : BF N n s E p r q par lt lev w i t) : ∀ (k j : Nat), j ≤ k → k < r → lev j ≤ lev k := by
  obtain ⟨⟨b1, b2, b3⟩, -, -, b4, b5, -, -⟩ := h
  intro k
  induction k using Nat.strongRecOn with
  | ind k ih =>
    intro j hj hk
    by_cases e0 : j = 0
    · subst e0; omega
    · by_cases ek : j = k
      · subst ek; omega
      · obtain ⟨c1, -, -, -, c2, -⟩ := b4 j (by omega) (by omega)
        obtain ⟨d1, -, -, -, d2, -⟩ := b4 k (by omega) hk
        have hl : par j ≤ par k := by
          rcases b5 j k (by omega) (by omega) hk with g | g <;> omega
        have := ih (par k) d1 (par j) hl (by omega)
        omega
theorem BF.start (hs : s < N) : BF N n s E p 1 (fun _ => s) (fun _ => 0) (fun _ => 0) (fun _ => 0) (fun _ => 1) 0 0 := by
  refine ⟨⟨by omega, rfl, rfl⟩, fun j _ => hs, fun j k h1 h2 _ => by omega, fun j h1 h2 => by omega, fun j k h1 h2 h3 => by omega, fun a b h1 h2 h3 => ?_, fun j hj => ?_⟩
  · rcases h3 with g | g <;> omega
  · rw [iN_t (by omega), sN_zero (fun a _ => sN_zero (fun b _ => iN_f (fun g => ?_) _))]
    rcases g.2.1 with g | g <;> omega
/-- a round of the search ends -/
theorem BF.next (h : BF N n s E p r q par lt lev w i n) : BF N n s E p r q par lt lev w (i + 1) 0 := by
  obtain ⟨b1, b2, b3, b4, b5, b6, b7⟩ := h
  refine ⟨b1, b2, b3, fun j h1 h2 => ?_, b5, fun a b h1 h2 h3 h4 => ?_, fun j hj => ?_⟩
  · obtain ⟨c1, c2, c3, c4, c5, c6⟩ := b4 j h1 h2
    refine ⟨c1, c2, c3, c4, c5, ?_⟩
    rcases c6 with g | g
    · exact Or.inl (by omega)
    · exact Or.inl (by omega)
  · refine b6 a b h1 h2 ?_ h4
    rcases h3 with g | g
    · by_cases e : a = i
      · exact Or.inr ⟨e, h2⟩
      · exact Or.inl (by omega)
    · omega
  · rw [b7 j hj]
    refine congrArg (iN (j = 0) 1 + ·) ?_
    refine sN_congr (fun a ha => sN_congr (fun b hb => iN_congr ?_ (fun _ => rfl)))
    have : Lx a b i n ↔ Lx a b (i + 1) 0 := by unfold Lx; omega
    rw [this]
/-- a tank that can't be pumped -/
theorem BF.skip (h : BF N n s E p r q par lt lev w i t) (hE : ¬ E (q i) t) : BF N n s E p r q par lt lev w i (t + 1) := by
  obtain ⟨b1, b2, b3, b4, b5, b6, b7⟩ := h
  refine ⟨b1, b2, b3, fun j h1 h2 => ?_, b5, fun a b h1 h2 h3 h4 => ?_, fun j hj => ?_⟩
  · obtain ⟨c1, c2, c3, c4, c5, c6⟩ := b4 j h1 h2
    exact ⟨c1, c2, c3, c4, c5, by unfold Lx at c6 ⊢; omega⟩
  · refine b6 a b h1 h2 ?_ h4
    by_cases e : a = i ∧ b = t
    · rw [e.1, e.2] at h4; exact absurd h4 hE
    · unfold Lx at h3 ⊢; omega
  · rw [b7 j hj]
    refine congrArg (iN (j = 0) 1 + ·) ?_
    refine sN_congr (fun a ha => sN_congr (fun b hb => iN_congr ?_ (fun _ => rfl)))
    by_cases e : a = i ∧ b = t
    · rw [e.1, e.2]
      constructor
      · intro g; exact absurd g.2.2.1 hE
      · intro g; exact absurd g.2.2.1 hE
    · have : Lx a b i t ↔ Lx a b i (t + 1) := by unfold Lx; omega
      rw [this]
/-- a tank whose pumping leads to what is known -/
theorem BF.old (h : BF N n s E p r q par lt lev w i t) (hi : i < r) (hi7 : i < N) (ht : t < n) (hE : E (q i) t) {j0 : Nat} (hj0 : j0 < r) (e0 : q j0 = p (q i) t) : BF N n s E p r q par lt lev (fun j => if j = j0 ∧ lev j0 = lev i + 1 then w j + w i else w j) i (t + 1) := by
  have hmono := h.lev_le
  obtain ⟨b1, b2, b3, b4, b5, b6, b7⟩ := h
  refine ⟨b1, b2, b3, fun j h1 h2 => ?_, b5, fun a b h1 h2 h3 h4 => ?_, fun j hj => ?_⟩
  · obtain ⟨c1, c2, c3, c4, c5, c6⟩ := b4 j h1 h2
    exact ⟨c1, c2, c3, c4, c5, by unfold Lx at c6 ⊢; omega⟩
  · by_cases e : a = i ∧ b = t
    · obtain ⟨rfl, rfl⟩ := e
      refine ⟨j0, hj0, e0, ?_⟩
      by_cases z : j0 = 0
      · exact Or.inl z
      · obtain ⟨c1, c2, c3, c4, c5, c6⟩ := b4 j0 (by omega) hj0
        exact Or.inr (by unfold Lx at c6 ⊢; omega)
    · exact b6 a b h1 h2 (by unfold Lx at h3 ⊢; omega) h4
  · have wsame : ∀ a, a ≤ i → (if a = j0 ∧ lev j0 = lev i + 1 then w a + w i else w a) = w a := by
      intro a ha
      rw [if_neg]
      rintro ⟨rfl, g⟩
      have := hmono i a ha hi
      omega
    have hC : ∀ (x : Nat), sN N (fun a => sN n (fun b => iN (a < r ∧ Lx a b i (t + 1) ∧ E (q a) b ∧ p (q a) b = q j ∧ lev j = lev a + 1) (if a = j0 ∧ lev j0 = lev i + 1 then w a + w i else w a))) = sN N (fun a => sN n (fun b => iN (a < r ∧ Lx a b i t ∧ E (q a) b ∧ p (q a) b = q j ∧ lev j = lev a + 1) (w a))) + iN (q j0 = q j ∧ lev j = lev i + 1) (w i) := by
      intro x
      refine sN_pt (a := i) (b := t) hi7 ht _ _ _ (fun a b ha hb hne => ?_) ?_
      · have : Lx a b i (t + 1) ↔ Lx a b i t := by unfold Lx; omega
        rw [this]
        refine iN_congr Iff.rfl (fun g => wsame a ?_)
        rcases g.2.1 with g | g <;> omega
      · rw [wsame i (Nat.le_refl i), iN_f (p := i < r ∧ Lx i t i t ∧ _) (fun g => by have := g.2.1; unfold Lx at this; omega), Nat.zero_add]
        refine iN_congr ?_ (fun _ => rfl)
        rw [e0]
        constructor
        · intro g; exact ⟨g.2.2.2.1, g.2.2.2.2⟩
        · intro g; exact ⟨hi, Or.inr ⟨rfl, by omega⟩, hE, g.1, g.2⟩
    rw [hC 0, ← Nat.add_assoc, ← b7 j hj]
    dsimp only
    by_cases c : j = j0 ∧ lev j0 = lev i + 1
    · rw [if_pos c, iN_t]
      rw [c.1]; exact ⟨rfl, c.2⟩
    · rw [if_neg c, iN_f, Nat.add_zero]
      intro g
      have := b3 j0 j hj0 hj g.1
      subst this
      exact c ⟨rfl, g.2⟩
/-- a tank whose pumping leads to what is new -/
theorem BF.new (h : BF N n s E p r q par lt lev w i t) (hi : i < r) (hi7 : i < N) (ht : t < n) (hE : E (q i) t) (hp : p (q i) t < N) (hnew : ∀ j, j < r → q j ≠ p (q i) t) : BF N n s E p (r + 1) (fun j => if j = r then p (q i) t else q j) (fun j => if j = r then i else par j) (fun j => if j = r then t else lt j) (fun j => if j = r then lev i + 1 else lev j) (fun j => if j = r then w i else w j) i (t + 1) := by
  have hmono := h.lev_le
  obtain ⟨⟨b0, b1, b1'⟩, b2, b3, b4, b5, b6, b7⟩ := h
  refine ⟨⟨by omega, ?_, ?_⟩, fun j hj => ?_, fun j k hj hk e => ?_, fun j h1 h2 => ?_, fun j k h1 h2 h3 => ?_, fun a b h1 h2 h3 h4 => ?_, fun j hj => ?_⟩
  · dsimp only; rw [if_neg (by omega)]; exact b1
  · dsimp only; rw [if_neg (by omega)]; exact b1'
  · dsimp only
    by_cases c : j = r
    · rw [if_pos c]; exact hp
    · rw [if_neg c]; exact b2 j (by omega)
  · dsimp only at e
    by_cases c : j = r
    · by_cases d : k = r
      · omega
      · rw [if_pos c, if_neg d] at e; exact absurd e.symm (hnew k (by omega))
    · by_cases d : k = r
      · rw [if_neg c, if_pos d] at e; exact absurd e (hnew j (by omega))
      · rw [if_neg c, if_neg d] at e; exact b3 j k (by omega) (by omega) e
  · dsimp only
    by_cases c : j = r
    · subst c
      simp only [if_pos]
      rw [if_neg (show ¬ i = j by omega), if_neg (show ¬ i = j by omega)]
      exact ⟨hi, ht, hE, rfl, rfl, Or.inr ⟨rfl, by omega⟩⟩
    · obtain ⟨c1, c2, c3, c4, c5, c6⟩ := b4 j h1 (by omega)
      simp only [if_neg c]
      rw [if_neg (show ¬ par j = r by omega), if_neg (show ¬ par j = r by omega)]
      exact ⟨c1, c2, c3, c4, c5, by unfold Lx at c6 ⊢; omega⟩
  · dsimp only
    have cj : ¬ j = r := by omega
    simp only [if_neg cj]
    by_cases d : k = r
    · simp only [if_pos d]
      exact (b4 j h1 (by omega)).2.2.2.2.2
    · simp only [if_neg d]
      exact b5 j k h1 h2 (by omega)
  · dsimp only at h4 ⊢
    have ca : ¬ a = r := by rcases h3 with g | g <;> omega
    rw [if_neg ca] at h4
    simp only [if_neg ca]
    by_cases e : a = i ∧ b = t
    · obtain ⟨rfl, rfl⟩ := e
      exact ⟨r, by omega, if_pos rfl, Or.inr (by rw [if_pos rfl, if_pos rfl]; exact Or.inr ⟨rfl, by omega⟩)⟩
    · obtain ⟨j, j1, j2, j3⟩ := b6 a b (by omega) h2 (by unfold Lx at h3 ⊢; omega) h4
      have cj : ¬ j = r := by omega
      exact ⟨j, by omega, by rw [if_neg cj]; exact j2, by rw [if_neg cj, if_neg cj]; exact j3⟩
  · dsimp only
    by_cases c : j = r
    · subst c
      rw [if_pos rfl, iN_f (by omega), Nat.zero_add]
      have : sN N (fun a => sN n (fun b => iN (a < j + 1 ∧ Lx a b i (t + 1) ∧ E (if a = j then p (q i) t else q a) b ∧ p (if a = j then p (q i) t else q a) b = (if j = j then p (q i) t else q j) ∧ (if j = j then lev i + 1 else lev j) = (if a = j then lev i + 1 else lev a) + 1) (if a = j then w i else w a))) = sN N (fun a => sN n (fun b => 0)) + w i := by
        refine sN_pt (a := i) (b := t) hi7 ht _ _ _ (fun a b ha hb hne => ?_) ?_
        · refine iN_f (fun g => ?_) _
          obtain ⟨g1, g2, g3, g4, g5⟩ := g
          have ca : ¬ a = j := by rcases g2 with g | g <;> omega
          rw [if_neg ca] at g3 g4
          rw [if_pos rfl] at g4
          obtain ⟨k, k1, k2, -⟩ := b6 a b (by omega) hb (by unfold Lx at g2 ⊢; omega) g3
          exact hnew k k1 (k2.trans g4)
        · have ci : ¬ i = j := by omega
          simp only [if_neg ci, if_pos]
          rw [Nat.zero_add, iN_t]
          exact ⟨by omega, Or.inr ⟨rfl, by omega⟩, hE, trivial, trivial⟩
      rw [this, sN_zero (fun a _ => sN_zero (fun b _ => rfl)), Nat.zero_add]
    · rw [if_neg c, b7 j (by omega)]
      refine congrArg (iN (j = 0) 1 + ·) ?_
      refine sN_congr (fun a ha => sN_congr (fun b hb => ?_))
      by_cases ca : a = r
      · subst ca
        rw [iN_f (fun g => by omega), iN_f (fun g => by rcases g.2.1 with g | g <;> omega)]
      · simp only [if_neg ca, if_neg c]
        refine iN_congr ?_ (fun _ => rfl)
        by_cases e : a = i ∧ b = t
        · obtain ⟨rfl, rfl⟩ := e
          constructor
          · intro g; have := g.2.1; unfold Lx at this; omega
          · intro g; exact absurd g.2.2.2.1.symm (hnew j (by omega))
        · have : Lx a b i t ↔ Lx a b i (t + 1) := by unfold Lx; omega
          rw [this]
          have e2 : a < r ↔ a < r + 1 := by omega
          rw [e2]
end BFS
