/-! PURE PART 11: the reference's weighing -/
def WmS (σ : Sg) (n : Nat) (g : Nat → Int) (k : Nat) (S : MS) : MS := (fun j f => if j = 0 ∧ f = 25 then iI (trG σ n g) else if j = 0 ∧ f = 26 then iI (heG σ n g) else if j = 0 ∧ f = 27 then iI (bdG σ n g k) else if j = 15 ∧ f < 7 then iI (7 * frG σ n g f) else if j = 16 ∧ f < k then iI (moG σ n g (f + 1)) else S.1 j f, S.2)
theorem WmS_at (σ : Sg) (n : Nat) (g : Nat → Int) (k : Nat) (S : MS) (j f : Nat) : (WmS σ n g k S).1 j f = if j = 0 ∧ f = 25 then iI (trG σ n g) else if j = 0 ∧ f = 26 then iI (heG σ n g) else if j = 0 ∧ f = 27 then iI (bdG σ n g k) else if j = 15 ∧ f < 7 then iI (7 * frG σ n g f) else if j = 16 ∧ f < k then iI (moG σ n g (f + 1)) else S.1 j f := rfl
theorem WmS_cell {j : Nat} (σ : Sg) (n : Nat) (g : Nat → Int) (k : Nat) (S : MS) (h0 : j ≠ 0) (h15 : j ≠ 15) (h16 : j ≠ 16) : (WmS σ n g k S).1 j = S.1 j := by
  funext f
  rw [WmS_at, if_neg (by omega), if_neg (by omega), if_neg (by omega), if_neg (by omega), if_neg (by omega)]
theorem WmS_0 {f : Nat} (σ : Sg) (n : Nat) (g : Nat → Int) (k : Nat) (S : MS) (h : f < 25 ∨ 27 < f) : (WmS σ n g k S).1 0 f = S.1 0 f := by
  rw [WmS_at, if_neg (by omega), if_neg (by omega), if_neg (by omega), if_neg (by omega), if_neg (by omega)]
theorem WmS_Sh {σ τ : Sg} {n k : Nat} {g : Nat → Int} {S : MS} (h : ShM σ S) : ShM σ (WmS τ n g k S) := ShM_of h ⟨WmS_0 _ _ _ _ _ (by omega), WmS_0 _ _ _ _ _ (by omega), WmS_0 _ _ _ _ _ (by omega)⟩ (fun j hj => WmS_cell _ _ _ _ _ (by omega) (by omega) (by omega))
theorem WmS_ag {σ : Sg} {n k : Nat} {g : Nat → Int} {S : MS} : AgM S (WmS σ n g k S) := ⟨fun j hj => WmS_cell _ _ _ _ _ (by omega) (by omega) (by omega), rfl⟩
theorem f6_weightOf_eq {α : Type} {σ : Sg} (h : Gd σ) {t : Nat} (ht : t < σ 0 0) {S : MS} (hS : ShM σ S) (K : Int32 → MS → Option α) : f6_weightOf (iI t) S K = K (iI (wtN σ t)) S := by
  obtain ⟨h1, h2, h3, h4, h5⟩ := h.2.2.2.2.2 t ht
  obtain ⟨m1, m2, m3, m4⟩ := hS.2.2.2.2.2.1 t ht
  have hn6 := h.1
  unfold f6_weightOf wtN
  simp only [ck_nat (show t < 6 by omega) (show 6 ≤ 1000 by omega), m1, m4, iI_add]
  rcases (show σ 2 t = 0 ∨ σ 2 t = 1 ∨ σ 2 t = 2 by omega) with e | e | e
  · rw [e]; rfl
  · rw [e]; show K (iI (σ 5 t) + 1) S = _; rw [show (1 : Int32) = iI 1 from rfl, iI_add]; rfl
  · rw [e]; show K (iI ((σ 5 t : Int) + σ 5 t)) S = _
    congr 2
    simp
    omega
theorem wm_clear {α : Type} (σ : Sg) (g : Nat → Int) (a b c : Int32) (S : MS) (KX : Int32 → MS → Option α) : f6_weigh_L20 a b c KX FU (iI 0) (sI (sI (sI S 0 25 (iI 0)) 0 26 (iI 0)) 0 27 (iI 0)) = KX (iI 7) (WmS σ 0 g 0 S) := by
  have h := loop_eq (σ := Int32 × MS) (L := fun fuel s => f6_weigh_L20 a b c KX fuel s.1 s.2) (KX := fun s => KX s.1 s.2) 7 (fun i => (iI i, rfS 15 0 i (iI 0) (sI (sI (sI S 0 25 (iI 0)) 0 26 (iI 0)) 0 27 (iI 0))))
    (by
      intro fuel i hi
      show f6_weigh_L20 a b c KX (fuel + 1) (iI i) _ = f6_weigh_L20 a b c KX fuel (iI (i + 1 : Nat)) (rfS 15 0 (i + 1) (iI 0) _)
      rw [f6_weigh_L20, show (7 : Int32) = iI 7 from rfl, ite_le ⟨by decide, ⟨by omega, by omega⟩⟩, if_neg (by omega), ck_nat hi (by omega), nm_eq, nm_eq, show (1 : Int32) = iI 1 from rfl, iI_add, show (0 : Int32) = iI 0 from rfl, ← rfS_s, Nat.zero_add]
      rfl)
    (by
      intro fuel
      show f6_weigh_L20 a b c KX (fuel + 1) (iI (7 : Nat)) _ = _
      rw [f6_weigh_L20, show (7 : Int32) = iI 7 from rfl, ite_le ⟨by decide, ⟨by omega, by omega⟩⟩, if_pos (by omega)])
    FU 0 (by omega) (by rw [FU_eq]; omega)
  dsimp only at h
  rw [rfS_0] at h
  rw [show (iI 0) = iI ((0 : Nat) : Int) from rfl] at h ⊢
  rw [h]
  congr 1
  refine ms_ext (fun j f => ?_) rfl
  simp only [rfS_at, sI_at, WmS_at]
  by_cases h0 : j = 0
  · subst h0
    by_cases a : f = 27
    · subst a; rfl
    · by_cases b : f = 26
      · subst b; rfl
      · by_cases c : f = 25
        · subst c; rfl
        · simp [a, b, c]
  · by_cases h15 : j = 15
    · subst h15
      by_cases a : f < 7
      · simp [a]; rfl
      · simp [a]
    · simp [h0, h15]
theorem wm_add {α : Type} {σ : Sg} (h : Gd σ) {n : Nat} (hn : n < σ 0 0) {S : MS} (hS : ShM σ S) {g : Nat → Int} (a b : Int32) (KB KX : Int32 → Int32 → MS → Option α) : f6_weigh_J90 a b (iI (toG n g)) (iI n) (iI (g n)) (WmS σ n g 0 S) KB KX = KB (iI (toG (n + 1) g)) (iI (n + 1 : Nat)) (WmS σ (n + 1) g 0 S) := by
  obtain ⟨h1, h2, h3, h4, h5⟩ := h.2.2.2.2.2 n hn
  have hn6 := h.1
  have hL := WmS_Sh (τ := σ) (n := n) (k := 0) (g := g) hS
  obtain ⟨m1, m2, m3, m4⟩ := hL.2.2.2.2.2.1 n hn
  have n6 : n < 6 := by omega
  have e15 : (WmS σ n g 0 S).1 15 (σ 3 n) = iI (7 * frG σ n g (σ 3 n)) := by rw [WmS_at]; simp; omega
  have e25 : (WmS σ n g 0 S).1 0 25 = iI (trG σ n g) := by rw [WmS_at]; simp
  have e26 : (WmS σ n g 0 S).1 0 26 = iI (heG σ n g) := by rw [WmS_at]; simp
  unfold f6_weigh_J90
  rw [show (3 : Int32) = iI 3 from rfl, show (1 : Int32) = iI 1 from rfl, show (7 : Int32) = iI 7 from rfl]
  simp (disch := omega) only [ck_nat, nm_eq, sI_cell, sI_place, m2, m3, e15, e25, e26, iI_add, iI_mul, iI_sub]
  have t1 : toG n g + g n = toG (n + 1) g := rfl
  rw [t1]
  congr 1
  refine ms_ext (fun j f => ?_) rfl
  by_cases c15 : j = 15
  · subst c15
    by_cases a : f = σ 3 n
    · subst a
      rw [sI_same, WmS_at]
      simp [show σ 3 n < 7 by omega]
      congr 1
      unfold frG
      show _ = 7 * (sumI n _ + if σ 3 n = σ 3 n then g n else 0)
      rw [if_pos rfl]
      omega
    · rw [sI_place _ _ _ a, sI_cell _ _ _ (by omega), sI_cell _ _ _ (by omega), WmS_at, WmS_at]
      by_cases b : f < 7
      · simp [b]
        congr 2
        unfold frG
        show _ = sumI n _ + if σ 3 n = f then g n else 0
        rw [if_neg (by omega), Int.add_zero]
      · simp [b]
  · rw [sI_cell _ _ _ c15]
    by_cases c0 : j = 0
    · subst c0
      by_cases a : f = 26
      · subst a; rw [sI_same, WmS_at]; simp; rfl
      · by_cases b : f = 25
        · subst b; rw [sI_place _ _ _ (by omega), sI_same, WmS_at]; simp; rfl
        · rw [sI_place _ _ _ a, sI_place _ _ _ b, WmS_at, WmS_at]; simp [a, b]; rfl
    · rw [sI_cell _ _ _ c0, sI_cell _ _ _ c0, WmS_at, WmS_at]
      simp [c0, c15]
theorem wm_all {α : Type} {σ : Sg} (h : Gd σ) {S : MS} (hS : ShM σ S) {x : Nat} (hx : x < 729) {q : Int} (hq : rg q) (KX : Int32 → Int32 → MS → Option α) : f6_weigh_L44 (iI x) (iI q) KX FU (iI 0) (iI 0) (WmS σ 0 (gW σ x q) 0 S) = KX (iI (toG (σ 0 0) (gW σ x q))) (iI (σ 0 0)) (WmS σ (σ 0 0) (gW σ x q) 0 S) := by
  have hn6 := h.1
  have h1 := loop_eq (σ := Int32 × Int32 × MS) (L := fun fuel s => f6_weigh_L44 (iI x) (iI q) KX fuel s.1 s.2.1 s.2.2) (KX := fun s => KX s.1 s.2.1 s.2.2) (σ 0 0) (fun i => (iI (toG i (gW σ x q)), iI i, WmS σ i (gW σ x q) 0 S))
    (by
      intro fuel i hi
      show f6_weigh_L44 (iI x) (iI q) KX (fuel + 1) (iI (toG i (gW σ x q))) (iI i) (WmS σ i (gW σ x q) 0 S) = f6_weigh_L44 (iI x) (iI q) KX fuel (iI (toG (i + 1) (gW σ x q))) (iI (i + 1 : Nat)) (WmS σ (i + 1) (gW σ x q) 0 S)
      have hL := WmS_Sh (τ := σ) (n := i) (k := 0) (g := gW σ x q) hS
      have hd := dg_lt x i
      rw [f6_weigh_L44, hL.1, ite_le ⟨⟨by omega, by omega⟩, ⟨by omega, by omega⟩⟩, if_neg (by omega), ite_eq ⟨⟨by omega, by omega⟩, hq⟩]
      by_cases hiq : (i : Int) = q
      · rw [if_pos hiq, f6_weightOf_eq h hi hL, show (wtN σ i : Int) = gW σ x q i by unfold gW; rw [if_pos hiq], wm_add h hi hS]
      · rw [if_neg hiq, f6_waterIn_eq hx (by omega) hL, show (0 : Int32) = iI 0 from rfl, ite_eq ⟨⟨by omega, by omega⟩, by decide⟩]
        by_cases hz : dg x i = 0
        · rw [if_pos (by omega)]
          have e := wm_add h hi hS (g := gW σ x q) (iI x) (iI q) (f6_weigh_L44 (iI x) (iI q) KX fuel) KX
          rw [show gW σ x q i = 0 by unfold gW; rw [if_neg hiq, if_pos hz]] at e
          exact e
        · rw [if_neg (by omega), f6_weightOf_eq h hi hL, show (2 : Int32) = iI 2 from rfl, iI_mul, show 2 * (wtN σ i : Int) = gW σ x q i by unfold gW; rw [if_neg hiq, if_neg hz], wm_add h hi hS])
    (by
      intro fuel
      have hL := WmS_Sh (τ := σ) (n := σ 0 0) (k := 0) (g := gW σ x q) hS
      show f6_weigh_L44 (iI x) (iI q) KX (fuel + 1) _ (iI (σ 0 0)) (WmS σ (σ 0 0) (gW σ x q) 0 S) = _
      rw [f6_weigh_L44, hL.1, ite_le ⟨⟨by omega, by omega⟩, ⟨by omega, by omega⟩⟩, if_pos (by omega)])
    FU 0 (by omega) (by rw [FU_eq]; omega)
  exact h1
theorem wm_in {α : Type} {σ : Sg} {n : Nat} {g : Nat → Int} {k : Nat} (hk : k < 7) (S : MS) (KX : Int32 → Int32 → MS → Option α) : f6_weigh_L181 (iI (toG n g)) (iI k) KX FU (iI 0) (iI 0) (WmS σ n g k S) = KX (iI (moG σ n g (k + 1))) (iI (k + 1 : Nat)) (WmS σ n g k S) := by
  have h1 := loop_eq (σ := Int32 × Int32) (L := fun fuel s => f6_weigh_L181 (iI (toG n g)) (iI k) KX fuel s.1 s.2 (WmS σ n g k S)) (KX := fun s => KX s.1 s.2 (WmS σ n g k S)) (k + 1) (fun i => (iI (sumI i (fun h => (((k + 1 : Nat) : Int) - h) * loG σ n g h)), iI i))
    (by
      intro fuel i hi
      show f6_weigh_L181 (iI (toG n g)) (iI k) KX (fuel + 1) (iI (sumI i _)) (iI i) _ = f6_weigh_L181 (iI (toG n g)) (iI k) KX fuel (iI (sumI (i + 1) _)) (iI (i + 1 : Nat)) _
      have e : (WmS σ n g k S).1 15 i = iI (7 * frG σ n g i) := by rw [WmS_at]; simp; omega
      rw [f6_weigh_L181, ite_lt ⟨⟨by omega, by omega⟩, ⟨by omega, by omega⟩⟩, if_neg (by omega), ck_nat (show i < 7 by omega) (by omega), e, nm_eq, nm_eq, iI_sub, show (1 : Int32) = iI 1 from rfl, iI_add, iI_sub, iI_mul, iI_add, iI_add, show (k : Int) - i + 1 = ((k + 1 : Nat) : Int) - i by omega]
      rfl)
    (by
      intro fuel
      show f6_weigh_L181 (iI (toG n g)) (iI k) KX (fuel + 1) _ (iI (k + 1 : Nat)) _ = _
      rw [f6_weigh_L181, ite_lt ⟨⟨by omega, by omega⟩, ⟨by omega, by omega⟩⟩, if_pos (by omega)])
    FU 0 (by omega) (by rw [FU_eq]; omega)
  rw [mo_ref]
  exact h1
theorem f6_plain_eq {α : Type} {z : Int} (h : -1000000 ≤ z ∧ z ≤ 1000000) (S : MS) (K : Int32 → MS → Option α) : f6_plain (iI z) S K = K (iI (abI z)) S := by
  unfold f6_plain abI
  rw [show (0 : Int32) = iI 0 from rfl, ite_le ⟨by decide, ⟨by omega, by omega⟩⟩]
  by_cases hz : 0 ≤ z
  · rw [if_pos hz, if_pos hz]
  · rw [if_neg hz, if_neg hz, iI_neg]
theorem wm_mom {α : Type} {σ : Sg} {n : Nat} {g : Nat → Int} (hw : Wo n g) (S : MS) (KX : Int32 → MS → Option α) : f6_weigh_L168 (iI (toG n g)) KX FU (iI 0) (WmS σ n g 0 S) = KX (iI 7) (WmS σ n g 7 S) := by
  have h1 := loop_eq (σ := Int32 × MS) (L := fun fuel s => f6_weigh_L168 (iI (toG n g)) KX fuel s.1 s.2) (KX := fun s => KX s.1 s.2) 7 (fun i => (iI i, WmS σ n g i S))
    (by
      intro fuel i hi
      show f6_weigh_L168 (iI (toG n g)) KX (fuel + 1) (iI i) (WmS σ n g i S) = f6_weigh_L168 (iI (toG n g)) KX fuel (iI (i + 1 : Nat)) (WmS σ n g (i + 1) S)
      have b1 := moG_bd (σ := σ) hw (f := i + 1) (by omega)
      have b2 := bdG_bd (σ := σ) hw (k := i) (by omega)
      have b3 := abI_bd (z := moG σ n g (i + 1)) (a := 74088) (by omega)
      have e27 : (sI (WmS σ n g i S) 16 i (iI (moG σ n g (i + 1)))).1 0 27 = iI (bdG σ n g i) := by rw [sI_cell _ _ _ (by omega), WmS_at]; simp
      rw [f6_weigh_L168, show (7 : Int32) = iI 7 from rfl, ite_le ⟨by decide, ⟨by omega, by omega⟩⟩, if_neg (by omega), show (0 : Int32) = iI 0 from rfl, wm_in hi, ck_nat hi (by omega), nm_eq, f6_plain_eq (by omega), e27, ite_le ⟨⟨by omega, by omega⟩, ⟨by omega, by omega⟩⟩, f6_plain_eq (by omega)]
      simp only [nm_eq]
      rw [show (1 : Int32) = iI 1 from rfl, iI_add]
      have ext : ∀ v : Int, v = bdG σ n g (i + 1) → sI (sI (WmS σ n g i S) 16 i (iI (moG σ n g (i + 1)))) 0 27 (iI v) = WmS σ n g (i + 1) S := by
        intro v hv
        refine ms_ext (fun j f => ?_) rfl
        rw [sI_at, sI_at, WmS_at, WmS_at]
        by_cases c27 : j = 0 ∧ f = 27
        · rw [if_pos c27, hv, c27.1, c27.2]; simp
        · rw [if_neg c27]
          by_cases c16 : j = 16 ∧ f = i
          · rw [if_pos c16, c16.1, c16.2]; simp
          · rw [if_neg c16]
            simp only [if_neg c27]
            by_cases d16 : j = 16 ∧ f < i
            · rw [if_pos d16, if_pos (show j = 16 ∧ f < i + 1 by omega)]
            · rw [if_neg d16, if_neg (show ¬ (j = 16 ∧ f < i + 1) by omega)]
      by_cases hle : abI (moG σ n g (i + 1)) ≤ bdG σ n g i
      · rw [if_pos hle, ext _ (by show _ = if _ then _ else _; rw [if_neg (by omega)])]; rfl
      · rw [if_neg hle, ext _ (by show _ = if _ then _ else _; rw [if_pos (by omega)])]; rfl)
    (by
      intro fuel
      show f6_weigh_L168 (iI (toG n g)) KX (fuel + 1) (iI (7 : Nat)) _ = _
      rw [f6_weigh_L168, show (7 : Int32) = iI 7 from rfl, ite_le ⟨by decide, ⟨by omega, by omega⟩⟩, if_pos (by omega)])
    FU 0 (by omega) (by rw [FU_eq]; omega)
  exact h1
theorem f6_weigh_eq {α : Type} {σ : Sg} (h : Gd σ) {S : MS} (hS : ShM σ S) {x : Nat} (hx : x < 729) {q : Int} (hq : rg q) (K : MS → Option α) : f6_weigh (iI x) (iI q) S K = K (WmS σ (σ 0 0) (gW σ x q) 7 S) := by
  unfold f6_weigh
  simp only [nm_eq]
  rw [show (0 : Int32) = iI 0 from rfl, wm_clear σ (gW σ x q), wm_all h hS hx hq, wm_mom (gW_wo h x q)]
