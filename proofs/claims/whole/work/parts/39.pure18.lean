/-! PURE PART 18: odds -/
noncomputable def cnP (P : Nat → Prop) : Nat → Nat
  | 0 => 0
  | n + 1 => cnP P n + @ite Nat (P n) (Classical.propDecidable _) 1 0
theorem cnP_t {P : Nat → Prop} {n : Nat} (h : P n) : cnP P (n + 1) = cnP P n + 1 := by rw [cnP, if_pos h]
theorem cnP_f {P : Nat → Prop} {n : Nat} (h : ¬ P n) : cnP P (n + 1) = cnP P n := by rw [cnP, if_neg h, Nat.add_zero]
theorem cnP_le (P : Nat → Prop) (n : Nat) : cnP P n ≤ n := by
  induction n with
  | zero => exact Nat.le_refl _
  | succ n ih =>
    by_cases h : P n
    · rw [cnP_t h]; omega
    · rw [cnP_f h]; omega
theorem cnP_congr {P Q : Nat → Prop} {n : Nat} (h : ∀ i, i < n → (P i ↔ Q i)) : cnP P n = cnP Q n := by
  induction n with
  | zero => rfl
  | succ n ih =>
    have e := ih (fun i hi => h i (by omega))
    by_cases hp : P n
    · rw [cnP_t hp, cnP_t ((h n (by omega)).mp hp), e]
    · rw [cnP_f hp, cnP_f (fun q => hp ((h n (by omega)).mpr q)), e]
def ldI (σ : Sg) (S : MS) (i : Nat) : MS := if i = 0 then S else LdS σ (σ 0 0) (gF σ (i - 1)) S
theorem ldI_sm (σ : Sg) (S : MS) (i : Nat) : SmX σ S (ldI σ S i) := by
  unfold ldI
  split
  · exact SmX.rf σ S
  · exact SmX.ld σ _ S
theorem ldI_ld (σ : Sg) (S : MS) (i : Nat) : LdS σ (σ 0 0) (gF σ i) (ldI σ S i) = ldI σ S (i + 1) := by
  have e : ldI σ S (i + 1) = LdS σ (σ 0 0) (gF σ i) S := by unfold ldI; rw [if_neg (by omega), Nat.add_sub_cancel]
  rw [e]
  rcases ldI_sm σ S i with e | ⟨g, e⟩
  · rw [e]
  · rw [e, LdS_two]
theorem f3_safeLoads_eq {α : Type} {σ : Sg} (h : Gd σ) {S : MS} (hS : ShX σ S) (K : Int32 → MS → Option α) : f3_safeLoads S K = K (iI (cnP (fun F => Sf σ 1 (σ 0 0) (gF σ F)) (2 ^ σ 0 0))) (ldI σ S (2 ^ σ 0 0)) := by
  have hn6 := h.1
  have hp2 := p2_bd hn6
  have s1 := shl_all (σ 0 0) hn6
  unfold f3_safeLoads
  have h1 := loop_eq (σ := Int32 × Int32 × MS) (L := fun fuel s => f3_safeLoads_L4 (fun v1 _ S6 => K v1 S6) fuel s.1 s.2.1 s.2.2) (KX := fun s => K s.1 s.2.2) (2 ^ σ 0 0) (fun i => (iI (cnP (fun F => Sf σ 1 (σ 0 0) (gF σ F)) i), iI i, ldI σ S i))
    (by
      intro fuel i hi
      show f3_safeLoads_L4 _ (fuel + 1) (iI (cnP _ i)) (iI i) (ldI σ S i) = f3_safeLoads_L4 _ fuel (iI (cnP _ (i + 1))) (iI (i + 1 : Nat)) (ldI σ S (i + 1))
      have hT := (ldI_sm σ S i).sh hS
      rw [f3_safeLoads_L4, hT.1, s1, ite_le ⟨⟨by omega, by omega⟩, ⟨by omega, by omega⟩⟩, if_neg (by omega), f3_isSafe_eq h hT (by omega), ite_bI, ldI_ld]
      simp only [nm_eq]
      rw [show (1 : Int32) = iI 1 from rfl, iI_add, iI_add]
      by_cases hp : Sf σ 1 (σ 0 0) (gF σ i)
      · rw [if_pos hp, cnP_t (P := fun F => Sf σ 1 (σ 0 0) (gF σ F)) hp]; rfl
      · rw [if_neg hp, cnP_f (P := fun F => Sf σ 1 (σ 0 0) (gF σ F)) hp]; rfl)
    (by
      intro fuel
      show f3_safeLoads_L4 _ (fuel + 1) _ (iI (2 ^ σ 0 0 : Nat)) (ldI σ S (2 ^ σ 0 0)) = _
      rw [f3_safeLoads_L4, ((ldI_sm σ S _).sh hS).1, s1, ite_le ⟨⟨by omega, by omega⟩, ⟨by omega, by omega⟩⟩, if_pos (by omega)])
    FU 0 (by omega) (by rw [FU_eq]; omega)
  exact h1
/-- halving -/
def hvN : Nat → Nat → Nat × Nat
  | u, 0 => (u, 1)
  | u, n + 1 => if u % 2 = 0 then hvN (u / 2) n else (u, 2 ^ (n + 1))
theorem f5_odds_loop {α : Type} (c1 : Int32) (KX : Int32 → Int32 → MS → Option α) (S : MS) : ∀ (n fuel u : Nat), n ≤ 6 → n < fuel → u ≤ 64 → f5_odds_L38 c1 KX fuel (iI u) (iI (2 ^ n : Nat)) S = KX (iI (hvN u n).1) (iI (hvN u n).2) S := by
  intro n
  induction n with
  | zero =>
    intro fuel u h1 h2 h3
    obtain ⟨f, rfl⟩ : ∃ f, fuel = f + 1 := ⟨fuel - 1, by omega⟩
    rw [f5_odds_L38, if_pos (by decide)]
    rfl
  | succ n ih =>
    intro fuel u h1 h2 h3
    obtain ⟨f, rfl⟩ : ∃ f, fuel = f + 1 := ⟨fuel - 1, by omega⟩
    have hp := p2_bd (show n ≤ 6 by omega)
    have hq := p2_bd h1
    have e2 : 2 ^ (n + 1) = 2 * 2 ^ n := by rw [Nat.pow_succ]; omega
    have e3 : iI u - iI u / 2 * 2 = iI (u % 2 : Nat) := by
      rw [show (2 : Int32) = iI 2 from rfl, iI_div (by omega) (by omega) (by omega) (by omega), iI_mul, iI_sub]
      congr 1
      omega
    rw [f5_odds_L38, e3, show (1 : Int32) = iI 1 from rfl, ite_le ⟨⟨by omega, by omega⟩, by decide⟩, if_neg (by omega), show (0 : Int32) = iI 0 from rfl, ite_eq ⟨⟨by omega, by omega⟩, by decide⟩]
    by_cases hu : u % 2 = 0
    · rw [if_pos (by omega), nm_eq, nm_eq, show (2 : Int32) = iI 2 from rfl, iI_div (by omega) (by omega) (by omega) (by omega), iI_div (by omega) (by omega) (by omega) (by omega)]
      rw [show ((u : Int) / 2) = ((u / 2 : Nat) : Int) by omega, show (((2 ^ (n + 1) : Nat) : Int) / 2) = ((2 ^ n : Nat) : Int) by rw [e2]; omega, ih f (u / 2) (by omega) (by omega) (by omega)]
      rw [show hvN u (n + 1) = hvN (u / 2) n by rw [hvN, if_pos hu]]
    · rw [if_neg (by omega), show hvN u (n + 1) = (u, 2 ^ (n + 1)) by rw [hvN, if_neg hu]]
theorem f6_least_loop {α : Type} (a b c : Int32) (KX : Int32 → Int32 → MS → Option α) (S : MS) : ∀ (fuel x y : Nat), y < fuel → x ≤ 64 → y ≤ 64 → f6_inLeastTerms_L5 a b c KX fuel (iI x) (iI y) S = KX (iI (Nat.gcd y x)) (iI 0) S := by
  intro fuel
  induction fuel with
  | zero => intro x y h; omega
  | succ f ih =>
    intro x y h1 h2 h3
    rw [f6_inLeastTerms_L5, show (0 : Int32) = iI 0 from rfl, ite_eq ⟨⟨by omega, by omega⟩, by decide⟩]
    by_cases hy : y = 0
    · subst hy
      rw [if_pos (by omega), Nat.gcd_zero_left]; rfl
    · have hlt : x % y < y := Nat.mod_lt _ (by omega)
      have e3 : iI x - iI x / iI y * iI y = iI (x % y : Nat) := by
        rw [iI_div (by omega) (by omega) (by omega) (by omega), iI_mul, iI_sub]
        congr 1
        have := Int.emod_def (x : Int) (y : Int)
        rw [show ((x % y : Nat) : Int) = (x : Int) % (y : Int) by simp, this, Int.mul_comm]
      rw [if_neg (by omega), dz_ne (by omega) ⟨by omega, by omega⟩, nm_eq, e3, ih y (x % y) (by omega) (by omega) (by omega), Nat.gcd_rec y x]
theorem least_all : ∀ n, n ≤ 6 → ∀ u, u ≤ 2 ^ n → (hvN u n).1 = u / Nat.gcd (2 ^ n) u ∧ (hvN u n).2 = 2 ^ n / Nat.gcd (2 ^ n) u := by decide +kernel
/-- the waters of a set: all of them old -/
def smN (F : Nat) : Nat → Nat
  | 0 => 0
  | n + 1 => smN F n + if bt F n then 3 ^ n else 0
theorem sm_all : ∀ F, F < 64 → ∀ n, n ≤ 6 → smN F n < 729 ∧ ∀ t, t < n → bt F t = (dg (smN F n) t != 0) := by decide +kernel
theorem f6_odds_in {α : Type} {σ : Sg} (h : Gd σ) {S : MS} (hS : ShM σ S) {F : Nat} (hF : F < 64) (a b : Int32) (KX : Int32 → Int32 → MS → Option α) : f6_odds_L41 a b (iI F) KX FU (iI 0) (iI 0) S = KX (iI (smN F (σ 0 0))) (iI (σ 0 0)) S := by
  have hn6 := h.1
  have h1 := loop_eq (σ := Int32 × Int32) (L := fun fuel s => f6_odds_L41 a b (iI F) KX fuel s.1 s.2 S) (KX := fun s => KX s.1 s.2 S) (σ 0 0) (fun i => (iI (smN F i), iI i))
    (by
      intro fuel i hi
      show f6_odds_L41 a b (iI F) KX (fuel + 1) (iI (smN F i)) (iI i) S = f6_odds_L41 a b (iI F) KX fuel (iI (smN F (i + 1))) (iI (i + 1 : Nat)) S
      rw [f6_odds_L41, hS.1, ite_le ⟨⟨by omega, by omega⟩, ⟨by omega, by omega⟩⟩, if_neg (by omega), ck_nat (show i < 7 by omega) (by omega), hS.2.2.2.2.2.2 i (by omega), bit_all F hF i (by omega), nm_eq, nm_eq]
      show f6_odds_L41 a b (iI F) KX fuel (iI (smN F i) + (if bt F i = true then 1 else 0) * iI (3 ^ i : Nat)) _ S = f6_odds_L41 a b (iI F) KX fuel (iI ((smN F i + if bt F i = true then 3 ^ i else 0 : Nat) : Int)) _ S
      rw [show (1 : Int32) = iI 1 from rfl, iI_add]
      cases bt F i
      · rw [if_neg (by decide), if_neg (by decide), show (0 : Int32) = iI 0 from rfl, iI_mul, iI_add, Int.zero_mul, Int.add_zero]; rfl
      · rw [if_pos rfl, if_pos rfl, iI_mul, iI_add, Int.one_mul]; rfl)
    (by
      intro fuel
      show f6_odds_L41 a b (iI F) KX (fuel + 1) _ (iI (σ 0 0)) S = _
      rw [f6_odds_L41, hS.1, ite_le ⟨⟨by omega, by omega⟩, ⟨by omega, by omega⟩⟩, if_pos (by omega)])
    FU 0 (by omega) (by rw [FU_eq]; omega)
  exact h1
def wmI (σ : Sg) (S : MS) (i : Nat) : MS := if i = 0 then S else WmS σ (σ 0 0) (gW σ (smN (i - 1) (σ 0 0)) (-9)) 7 S
theorem wmI_sm (σ : Sg) (S : MS) (i : Nat) : SmM σ S (wmI σ S i) := by
  unfold wmI
  split
  · exact SmM.rf σ S
  · exact SmM.wm σ _ S
theorem wmI_wm (σ : Sg) (S : MS) (i : Nat) : WmS σ (σ 0 0) (gW σ (smN i (σ 0 0)) (-9)) 7 (wmI σ S i) = wmI σ S (i + 1) := by
  have e : wmI σ S (i + 1) = WmS σ (σ 0 0) (gW σ (smN i (σ 0 0)) (-9)) 7 S := by unfold wmI; rw [if_neg (by omega), Nat.add_sub_cancel]
  rw [e]
  rcases wmI_sm σ S i with e | ⟨τ, n, g, e⟩
  · rw [e]
  · rw [e, WmS_two2]
theorem f6_odds_out {α : Type} {σ : Sg} (h : Gd σ) {S : MS} (hS : ShM σ S) (a : Int32) (KX : Int32 → Int32 → MS → Option α) : f6_odds_L25 a KX FU (iI 0) (iI 0) S = KX (iI (cnP (fun F => Sf σ 1 (σ 0 0) (gF σ F)) (2 ^ σ 0 0))) (iI (2 ^ σ 0 0 : Nat)) (wmI σ S (2 ^ σ 0 0)) := by
  have hn6 := h.1
  have hp2 := p2_bd hn6
  have s1 := shl_all (σ 0 0) hn6
  have h1 := loop_eq (σ := Int32 × Int32 × MS) (L := fun fuel s => f6_odds_L25 a KX fuel s.1 s.2.1 s.2.2) (KX := fun s => KX s.1 s.2.1 s.2.2) (2 ^ σ 0 0) (fun i => (iI (cnP (fun F => Sf σ 1 (σ 0 0) (gF σ F)) i), iI i, wmI σ S i))
    (by
      intro fuel i hi
      show f6_odds_L25 a KX (fuel + 1) (iI (cnP _ i)) (iI i) (wmI σ S i) = f6_odds_L25 a KX fuel (iI (cnP _ (i + 1))) (iI (i + 1 : Nat)) (wmI σ S (i + 1))
      have hT := (wmI_sm σ S i).sh hS
      obtain ⟨q1, q2⟩ := sm_all i (by omega) (σ 0 0) hn6
      have eS : Sf σ 1 (σ 0 0) (gF σ i) ↔ Sf σ 2 (σ 0 0) (gW σ (smN i (σ 0 0)) (-9)) := SfF q2
      rw [f6_odds_L25, hT.1, s1, ite_le ⟨⟨by omega, by omega⟩, ⟨by omega, by omega⟩⟩, if_neg (by omega), show (0 : Int32) = iI 0 from rfl, f6_odds_in h hT (by omega), show (-9 : Int32) = iI (-9) from rfl, f6_isSafe_eq h hT q1 (by decide), show iI 0 = (0 : Int32) from rfl, ite_bI, wmI_wm]
      simp only [nm_eq]
      rw [show (1 : Int32) = iI 1 from rfl, iI_add, iI_add]
      by_cases hp : Sf σ 1 (σ 0 0) (gF σ i)
      · rw [if_pos (eS.mp hp), cnP_t (P := fun F => Sf σ 1 (σ 0 0) (gF σ F)) hp]; rfl
      · rw [if_neg (fun q => hp (eS.mpr q)), cnP_f (P := fun F => Sf σ 1 (σ 0 0) (gF σ F)) hp, show (0 : Int32) = iI 0 from rfl, iI_add, Int.add_zero]; rfl)
    (by
      intro fuel
      show f6_odds_L25 a KX (fuel + 1) _ (iI (2 ^ σ 0 0 : Nat)) (wmI σ S (2 ^ σ 0 0)) = _
      rw [f6_odds_L25, ((wmI_sm σ S _).sh hS).1, s1, ite_le ⟨⟨by omega, by omega⟩, ⟨by omega, by omega⟩⟩, if_pos (by omega)])
    FU 0 (by omega) (by rw [FU_eq]; omega)
  exact h1
section Ops10
variable {PX PM : Sg → MS → Prop} {σ : Sg} {SX SM : MS}
theorem sim_odds (cX : ClX PX) (a : Int32) : SimL (RelP PX PM) (f5_odds a) (f6_odds a) := by
  intro SX SM ⟨σ, h⟩
  obtain ⟨z1, rfl, hz1⟩ := iI_of a
  have hn := h.1.1
  have hX := h.2.1
  have hM := h.2.2.1
  have m1 := hM.1
  by_cases c1 : 0 ≤ z1 ∧ z1 ≤ 1
  · by_cases c2 : σ 0 0 = 0
    · refine ⟨-9223372036854775808, SX, SM, ?_, ?_, σ, h⟩
      · unfold f5_odds; simp (disch := omega) only [↓f5_hasNoShip_eq hn hX.1, f5_hasNoShip_eq hn hX.1, c2, ↓reduceIte, ↓nm_eq, ↓ck_in, ck_in, il_0, il_1, il_2, il_3, il_4, il_5, il_6, il_7, il_8, il_9, il_10, il_15, il_20, il_31, il_30, il_37, il_48, il_49, il_54, il_57, il_59, il_60, il_68, il_80, il_87, il_99, il_100, il_101, il_111, il_112, il_115, il_243, il_500, il_729, il_999, il_1000, il_10000, il_m1, il_m2, il_m3, il_m4, il_m9, il_m10, il_m100, il_m500, iI_le', iI_lt', iI_eq', iI_add, iI_sub, iI_mul, iI_neg, dc_ltT, dc_ltF, dc_leT, dc_leF, dc_eqT, dc_eqF, ↓dc_andT, ↓dc_andF, dc_andT, dc_andF, and_self, and_true, true_and, and_false, false_and, or_self, or_true, true_or, or_false, false_or, not_true_eq_false, not_false_eq_true, Int.toNat_natCast, jl_0, jl_1, jl_2, jl_3, jl_4, jl_5, jl_6, jl_9, jl_10, jl_15, jl_19, jl_30, jl_500, jl_999, jl_m1, jl_m500, i64_of, ↓f6_within_eq, f6_within_eq]
      · unfold f6_odds; simp (disch := omega) only [m1, ↓reduceIte, ↓nm_eq, ↓ck_in, ck_in, il_0, il_1, il_2, il_3, il_4, il_5, il_6, il_7, il_8, il_9, il_10, il_15, il_20, il_31, il_30, il_37, il_48, il_49, il_54, il_57, il_59, il_60, il_68, il_80, il_87, il_99, il_100, il_101, il_111, il_112, il_115, il_243, il_500, il_729, il_999, il_1000, il_10000, il_m1, il_m2, il_m3, il_m4, il_m9, il_m10, il_m100, il_m500, iI_le', iI_lt', iI_eq', iI_add, iI_sub, iI_mul, iI_neg, dc_ltT, dc_ltF, dc_leT, dc_leF, dc_eqT, dc_eqF, ↓dc_andT, ↓dc_andF, dc_andT, dc_andF, and_self, and_true, true_and, and_false, false_and, or_self, or_true, true_or, or_false, false_or, not_true_eq_false, not_false_eq_true, Int.toNat_natCast, jl_0, jl_1, jl_2, jl_3, jl_4, jl_5, jl_6, jl_9, jl_10, jl_15, jl_19, jl_30, jl_500, jl_999, jl_m1, jl_m500, i64_of, ↓f6_within_eq, f6_within_eq]
    · have hp2 := p2_bd hn
      have s1 := shl_all (σ 0 0) hn
      have hu := cnP_le (fun F => Sf σ 1 (σ 0 0) (gF σ F)) (2 ^ σ 0 0)
      have hr := rel_sm cX h (ldI_sm σ SX (2 ^ σ 0 0)) (wmI_sm σ SM (2 ^ σ 0 0))
      have hX1 := hr.2.1.1
      have hM1 := hr.2.2.1.1
      obtain ⟨l1, l2⟩ := least_all (σ 0 0) hn _ hu
      have hg0 : 0 < Nat.gcd (2 ^ σ 0 0) (cnP (fun F => Sf σ 1 (σ 0 0) (gF σ F)) (2 ^ σ 0 0)) := Nat.gcd_pos_of_pos_left _ (by omega)
      have hg1 : Nat.gcd (2 ^ σ 0 0) (cnP (fun F => Sf σ 1 (σ 0 0) (gF σ F)) (2 ^ σ 0 0)) ≤ 2 ^ σ 0 0 := Nat.le_of_dvd (by omega) (Nat.gcd_dvd_left _ _)
      have eX : f5_odds (iI z1) SX (fun r s => some (r, s)) = some (if z1 = 0 then Int32.toInt64 (iI ((cnP (fun F => Sf σ 1 (σ 0 0) (gF σ F)) (2 ^ σ 0 0) / Nat.gcd (2 ^ σ 0 0) (cnP (fun F => Sf σ 1 (σ 0 0) (gF σ F)) (2 ^ σ 0 0)) : Nat) : Int)) else Int32.toInt64 (iI ((2 ^ σ 0 0 / Nat.gcd (2 ^ σ 0 0) (cnP (fun F => Sf σ 1 (σ 0 0) (gF σ F)) (2 ^ σ 0 0)) : Nat) : Int)), ldI σ SX (2 ^ σ 0 0)) := by
        rw [← l1, ← l2]
        unfold f5_odds
        rw [show (0 : Int32) = iI 0 from rfl, show (1 : Int32) = iI 1 from rfl, ite_lt ⟨hz1, by decide⟩, if_neg (by omega), ite_lt ⟨by decide, hz1⟩, if_neg (by omega), f5_hasNoShip_eq hn hX.1, if_neg c2, show (0 : Int32) = iI 0 from rfl, if_pos rfl, f3_safeLoads_eq h.1 hX, nm_eq, hX1, show iI 1 = (1 : Int32) from rfl, s1, f5_odds_loop _ _ _ _ _ _ hn (by rw [FU_eq]; omega) (by omega), ite_eq ⟨hz1, by decide⟩]
        split <;> rfl
      have eM : f6_odds (iI z1) SM (fun r s => some (r, s)) = some (if z1 = 0 then Int32.toInt64 (iI ((cnP (fun F => Sf σ 1 (σ 0 0) (gF σ F)) (2 ^ σ 0 0) / Nat.gcd (2 ^ σ 0 0) (cnP (fun F => Sf σ 1 (σ 0 0) (gF σ F)) (2 ^ σ 0 0)) : Nat) : Int)) else Int32.toInt64 (iI ((2 ^ σ 0 0 / Nat.gcd (2 ^ σ 0 0) (cnP (fun F => Sf σ 1 (σ 0 0) (gF σ F)) (2 ^ σ 0 0)) : Nat) : Int)), wmI σ SM (2 ^ σ 0 0)) := by
        unfold f6_odds f6_inLeastTerms
        rw [i64_of hz1, show (0 : Int64) = Int64.ofInt 0 from rfl, show (1 : Int64) = Int64.ofInt 1 from rfl, f6_within_eq hz1 (by decide) (by decide), if_pos c1, if_neg (by decide), m1, show (0 : Int32) = iI 0 from rfl, ite_eq ⟨⟨by omega, by omega⟩, by decide⟩, if_neg (by omega), f6_odds_out h.1 hM, hM1, s1, f6_least_loop _ _ _ _ _ _ _ _ (by rw [FU_eq]; omega) (by omega) (by omega), ite_eq ⟨hz1, by decide⟩]
        generalize Nat.gcd (2 ^ σ 0 0) (cnP (fun F => Sf σ 1 (σ 0 0) (gF σ F)) (2 ^ σ 0 0)) = g at hg0 hg1
        rw [dz_ne (by omega) ⟨by omega, by omega⟩, dz_ne (by omega) ⟨by omega, by omega⟩, iI_div (by omega) (by omega) (by omega) (by omega), iI_div (by omega) (by omega) (by omega) (by omega)]
        rw [show ((cnP (fun F => Sf σ 1 (σ 0 0) (gF σ F)) (2 ^ σ 0 0) : Int) / (g : Int)) = ((cnP (fun F => Sf σ 1 (σ 0 0) (gF σ F)) (2 ^ σ 0 0) / g : Nat) : Int) by simp, show (((2 ^ σ 0 0 : Nat) : Int) / (g : Int)) = ((2 ^ σ 0 0 / g : Nat) : Int) from rfl]
        split <;> rfl
      exact ⟨_, _, _, eX, eM, σ, hr⟩
  · refine ⟨-9223372036854775808, SX, SM, ?_, ?_, σ, h⟩
    · unfold f5_odds
      by_cases d : z1 < 0
      · simp (disch := omega) only [↓reduceIte, ↓nm_eq, ↓ck_in, ck_in, il_0, il_1, il_2, il_3, il_4, il_5, il_6, il_7, il_8, il_9, il_10, il_15, il_20, il_31, il_30, il_37, il_48, il_49, il_54, il_57, il_59, il_60, il_68, il_80, il_87, il_99, il_100, il_101, il_111, il_112, il_115, il_243, il_500, il_729, il_999, il_1000, il_10000, il_m1, il_m2, il_m3, il_m4, il_m9, il_m10, il_m100, il_m500, iI_le', iI_lt', iI_eq', iI_add, iI_sub, iI_mul, iI_neg, dc_ltT, dc_ltF, dc_leT, dc_leF, dc_eqT, dc_eqF, ↓dc_andT, ↓dc_andF, dc_andT, dc_andF, and_self, and_true, true_and, and_false, false_and, or_self, or_true, true_or, or_false, false_or, not_true_eq_false, not_false_eq_true, Int.toNat_natCast, jl_0, jl_1, jl_2, jl_3, jl_4, jl_5, jl_6, jl_9, jl_10, jl_15, jl_19, jl_30, jl_500, jl_999, jl_m1, jl_m500, i64_of, ↓f6_within_eq, f6_within_eq]
      · simp (disch := omega) only [↓reduceIte, ↓nm_eq, ↓ck_in, ck_in, il_0, il_1, il_2, il_3, il_4, il_5, il_6, il_7, il_8, il_9, il_10, il_15, il_20, il_31, il_30, il_37, il_48, il_49, il_54, il_57, il_59, il_60, il_68, il_80, il_87, il_99, il_100, il_101, il_111, il_112, il_115, il_243, il_500, il_729, il_999, il_1000, il_10000, il_m1, il_m2, il_m3, il_m4, il_m9, il_m10, il_m100, il_m500, iI_le', iI_lt', iI_eq', iI_add, iI_sub, iI_mul, iI_neg, dc_ltT, dc_ltF, dc_leT, dc_leF, dc_eqT, dc_eqF, ↓dc_andT, ↓dc_andF, dc_andT, dc_andF, and_self, and_true, true_and, and_false, false_and, or_self, or_true, true_or, or_false, false_or, not_true_eq_false, not_false_eq_true, Int.toNat_natCast, jl_0, jl_1, jl_2, jl_3, jl_4, jl_5, jl_6, jl_9, jl_10, jl_15, jl_19, jl_30, jl_500, jl_999, jl_m1, jl_m500, i64_of, ↓f6_within_eq, f6_within_eq]
    · unfold f6_odds
      simp (disch := omega) only [↓reduceIte, ↓nm_eq, ↓ck_in, ck_in, il_0, il_1, il_2, il_3, il_4, il_5, il_6, il_7, il_8, il_9, il_10, il_15, il_20, il_31, il_30, il_37, il_48, il_49, il_54, il_57, il_59, il_60, il_68, il_80, il_87, il_99, il_100, il_101, il_111, il_112, il_115, il_243, il_500, il_729, il_999, il_1000, il_10000, il_m1, il_m2, il_m3, il_m4, il_m9, il_m10, il_m100, il_m500, iI_le', iI_lt', iI_eq', iI_add, iI_sub, iI_mul, iI_neg, dc_ltT, dc_ltF, dc_leT, dc_leF, dc_eqT, dc_eqF, ↓dc_andT, ↓dc_andF, dc_andT, dc_andF, and_self, and_true, true_and, and_false, false_and, or_self, or_true, true_or, or_false, false_or, not_true_eq_false, not_false_eq_true, Int.toNat_natCast, jl_0, jl_1, jl_2, jl_3, jl_4, jl_5, jl_6, jl_9, jl_10, jl_15, jl_19, jl_30, jl_500, jl_999, jl_m1, jl_m500, i64_of, ↓f6_within_eq, f6_within_eq]
end Ops10
