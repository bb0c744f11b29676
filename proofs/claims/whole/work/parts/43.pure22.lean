/-! PURE PART 22: the text of a ship -/
def kdI (z : Int) : Int := if z = 80 then 0 else if z = 87 then 1 else if z = 68 then 2 else -9
def sdI (z : Int) : Int := if z = 112 then 0 else if z = 99 then 1 else if z = 115 then 2 else -9
def dgI (z a b : Int) : Int := if 48 + a ≤ z ∧ z ≤ 48 + b then z - 48 else -9
def wtI (z : Int) : Int := if z = 101 then 0 else if z = 111 then 1 else -9
theorem kdI_in (z : Int) : kdI z = -9 ∨ (0 ≤ kdI z ∧ kdI z ≤ 2) := by unfold kdI; split; omega; split; omega; split <;> omega
theorem sdI_in (z : Int) : sdI z = -9 ∨ (0 ≤ sdI z ∧ sdI z ≤ 2) := by unfold sdI; split; omega; split; omega; split <;> omega
theorem dgI_in (z a b : Int) : dgI z a b = -9 ∨ (a ≤ dgI z a b ∧ dgI z a b ≤ b) := by unfold dgI; split <;> omega
theorem wtI_in (z : Int) : wtI z = -9 ∨ wtI z = 0 ∨ wtI z = 1 := by unfold wtI; split; omega; split <;> omega
def GOj (j : Nat) (z : Int) : Prop := if j = 0 then z = 59 else if j = 1 then kdI z ≠ -9 else if j = 2 then dgI z 0 6 ≠ -9 else if j = 3 then sdI z ≠ -9 else if j = 4 then dgI z 1 9 ≠ -9 else wtI z ≠ -9
def GO (p : Nat) (z : Int) : Prop := if p = 0 then z = 115 else if 37 ≤ p then False else GOj ((p - 1) % 6) z
theorem GO_j {t j : Nat} (ht : t < 6) (hj : j < 6) (z : Int) : GO (1 + 6 * t + j) z ↔ GOj j z := by
  unfold GO
  rw [if_neg (by omega), if_neg (by omega), show (1 + 6 * t + j - 1) % 6 = j by omega]
theorem GO_m9 (p : Nat) : ¬ GO p (-9) := by
  have : ∀ j, j < 6 → ¬ GOj j (-9) := by
    intro j hj
    unfold GOj
    rcases (show j = 0 ∨ j = 1 ∨ j = 2 ∨ j = 3 ∨ j = 4 ∨ j = 5 by omega) with e | e | e | e | e | e <;> subst e <;> decide
  unfold GO
  split
  · decide
  · split
    · exact id
    · exact this _ (Nat.mod_lt _ (by omega))
section Text
variable {α : Type}
theorem f5_kindOf_eq {z : Int} (hz : rg z) (S : MS) (K : Int32 → MS → Option α) : f5_kindOf (iI z) S K = K (iI (kdI z)) S := by
  unfold f5_kindOf kdI
  rw [show (68 : Int32) = iI 68 from rfl, show (80 : Int32) = iI 80 from rfl, show (87 : Int32) = iI 87 from rfl, ite_eq ⟨hz, by decide⟩, ite_eq ⟨hz, by decide⟩, ite_eq ⟨hz, by decide⟩]
  by_cases a : z = 68
  · subst a; rfl
  · by_cases b : z = 80
    · subst b; rfl
    · by_cases c : z = 87
      · subst c; rfl
      · rw [if_neg a, if_neg b, if_neg c, if_neg b, if_neg c, if_neg a]; rfl
theorem f5_sideOf_eq {z : Int} (hz : rg z) (S : MS) (K : Int32 → MS → Option α) : f5_sideOf (iI z) S K = K (iI (sdI z)) S := by
  unfold f5_sideOf sdI
  rw [show (99 : Int32) = iI 99 from rfl, show (112 : Int32) = iI 112 from rfl, show (115 : Int32) = iI 115 from rfl, ite_eq ⟨hz, by decide⟩, ite_eq ⟨hz, by decide⟩, ite_eq ⟨hz, by decide⟩]
  by_cases a : z = 99
  · subst a; rfl
  · by_cases b : z = 112
    · subst b; rfl
    · by_cases c : z = 115
      · subst c; rfl
      · rw [if_neg a, if_neg b, if_neg c, if_neg b, if_neg a, if_neg c]; rfl
theorem f6_kindBy_eq {z : Int} (hz : rg z) (S : MS) (K : Int32 → MS → Option α) : f6_kindBy (iI z) S K = K (iI (kdI z)) S := by
  unfold f6_kindBy kdI
  rw [show (68 : Int32) = iI 68 from rfl, show (80 : Int32) = iI 80 from rfl, show (87 : Int32) = iI 87 from rfl, ite_eq ⟨hz, by decide⟩, ite_eq ⟨hz, by decide⟩, ite_eq ⟨hz, by decide⟩]
  by_cases a : z = 68
  · subst a; rfl
  · by_cases b : z = 80
    · subst b; rfl
    · by_cases c : z = 87
      · subst c; rfl
      · simp only [if_neg a, if_neg b, if_neg c]; rfl
theorem f6_sideBy_eq {z : Int} (hz : rg z) (S : MS) (K : Int32 → MS → Option α) : f6_sideBy (iI z) S K = K (iI (sdI z)) S := by
  unfold f6_sideBy sdI
  rw [show (99 : Int32) = iI 99 from rfl, show (112 : Int32) = iI 112 from rfl, show (115 : Int32) = iI 115 from rfl, ite_eq ⟨hz, by decide⟩, ite_eq ⟨hz, by decide⟩, ite_eq ⟨hz, by decide⟩]
  by_cases a : z = 99
  · subst a; rfl
  · by_cases b : z = 112
    · subst b; rfl
    · by_cases c : z = 115
      · subst c; rfl
      · simp only [if_neg a, if_neg b, if_neg c]; rfl
theorem f6_digitBy_eq {z a b : Int} (hz : rg z) (ha : 0 ≤ a ∧ a ≤ 9) (hb : 0 ≤ b ∧ b ≤ 9) (S : MS) (K : Int32 → MS → Option α) : f6_digitBy (iI z) (iI a) (iI b) S K = K (iI (dgI z a b)) S := by
  unfold f6_digitBy dgI
  rw [show (48 : Int32) = iI 48 from rfl, iI_add, iI_add, i64_of hz, i64_of ⟨by omega, by omega⟩, i64_of ⟨by omega, by omega⟩, f6_within_eq hz ⟨by omega, by omega⟩ ⟨by omega, by omega⟩, iI_sub]
  by_cases c : 48 + a ≤ z ∧ z ≤ 48 + b
  · rw [if_pos c, if_pos c, if_neg (by decide)]
  · rw [if_neg c, if_neg c, if_pos rfl]; rfl
theorem f6_takes_t {v : Int} (hv : rg v) (h : v ≠ -9) (S : MS) (K : Int32 → MS → Option α) : f6_takes (iI v) S K = K (iI 1) (sI S 0 15 (S.1 0 15 + iI 1)) := by
  unfold f6_takes
  rw [show (-9 : Int32) = iI (-9) from rfl, ite_eq ⟨hv, by decide⟩, if_neg h, nm_eq]
  rfl
theorem f6_takes_f (S : MS) (K : Int32 → MS → Option α) : f6_takes (iI (-9)) S K = K (iI 0) S := rfl
theorem f5_goesOn_eq {p : Nat} {z : Int} (hp : p < 1000) (hz : rg z) (S : MS) (K : Int32 → MS → Option α) : f5_goesOn (iI p) (iI z) S K = K (iI (bI (GO p z))) S := by
  unfold f5_goesOn
  rw [f5_kindOf_eq hz, f5_sideOf_eq hz]
  have e1 : (iI p - 1) - (iI p - 1) / 6 * 6 = iI (((p : Int) - 1) - ((p : Int) - 1).tdiv 6 * 6) := by
    have h1 := iI_toInt (z := (p : Int) - 1) ⟨by omega, by omega⟩
    have : (iI p - 1) / 6 = iI (((p : Int) - 1).tdiv 6) := by
      rw [show (1 : Int32) = iI 1 from rfl, iI_sub]
      by_cases h0 : p = 0
      · subst h0; decide
      · rw [show (6 : Int32) = iI 6 from rfl, iI_div (by omega) (by omega) (by omega) (by omega), Int.tdiv_eq_ediv_of_nonneg (by omega)]
    rw [this, show (1 : Int32) = iI 1 from rfl, show (6 : Int32) = iI 6 from rfl, iI_sub, iI_mul, iI_sub]
  rw [e1]
  by_cases h0 : p = 0
  · subst h0
    rw [if_pos (by decide), show (115 : Int32) = iI 115 from rfl, ite_eq ⟨hz, by decide⟩]
    by_cases c : z = 115
    · rw [if_pos c, bI_t (by unfold GO; rw [if_pos rfl]; exact c)]; rfl
    · rw [if_neg c, bI_f (by unfold GO; rw [if_pos rfl]; exact c)]; rfl
  · rw [show (0 : Int32) = iI 0 from rfl, ite_eq ⟨⟨by omega, by omega⟩, by decide⟩, if_neg (by omega), show (37 : Int32) = iI 37 from rfl, ite_lt ⟨⟨by omega, by omega⟩, by decide⟩]
    by_cases h37 : 37 ≤ p
    · rw [if_neg (by omega), bI_f (by unfold GO; rw [if_neg h0, if_pos h37]; exact id)]
    · rw [if_pos (by omega)]
      have e2 : ((p : Int) - 1) - ((p : Int) - 1).tdiv 6 * 6 = (((p - 1) % 6 : Nat) : Int) := by
        rw [Int.tdiv_eq_ediv_of_nonneg (by omega)]
        omega
      have eG : GO p z ↔ GOj ((p - 1) % 6) z := by unfold GO; rw [if_neg h0, if_neg h37]
      rw [e2, bI_congr eG]
      have hj : (p - 1) % 6 < 6 := Nat.mod_lt _ (by omega)
      generalize (p - 1) % 6 = j at hj
      have k9 : rg (kdI z) := by rcases kdI_in z with e | e <;> constructor <;> omega
      have s9 : rg (sdI z) := by rcases sdI_in z with e | e <;> constructor <;> omega
      rcases (show j = 0 ∨ j = 1 ∨ j = 2 ∨ j = 3 ∨ j = 4 ∨ j = 5 by omega) with e | e | e | e | e | e <;> subst e
      · rw [if_pos (by decide), show (59 : Int32) = iI 59 from rfl, ite_eq ⟨hz, by decide⟩]
        by_cases c : z = 59
        · rw [if_pos c, bI_t (show GOj 0 z from c)]; rfl
        · rw [if_neg c, bI_f (show ¬ GOj 0 z from c)]
      · rw [if_neg (by decide), if_pos (by decide), show (-9 : Int32) = iI (-9) from rfl, ite_eq ⟨k9, by decide⟩]
        by_cases c : kdI z = -9
        · rw [if_pos c, bI_f (fun q : GOj 1 z => q c)]
        · rw [if_neg c, bI_t (show GOj 1 z from c)]; rfl
      · rw [if_neg (by decide), if_neg (by decide), if_pos (by decide), show (48 : Int32) = iI 48 from rfl, ite_lt ⟨hz, by decide⟩, show (54 : Int32) = iI 54 from rfl, ite_lt ⟨by decide, hz⟩]
        by_cases c : 48 ≤ z ∧ z ≤ 54
        · rw [if_neg (by omega), if_neg (by omega), bI_t (show GOj 2 z from by show dgI z 0 6 ≠ -9; unfold dgI; rw [if_pos (by omega)]; omega)]; rfl
        · rw [bI_f (show ¬ GOj 2 z from by intro q; apply (show dgI z 0 6 ≠ -9 from q); unfold dgI; rw [if_neg (by omega)])]
          by_cases d : z < 48
          · rw [if_pos d]
          · rw [if_neg d, if_pos (by omega)]
      · rw [if_neg (by decide), if_neg (by decide), if_neg (by decide), if_pos (by decide), show (-9 : Int32) = iI (-9) from rfl, ite_eq ⟨s9, by decide⟩]
        by_cases c : sdI z = -9
        · rw [if_pos c, bI_f (fun q : GOj 3 z => q c)]
        · rw [if_neg c, bI_t (show GOj 3 z from c)]; rfl
      · rw [if_neg (by decide), if_neg (by decide), if_neg (by decide), if_neg (by decide), if_pos (by decide), show (49 : Int32) = iI 49 from rfl, ite_lt ⟨hz, by decide⟩, show (57 : Int32) = iI 57 from rfl, ite_lt ⟨by decide, hz⟩]
        by_cases c : 49 ≤ z ∧ z ≤ 57
        · rw [if_neg (by omega), if_neg (by omega), bI_t (show GOj 4 z from by show dgI z 1 9 ≠ -9; unfold dgI; rw [if_pos (by omega)]; omega)]; rfl
        · rw [bI_f (show ¬ GOj 4 z from by intro q; apply (show dgI z 1 9 ≠ -9 from q); unfold dgI; rw [if_neg (by omega)])]
          by_cases d : z < 49
          · rw [if_pos d]
          · rw [if_neg d, if_pos (by omega)]
      · rw [if_neg (by decide), if_neg (by decide), if_neg (by decide), if_neg (by decide), if_neg (by decide), show (101 : Int32) = iI 101 from rfl, ite_eq ⟨hz, by decide⟩, show (111 : Int32) = iI 111 from rfl, ite_eq ⟨hz, by decide⟩]
        by_cases c : z = 101
        · rw [if_pos c, bI_t (show GOj 5 z from by subst c; show wtI 101 ≠ -9; decide)]; rfl
        · rw [if_neg c]
          by_cases d : z = 111
          · rw [if_pos d, bI_t (show GOj 5 z from by subst d; show wtI 111 ≠ -9; decide)]; rfl
          · rw [if_neg d, bI_f (show ¬ GOj 5 z from by intro q; apply (show wtI z ≠ -9 from q); unfold wtI; rw [if_neg c, if_neg d])]
/-- the class's search for the first fault -/
theorem X_ff (z : Nat → Int) (hz : ∀ p, rg (z p)) {k i n : Nat} (hi : i + n ≤ 60) {S : MS} (hc : ∀ p, p < n → S.1 (20 + k) (i + p) = iI (z p)) (K KX : Int32 → MS → Option α) {p : Nat} (hp : p ≤ n) (hg : ∀ q, q < p → GO q (z q)) : ∀ (m q fuel : Nat), q + m = p → m < fuel → (p = n → f5_firstFault_L2 k (iI i) (iI n) K KX fuel (iI q) S = KX (iI n) S) ∧ (p < n → ¬ GO p (z p) → f5_firstFault_L2 k (iI i) (iI n) K KX fuel (iI q) S = K (iI p) S) := by
  intro m
  induction m with
  | zero =>
    intro q fuel hq hf
    obtain ⟨f, rfl⟩ : ∃ f, fuel = f + 1 := ⟨fuel - 1, by omega⟩
    obtain rfl : q = p := by omega
    rw [f5_firstFault_L2, ite_le ⟨⟨by omega, by omega⟩, ⟨by omega, by omega⟩⟩]
    constructor
    · intro e; rw [if_pos (by omega), e]
    · intro e g
      rw [if_neg (by omega), iI_add, show ((i : Int) + (q : Int)) = ((i + q : Nat) : Int) by omega, ck_nat (by omega) (by omega), hc q e, f5_goesOn_eq (by omega) (hz q), bI_f g, if_pos (by decide)]
  | succ m ih =>
    intro q fuel hq hf
    obtain ⟨f, rfl⟩ : ∃ f, fuel = f + 1 := ⟨fuel - 1, by omega⟩
    have := ih (q + 1) f (by omega) (by omega)
    rw [f5_firstFault_L2, ite_le ⟨⟨by omega, by omega⟩, ⟨by omega, by omega⟩⟩, if_neg (by omega), iI_add, show ((i : Int) + (q : Int)) = ((i + q : Nat) : Int) by omega, ck_nat (by omega) (by omega), hc q (by omega), f5_goesOn_eq (by omega) (hz q), bI_t (hg q (by omega)), if_neg (by decide), nm_eq, show (1 : Int32) = iI 1 from rfl, iI_add]
    exact this
end Text
