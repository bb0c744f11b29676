/-! FROM THE LAW'S ENTRY to its loop -/
theorem gd_tbl {w : Cond} (h : w ∈ lw_gd) : w ∈ lw_tbl := (List.mem_filter.mp h).1
theorem w_lays : Cond.laysStatic "BallastSteps" "POWERS_OF_3" "[I" ∈ lw_tbl := List.mem_of_getElem? (i := 284) (by decide +kernel)
theorem w_ovR : Cond.arrayOver (.object "BallastSteps$Row") ∈ lw_tbl := List.mem_of_getElem? (i := 65) (by decide +kernel)
theorem w_ovT : Cond.arrayOver (.object "BallastSteps$Tank") ∈ lw_tbl := List.mem_of_getElem? (i := 73) (by decide +kernel)
theorem arr_of {args : Array Value} {s : State} {ty : FieldType} (h : (Cond.arrayClass ty).before args s = true) (hno : ∀ C, ty ≠ .object C) : ∃ cA, ArrOfT s cA ty ∧ va_RA s cA ty := by
  obtain ⟨c, k, comp, h1, h2, h3⟩ := Cond.arrayClass_spec h
  refine ⟨c, fun n z => ⟨fun k h => (by cases h), k, h2, comp, h3⟩, ?_⟩
  cases ty <;> first | exact h1 | exact absurd rfl (hno _)
theorem arr_ov {s : State} {C : String} (h : va_AO C s) : ∃ cA, ArrOfT s cA (.object C) ∧ va_RA s cA (.object C) := by
  obtain ⟨comp, c, k, h1, h2, h3, h4, h5⟩ := Cond.arrayOver_spec h
  exact ⟨c, fun n z => ⟨fun k h => (by cases h), k, h3, comp, h4⟩, k, comp, h3, h4, h1, h5⟩
theorem zg_start {args : Array Value} {s : State} (hts : ∀ w ∈ lw_tbl, w.before args s = true) (hgv : (Jvm.Cond.and given_1 narrow_1).before args s = true) : ZG (fun q => s.heap.size ≤ q) s s.heap := by
  have hs := flat_of_before _ hgv
  have hA : ∀ a : Nat, a < s.heap.size → ¬ s.heap.size ≤ a := fun a h => Nat.not_le.mpr h
  have harr : (Cond.arrayOf (.static "BallastSteps" "POWERS_OF_3" "[I") .int).before args s = true := hs _ (by decide +kernel)
  have hlen : (Cond.eq (.length (.static "BallastSteps" "POWERS_OF_3" "[I")) (.int 6)).before args s = true := hs _ (by decide +kernel)
  have e0 : (Cond.eq (.elem (.static "BallastSteps" "POWERS_OF_3" "[I") (.int 0)) (.int 1)).before args s = true := hs _ (by decide +kernel)
  have e1 : (Cond.eq (.elem (.static "BallastSteps" "POWERS_OF_3" "[I") (.int 1)) (.int 3)).before args s = true := hs _ (by decide +kernel)
  have e2 : (Cond.eq (.elem (.static "BallastSteps" "POWERS_OF_3" "[I") (.int 2)) (.int 9)).before args s = true := hs _ (by decide +kernel)
  have e3 : (Cond.eq (.elem (.static "BallastSteps" "POWERS_OF_3" "[I") (.int 3)) (.int 27)).before args s = true := hs _ (by decide +kernel)
  have e4 : (Cond.eq (.elem (.static "BallastSteps" "POWERS_OF_3" "[I") (.int 4)) (.int 81)).before args s = true := hs _ (by decide +kernel)
  have e5 : (Cond.eq (.elem (.static "BallastSteps" "POWERS_OF_3" "[I") (.int 5)) (.int 243)).before args s = true := hs _ (by decide +kernel)
  obtain ⟨t, h1, h2⟩ := va_Tof (N := 6) (f := fun j => .int (pw3 j)) (A := fun q => s.heap.size ≤ q) (by decide) harr (va_eqt hlen) (fun j hj => by
    rcases (show j = 0 ∨ j = 1 ∨ j = 2 ∨ j = 3 ∨ j = 4 ∨ j = 5 by omega) with rfl | rfl | rfl | rfl | rfl | rfl
    · exact va_eqt e0
    · exact va_eqt e1
    · exact va_eqt e2
    · exact va_eqt e3
    · exact va_eqt e4
    · exact va_eqt e5) hA
  exact ⟨t, va_Zof (hts _ w_lays) (hts _ (gd_tbl w_45)) h1 hA, h2⟩
set_option maxHeartbeats 4000000 in
set_option maxRecDepth 100000 in
theorem whole_go {Rel : MS → MS → Prop} (ops : OpsOK Rel) (hR0 : Rel S0X S0M) {p : Program} {e : Env} {s : State} {m : MethodId} {below : List Frame} {meth : Method} {c : Code} (l : Launch) {b L : Nat} {xs : Nat → Int32} (hL : L ≤ 3072) (C0 : lw_At p s m meth c b L xs) : W p l e room_1 s m #[Value.ref b] below meth c s.heap [] 0 0 (lw_Z below #[Value.ref b] s) (entryFrame m ([Value.ref b] : List Value).toArray 4) := by
  obtain ⟨hx, hb, hr, hml, hown, htl, hX, hbl, hlocks, hgv⟩ := id C0
  have hts : ∀ w ∈ lw_gd, w.before #[Value.ref b] s = true := fun w h => htl w (gd_tbl h)
  have hN : NG s := fun w hw hn => by
    cases w with
    | fieldLinkNest a i b2 n d k => exact va_Nw.of rfl (htl _ hw)
    | methodLinkNest a i x k => exact va_Nw.of rfl (htl _ hw)
    | _ => cases hn
  have hNA : NA s := ⟨va_AO.of (htl _ w_ovR), va_AO.of (htl _ w_ovT)⟩
  have hZ := zg_start htl hgv
  obtain ⟨c0, iS0, hKn0⟩ := u_known (C := RX0) (T := TX0) (N := 4) (n := 4) hts in_X0 (hts _ w_75)
  obtain ⟨c1, iS1, hKn1⟩ := u_known (C := RX1) (T := TX1) (N := 3) (n := 3) hts in_X1 (hts _ w_196)
  obtain ⟨c2, iS2, hKn2⟩ := u_known (C := RX2) (T := TX2) (N := 10) (n := 10) hts in_X2 (hts _ w_157)
  obtain ⟨c3, iS3, hKn3⟩ := u_known (C := RX3) (T := TX3) (N := 7) (n := 7) hts in_X3 (hts _ w_67)
  obtain ⟨c4, iS4, hKn4⟩ := u_known (C := RX4) (T := TX4) (N := 4) (n := 4) hts in_X4 (hts _ w_97)
  obtain ⟨c5, iS5, hKn5⟩ := u_known (C := RX5) (T := TX5) (N := 7) (n := 7) hts in_X5 (hts _ w_57)
  obtain ⟨c6, iS6, hKn6⟩ := u_known (C := RX6) (T := TX6) (N := 36) (n := 36) hts in_X6 (hts _ w_631)
  obtain ⟨dC, dI, hKc⟩ : ∃ (dC : Nat → ClassId) (dI : Nat → Nat → Nat), ∀ (k : Nat) (q : vw_C), classes[k]? = some q → u_Kn s q.1 q.2.1 q.2.2 (dC k) (dI k) := by
    refine ⟨fun k => match k with | 0 => c0 | 1 => c1 | 2 => c2 | 3 => c3 | 4 => c4 | 5 => c5 | _ => c6, fun k => match k with | 0 => iS0 | 1 => iS1 | 2 => iS2 | 3 => iS3 | 4 => iS4 | 5 => iS5 | _ => iS6, ?_⟩
    intro k q hq
    match k, hq with
    | 0, hq => cases hq; exact hKn0
    | 1, hq => cases hq; exact hKn1
    | 2, hq => cases hq; exact hKn2
    | 3, hq => cases hq; exact hKn3
    | 4, hq => cases hq; exact hKn4
    | 5, hq => cases hq; exact hKn5
    | 6, hq => cases hq; exact hKn6
    | k + 7, hq => simp [classes] at hq
  obtain ⟨y0, ya0, yb0⟩ := arr_of (hts _ w_96) (fun _ h => by cases h)
  obtain ⟨y1, ya1, yb1⟩ := arr_of (hts _ w_194) (fun _ h => by cases h)
  obtain ⟨y2, ya2, yb2⟩ := arr_of (hts _ w_195) (fun _ h => by cases h)
  obtain ⟨y3, ya3, yb3⟩ := arr_ov hNA.1
  obtain ⟨y4, ya4, yb4⟩ := arr_ov hNA.2
  obtain ⟨cy, hK⟩ : ∃ cy : Nat → ClassId, va_K (dC, dI) classes (tysG cy) s := by
    refine ⟨fun k => match k with | 0 => y0 | 1 => y1 | 2 => y2 | 3 => y3 | _ => y4, hKc, ?_⟩
    intro k q hq
    match k, hq with
    | 0, hq => cases hq; exact ⟨ya0, yb0⟩
    | 1, hq => cases hq; exact ⟨ya1, yb1⟩
    | 2, hq => cases hq; exact ⟨ya2, yb2⟩
    | 3, hq => cases hq; exact ⟨ya3, yb3⟩
    | 4, hq => cases hq; exact ⟨ya4, yb4⟩
    | k + 5, hq => simp [tysG] at hq
  have hA : ∀ q : Nat, s.heap.size ≤ q → (fun q : Nat => s.heap.size ≤ q) q := fun _ h => h
  have hS : va_S (fun q : Nat => s.heap.size ≤ q) s.heap s.heap [] := va_S.rf
  have hP : va_P (dC, dI) classes [] s.heap := fun k q h => by simp at h
  have hD : va_D (fun q : Nat => s.heap.size ≤ q) [] := ⟨fun i j p q h => by simp at h, fun k q h => by simp at h⟩
  have hl := lv_entry ([.ref b]) (n := 4) (Nat.le_of_ble_eq_true rfl)
  rw [lg_entry_eq]
  generalize (lg_sl ([.ref b]) ++ List.replicate (4 - (lg_sl ([.ref b])).length) Slot.unset).toArray = ls at hl ⊢
  have hl : lv_has ls 4 [(0, .ref b)] := hl
  refine va_new (ci := 5) (fs := [.null, .null, .null, .null, .int 0, .int 0, .int 0]) (C := RX5) (T := TX5) (N := 7) hx hb hts in_X5 tyX5 tyX5_ok hown (hts _ w_56) (hts _ w_57) (hts _ w_45) hK hP hD hS hA rfl (fun j hj => by rcases (show j = 0 ∨ j = 1 ∨ j = 2 ∨ j = 3 ∨ j = 4 ∨ j = 5 ∨ j = 6 by omega) with rfl | rfl | rfl | rfl | rfl | rfl | rfl <;> rfl) (Nat.le_of_ble_eq_true rfl) (Nat.le_of_ble_eq_true rfl) dL_0 (fun h1 H hP hD hS => ?_)
  have hP : va_P (dC, dI) classes [(h1, .inr (5, [.null, .null, .null, .null, .int 0, .int 0, .int 0]))] H := hP
  have hD : va_D (fun q : Nat => s.heap.size ≤ q) [(h1, .inr (5, [.null, .null, .null, .null, .int 0, .int 0, .int 0]))] := hD
  refine lv_dup hx hb dL_3 rfl ?_
  have hPca := hP.sub (ws' := [(h1, .inr (5, [.null, .null, .null, .null, .int 0, .int 0, .int 0]))]) [0] rfl
  have hFca := va_free (wc := [(h1, .inr (5, [.null, .null, .null, .null, .int 0, .int 0, .int 0]))]) hD hS hA [0] rfl
  refine va_callv (va_runI (As := []) (rest := [.ref h1]) ⟨hx, hb, hml, hown, hts⟩ (con_X5 l (dC, dI) cy h1 H.size) (cwI 0 hts (gd_cons w_60) rfl rfl rfl (hts _ w_45) (hts _ w_58) (hts _ w_59) rfl hy_X5_init ⟨by decide, by decide⟩) ⟨?_, fun U hU hW => ⟨rfl, by rw [hU], by rw [hU]; exact hPca, va_K.moved hW.alike hK, hN.warm hW, hNA.moved hW.alike⟩⟩ rfl rfl hl.1 rfl (lv_room (Nat.le_of_ble_eq_true rfl)) dL_4 ⟨Nat.le_of_ble_eq_true rfl, Nat.le_of_ble_eq_true rfl⟩) hS (fun q _ h => hFca q h) hFca (fun u1 t H1 locs ht hvm hw hB hz1 hk1 hS => ?_)
  · intro a U g mk2 ⟨q0, q1, q2, q3, q4, q5⟩
    exact ⟨q0, q1, q2, va_K.moved (u := U) (U := U.calling g mk2 a) (Vm.Alike.refl U.vm) q3, NG.same (s := U) (U := U.calling g mk2 a) rfl q4, NA.moved (u := U) (U := U.calling g mk2 a) (Vm.Alike.refl U.vm) q5⟩
  obtain ⟨hP1, hD1⟩ := hB
  rw [ht] at hP1
  obtain ⟨hP, hD⟩ := va_join (wr := []) (w1 := mk_X5 cy u1) hP hD [0] [] rfl rfl (by decide) (by decide) hk1 hFca hP1 hD1
  generalize H1 = H at hP hS ⊢
  have hP : va_P (dC, dI) classes (mk_X5 cy u1) H := hP
  have hD : va_D (fun q : Nat => s.heap.size ≤ q) (mk_X5 cy u1) := hD
  have hu1 : u1 0 = h1 := hw
  rw [← hu1]
  refine lv_astore_n (lv' := [(1, .ref (u1 0)), (0, .ref b)]) hx hb dL_7 rfl hl (by decide) rfl (fun ls hl => ?_)
  refine va_new (ci := 6) (fs := [.int 0, .int 0, .null, .null, .null, .null, .int 0, .null, .null, .null, .null, .null, .null, .int 0, .int 0, .int 0, .int 0, .int 0, .int 0, .null, .null, .null, .null, .null, .null, .int 0, .int 0, .int 0, .int 0, .null, .null, .null, .int 0, .null, .int 0, .null]) (C := RX6) (T := TX6) (N := 36) hx hb hts in_X6 tyX6 tyX6_ok hown (hts _ w_630) (hts _ w_631) (hts _ w_51) hK hP hD hS hA rfl (fun j hj => by rcases (show j = 0 ∨ j = 1 ∨ j = 2 ∨ j = 3 ∨ j = 4 ∨ j = 5 ∨ j = 6 ∨ j = 7 ∨ j = 8 ∨ j = 9 ∨ j = 10 ∨ j = 11 ∨ j = 12 ∨ j = 13 ∨ j = 14 ∨ j = 15 ∨ j = 16 ∨ j = 17 ∨ j = 18 ∨ j = 19 ∨ j = 20 ∨ j = 21 ∨ j = 22 ∨ j = 23 ∨ j = 24 ∨ j = 25 ∨ j = 26 ∨ j = 27 ∨ j = 28 ∨ j = 29 ∨ j = 30 ∨ j = 31 ∨ j = 32 ∨ j = 33 ∨ j = 34 ∨ j = 35 by omega) with rfl | rfl | rfl | rfl | rfl | rfl | rfl | rfl | rfl | rfl | rfl | rfl | rfl | rfl | rfl | rfl | rfl | rfl | rfl | rfl | rfl | rfl | rfl | rfl | rfl | rfl | rfl | rfl | rfl | rfl | rfl | rfl | rfl | rfl | rfl | rfl <;> rfl) (Nat.le_of_ble_eq_true rfl) (Nat.le_of_ble_eq_true rfl) dL_8 (fun h2 H hP hD hS => ?_)
  refine lv_dup hx hb dL_11 rfl ?_
  have hn30 : (mk_X5 cy u1 ++ [(h2, .inr (6, [.int 0, .int 0, .null, .null, .null, .null, .int 0, .null, .null, .null, .null, .null, .null, .int 0, .int 0, .int 0, .int 0, .int 0, .int 0, .null, .null, .null, .null, .null, .null, .int 0, .int 0, .int 0, .int 0, .null, .null, .null, .int 0, .null, .int 0, .null]))])[30]? = some (h2, .inr (6, [.int 0, .int 0, .null, .null, .null, .null, .int 0, .null, .null, .null, .null, .null, .null, .int 0, .int 0, .int 0, .int 0, .int 0, .int 0, .null, .null, .null, .null, .null, .null, .int 0, .int 0, .int 0, .int 0, .null, .null, .null, .int 0, .null, .int 0, .null])) := rfl
  have hPcb : va_P (dC, dI) classes [(h2, .inr (6, [.int 0, .int 0, .null, .null, .null, .null, .int 0, .null, .null, .null, .null, .null, .null, .int 0, .int 0, .int 0, .int 0, .int 0, .int 0, .null, .null, .null, .null, .null, .null, .int 0, .int 0, .int 0, .int 0, .null, .null, .null, .int 0, .null, .int 0, .null]))] H := fun j q hj => by
    have hl2 := (List.getElem?_eq_some_iff.mp hj).1
    have hj0 : j = 0 := by simp at hl2; exact hl2
    subst hj0
    cases hj
    exact hP 30 _ hn30
  have hFcb := va_free (wc := [(h2, .inr (6, [.int 0, .int 0, .null, .null, .null, .null, .int 0, .null, .null, .null, .null, .null, .null, .int 0, .int 0, .int 0, .int 0, .int 0, .int 0, .null, .null, .null, .null, .null, .null, .int 0, .int 0, .int 0, .int 0, .null, .null, .null, .int 0, .null, .int 0, .null]))]) hD hS hA [30] rfl
  refine va_callv (va_runI (As := []) (rest := [.ref h2]) ⟨hx, hb, hml, hown, hts⟩ (con_X6 l (dC, dI) cy h2 H.size) (cwI 0 hts (gd_cons w_634) rfl rfl rfl (hts _ w_51) (hts _ w_632) (hts _ w_633) rfl hy_X6_init ⟨by decide, by decide⟩) ⟨?_, fun U hU hW => ⟨rfl, by rw [hU], by rw [hU]; exact hPcb, va_K.moved hW.alike hK, hN.warm hW, hNA.moved hW.alike⟩⟩ rfl rfl hl.1 rfl (lv_room (Nat.le_of_ble_eq_true rfl)) dL_12 ⟨Nat.le_of_ble_eq_true rfl, Nat.le_of_ble_eq_true rfl⟩) hS (fun q _ h => hFcb q h) hFcb (fun u2 t H1 locs ht hvm hw hB hz1 hk1 hS => ?_)
  · intro a U g mk2 ⟨q0, q1, q2, q3, q4, q5⟩
    exact ⟨q0, q1, q2, va_K.moved (u := U) (U := U.calling g mk2 a) (Vm.Alike.refl U.vm) q3, NG.same (s := U) (U := U.calling g mk2 a) rfl q4, NA.moved (u := U) (U := U.calling g mk2 a) (Vm.Alike.refl U.vm) q5⟩
  obtain ⟨hP1, hD1⟩ := hB
  rw [ht] at hP1
  obtain ⟨hP, hD⟩ := va_join (wr := mk_X5 cy u1) (w1 := mk_X6 cy u2) hP hD [30] (List.range 30) rfl rfl (by decide) (by decide) hk1 hFcb hP1 hD1
  have hu2 : u2 0 = h2 := hw
  rw [← hu2]
  refine lv_astore_n (lv' := [(2, .ref (u2 0)), (1, .ref (u1 0)), (0, .ref b)]) hx hb dL_15 rfl hl (by decide) rfl (fun ls hl => ?_)
  refine lv_iconst (v := 0) hx hb dL_16 (by decide) ?_
  refine lv_istore_n (lv' := [(3, .int 0), (2, .ref (u2 0)), (1, .ref (u1 0)), (0, .ref b)]) hx hb dL_17 rfl hl (by decide) rfl (fun ls hl => ?_)
  refine W.widen (k := 600000) (n := 7302250) (Nat.le_of_ble_eq_true rfl) (Nat.le_of_ble_eq_true rfl) ?_
  have lenX : (mk_X5 cy u1).length = 30 := by simp [mk_X5, wG]
  have atX : ∀ i, i < 30 → (mk_X5 cy u1 ++ mk_X6 cy u2)[i]? = some (u1 i, eX cy u1 i (S0X.1 i) (S0X.2 i)) := fun i hi => by rw [List.getElem?_append_left (by rw [lenX]; exact hi)]; exact wG_at hi
  have atM : ∀ i, i < 22 → (mk_X5 cy u1 ++ mk_X6 cy u2)[30 + i]? = some (u2 i, eM cy u2 i (S0M.1 i) (S0M.2 i)) := fun i hi => by rw [List.getElem?_append_right (by rw [lenX]; omega), lenX, show 30 + i - 30 = i by omega]; exact wG_at hi
  have hPx : va_P (dC, dI) classes (wG 30 (eX cy) u1 S0X) H1 := fun j q hj => by obtain ⟨h, rfl⟩ := wG_inv hj; exact hP j _ (atX j h)
  have O : OL (p, l, e, s, m, below, meth, c, (dC, dI), cy, u1, u2, b, L, xs) := ⟨hx, hb, hr, hml, hown, hts, hK, ⟨fun i j hi hj h => hD.1 i j _ _ (atX i hi) (atX j hj) h, fun i j hi hj h => by have := hD.1 _ _ _ _ (atM i hi) (atM j hj) h; omega, fun i j hi hj h => by have := hD.1 _ _ _ _ (atX i hi) (atM j hj) h; omega⟩, ⟨fun i hi => hD.2 i _ (atX i hi), fun j hj => hD.2 _ _ (atM j hj)⟩, hZ, hN, hX, hbl, hlocks⟩
  exact law_loop ops O hL (L + 1) 0 0 S0X S0M (Nat.zero_le _) (by show L + 1 ≤ 0 + (L + 1); omega) rfl hR0 H1 _ ls hPx hP1 hS (lv_sub hl [3, 2, 1, 0] rfl)
