/-! ROWS of the judgement: an instruction, a row -/
section GMrows
variable {α : Type} {N : Nat} {E : (Nat → ClassId) → EG} {X : GX α} {own : String} {cc : ByteArray} {nL : Nat} {ret : Option FieldType} {rm : Room} {P : Option α} {S : MS} {pc : Nat} {lv : List (Nat × Value)} {st : List Value}
theorem r_iload_n (O : OK N X own cc nL ret rm) {k : Fin 4} (hd : decode cc pc = .ok (.iload_n k, 1)) (i : Nat) {v : Int32} (hl : lv[i]? = some (k.val, .int v)) (K : GM N E X P S (pc + 1) lv (.int v :: st)) : GM N E X P S pc lv st := by
  obtain ⟨p, l, e, R, s, m, args, below, meth, c, Q, out, D, cy, ad⟩ := X
  obtain ⟨hx, hb, hr, hml, hown, hts, hK, hI, hZ, hN, hlk, hR⟩ := O
  exact fun H locs ls h1 h2 h3 h4 => lv_iload_n hx hb hd rfl (lv_at h4 i hl) (K H locs ls h1 h2 h3 h4)
theorem r_iload (O : OK N X own cc nL ret rm) {k : Nat} (hd : decode cc pc = .ok (.iload k, 2)) (i : Nat) {v : Int32} (hl : lv[i]? = some (k, .int v)) (K : GM N E X P S (pc + 2) lv (.int v :: st)) : GM N E X P S pc lv st := by
  obtain ⟨p, l, e, R, s, m, args, below, meth, c, Q, out, D, cy, ad⟩ := X
  obtain ⟨hx, hb, hr, hml, hown, hts, hK, hI, hZ, hN, hlk, hR⟩ := O
  exact fun H locs ls h1 h2 h3 h4 => lv_iload hx hb hd (lv_at h4 i hl) (K H locs ls h1 h2 h3 h4)
theorem r_lload_n (O : OK N X own cc nL ret rm) {k : Fin 4} (hd : decode cc pc = .ok (.lload_n k, 1)) (i : Nat) {v : Int64} (hl : lv[i]? = some (k.val, .long v)) (K : GM N E X P S (pc + 1) lv (.long v :: st)) : GM N E X P S pc lv st := by
  obtain ⟨p, l, e, R, s, m, args, below, meth, c, Q, out, D, cy, ad⟩ := X
  obtain ⟨hx, hb, hr, hml, hown, hts, hK, hI, hZ, hN, hlk, hR⟩ := O
  exact fun H locs ls h1 h2 h3 h4 => lv_lload_n hx hb hd rfl (lv_at h4 i hl) (K H locs ls h1 h2 h3 h4)
theorem r_lload (O : OK N X own cc nL ret rm) {k : Nat} (hd : decode cc pc = .ok (.lload k, 2)) (i : Nat) {v : Int64} (hl : lv[i]? = some (k, .long v)) (K : GM N E X P S (pc + 2) lv (.long v :: st)) : GM N E X P S pc lv st := by
  obtain ⟨p, l, e, R, s, m, args, below, meth, c, Q, out, D, cy, ad⟩ := X
  obtain ⟨hx, hb, hr, hml, hown, hts, hK, hI, hZ, hN, hlk, hR⟩ := O
  exact fun H locs ls h1 h2 h3 h4 => lv_lload hx hb hd (lv_at h4 i hl) (K H locs ls h1 h2 h3 h4)
theorem r_aload_n (O : OK N X own cc nL ret rm) {k : Fin 4} (hd : decode cc pc = .ok (.aload_n k, 1)) (i : Nat) {v : Nat} (hl : lv[i]? = some (k.val, .ref v)) (K : GM N E X P S (pc + 1) lv (.ref v :: st)) : GM N E X P S pc lv st := by
  obtain ⟨p, l, e, R, s, m, args, below, meth, c, Q, out, D, cy, ad⟩ := X
  obtain ⟨hx, hb, hr, hml, hown, hts, hK, hI, hZ, hN, hlk, hR⟩ := O
  exact fun H locs ls h1 h2 h3 h4 => lv_aload_n hx hb hd rfl (lv_at h4 i hl) (K H locs ls h1 h2 h3 h4)
theorem r_aload (O : OK N X own cc nL ret rm) {k : Nat} (hd : decode cc pc = .ok (.aload k, 2)) (i : Nat) {v : Nat} (hl : lv[i]? = some (k, .ref v)) (K : GM N E X P S (pc + 2) lv (.ref v :: st)) : GM N E X P S pc lv st := by
  obtain ⟨p, l, e, R, s, m, args, below, meth, c, Q, out, D, cy, ad⟩ := X
  obtain ⟨hx, hb, hr, hml, hown, hts, hK, hI, hZ, hN, hlk, hR⟩ := O
  exact fun H locs ls h1 h2 h3 h4 => lv_aload hx hb hd (lv_at h4 i hl) (K H locs ls h1 h2 h3 h4)
theorem r_istore_n (O : OK N X own cc nL ret rm) {k : Fin 4} (hd : decode cc pc = .ok (.istore_n k, 1)) {x : Int32} (lv' : List (Nat × Value)) (hn : k.val < nL) (hl : (k.val, Value.int x) :: lv.filter (fun q => !(q.1 == k.val) && !(q.1 + 1 == k.val && q.2.category == 2)) = lv') (K : GM N E X P S (pc + 1) (lv') st) : GM N E X P S pc lv (.int x :: st) := by
  obtain ⟨p, l, e, R, s, m, args, below, meth, c, Q, out, D, cy, ad⟩ := X
  obtain ⟨hx, hb, hr, hml, hown, hts, hK, hI, hZ, hN, hlk, hR⟩ := O
  exact fun H locs ls h1 h2 h3 h4 => lv_istore_n hx hb hd rfl h4 (by rw [hml]; exact hn) hl (fun ls' h4' => K H locs ls' h1 h2 h3 h4')
theorem r_istore_n_nm (O : OK N X own cc nL ret rm) {P : Int32 → Option α} {k : Fin 4} (hd : decode cc pc = .ok (.istore_n k, 1)) {x : Int32} (lv' : Int32 → List (Nat × Value)) (hn : k.val < nL) (hl : ∀ x, (k.val, Value.int x) :: lv.filter (fun q => !(q.1 == k.val) && !(q.1 + 1 == k.val && q.2.category == 2)) = lv' x) (K : ∀ x, GM N E X (P x) S (pc + 1) (lv' x) st) : GM N E X (nm x P) S pc lv (.int x :: st) := by
  obtain ⟨p, l, e, R, s, m, args, below, meth, c, Q, out, D, cy, ad⟩ := X
  obtain ⟨hx, hb, hr, hml, hown, hts, hK, hI, hZ, hN, hlk, hR⟩ := O
  exact fun H locs ls h1 h2 h3 h4 => lv_istore_n hx hb hd rfl h4 (by rw [hml]; exact hn) (hl x) (fun ls' h4' => K x H locs ls' h1 h2 h3 h4')
theorem r_istore (O : OK N X own cc nL ret rm) {k : Nat} (hd : decode cc pc = .ok (.istore k, 2)) {x : Int32} (lv' : List (Nat × Value)) (hn : k < nL) (hl : (k, Value.int x) :: lv.filter (fun q => !(q.1 == k) && !(q.1 + 1 == k && q.2.category == 2)) = lv') (K : GM N E X P S (pc + 2) (lv') st) : GM N E X P S pc lv (.int x :: st) := by
  obtain ⟨p, l, e, R, s, m, args, below, meth, c, Q, out, D, cy, ad⟩ := X
  obtain ⟨hx, hb, hr, hml, hown, hts, hK, hI, hZ, hN, hlk, hR⟩ := O
  exact fun H locs ls h1 h2 h3 h4 => lv_istore hx hb hd h4 (by rw [hml]; exact hn) hl (fun ls' h4' => K H locs ls' h1 h2 h3 h4')
theorem r_istore_nm (O : OK N X own cc nL ret rm) {P : Int32 → Option α} {k : Nat} (hd : decode cc pc = .ok (.istore k, 2)) {x : Int32} (lv' : Int32 → List (Nat × Value)) (hn : k < nL) (hl : ∀ x, (k, Value.int x) :: lv.filter (fun q => !(q.1 == k) && !(q.1 + 1 == k && q.2.category == 2)) = lv' x) (K : ∀ x, GM N E X (P x) S (pc + 2) (lv' x) st) : GM N E X (nm x P) S pc lv (.int x :: st) := by
  obtain ⟨p, l, e, R, s, m, args, below, meth, c, Q, out, D, cy, ad⟩ := X
  obtain ⟨hx, hb, hr, hml, hown, hts, hK, hI, hZ, hN, hlk, hR⟩ := O
  exact fun H locs ls h1 h2 h3 h4 => lv_istore hx hb hd h4 (by rw [hml]; exact hn) (hl x) (fun ls' h4' => K x H locs ls' h1 h2 h3 h4')
theorem r_lstore_n (O : OK N X own cc nL ret rm) {k : Fin 4} (hd : decode cc pc = .ok (.lstore_n k, 1)) {x : Int64} (lv' : List (Nat × Value)) (hn : k.val + 1 < nL) (hl : (k.val, Value.long x) :: lv.filter (fun q => !(q.1 == k.val) && (!(q.1 == k.val + 1) && !(q.1 + 1 == k.val && q.2.category == 2))) = lv') (K : GM N E X P S (pc + 1) (lv') st) : GM N E X P S pc lv (.long x :: st) := by
  obtain ⟨p, l, e, R, s, m, args, below, meth, c, Q, out, D, cy, ad⟩ := X
  obtain ⟨hx, hb, hr, hml, hown, hts, hK, hI, hZ, hN, hlk, hR⟩ := O
  exact fun H locs ls h1 h2 h3 h4 => lv_lstore_n hx hb hd rfl h4 (by rw [hml]; exact hn) hl (fun ls' h4' => K H locs ls' h1 h2 h3 h4')
theorem r_lstore_n_nm (O : OK N X own cc nL ret rm) {P : Int64 → Option α} {k : Fin 4} (hd : decode cc pc = .ok (.lstore_n k, 1)) {x : Int64} (lv' : Int64 → List (Nat × Value)) (hn : k.val + 1 < nL) (hl : ∀ x, (k.val, Value.long x) :: lv.filter (fun q => !(q.1 == k.val) && (!(q.1 == k.val + 1) && !(q.1 + 1 == k.val && q.2.category == 2))) = lv' x) (K : ∀ x, GM N E X (P x) S (pc + 1) (lv' x) st) : GM N E X (nm x P) S pc lv (.long x :: st) := by
  obtain ⟨p, l, e, R, s, m, args, below, meth, c, Q, out, D, cy, ad⟩ := X
  obtain ⟨hx, hb, hr, hml, hown, hts, hK, hI, hZ, hN, hlk, hR⟩ := O
  exact fun H locs ls h1 h2 h3 h4 => lv_lstore_n hx hb hd rfl h4 (by rw [hml]; exact hn) (hl x) (fun ls' h4' => K x H locs ls' h1 h2 h3 h4')
theorem r_lstore (O : OK N X own cc nL ret rm) {k : Nat} (hd : decode cc pc = .ok (.lstore k, 2)) {x : Int64} (lv' : List (Nat × Value)) (hn : k + 1 < nL) (hl : (k, Value.long x) :: lv.filter (fun q => !(q.1 == k) && (!(q.1 == k + 1) && !(q.1 + 1 == k && q.2.category == 2))) = lv') (K : GM N E X P S (pc + 2) (lv') st) : GM N E X P S pc lv (.long x :: st) := by
  obtain ⟨p, l, e, R, s, m, args, below, meth, c, Q, out, D, cy, ad⟩ := X
  obtain ⟨hx, hb, hr, hml, hown, hts, hK, hI, hZ, hN, hlk, hR⟩ := O
  exact fun H locs ls h1 h2 h3 h4 => lv_lstore hx hb hd h4 (by rw [hml]; exact hn) hl (fun ls' h4' => K H locs ls' h1 h2 h3 h4')
theorem r_lstore_nm (O : OK N X own cc nL ret rm) {P : Int64 → Option α} {k : Nat} (hd : decode cc pc = .ok (.lstore k, 2)) {x : Int64} (lv' : Int64 → List (Nat × Value)) (hn : k + 1 < nL) (hl : ∀ x, (k, Value.long x) :: lv.filter (fun q => !(q.1 == k) && (!(q.1 == k + 1) && !(q.1 + 1 == k && q.2.category == 2))) = lv' x) (K : ∀ x, GM N E X (P x) S (pc + 2) (lv' x) st) : GM N E X (nm x P) S pc lv (.long x :: st) := by
  obtain ⟨p, l, e, R, s, m, args, below, meth, c, Q, out, D, cy, ad⟩ := X
  obtain ⟨hx, hb, hr, hml, hown, hts, hK, hI, hZ, hN, hlk, hR⟩ := O
  exact fun H locs ls h1 h2 h3 h4 => lv_lstore hx hb hd h4 (by rw [hml]; exact hn) (hl x) (fun ls' h4' => K x H locs ls' h1 h2 h3 h4')
theorem r_astore_n (O : OK N X own cc nL ret rm) {k : Fin 4} (hd : decode cc pc = .ok (.astore_n k, 1)) {x : Nat} (lv' : List (Nat × Value)) (hn : k.val < nL) (hl : (k.val, Value.ref x) :: lv.filter (fun q => !(q.1 == k.val) && !(q.1 + 1 == k.val && q.2.category == 2)) = lv') (K : GM N E X P S (pc + 1) (lv') st) : GM N E X P S pc lv (.ref x :: st) := by
  obtain ⟨p, l, e, R, s, m, args, below, meth, c, Q, out, D, cy, ad⟩ := X
  obtain ⟨hx, hb, hr, hml, hown, hts, hK, hI, hZ, hN, hlk, hR⟩ := O
  exact fun H locs ls h1 h2 h3 h4 => lv_astore_n hx hb hd rfl h4 (by rw [hml]; exact hn) hl (fun ls' h4' => K H locs ls' h1 h2 h3 h4')
theorem r_astore (O : OK N X own cc nL ret rm) {k : Nat} (hd : decode cc pc = .ok (.astore k, 2)) {x : Nat} (lv' : List (Nat × Value)) (hn : k < nL) (hl : (k, Value.ref x) :: lv.filter (fun q => !(q.1 == k) && !(q.1 + 1 == k && q.2.category == 2)) = lv') (K : GM N E X P S (pc + 2) (lv') st) : GM N E X P S pc lv (.ref x :: st) := by
  obtain ⟨p, l, e, R, s, m, args, below, meth, c, Q, out, D, cy, ad⟩ := X
  obtain ⟨hx, hb, hr, hml, hown, hts, hK, hI, hZ, hN, hlk, hR⟩ := O
  exact fun H locs ls h1 h2 h3 h4 => lv_astore hx hb hd h4 (by rw [hml]; exact hn) hl (fun ls' h4' => K H locs ls' h1 h2 h3 h4')
theorem r_iinc (O : OK N X own cc nL ret rm) {P : Int32 → Option α} {k : Nat} {n : Int} (hd : decode cc pc = .ok (.iinc k n, 3)) (i : Nat) {x c0 : Int32} (hi : lv[i]? = some (k, .int x)) (hc : Int32.ofInt n = c0) (lv' : Int32 → List (Nat × Value)) (hn : k < nL) (hl : ∀ x, (k, Value.int x) :: lv.filter (fun q => !(q.1 == k) && !(q.1 + 1 == k && q.2.category == 2)) = lv' x) (K : ∀ x, GM N E X (P x) S (pc + 3) (lv' x) st) : GM N E X (nm (x + c0) P) S pc lv st := by
  obtain ⟨p, l, e, R, s, m, args, below, meth, c, Q, out, D, cy, ad⟩ := X
  obtain ⟨hx, hb, hr, hml, hown, hts, hK, hI, hZ, hN, hlk, hR⟩ := O
  exact fun H locs ls h1 h2 h3 h4 => lv_iinc hx hb hd h4 hi (by rw [hc]) (by rw [hml]; exact hn) (hl (x + c0)) (fun ls' h4' => K (x + c0) H locs ls' h1 h2 h3 h4')
theorem r_iconst (O : OK N X own cc nL ret rm) {n : Int} (hd : decode cc pc = .ok (.iconst n, 1)) {v : Int32} (hv : Int32.ofInt n = v) (K : GM N E X P S (pc + 1) lv (.int v :: st)) : GM N E X P S pc lv st := by
  obtain ⟨p, l, e, R, s, m, args, below, meth, c, Q, out, D, cy, ad⟩ := X
  obtain ⟨hx, hb, hr, hml, hown, hts, hK, hI, hZ, hN, hlk, hR⟩ := O
  exact fun H locs ls h1 h2 h3 h4 => lv_iconst hx hb hd hv (K H locs ls h1 h2 h3 h4)
theorem r_bipush (O : OK N X own cc nL ret rm) {n : Int} (hd : decode cc pc = .ok (.bipush n, 2)) {v : Int32} (hv : (Int8.ofInt n).toInt32 = v) (K : GM N E X P S (pc + 2) lv (.int v :: st)) : GM N E X P S pc lv st := by
  obtain ⟨p, l, e, R, s, m, args, below, meth, c, Q, out, D, cy, ad⟩ := X
  obtain ⟨hx, hb, hr, hml, hown, hts, hK, hI, hZ, hN, hlk, hR⟩ := O
  exact fun H locs ls h1 h2 h3 h4 => lv_bipush hx hb hd hv (K H locs ls h1 h2 h3 h4)
theorem r_sipush (O : OK N X own cc nL ret rm) {n : Int} (hd : decode cc pc = .ok (.sipush n, 3)) {v : Int32} (hv : (Int16.ofInt n).toInt32 = v) (K : GM N E X P S (pc + 3) lv (.int v :: st)) : GM N E X P S pc lv st := by
  obtain ⟨p, l, e, R, s, m, args, below, meth, c, Q, out, D, cy, ad⟩ := X
  obtain ⟨hx, hb, hr, hml, hown, hts, hK, hI, hZ, hN, hlk, hR⟩ := O
  exact fun H locs ls h1 h2 h3 h4 => lv_sipush hx hb hd hv (K H locs ls h1 h2 h3 h4)
theorem r_lconst (O : OK N X own cc nL ret rm) {n : Fin 2} (hd : decode cc pc = .ok (.lconst n, 1)) {v : Int64} (hv : Int64.ofNat (n : Nat) = v) (K : GM N E X P S (pc + 1) lv (.long v :: st)) : GM N E X P S pc lv st := by
  obtain ⟨p, l, e, R, s, m, args, below, meth, c, Q, out, D, cy, ad⟩ := X
  obtain ⟨hx, hb, hr, hml, hown, hts, hK, hI, hZ, hN, hlk, hR⟩ := O
  exact fun H locs ls h1 h2 h3 h4 => lv_lconst hx hb hd hv (K H locs ls h1 h2 h3 h4)
theorem r_ldc2 (O : OK N X own cc nL ret rm) {index : Nat} {v : Int64} (hw : Cond.constantLong own index v ∈ lw_gd) (hd : decode cc pc = .ok (.ldc2_w index, 3)) (K : GM N E X P S (pc + 3) lv (.long v :: st)) : GM N E X P S pc lv st := by
  obtain ⟨p, l, e, R, s, m, args, below, meth, c, Q, out, D, cy, ad⟩ := X
  obtain ⟨hx, hb, hr, hml, hown, hts, hK, hI, hZ, hN, hlk, hR⟩ := O
  exact fun H locs ls h1 h2 h3 h4 => lv_ldc2 hx hb hown (hts _ hw) hd (K H locs ls h1 h2 h3 h4)
theorem r_ldcw (O : OK N X own cc nL ret rm) {index : Nat} {v : Int32} (hw : Cond.constant own index v ∈ lw_gd) (hd : decode cc pc = .ok (.ldc_w index, 3)) (K : GM N E X P S (pc + 3) lv (.int v :: st)) : GM N E X P S pc lv st := by
  obtain ⟨p, l, e, R, s, m, args, below, meth, c, Q, out, D, cy, ad⟩ := X
  obtain ⟨hx, hb, hr, hml, hown, hts, hK, hI, hZ, hN, hlk, hR⟩ := O
  exact fun H locs ls h1 h2 h3 h4 => lv_ldcw hx hb hown (hts _ hw) hd (K H locs ls h1 h2 h3 h4)
theorem r_iadd (O : OK N X own cc nL ret rm) {x y : Int32} (hd : decode cc pc = .ok (.iadd, 1)) (K : GM N E X P S (pc + 1) lv (.int (x + y) :: st)) : GM N E X P S pc lv (.int y :: .int x :: st) := by
  obtain ⟨p, l, e, R, s, m, args, below, meth, c, Q, out, D, cy, ad⟩ := X
  obtain ⟨hx, hb, hr, hml, hown, hts, hK, hI, hZ, hN, hlk, hR⟩ := O
  exact fun H locs ls h1 h2 h3 h4 => lv_iadd hx hb hd (K H locs ls h1 h2 h3 h4)
theorem r_isub (O : OK N X own cc nL ret rm) {x y : Int32} (hd : decode cc pc = .ok (.isub, 1)) (K : GM N E X P S (pc + 1) lv (.int (x - y) :: st)) : GM N E X P S pc lv (.int y :: .int x :: st) := by
  obtain ⟨p, l, e, R, s, m, args, below, meth, c, Q, out, D, cy, ad⟩ := X
  obtain ⟨hx, hb, hr, hml, hown, hts, hK, hI, hZ, hN, hlk, hR⟩ := O
  exact fun H locs ls h1 h2 h3 h4 => lv_isub hx hb hd (K H locs ls h1 h2 h3 h4)
theorem r_imul (O : OK N X own cc nL ret rm) {x y : Int32} (hd : decode cc pc = .ok (.imul, 1)) (K : GM N E X P S (pc + 1) lv (.int (x * y) :: st)) : GM N E X P S pc lv (.int y :: .int x :: st) := by
  obtain ⟨p, l, e, R, s, m, args, below, meth, c, Q, out, D, cy, ad⟩ := X
  obtain ⟨hx, hb, hr, hml, hown, hts, hK, hI, hZ, hN, hlk, hR⟩ := O
  exact fun H locs ls h1 h2 h3 h4 => lv_imul hx hb hd (K H locs ls h1 h2 h3 h4)
theorem r_iand (O : OK N X own cc nL ret rm) {x y : Int32} (hd : decode cc pc = .ok (.iand, 1)) (K : GM N E X P S (pc + 1) lv (.int (x &&& y) :: st)) : GM N E X P S pc lv (.int y :: .int x :: st) := by
  obtain ⟨p, l, e, R, s, m, args, below, meth, c, Q, out, D, cy, ad⟩ := X
  obtain ⟨hx, hb, hr, hml, hown, hts, hK, hI, hZ, hN, hlk, hR⟩ := O
  exact fun H locs ls h1 h2 h3 h4 => lv_iand hx hb hd (K H locs ls h1 h2 h3 h4)
theorem r_ior (O : OK N X own cc nL ret rm) {x y : Int32} (hd : decode cc pc = .ok (.ior, 1)) (K : GM N E X P S (pc + 1) lv (.int (x ||| y) :: st)) : GM N E X P S pc lv (.int y :: .int x :: st) := by
  obtain ⟨p, l, e, R, s, m, args, below, meth, c, Q, out, D, cy, ad⟩ := X
  obtain ⟨hx, hb, hr, hml, hown, hts, hK, hI, hZ, hN, hlk, hR⟩ := O
  exact fun H locs ls h1 h2 h3 h4 => lv_ior hx hb hd (K H locs ls h1 h2 h3 h4)
theorem r_ixor (O : OK N X own cc nL ret rm) {x y : Int32} (hd : decode cc pc = .ok (.ixor, 1)) (K : GM N E X P S (pc + 1) lv (.int (x ^^^ y) :: st)) : GM N E X P S pc lv (.int y :: .int x :: st) := by
  obtain ⟨p, l, e, R, s, m, args, below, meth, c, Q, out, D, cy, ad⟩ := X
  obtain ⟨hx, hb, hr, hml, hown, hts, hK, hI, hZ, hN, hlk, hR⟩ := O
  exact fun H locs ls h1 h2 h3 h4 => lv_ixor hx hb hd (K H locs ls h1 h2 h3 h4)
theorem r_ishl (O : OK N X own cc nL ret rm) {x y : Int32} (hd : decode cc pc = .ok (.ishl, 1)) (K : GM N E X P S (pc + 1) lv (.int (x <<< (y &&& 31)) :: st)) : GM N E X P S pc lv (.int y :: .int x :: st) := by
  obtain ⟨p, l, e, R, s, m, args, below, meth, c, Q, out, D, cy, ad⟩ := X
  obtain ⟨hx, hb, hr, hml, hown, hts, hK, hI, hZ, hN, hlk, hR⟩ := O
  exact fun H locs ls h1 h2 h3 h4 => lv_ishl hx hb hd (K H locs ls h1 h2 h3 h4)
theorem r_ishr (O : OK N X own cc nL ret rm) {x y : Int32} (hd : decode cc pc = .ok (.ishr, 1)) (K : GM N E X P S (pc + 1) lv (.int (x >>> (y &&& 31)) :: st)) : GM N E X P S pc lv (.int y :: .int x :: st) := by
  obtain ⟨p, l, e, R, s, m, args, below, meth, c, Q, out, D, cy, ad⟩ := X
  obtain ⟨hx, hb, hr, hml, hown, hts, hK, hI, hZ, hN, hlk, hR⟩ := O
  exact fun H locs ls h1 h2 h3 h4 => lv_ishr hx hb hd (K H locs ls h1 h2 h3 h4)
theorem r_ladd (O : OK N X own cc nL ret rm) {x y : Int64} (hd : decode cc pc = .ok (.ladd, 1)) (K : GM N E X P S (pc + 1) lv (.long (x + y) :: st)) : GM N E X P S pc lv (.long y :: .long x :: st) := by
  obtain ⟨p, l, e, R, s, m, args, below, meth, c, Q, out, D, cy, ad⟩ := X
  obtain ⟨hx, hb, hr, hml, hown, hts, hK, hI, hZ, hN, hlk, hR⟩ := O
  exact fun H locs ls h1 h2 h3 h4 => lv_ladd hx hb hd (K H locs ls h1 h2 h3 h4)
theorem r_iushr (O : OK N X own cc nL ret rm) {x y : Int32} (hd : decode cc pc = .ok (.iushr, 1)) (K : GM N E X P S (pc + 1) lv (.int ((x.toUInt32 >>> (y.toUInt32 &&& Int32.toUInt32 31)).toInt32) :: st)) : GM N E X P S pc lv (.int y :: .int x :: st) := by
  obtain ⟨p, l, e, R, s, m, args, below, meth, c, Q, out, D, cy, ad⟩ := X
  obtain ⟨hx, hb, hr, hml, hown, hts, hK, hI, hZ, hN, hlk, hR⟩ := O
  exact fun H locs ls h1 h2 h3 h4 => lv_iushr hx hb hd rfl (K H locs ls h1 h2 h3 h4)
theorem r_idiv_c (O : OK N X own cc nL ret rm) {x y : Int32} (hne : ¬ y = 0) (hd : decode cc pc = .ok (.idiv, 1)) (K : GM N E X P S (pc + 1) lv (.int (x / y) :: st)) : GM N E X P S pc lv (.int y :: .int x :: st) := by
  obtain ⟨p, l, e, R, s, m, args, below, meth, c, Q, out, D, cy, ad⟩ := X
  obtain ⟨hx, hb, hr, hml, hown, hts, hK, hI, hZ, hN, hlk, hR⟩ := O
  exact fun H locs ls h1 h2 h3 h4 => lv_idiv hx hb hd hne (K H locs ls h1 h2 h3 h4)
theorem r_idiv (O : OK N X own cc nL ret rm) {x y : Int32} (hd : decode cc pc = .ok (.idiv, 1)) (K : GM N E X P S (pc + 1) lv (.int (x / y) :: st)) : GM N E X (dz y P) S pc lv (.int y :: .int x :: st) := by
  by_cases hy : y = 0
  · obtain ⟨p, l, e, R, s, m, args, below, meth, c, Q, out, D, cy, ad⟩ := X
    exact fun H locs ls h1 h2 h3 h4 => by simp [dz, hy] at h1
  · rw [show dz y P = P from if_neg hy]
    exact r_idiv_c O hy hd K
theorem r_irem_c (O : OK N X own cc nL ret rm) {x y : Int32} (hne : ¬ y = 0) (hd : decode cc pc = .ok (.irem, 1)) (K : GM N E X P S (pc + 1) lv (.int (x - x / y * y) :: st)) : GM N E X P S pc lv (.int y :: .int x :: st) := by
  obtain ⟨p, l, e, R, s, m, args, below, meth, c, Q, out, D, cy, ad⟩ := X
  obtain ⟨hx, hb, hr, hml, hown, hts, hK, hI, hZ, hN, hlk, hR⟩ := O
  exact fun H locs ls h1 h2 h3 h4 => lv_irem hx hb hd hne (K H locs ls h1 h2 h3 h4)
theorem r_irem (O : OK N X own cc nL ret rm) {x y : Int32} (hd : decode cc pc = .ok (.irem, 1)) (K : GM N E X P S (pc + 1) lv (.int (x - x / y * y) :: st)) : GM N E X (dz y P) S pc lv (.int y :: .int x :: st) := by
  by_cases hy : y = 0
  · obtain ⟨p, l, e, R, s, m, args, below, meth, c, Q, out, D, cy, ad⟩ := X
    exact fun H locs ls h1 h2 h3 h4 => by simp [dz, hy] at h1
  · rw [show dz y P = P from if_neg hy]
    exact r_irem_c O hy hd K
theorem r_ineg (O : OK N X own cc nL ret rm) {x : Int32} (hd : decode cc pc = .ok (.ineg, 1)) (K : GM N E X P S (pc + 1) lv (.int (-x) :: st)) : GM N E X P S pc lv (.int x :: st) := by
  obtain ⟨p, l, e, R, s, m, args, below, meth, c, Q, out, D, cy, ad⟩ := X
  obtain ⟨hx, hb, hr, hml, hown, hts, hK, hI, hZ, hN, hlk, hR⟩ := O
  exact fun H locs ls h1 h2 h3 h4 => lv_ineg hx hb hd (K H locs ls h1 h2 h3 h4)
theorem r_i2l (O : OK N X own cc nL ret rm) {x : Int32} (hd : decode cc pc = .ok (.i2l, 1)) (K : GM N E X P S (pc + 1) lv (.long x.toInt64 :: st)) : GM N E X P S pc lv (.int x :: st) := by
  obtain ⟨p, l, e, R, s, m, args, below, meth, c, Q, out, D, cy, ad⟩ := X
  obtain ⟨hx, hb, hr, hml, hown, hts, hK, hI, hZ, hN, hlk, hR⟩ := O
  exact fun H locs ls h1 h2 h3 h4 => lv_i2l hx hb hd rfl (K H locs ls h1 h2 h3 h4)
theorem r_i2b (O : OK N X own cc nL ret rm) {x : Int32} (hd : decode cc pc = .ok (.i2b, 1)) (K : GM N E X P S (pc + 1) lv (.int x.toInt8.toInt32 :: st)) : GM N E X P S pc lv (.int x :: st) := by
  obtain ⟨p, l, e, R, s, m, args, below, meth, c, Q, out, D, cy, ad⟩ := X
  obtain ⟨hx, hb, hr, hml, hown, hts, hK, hI, hZ, hN, hlk, hR⟩ := O
  exact fun H locs ls h1 h2 h3 h4 => lv_i2b hx hb hd rfl (K H locs ls h1 h2 h3 h4)
theorem r_i2s (O : OK N X own cc nL ret rm) {x : Int32} (hd : decode cc pc = .ok (.i2s, 1)) (K : GM N E X P S (pc + 1) lv (.int x.toInt16.toInt32 :: st)) : GM N E X P S pc lv (.int x :: st) := by
  obtain ⟨p, l, e, R, s, m, args, below, meth, c, Q, out, D, cy, ad⟩ := X
  obtain ⟨hx, hb, hr, hml, hown, hts, hK, hI, hZ, hN, hlk, hR⟩ := O
  exact fun H locs ls h1 h2 h3 h4 => lv_i2s hx hb hd rfl (K H locs ls h1 h2 h3 h4)
theorem r_lcmp (O : OK N X own cc nL ret rm) {x y : Int64} (hd : decode cc pc = .ok (.lcmp, 1)) (K : GM N E X P S (pc + 1) lv (.int (lg_cmp x y) :: st)) : GM N E X P S pc lv (.long y :: .long x :: st) := by
  obtain ⟨p, l, e, R, s, m, args, below, meth, c, Q, out, D, cy, ad⟩ := X
  obtain ⟨hx, hb, hr, hml, hown, hts, hK, hI, hZ, hN, hlk, hR⟩ := O
  exact fun H locs ls h1 h2 h3 h4 => W.lcmp hx hb hd (K H locs ls h1 h2 h3 h4)
theorem r_dup (O : OK N X own cc nL ret rm) {v : Value} (hd : decode cc pc = .ok (.dup, 1)) (hv : v.category = 1) (K : GM N E X P S (pc + 1) lv (v :: v :: st)) : GM N E X P S pc lv (v :: st) := by
  obtain ⟨p, l, e, R, s, m, args, below, meth, c, Q, out, D, cy, ad⟩ := X
  obtain ⟨hx, hb, hr, hml, hown, hts, hK, hI, hZ, hN, hlk, hR⟩ := O
  exact fun H locs ls h1 h2 h3 h4 => lv_dup hx hb hd hv (K H locs ls h1 h2 h3 h4)
theorem r_dup2 (O : OK N X own cc nL ret rm) {v w : Value} (hd : decode cc pc = .ok (.dup2, 1)) (hv : v.category = 1) (hw : w.category = 1) (K : GM N E X P S (pc + 1) lv (v :: w :: v :: w :: st)) : GM N E X P S pc lv (v :: w :: st) := by
  obtain ⟨p, l, e, R, s, m, args, below, meth, c, Q, out, D, cy, ad⟩ := X
  obtain ⟨hx, hb, hr, hml, hown, hts, hK, hI, hZ, hN, hlk, hR⟩ := O
  exact fun H locs ls h1 h2 h3 h4 => lv_dup2_11 hx hb hd hv hw (K H locs ls h1 h2 h3 h4)
theorem r_goto (O : OK N X own cc nL ret rm) {off : Int} (tgt : Nat) (hd : decode cc pc = .ok (.goto off, 3)) (ht : (pc : Int) + off = (tgt : Int)) (K : GM N E X P S tgt lv st) : GM N E X P S pc lv st := by
  obtain ⟨p, l, e, R, s, m, args, below, meth, c, Q, out, D, cy, ad⟩ := X
  obtain ⟨hx, hb, hr, hml, hown, hts, hK, hI, hZ, hN, hlk, hR⟩ := O
  exact fun H locs ls h1 h2 h3 h4 => lv_goto hx hb hd ht (K H locs ls h1 h2 h3 h4)
theorem r_if_eq (O : OK N X own cc nL ret rm) {P1 P2 : Option α} {x : Int32} {off : Int} (tgt : Nat) (hd : decode cc pc = .ok (.ifCond .eq off, 3)) (ht : (pc : Int) + off = (tgt : Int)) (K1 : GM N E X P1 S tgt lv st) (K2 : GM N E X P2 S (pc + 3) lv st) : GM N E X (if x = 0 then P1 else P2) S pc lv (.int x :: st) := by
  obtain ⟨p, l, e, R, s, m, args, below, meth, c, Q, out, D, cy, ad⟩ := X
  obtain ⟨hx, hb, hr, hml, hown, hts, hK, hI, hZ, hN, hlk, hR⟩ := O
  exact fun H locs ls h1 h2 h3 h4 => lv_if_eq hx hb hd ht (fun q => K1 H locs ls (by rw [if_pos q] at h1; exact h1) h2 h3 h4) (fun q => K2 H locs ls (by rw [if_neg q] at h1; exact h1) h2 h3 h4)
theorem r_if_lt (O : OK N X own cc nL ret rm) {P1 P2 : Option α} {x : Int32} {off : Int} (tgt : Nat) (hd : decode cc pc = .ok (.ifCond .lt off, 3)) (ht : (pc : Int) + off = (tgt : Int)) (K1 : GM N E X P1 S tgt lv st) (K2 : GM N E X P2 S (pc + 3) lv st) : GM N E X (if x < 0 then P1 else P2) S pc lv (.int x :: st) := by
  obtain ⟨p, l, e, R, s, m, args, below, meth, c, Q, out, D, cy, ad⟩ := X
  obtain ⟨hx, hb, hr, hml, hown, hts, hK, hI, hZ, hN, hlk, hR⟩ := O
  exact fun H locs ls h1 h2 h3 h4 => lv_if_lt hx hb hd ht (fun q => K1 H locs ls (by rw [if_pos q] at h1; exact h1) h2 h3 h4) (fun q => K2 H locs ls (by rw [if_neg q] at h1; exact h1) h2 h3 h4)
theorem r_if_ge (O : OK N X own cc nL ret rm) {P1 P2 : Option α} {x : Int32} {off : Int} (tgt : Nat) (hd : decode cc pc = .ok (.ifCond .ge off, 3)) (ht : (pc : Int) + off = (tgt : Int)) (K1 : GM N E X P1 S tgt lv st) (K2 : GM N E X P2 S (pc + 3) lv st) : GM N E X (if 0 ≤ x then P1 else P2) S pc lv (.int x :: st) := by
  obtain ⟨p, l, e, R, s, m, args, below, meth, c, Q, out, D, cy, ad⟩ := X
  obtain ⟨hx, hb, hr, hml, hown, hts, hK, hI, hZ, hN, hlk, hR⟩ := O
  exact fun H locs ls h1 h2 h3 h4 => lv_if_ge hx hb hd ht (fun q => K1 H locs ls (by rw [if_pos q] at h1; exact h1) h2 h3 h4) (fun q => K2 H locs ls (by rw [if_neg q] at h1; exact h1) h2 h3 h4)
theorem r_if_gt (O : OK N X own cc nL ret rm) {P1 P2 : Option α} {x : Int32} {off : Int} (tgt : Nat) (hd : decode cc pc = .ok (.ifCond .gt off, 3)) (ht : (pc : Int) + off = (tgt : Int)) (K1 : GM N E X P1 S tgt lv st) (K2 : GM N E X P2 S (pc + 3) lv st) : GM N E X (if 0 < x then P1 else P2) S pc lv (.int x :: st) := by
  obtain ⟨p, l, e, R, s, m, args, below, meth, c, Q, out, D, cy, ad⟩ := X
  obtain ⟨hx, hb, hr, hml, hown, hts, hK, hI, hZ, hN, hlk, hR⟩ := O
  exact fun H locs ls h1 h2 h3 h4 => lv_if_gt hx hb hd ht (fun q => K1 H locs ls (by rw [if_pos q] at h1; exact h1) h2 h3 h4) (fun q => K2 H locs ls (by rw [if_neg q] at h1; exact h1) h2 h3 h4)
theorem r_if_le (O : OK N X own cc nL ret rm) {P1 P2 : Option α} {x : Int32} {off : Int} (tgt : Nat) (hd : decode cc pc = .ok (.ifCond .le off, 3)) (ht : (pc : Int) + off = (tgt : Int)) (K1 : GM N E X P1 S tgt lv st) (K2 : GM N E X P2 S (pc + 3) lv st) : GM N E X (if x ≤ 0 then P1 else P2) S pc lv (.int x :: st) := by
  obtain ⟨p, l, e, R, s, m, args, below, meth, c, Q, out, D, cy, ad⟩ := X
  obtain ⟨hx, hb, hr, hml, hown, hts, hK, hI, hZ, hN, hlk, hR⟩ := O
  exact fun H locs ls h1 h2 h3 h4 => lv_if_le hx hb hd ht (fun q => K1 H locs ls (by rw [if_pos q] at h1; exact h1) h2 h3 h4) (fun q => K2 H locs ls (by rw [if_neg q] at h1; exact h1) h2 h3 h4)
theorem r_icmp_eq (O : OK N X own cc nL ret rm) {P1 P2 : Option α} {x y : Int32} {off : Int} (tgt : Nat) (hd : decode cc pc = .ok (.if_icmp .eq off, 3)) (ht : (pc : Int) + off = (tgt : Int)) (K1 : GM N E X P1 S tgt lv st) (K2 : GM N E X P2 S (pc + 3) lv st) : GM N E X (if x = y then P1 else P2) S pc lv (.int y :: .int x :: st) := by
  obtain ⟨p, l, e, R, s, m, args, below, meth, c, Q, out, D, cy, ad⟩ := X
  obtain ⟨hx, hb, hr, hml, hown, hts, hK, hI, hZ, hN, hlk, hR⟩ := O
  exact fun H locs ls h1 h2 h3 h4 => lv_icmp_eq hx hb hd ht (fun q => K1 H locs ls (by rw [if_pos q] at h1; exact h1) h2 h3 h4) (fun q => K2 H locs ls (by rw [if_neg q] at h1; exact h1) h2 h3 h4)
theorem r_icmp_lt (O : OK N X own cc nL ret rm) {P1 P2 : Option α} {x y : Int32} {off : Int} (tgt : Nat) (hd : decode cc pc = .ok (.if_icmp .lt off, 3)) (ht : (pc : Int) + off = (tgt : Int)) (K1 : GM N E X P1 S tgt lv st) (K2 : GM N E X P2 S (pc + 3) lv st) : GM N E X (if x < y then P1 else P2) S pc lv (.int y :: .int x :: st) := by
  obtain ⟨p, l, e, R, s, m, args, below, meth, c, Q, out, D, cy, ad⟩ := X
  obtain ⟨hx, hb, hr, hml, hown, hts, hK, hI, hZ, hN, hlk, hR⟩ := O
  exact fun H locs ls h1 h2 h3 h4 => lv_icmp_lt hx hb hd ht (fun q => K1 H locs ls (by rw [if_pos q] at h1; exact h1) h2 h3 h4) (fun q => K2 H locs ls (by rw [if_neg q] at h1; exact h1) h2 h3 h4)
theorem r_icmp_ge (O : OK N X own cc nL ret rm) {P1 P2 : Option α} {x y : Int32} {off : Int} (tgt : Nat) (hd : decode cc pc = .ok (.if_icmp .ge off, 3)) (ht : (pc : Int) + off = (tgt : Int)) (K1 : GM N E X P1 S tgt lv st) (K2 : GM N E X P2 S (pc + 3) lv st) : GM N E X (if y ≤ x then P1 else P2) S pc lv (.int y :: .int x :: st) := by
  obtain ⟨p, l, e, R, s, m, args, below, meth, c, Q, out, D, cy, ad⟩ := X
  obtain ⟨hx, hb, hr, hml, hown, hts, hK, hI, hZ, hN, hlk, hR⟩ := O
  exact fun H locs ls h1 h2 h3 h4 => lv_icmp_ge hx hb hd ht (fun q => K1 H locs ls (by rw [if_pos q] at h1; exact h1) h2 h3 h4) (fun q => K2 H locs ls (by rw [if_neg q] at h1; exact h1) h2 h3 h4)
theorem r_icmp_gt (O : OK N X own cc nL ret rm) {P1 P2 : Option α} {x y : Int32} {off : Int} (tgt : Nat) (hd : decode cc pc = .ok (.if_icmp .gt off, 3)) (ht : (pc : Int) + off = (tgt : Int)) (K1 : GM N E X P1 S tgt lv st) (K2 : GM N E X P2 S (pc + 3) lv st) : GM N E X (if y < x then P1 else P2) S pc lv (.int y :: .int x :: st) := by
  obtain ⟨p, l, e, R, s, m, args, below, meth, c, Q, out, D, cy, ad⟩ := X
  obtain ⟨hx, hb, hr, hml, hown, hts, hK, hI, hZ, hN, hlk, hR⟩ := O
  exact fun H locs ls h1 h2 h3 h4 => lv_icmp_gt hx hb hd ht (fun q => K1 H locs ls (by rw [if_pos q] at h1; exact h1) h2 h3 h4) (fun q => K2 H locs ls (by rw [if_neg q] at h1; exact h1) h2 h3 h4)
theorem r_icmp_le (O : OK N X own cc nL ret rm) {P1 P2 : Option α} {x y : Int32} {off : Int} (tgt : Nat) (hd : decode cc pc = .ok (.if_icmp .le off, 3)) (ht : (pc : Int) + off = (tgt : Int)) (K1 : GM N E X P1 S tgt lv st) (K2 : GM N E X P2 S (pc + 3) lv st) : GM N E X (if x ≤ y then P1 else P2) S pc lv (.int y :: .int x :: st) := by
  obtain ⟨p, l, e, R, s, m, args, below, meth, c, Q, out, D, cy, ad⟩ := X
  obtain ⟨hx, hb, hr, hml, hown, hts, hK, hI, hZ, hN, hlk, hR⟩ := O
  exact fun H locs ls h1 h2 h3 h4 => lv_icmp_le hx hb hd ht (fun q => K1 H locs ls (by rw [if_pos q] at h1; exact h1) h2 h3 h4) (fun q => K2 H locs ls (by rw [if_neg q] at h1; exact h1) h2 h3 h4)
theorem r_if_ne (O : OK N X own cc nL ret rm) {P1 P2 : Option α} {x : Int32} {off : Int} (tgt : Nat) (hd : decode cc pc = .ok (.ifCond .ne off, 3)) (ht : (pc : Int) + off = (tgt : Int)) (K1 : GM N E X P1 S tgt lv st) (K2 : GM N E X P2 S (pc + 3) lv st) : GM N E X (if x = 0 then P2 else P1) S pc lv (.int x :: st) := by
  obtain ⟨p, l, e, R, s, m, args, below, meth, c, Q, out, D, cy, ad⟩ := X
  obtain ⟨hx, hb, hr, hml, hown, hts, hK, hI, hZ, hN, hlk, hR⟩ := O
  exact fun H locs ls h1 h2 h3 h4 => lv_if_ne hx hb hd ht (fun q => K1 H locs ls (by rw [if_neg q] at h1; exact h1) h2 h3 h4) (fun q => K2 H locs ls (by rw [if_pos q] at h1; exact h1) h2 h3 h4)
theorem r_icmp_ne (O : OK N X own cc nL ret rm) {P1 P2 : Option α} {x y : Int32} {off : Int} (tgt : Nat) (hd : decode cc pc = .ok (.if_icmp .ne off, 3)) (ht : (pc : Int) + off = (tgt : Int)) (K1 : GM N E X P1 S tgt lv st) (K2 : GM N E X P2 S (pc + 3) lv st) : GM N E X (if x = y then P2 else P1) S pc lv (.int y :: .int x :: st) := by
  obtain ⟨p, l, e, R, s, m, args, below, meth, c, Q, out, D, cy, ad⟩ := X
  obtain ⟨hx, hb, hr, hml, hown, hts, hK, hI, hZ, hN, hlk, hR⟩ := O
  exact fun H locs ls h1 h2 h3 h4 => lv_icmp_ne hx hb hd ht (fun q => K1 H locs ls (by rw [if_neg q] at h1; exact h1) h2 h3 h4) (fun q => K2 H locs ls (by rw [if_pos q] at h1; exact h1) h2 h3 h4)
theorem r_none {pc : Nat} : GM N E X none S pc lv st := by
  obtain ⟨p, l, e, R, s, m, args, below, meth, c, Q, out, D, cy, ad⟩ := X
  exact fun H locs ls h1 h2 h3 h4 => by cases h1
theorem r_ite {c : Prop} {dc : Decidable c} {P1 P2 : Option α} (K1 : c → GM N E X P1 S pc lv st) (K2 : ¬ c → GM N E X P2 S pc lv st) : GM N E X (@ite _ c dc P1 P2) S pc lv st := by
  by_cases h : c
  · rw [if_pos h]; exact K1 h
  · rw [if_neg h]; exact K2 h
theorem r_tin (O : OK N X own cc nL ret rm) {dflt lo hi : Int} {offs : Array Int} {len : Nat} {x : Int32} {off : Int} (tgt : Nat) (hd : decode cc pc = .ok (.tableswitch dflt lo hi offs, len)) (q1 : ¬ x.toInt < lo) (q2 : ¬ hi < x.toInt) (ho : offs[(x.toInt - lo).toNat]? = some off) (ht : (pc : Int) + off = (tgt : Int)) (K : GM N E X P S tgt lv st) : GM N E X P S pc lv (.int x :: st) := by
  obtain ⟨p, l, e, R, s, m, args, below, meth, c, Q, out, D, cy, ad⟩ := X
  obtain ⟨hx, hb, hr, hml, hown, hts, hK, hI, hZ, hN, hlk, hR⟩ := O
  exact fun H locs ls h1 h2 h3 h4 => lv_tableIn hx hb hd q1 q2 ho ht (K H locs ls h1 h2 h3 h4)
theorem r_tout (O : OK N X own cc nL ret rm) {dflt lo hi : Int} {offs : Array Int} {len : Nat} {x : Int32} (tgt : Nat) (hd : decode cc pc = .ok (.tableswitch dflt lo hi offs, len)) (q1 : x.toInt < lo ∨ hi < x.toInt) (ht : (pc : Int) + dflt = (tgt : Int)) (K : GM N E X P S tgt lv st) : GM N E X P S pc lv (.int x :: st) := by
  obtain ⟨p, l, e, R, s, m, args, below, meth, c, Q, out, D, cy, ad⟩ := X
  obtain ⟨hx, hb, hr, hml, hown, hts, hK, hI, hZ, hN, hlk, hR⟩ := O
  exact fun H locs ls h1 h2 h3 h4 => lv_tableOut hx hb hd q1 ht (K H locs ls h1 h2 h3 h4)
theorem r_look (O : OK N X own cc nL ret rm) {dflt : Int} {ps : Array (Int × Int)} {len : Nat} {x : Int32} {off : Int} (tgt : Nat) (hd : decode cc pc = .ok (.lookupswitch dflt ps, len)) (hp : (ps.toList.zip (ps.toList.drop 1)).all (fun (a, next) => a.1 < next.1) = true) (ho : Op.lookupswitch.offset ps.toList dflt x.toInt = off) (ht : (pc : Int) + off = (tgt : Int)) (K : GM N E X P S tgt lv st) : GM N E X P S pc lv (.int x :: st) := by
  obtain ⟨p, l, e, R, s, m, args, below, meth, c, Q, out, D, cy, ad⟩ := X
  obtain ⟨hx, hb, hr, hml, hown, hts, hK, hI, hZ, hN, hlk, hR⟩ := O
  exact fun H locs ls h1 h2 h3 h4 => lv_lookup hx hb hd hp ho ht (K H locs ls h1 h2 h3 h4)
theorem r_iret {K0 : Int32 → MS → Option α} (O : OK N X own cc nL (some .int) rm) (hQ : RtI N E X K0) {r : Int32} (hd : decode cc pc = .ok (.ireturn, 1)) : GM N E X (K0 r S) S pc lv [.int r] := by
  obtain ⟨p, l, e, R, s, m, args, below, meth, c, Q, out, D, cy, ad⟩ := X
  obtain ⟨hx, hb, hr, hml, hown, hts, hK, hI, hZ, hN, hlk, hR⟩ := O
  cases hQ
  exact fun H locs ls h1 h2 h3 h4 => W.iret hx hb hr (fun t ht hW => ⟨⟨r, S, rfl, h1, by rw [BG, ht]; exact h2⟩, h3.F ht⟩) h3.2.2 hd
theorem r_zret {K0 : Int32 → MS → Option α} (O : OK N X own cc nL (some .boolean) rm) (hQ : RtI N E X K0) {r : Int32} (hz : r = 0 ∨ r = 1) (hd : decode cc pc = .ok (.ireturn, 1)) : GM N E X (K0 r S) S pc lv [.int r] := by
  obtain ⟨p, l, e, R, s, m, args, below, meth, c, Q, out, D, cy, ad⟩ := X
  obtain ⟨hx, hb, hr, hml, hown, hts, hK, hI, hZ, hN, hlk, hR⟩ := O
  cases hQ
  exact fun H locs ls h1 h2 h3 h4 => W.zret hx hb hr (by rcases hz with rfl | rfl <;> rfl) (fun t ht hW => ⟨⟨r, S, rfl, h1, by rw [BG, ht]; exact h2⟩, h3.F ht⟩) h3.2.2 hd
theorem r_zb {r : Int32} (K : r = 0 ∨ r = 1 → GM N E X P S pc lv st) : GM N E X (zb r P) S pc lv st := by
  unfold zb
  exact r_ite K (fun _ => r_none)
theorem r_lret {K0 : Int64 → MS → Option α} (O : OK N X own cc nL (some .long) rm) (hQ : RtL N E X K0) {r : Int64} (hd : decode cc pc = .ok (.lreturn, 1)) : GM N E X (K0 r S) S pc lv [.long r] := by
  obtain ⟨p, l, e, R, s, m, args, below, meth, c, Q, out, D, cy, ad⟩ := X
  obtain ⟨hx, hb, hr, hml, hown, hts, hK, hI, hZ, hN, hlk, hR⟩ := O
  cases hQ
  exact fun H locs ls h1 h2 h3 h4 => W.lret hx hb hr (fun t ht hW => ⟨⟨r, S, rfl, h1, by rw [BG, ht]; exact h2⟩, h3.F ht⟩) h3.2.2 hd
theorem r_vret {K0 : MS → Option α} (O : OK N X own cc nL none rm) (hQ : RtV N E X K0) (hd : decode cc pc = .ok (.return_, 1)) : GM N E X (K0 S) S pc lv [] := by
  obtain ⟨p, l, e, R, s, m, args, below, meth, c, Q, out, D, cy, ad⟩ := X
  obtain ⟨hx, hb, hr, hml, hown, hts, hK, hI, hZ, hN, hlk, hR⟩ := O
  cases hQ
  exact fun H locs ls h1 h2 h3 h4 => W.vret hx hb hr (fun t ht hW => ⟨⟨S, rfl, h1, by rw [BG, ht]; exact h2⟩, h3.F ht⟩) h3.2.2 hd
theorem r_aret {nm0 : String} {j : Nat} {K0 : MS → Option α} (O : OK N X own cc nL (some (.object nm0)) rm) (hQ : RtR N E X j K0) (hd : decode cc pc = .ok (.areturn, 1)) : GM N E X (K0 S) S pc lv [.ref (aX X j)] := by
  obtain ⟨p, l, e, R, s, m, args, below, meth, c, Q, out, D, cy, ad⟩ := X
  obtain ⟨hx, hb, hr, hml, hown, hts, hK, hI, hZ, hN, hlk, hR⟩ := O
  cases hQ
  exact fun H locs ls h1 h2 h3 h4 => W.aret hx hb hr (Or.inl ⟨_, rfl⟩) (Or.inr ⟨_, rfl⟩) (fun t ht hW => ⟨⟨S, ad j, rfl, h1, rfl, by rw [BG, ht]; exact h2⟩, h3.F ht⟩) h3.2.2 hd
theorem r_get (O : OK N X own cc nL ret rm) {ci n k idx j : Nat} {C : String} {T : u_T} {fs : List Value} {v : Value} (hc : classes[ci]? = some (C, T, n)) (hin : ∀ w ∈ u_ws C T n, w ∈ lw_gd) (hk : k < n) (hw : Cond.fieldLink own idx (T k).1 (T k).2.1 (T k).2.2.1 ∈ lw_gd) (hj : j < N) (he : E (cX X) (aX X) j (S.1 j) (S.2 j) = .inr (ci, fs)) (hv : fs[k]? = some v) (hd : decode cc pc = .ok (.getfield idx, 3)) (K : GM N E X P S (pc + 3) lv (v :: st)) : GM N E X P S pc lv (.ref (aX X j) :: st) := by
  obtain ⟨p, l, e, R, s, m, args, below, meth, c, Q, out, D, cy, ad⟩ := X
  obtain ⟨hx, hb, hr, hml, hown, hts, hK, hI, hZ, hN, hlk, hR⟩ := O
  exact fun H locs ls h1 h2 h3 h4 => va_get hx hb hts hin hown hK h2 j ((wG_at hj).trans (congrArg (fun z => some (ad j, z)) he)) hc k hk (hts _ hw) (fun _ h => h) hv hd (K H locs ls h1 h2 h3 h4)
theorem r_getN (O : OK N X own cc nL ret rm) {ci n k idx j : Nat} {C : String} {T : u_T} {fs : List Value} {v : Value} (hc : classes[ci]? = some (C, T, n)) (hin : ∀ w ∈ u_ws C T n, w ∈ lw_gd) (hk : k < n) {host : String} (hw : Cond.fieldLinkNest own idx (T k).1 (T k).2.1 (T k).2.2.1 host ∈ lw_tbl) (hj : j < N) (he : E (cX X) (aX X) j (S.1 j) (S.2 j) = .inr (ci, fs)) (hv : fs[k]? = some v) (hd : decode cc pc = .ok (.getfield idx, 3)) (K : GM N E X P S (pc + 3) lv (v :: st)) : GM N E X P S pc lv (.ref (aX X j) :: st) := by
  obtain ⟨p, l, e, R, s, m, args, below, meth, c, Q, out, D, cy, ad⟩ := X
  obtain ⟨hx, hb, hr, hml, hown, hts, hK, hI, hZ, hN, hlk, hR⟩ := O
  exact fun H locs ls h1 h2 h3 h4 => va_getN hx hb hts hin hown hK h2 j ((wG_at hj).trans (congrArg (fun z => some (ad j, z)) he)) hc k hk (va_Nw.use rfl (hN _ hw rfl)) (fun _ h => h) hv hd (K H locs ls h1 h2 h3 h4)
theorem r_put (O : OK N X own cc nL ret rm) {P : MS → Option α} {ci n k idx j : Nat} {C : String} {T : u_T} {fs : List Value} {v : Int32} {ty0 : Nat → FieldType} {ty : FieldType} (hc : classes[ci]? = some (C, T, n)) (hin : ∀ w ∈ u_ws C T n, w ∈ lw_gd) (hty : ∀ k, k < n → parseFieldDescriptor (T k).2.2.1 = some (ty0 k)) (hnm : ∀ a, a < n → ∀ b, b < n → a ≠ b → (T a).2.1 ≠ (T b).2.1) (hk : k < n) (hw : Cond.fieldLink own idx (T k).1 (T k).2.1 (T k).2.2.1 ∈ lw_gd) (hj : j < N) (he : E (cX X) (aX X) j (S.1 j) (S.2 j) = .inr (ci, fs)) (he2 : E (cX X) (aX X) j (upd (S.1 j) k v) (S.2 j) = .inr (ci, fs.set k (.int v))) (hfin : (T k).2.2.2 = false) (hdd : parseFieldDescriptor (T k).2.2.1 = some ty) (hn : narrow ty (.int v) = .int v) (hfit : fits ty (.int v) = true) (hl : k < fs.length) (hd : decode cc pc = .ok (.putfield idx, 3)) (K : ∀ S, GM N E X (P S) S (pc + 3) lv st) : GM N E X (nm (sI S j k v) P) S pc lv (.int v :: .ref (aX X j) :: st) := by
  obtain ⟨p, l, e, R, s, m, args, below, meth, c, Q, out, D, cy, ad⟩ := X
  obtain ⟨hx, hb, hr, hml, hown, hts, hK, hI, hZ, hN, hlk, hR⟩ := O
  exact fun H locs ls h1 h2 h3 h4 => va_put hx hb hts hin ty0 hty hnm hown hK h2 (wG_D hI) h3 j ((wG_at hj).trans (congrArg (fun z => some (ad j, z)) he)) hc k hk (hts _ hw) (fun _ h => h) hfin hdd hn hfit hl hd (fun H1 locs1 g1 _ g3 => K (sI S j k v) H1 locs1 ls h1 (by rw [← wG_setI (E := E cy) (ad := ad) he2]; exact g1) g3 h4)
theorem r_putN (O : OK N X own cc nL ret rm) {P : MS → Option α} {ci n k idx j : Nat} {C : String} {T : u_T} {fs : List Value} {v : Int32} {ty0 : Nat → FieldType} {ty : FieldType} (hc : classes[ci]? = some (C, T, n)) (hin : ∀ w ∈ u_ws C T n, w ∈ lw_gd) (hty : ∀ k, k < n → parseFieldDescriptor (T k).2.2.1 = some (ty0 k)) (hnm : ∀ a, a < n → ∀ b, b < n → a ≠ b → (T a).2.1 ≠ (T b).2.1) (hk : k < n) {host : String} (hw : Cond.fieldLinkNest own idx (T k).1 (T k).2.1 (T k).2.2.1 host ∈ lw_tbl) (hj : j < N) (he : E (cX X) (aX X) j (S.1 j) (S.2 j) = .inr (ci, fs)) (he2 : E (cX X) (aX X) j (upd (S.1 j) k v) (S.2 j) = .inr (ci, fs.set k (.int v))) (hfin : (T k).2.2.2 = false) (hdd : parseFieldDescriptor (T k).2.2.1 = some ty) (hn : narrow ty (.int v) = .int v) (hfit : fits ty (.int v) = true) (hl : k < fs.length) (hd : decode cc pc = .ok (.putfield idx, 3)) (K : ∀ S, GM N E X (P S) S (pc + 3) lv st) : GM N E X (nm (sI S j k v) P) S pc lv (.int v :: .ref (aX X j) :: st) := by
  obtain ⟨p, l, e, R, s, m, args, below, meth, c, Q, out, D, cy, ad⟩ := X
  obtain ⟨hx, hb, hr, hml, hown, hts, hK, hI, hZ, hN, hlk, hR⟩ := O
  exact fun H locs ls h1 h2 h3 h4 => va_putN hx hb hts hin ty0 hty hnm hown hK h2 (wG_D hI) h3 j ((wG_at hj).trans (congrArg (fun z => some (ad j, z)) he)) hc k hk (va_Nw.use rfl (hN _ hw rfl)) (fun _ h => h) hfin hdd hn hfit hl hd (fun H1 locs1 g1 _ g3 => K (sI S j k v) H1 locs1 ls h1 (by rw [← wG_setI (E := E cy) (ad := ad) he2]; exact g1) g3 h4)
theorem ck_split {i : Int32} {n : Nat} {P : Nat → Option α} (K : vp_in i n → GM N E X (P i.toNatClampNeg) S pc lv st) : GM N E X (ck i n P) S pc lv st := by
  unfold ck
  exact r_ite (fun _ => r_none) (fun h => K h)
theorem vp_in_lt {i : Int32} {n : Nat} (h : vp_in i n) : i.toNatClampNeg < n := Nat.not_le.mp fun q => h (Or.inr q)
theorem r_iald (O : OK N X own cc nL ret rm) {P : Nat → Option α} {i : Int32} {j n : Nat} (hj : j < N) (he : E (cX X) (aX X) j (S.1 j) (S.2 j) = .inl (cX X 0, n, .inl (S.1 j))) (hd : decode cc pc = .ok (.iaload, 1)) (K : ∀ k, k < n → GM N E X (P k) S (pc + 1) lv (.int (S.1 j k) :: st)) : GM N E X (ck i n P) S pc lv (.int i :: .ref (aX X j) :: st) := by
  refine ck_split (fun hin => ?_)
  have hk := vp_in_lt hin
  obtain ⟨p, l, e, R, s, m, args, below, meth, c, Q, out, D, cy, ad⟩ := X
  obtain ⟨hx, hb, hr, hml, hown, hts, hK, hI, hZ, hN, hlk, hR⟩ := O
  exact fun H locs ls h1 h2 h3 h4 => va_iald hx hb hK h2 j 0 ((wG_at hj).trans (congrArg (fun z => some (ad j, z)) he)) rfl hin hd (K _ hk H locs ls h1 h2 h3 h4)
theorem r_zald (O : OK N X own cc nL ret rm) {P : Nat → Option α} {i : Int32} {j n : Nat} (hj : j < N) (he : E (cX X) (aX X) j (S.1 j) (S.2 j) = .inl (cX X 2, n, .inl (S.1 j))) (hd : decode cc pc = .ok (.baload, 1)) (K : ∀ k, k < n → GM N E X (P k) S (pc + 1) lv (.int (S.1 j k) :: st)) : GM N E X (ck i n P) S pc lv (.int i :: .ref (aX X j) :: st) := by
  refine ck_split (fun hin => ?_)
  have hk := vp_in_lt hin
  obtain ⟨p, l, e, R, s, m, args, below, meth, c, Q, out, D, cy, ad⟩ := X
  obtain ⟨hx, hb, hr, hml, hown, hts, hK, hI, hZ, hN, hlk, hR⟩ := O
  exact fun H locs ls h1 h2 h3 h4 => va_zald hx hb hK h2 j 2 ((wG_at hj).trans (congrArg (fun z => some (ad j, z)) he)) rfl hin hd (K _ hk H locs ls h1 h2 h3 h4)
theorem r_lald (O : OK N X own cc nL ret rm) {P : Nat → Option α} {i : Int32} {j n : Nat} (hj : j < N) (he : E (cX X) (aX X) j (S.1 j) (S.2 j) = .inl (cX X 1, n, .inr (.inl (S.2 j)))) (hd : decode cc pc = .ok (.laload, 1)) (K : ∀ k, k < n → GM N E X (P k) S (pc + 1) lv (.long (S.2 j k) :: st)) : GM N E X (ck i n P) S pc lv (.int i :: .ref (aX X j) :: st) := by
  refine ck_split (fun hin => ?_)
  have hk := vp_in_lt hin
  obtain ⟨p, l, e, R, s, m, args, below, meth, c, Q, out, D, cy, ad⟩ := X
  obtain ⟨hx, hb, hr, hml, hown, hts, hK, hI, hZ, hN, hlk, hR⟩ := O
  exact fun H locs ls h1 h2 h3 h4 => va_lald hx hb hK h2 j 1 ((wG_at hj).trans (congrArg (fun z => some (ad j, z)) he)) rfl hin hd (K _ hk H locs ls h1 h2 h3 h4)
theorem r_aald (O : OK N X own cc nL ret rm) {P : Nat → Option α} {i : Int32} {j n t0 b : Nat} {C : String} (hj : j < N) (he : E (cX X) (aX X) j (S.1 j) (S.2 j) = .inl (cX X t0, n, .inr (.inr (.inr (.inr (fun k => some (aX X (b + k)))))))) (ht : (tysG (cX X))[t0]? = some (cX X t0, .object C)) (hd : decode cc pc = .ok (.aaload, 1)) (K : ∀ k, k < n → GM N E X (P k) S (pc + 1) lv (.ref (aX X (b + k)) :: st)) : GM N E X (ck i n P) S pc lv (.int i :: .ref (aX X j) :: st) := by
  refine ck_split (fun hin => ?_)
  have hk := vp_in_lt hin
  obtain ⟨p, l, e, R, s, m, args, below, meth, c, Q, out, D, cy, ad⟩ := X
  obtain ⟨hx, hb, hr, hml, hown, hts, hK, hI, hZ, hN, hlk, hR⟩ := O
  exact fun H locs ls h1 h2 h3 h4 => va_aldq hx hb hK h2 j t0 ((wG_at hj).trans (congrArg (fun z => some (ad j, z)) he)) ht hin hd (K _ hk H locs ls h1 h2 h3 h4)
theorem r_iast (O : OK N X own cc nL ret rm) {P : MS → Option α} {i x : Int32} {j n : Nat} (hj : j < N) (he : ∀ r, E (cX X) (aX X) j r (S.2 j) = .inl (cX X 0, n, .inl r)) (hd : decode cc pc = .ok (.iastore, 1)) (K : ∀ S, GM N E X (P S) S (pc + 1) lv st) : GM N E X (ck i n fun k => nm (sI S j k x) P) S pc lv (.int x :: .int i :: .ref (aX X j) :: st) := by
  refine ck_split (fun hin => ?_)
  have hk := vp_in_lt hin
  obtain ⟨p, l, e, R, s, m, args, below, meth, c, Q, out, D, cy, ad⟩ := X
  obtain ⟨hx, hb, hr, hml, hown, hts, hK, hI, hZ, hN, hlk, hR⟩ := O
  exact fun H locs ls h1 h2 h3 h4 => va_iast hx hb hK h2 (wG_D hI) h3 j 0 ((wG_at hj).trans (congrArg (fun z => some (ad j, z)) (he _))) rfl hin hd (fun H1 locs1 g1 _ g3 => K _ H1 locs1 ls h1 (by rw [← wG_setI (E := E cy) (ad := ad) (he _)]; exact g1) g3 h4)
theorem r_zast (O : OK N X own cc nL ret rm) {P : MS → Option α} {i x : Int32} {j n : Nat} (hj : j < N) (he : ∀ r, E (cX X) (aX X) j r (S.2 j) = .inl (cX X 2, n, .inl r)) (hd : decode cc pc = .ok (.bastore, 1)) (K : ∀ S, GM N E X (P S) S (pc + 1) lv st) : GM N E X (ck i n fun k => nm (sI S j k (vp_nar .boolean x)) P) S pc lv (.int x :: .int i :: .ref (aX X j) :: st) := by
  refine ck_split (fun hin => ?_)
  have hk := vp_in_lt hin
  obtain ⟨p, l, e, R, s, m, args, below, meth, c, Q, out, D, cy, ad⟩ := X
  obtain ⟨hx, hb, hr, hml, hown, hts, hK, hI, hZ, hN, hlk, hR⟩ := O
  exact fun H locs ls h1 h2 h3 h4 => va_zast hx hb hK h2 (wG_D hI) h3 j 2 ((wG_at hj).trans (congrArg (fun z => some (ad j, z)) (he _))) rfl hin hd (fun H1 locs1 g1 _ g3 => K _ H1 locs1 ls h1 (by rw [← wG_setI (E := E cy) (ad := ad) (he _)]; exact g1) g3 h4)
theorem r_last (O : OK N X own cc nL ret rm) {P : MS → Option α} {i : Int32} {x : Int64} {j n : Nat} (hj : j < N) (he : ∀ r, E (cX X) (aX X) j (S.1 j) r = .inl (cX X 1, n, .inr (.inl r))) (hd : decode cc pc = .ok (.lastore, 1)) (K : ∀ S, GM N E X (P S) S (pc + 1) lv st) : GM N E X (ck i n fun k => nm (sL S j k x) P) S pc lv (.long x :: .int i :: .ref (aX X j) :: st) := by
  refine ck_split (fun hin => ?_)
  have hk := vp_in_lt hin
  obtain ⟨p, l, e, R, s, m, args, below, meth, c, Q, out, D, cy, ad⟩ := X
  obtain ⟨hx, hb, hr, hml, hown, hts, hK, hI, hZ, hN, hlk, hR⟩ := O
  exact fun H locs ls h1 h2 h3 h4 => va_last hx hb hK h2 (wG_D hI) h3 j 1 ((wG_at hj).trans (congrArg (fun z => some (ad j, z)) (he _))) rfl hin hd (fun H1 locs1 g1 _ g3 => K _ H1 locs1 ls h1 (by rw [← wG_setL (E := E cy) (ad := ad) (he _)]; exact g1) g3 h4)
theorem r_alen (O : OK N X own cc nL ret rm) {j n t0 : Nat} {ty : FieldType} {x : vp_A} {v : Int32} (hj : j < N) (he : E (cX X) (aX X) j (S.1 j) (S.2 j) = .inl (cX X t0, x)) (ht : (tysG (cX X))[t0]? = some (cX X t0, ty)) (hv : Int32.ofNat x.1 = v) (hd : decode cc pc = .ok (.arraylength, 1)) (K : GM N E X P S (pc + 1) lv (.int v :: st)) : GM N E X P S pc lv (.ref (aX X j) :: st) := by
  obtain ⟨p, l, e, R, s, m, args, below, meth, c, Q, out, D, cy, ad⟩ := X
  obtain ⟨hx, hb, hr, hml, hown, hts, hK, hI, hZ, hN, hlk, hR⟩ := O
  exact fun H locs ls h1 h2 h3 h4 => va_alen hx hb hK h2 j t0 ((wG_at hj).trans (congrArg (fun z => some (ad j, z)) he)) ht hv hd (K H locs ls h1 h2 h3 h4)
def T3 {α : Type} (N : Nat) (X : GX α) (t3 : Nat) : Prop := match X with
  | (p, l, e, R, s, m, args, below, meth, c, Q, out, D, cy, ad) => va_T .int t3 6 (fun j => .int (pw3 j)) (AG N ad) s s.heap
theorem r_gets (O : OK N X own cc nL ret rm) {idx : Nat} (hw : Cond.fieldLink own idx "BallastSteps" "POWERS_OF_3" "[I" ∈ lw_gd) (hd : decode cc pc = .ok (.getstatic idx, 3)) (K : ∀ t3, T3 N X t3 → GM N E X P S (pc + 3) lv (.ref t3 :: st)) : GM N E X P S pc lv st := by
  obtain ⟨p, l, e, R, s, m, args, below, meth, c, Q, out, D, cy, ad⟩ := X
  obtain ⟨hx, hb, hr, hml, hown, hts, hK, hI, hZ, hN, hlk, hR⟩ := O
  obtain ⟨t3, g1, g2⟩ := hZ
  exact fun H locs ls h1 h2 h3 h4 => va_gets hx hb g1 h3 hown (hts _ hw) (fun _ h => h) hd (K t3 g2 H locs ls h1 h2 h3 h4)
theorem r_getsN (O : OK N X own cc nL ret rm) {idx : Nat} {host : String} (hw : Cond.fieldLinkNest own idx "BallastSteps" "POWERS_OF_3" "[I" host ∈ lw_tbl) (hd : decode cc pc = .ok (.getstatic idx, 3)) (K : ∀ t3, T3 N X t3 → GM N E X P S (pc + 3) lv (.ref t3 :: st)) : GM N E X P S pc lv st := by
  obtain ⟨p, l, e, R, s, m, args, below, meth, c, Q, out, D, cy, ad⟩ := X
  obtain ⟨hx, hb, hr, hml, hown, hts, hK, hI, hZ, hN, hlk, hR⟩ := O
  obtain ⟨t3, g1, g2⟩ := hZ
  exact fun H locs ls h1 h2 h3 h4 => va_getsN hx hb g1 h3 hown (va_Nw.use rfl (hN _ hw rfl)) (fun _ h => h) hd (K t3 g2 H locs ls h1 h2 h3 h4)
theorem r_p3 (O : OK N X own cc nL ret rm) {P : Nat → Option α} {i : Int32} {t3 : Nat} (hT : T3 N X t3) (hd : decode cc pc = .ok (.iaload, 1)) (K : ∀ k, k < 6 → GM N E X (P k) S (pc + 1) lv (.int (pw3 k) :: st)) : GM N E X (ck i 6 P) S pc lv (.int i :: .ref t3 :: st) := by
  refine ck_split (fun hin => ?_)
  have hk := vp_in_lt hin
  obtain ⟨p, l, e, R, s, m, args, below, meth, c, Q, out, D, cy, ad⟩ := X
  obtain ⟨hx, hb, hr, hml, hown, hts, hK, hI, hZ, hN, hlk, hR⟩ := O
  exact fun H locs ls h1 h2 h3 h4 => va_ti hx hb hT h3 hin rfl hd (K _ hk H locs ls h1 h2 h3 h4)
theorem r_mmax (O : OK N X own cc nL ret rm) {x y : Int32} {idx : Nat} (hw1 : Cond.methodLink own idx Lib.Math.max.name ∈ lw_gd) (hw2 : Cond.static Lib.Math.max.name ∈ lw_gd) (hw3 : Cond.initialized "java/lang/Math" ∈ lw_gd) (hw4 : Cond.code Lib.Math.max.name Lib.Math.max.code 2 (some .int) ∈ lw_gd) (hf : 1 ≤ rm.frames) (hlo : (st.map fun v => v.category).sum + 13 ≤ rm.locals) (hd : decode cc pc = .ok (.invokestatic idx, 3)) (K : GM N E X P S (pc + 3) lv (.int (if x < y then y else x) :: st)) : GM N E X P S pc lv (.int y :: .int x :: st) := by
  obtain ⟨p, l, e, R, s, m, args, below, meth, c, Q, out, D, cy, ad⟩ := X
  obtain ⟨hx, hb, hr, hml, hown, hts, hK, hI, hZ, hN, hlk, hR⟩ := O
  exact fun H locs ls h1 h2 h3 h4 => va_mmax hx hb h4.1.symm hown (hts _ hw1) (hts _ hw2) (hts _ hw3) (hts _ hw4) (by rw [hR]; exact hf) (by rw [hR]; exact hlo) (Nat.zero_le _) (Nat.zero_le _) hd (K H locs ls h1 h2 h3 h4)
theorem r_mmin (O : OK N X own cc nL ret rm) {x y : Int32} {idx : Nat} (hw1 : Cond.methodLink own idx Lib.Math.min.name ∈ lw_gd) (hw2 : Cond.static Lib.Math.min.name ∈ lw_gd) (hw3 : Cond.initialized "java/lang/Math" ∈ lw_gd) (hw4 : Cond.code Lib.Math.min.name Lib.Math.min.code 2 (some .int) ∈ lw_gd) (hf : 1 ≤ rm.frames) (hlo : (st.map fun v => v.category).sum + 13 ≤ rm.locals) (hd : decode cc pc = .ok (.invokestatic idx, 3)) (K : GM N E X P S (pc + 3) lv (.int (if y < x then y else x) :: st)) : GM N E X P S pc lv (.int y :: .int x :: st) := by
  obtain ⟨p, l, e, R, s, m, args, below, meth, c, Q, out, D, cy, ad⟩ := X
  obtain ⟨hx, hb, hr, hml, hown, hts, hK, hI, hZ, hN, hlk, hR⟩ := O
  exact fun H locs ls h1 h2 h3 h4 => va_mmin hx hb h4.1.symm hown (hts _ hw1) (hts _ hw2) (hts _ hw3) (hts _ hw4) (by rw [hR]; exact hf) (by rw [hR]; exact hlo) (Nat.zero_le _) (Nat.zero_le _) hd (K H locs ls h1 h2 h3 h4)
theorem r_mabs (O : OK N X own cc nL ret rm) {x : Int32} {idx : Nat} (hw1 : Cond.methodLink own idx Lib.Math.abs.name ∈ lw_gd) (hw2 : Cond.static Lib.Math.abs.name ∈ lw_gd) (hw3 : Cond.initialized "java/lang/Math" ∈ lw_gd) (hw4 : Cond.code Lib.Math.abs.name Lib.Math.abs.code 1 (some .int) ∈ lw_gd) (hf : 1 ≤ rm.frames) (hlo : (st.map fun v => v.category).sum + 13 ≤ rm.locals) (hd : decode cc pc = .ok (.invokestatic idx, 3)) (K : GM N E X P S (pc + 3) lv (.int (if 0 ≤ x then x else 0 - x) :: st)) : GM N E X P S pc lv (.int x :: st) := by
  obtain ⟨p, l, e, R, s, m, args, below, meth, c, Q, out, D, cy, ad⟩ := X
  obtain ⟨hx, hb, hr, hml, hown, hts, hK, hI, hZ, hN, hlk, hR⟩ := O
  exact fun H locs ls h1 h2 h3 h4 => va_mabs hx hb h4.1.symm hown (hts _ hw1) (hts _ hw2) (hts _ hw3) (hts _ hw4) (by rw [hR]; exact hf) (by rw [hR]; exact hlo) (Nat.zero_le _) (Nat.zero_le _) hd (K H locs ls h1 h2 h3 h4)
end GMrows
theorem PG_blind {N : Nat} {E : (Nat → ClassId) → EG} {D : va_G} {cy : Nat → ClassId} {ad : Nat → Nat} {S : MS} {av : List Value} : FrameBlind (va_Pc av (PG N E D cy ad S)) := by
  intro a U g mk ⟨q0, q1, q2, q3, q4, q5⟩
  exact ⟨q0, q1, va_K.moved (u := U) (U := U.calling g mk a) (Vm.Alike.refl U.vm) q2, q3, ZG.moved (u := U) (U := U.calling g mk a) (Vm.Alike.refl U.vm) q4, NG.same (s := U) (U := U.calling g mk a) rfl q5⟩
theorem PG_call {N : Nat} {E : (Nat → ClassId) → EG} {D : va_G} {cy : Nat → ClassId} {ad : Nat → Nat} {S : MS} {s : State} {H : Heap} {locs : List Loc} (h2 : va_P D classes (wG N (E cy) ad S) H) (h3 : va_S (AG N ad) s.heap H locs) (hK : va_K D classes (tysG cy) s) (hI : IG N ad) (hZ : ZG (AG N ad) s s.heap) (hN : NG s) (U : State) (hU : U.heap = H) (hW : s.WarmedH U.vm) : PG N E D cy ad S U :=
  ⟨by rw [hU]; exact h2, va_K.moved hW.alike hK, hI, by rw [hU]; exact (hZ.kept h3.2.1).moved hW.alike, hN.warm hW⟩
theorem gd_cons {y : MethodName} {c2 : ByteArray} {n2 : Nat} {r2 : Option FieldType} (h : Cond.code y c2 n2 r2 ∈ lw_gd) : GoodIn lw_gd (.code y c2 n2 r2 :: lw_gd) := fun w hw => (List.mem_cons.mp hw).elim (fun e => by rw [e]; exact gd_good _ h) (gd_good w)
theorem gdS {own : String} {idx : Nat} {y : MethodName} {c2 : ByteArray} {n2 : Nat} {r2 : Option FieldType} (h1 : Cond.methodLink own idx y ∈ lw_gd) (h2 : Cond.static y ∈ lw_gd) (h3 : Cond.initialized y.cls ∈ lw_gd) (h : Cond.code y c2 n2 r2 ∈ lw_gd) : GoodIn lw_gd (va_wsS own idx y (.code y c2 n2 r2 :: lw_gd)) := by
  intro w hw
  rcases List.mem_append.mp hw with q | q
  · simp only [List.mem_cons, List.not_mem_nil, or_false] at q
    rcases q with rfl | rfl | rfl
    · exact gd_good _ h1
    · exact gd_good _ h2
    · exact gd_good _ h3
  · exact gd_cons h w q
theorem gdV {own C : String} {idx : Nat} {y : MethodName} {c2 : ByteArray} {n2 : Nat} {r2 : Option FieldType} (h1 : Cond.methodLink own idx y ∈ lw_gd) (h2 : Cond.instanceMethod y ∈ lw_gd) (h3 : Cond.selects C y y ∈ lw_gd) (h4 : Cond.initialized C ∈ lw_gd) (h : Cond.code y c2 n2 r2 ∈ lw_gd) : GoodIn lw_gd (wsV own idx C y (.code y c2 n2 r2 :: lw_gd)) := by
  intro w hw
  rcases List.mem_append.mp hw with q | q
  · simp only [List.mem_cons, List.not_mem_nil, or_false] at q
    rcases q with rfl | rfl | rfl | rfl
    · exact gd_good _ h1
    · exact gd_good _ h2
    · exact gd_good _ h3
    · exact gd_good _ h4
  · exact gd_cons h w q
section GMcalls
variable {α : Type} {N : Nat} {E : (Nat → ClassId) → EG} {X : GX α} {own : String} {cc : ByteArray} {nL : Nat} {ret : Option FieldType} {rm : Room} {S : MS} {pc : Nat} {lv : List (Nat × Value)} {rest st : List Value}
variable {y : MethodName} {c2 : ByteArray} {n2 idx : Nat} {r2 : Option FieldType} {rm2 : Room} {av : (Nat → Nat) → List Value} {n : Nat}
theorem r_callSi (O : OK N X own cc nL ret rm) {f : (Int32 → MS → Option α) → Option α} {P : Int32 → MS → Option α} (hC : CtI N E (lX X) y c2 n2 r2 rm2 S av f) (w1 : Cond.methodLink own idx y ∈ lw_gd) (w2 : Cond.static y ∈ lw_gd) (w3 : Cond.initialized y.cls ∈ lw_gd) (w4 : Cond.code y c2 n2 r2 ∈ lw_gd) (hd2 : y.cls ≠ "java/lang/invoke/MethodHandle" ∧ y.cls ≠ "java/lang/invoke/VarHandle" ∧ (parseMethodDescriptor y.desc).map (fun d => d.parameters.length) = some n) (hrm : rm2.cells = 0 ∧ rm2.slots = 0 ∧ rm2.frames + 1 ≤ rm.frames ∧ 8 + (n2 + 11) + rm2.locals ≤ rm.locals) (hn : (av (aX X)).length = n) (hst : st = (av (aX X)).reverse ++ rest) (hrest : (rest.map fun v => v.category).sum ≤ 8) (hd : decode cc pc = .ok (.invokestatic idx, 3)) (K : ∀ r S, GM N E X (P r S) S (pc + 3) lv (.int r :: rest)) : GM N E X (f P) S pc lv st := by
  obtain ⟨p, l, e, R, s, m, args, below, meth, c, Q, out, D, cy, ad⟩ := X
  obtain ⟨hx, hb, hr, hml, hown, hts, hK, hI, hZ, hN, hlk, hR⟩ := O
  subst hst; subst hR
  exact fun H locs ls h1 h2 h3 h4 => va_calli (va_runS (As := av ad) (rest := rest) ⟨hx, hb, hml, hown, hts⟩ (hC D cy ad P out h1) (va_cwS n hts (gdS w1 w2 w3 w4) rfl hrm.1 hrm.2.1 hd2 hrm.2.2) ⟨PG_blind, fun U hU hW => ⟨rfl, PG_call h2 h3 hK hI hZ hN U hU hW⟩⟩ rfl hn (by rw [← hml]; exact h4.1) rfl (lv_room hrest) hd ⟨Nat.zero_le _, Nat.zero_le _⟩) h3 (fun q _ h => h) (fun q h => h) (fun r u t H1 locs1 ht hvm hw hB hz hk hS1 => K r u H1 locs1 ls hw (by rw [← ht]; exact hB) hS1 h4)
theorem r_callSNi (O : OK N X own cc nL ret rm) {host : String} {f : (Int32 → MS → Option α) → Option α} {P : Int32 → MS → Option α} (hC : CtI N E (lX X) y c2 n2 r2 rm2 S av f) (w1 : Cond.methodLinkNest own idx y host ∈ lw_tbl) (w2 : Cond.static y ∈ lw_gd) (w3 : Cond.initialized y.cls ∈ lw_gd) (w4 : Cond.code y c2 n2 r2 ∈ lw_gd) (hd2 : y.cls ≠ "java/lang/invoke/MethodHandle" ∧ y.cls ≠ "java/lang/invoke/VarHandle" ∧ (parseMethodDescriptor y.desc).map (fun d => d.parameters.length) = some n) (hrm : rm2.cells = 0 ∧ rm2.slots = 0 ∧ rm2.frames + 1 ≤ rm.frames ∧ 8 + (n2 + 11) + rm2.locals ≤ rm.locals) (hn : (av (aX X)).length = n) (hst : st = (av (aX X)).reverse ++ rest) (hrest : (rest.map fun v => v.category).sum ≤ 8) (hd : decode cc pc = .ok (.invokestatic idx, 3)) (K : ∀ r S, GM N E X (P r S) S (pc + 3) lv (.int r :: rest)) : GM N E X (f P) S pc lv st := by
  obtain ⟨p, l, e, R, s, m, args, below, meth, c, Q, out, D, cy, ad⟩ := X
  obtain ⟨hx, hb, hr, hml, hown, hts, hK, hI, hZ, hN, hlk, hR⟩ := O
  subst hst; subst hR
  exact fun H locs ls h1 h2 h3 h4 => va_calli (va_runSN (As := av ad) (rest := rest) ⟨hx, hb, hml, hown, hts⟩ (hC D cy ad P out h1) ⟨va_cnB n hts (gd_cons w4) rfl hrm.1 hrm.2.1 (hN _ w1 rfl) (hts _ w3) hd2 hrm.2.2, hts _ w2, trivial⟩ ⟨PG_blind, fun U hU hW => ⟨rfl, PG_call h2 h3 hK hI hZ hN U hU hW⟩⟩ rfl hn (by rw [← hml]; exact h4.1) rfl (lv_room hrest) hd ⟨Nat.zero_le _, Nat.zero_le _⟩) h3 (fun q _ h => h) (fun q h => h) (fun r u t H1 locs1 ht hvm hw hB hz hk hS1 => K r u H1 locs1 ls hw (by rw [← ht]; exact hB) hS1 h4)
theorem r_callVi (O : OK N X own cc nL ret rm) {b ci : Nat} {q : vw_C} {fs : List Value} {bv : (Nat → Nat) → List Value} {f : (Int32 → MS → Option α) → Option α} {P : Int32 → MS → Option α} (hC : CtI N E (lX X) y c2 n2 r2 rm2 S av f) (hav : ∀ ad, av ad = .ref (ad b) :: bv ad) (hj : b < N) (he : E (cX X) (aX X) b (S.1 b) (S.2 b) = .inr (ci, fs)) (hc : classes[ci]? = some q) (hcl : y.cls = q.1) (w1 : Cond.methodLink own idx y ∈ lw_gd) (w2 : Cond.instanceMethod y ∈ lw_gd) (w3 : Cond.selects q.1 y y ∈ lw_gd) (w5 : Cond.initialized q.1 ∈ lw_gd) (w4 : Cond.code y c2 n2 r2 ∈ lw_gd) (hd2 : y.cls ≠ "java/lang/invoke/MethodHandle" ∧ y.cls ≠ "java/lang/invoke/VarHandle" ∧ (parseMethodDescriptor y.desc).map (fun d => d.parameters.length) = some n) (hrm : rm2.cells = 0 ∧ rm2.slots = 0 ∧ rm2.frames + 1 ≤ rm.frames ∧ 8 + (n2 + 11) + rm2.locals ≤ rm.locals) (hn : (bv (aX X)).length = n) (hst : st = (bv (aX X)).reverse ++ .ref (aX X b) :: rest) (hrest : (rest.map fun v => v.category).sum ≤ 8) (hd : decode cc pc = .ok (.invokevirtual idx, 3)) (K : ∀ r S, GM N E X (P r S) S (pc + 3) lv (.int r :: rest)) : GM N E X (f P) S pc lv st := by
  obtain ⟨p, l, e, R, s, m, args, below, meth, c, Q, out, D, cy, ad⟩ := X
  obtain ⟨hx, hb, hr, hml, hown, hts, hK, hI, hZ, hN, hlk, hR⟩ := O
  subst hst; subst hR
  exact fun H locs ls h1 h2 h3 h4 => va_calli (va_runV (C := q.1) (b := ad b) (As := bv ad) (rest := rest) ⟨hx, hb, hml, hown, hts⟩ (hC D cy ad P out h1) (cwV n hts (gdV w1 w2 w3 w5 w4) rfl hrm.1 hrm.2.1 ⟨hcl, hd2⟩ hrm.2.2) ⟨PG_blind, va_recv hK h2 hc ((wG_at hj).trans (congrArg (fun z => some (ad b, z)) he)), fun U hU hW => ⟨by rw [hav ad], PG_call h2 h3 hK hI hZ hN U hU hW⟩⟩ rfl hn (by rw [← hml]; exact h4.1) rfl (lv_room hrest) hd ⟨Nat.zero_le _, Nat.zero_le _⟩) h3 (fun q _ h => h) (fun q h => h) (fun r u t H1 locs1 ht hvm hw hB hz hk hS1 => K r u H1 locs1 ls hw (by rw [← ht]; exact hB) hS1 h4)
theorem r_callSl (O : OK N X own cc nL ret rm) {f : (Int64 → MS → Option α) → Option α} {P : Int64 → MS → Option α} (hC : CtL N E (lX X) y c2 n2 r2 rm2 S av f) (w1 : Cond.methodLink own idx y ∈ lw_gd) (w2 : Cond.static y ∈ lw_gd) (w3 : Cond.initialized y.cls ∈ lw_gd) (w4 : Cond.code y c2 n2 r2 ∈ lw_gd) (hd2 : y.cls ≠ "java/lang/invoke/MethodHandle" ∧ y.cls ≠ "java/lang/invoke/VarHandle" ∧ (parseMethodDescriptor y.desc).map (fun d => d.parameters.length) = some n) (hrm : rm2.cells = 0 ∧ rm2.slots = 0 ∧ rm2.frames + 1 ≤ rm.frames ∧ 8 + (n2 + 11) + rm2.locals ≤ rm.locals) (hn : (av (aX X)).length = n) (hst : st = (av (aX X)).reverse ++ rest) (hrest : (rest.map fun v => v.category).sum ≤ 8) (hd : decode cc pc = .ok (.invokestatic idx, 3)) (K : ∀ r S, GM N E X (P r S) S (pc + 3) lv (.long r :: rest)) : GM N E X (f P) S pc lv st := by
  obtain ⟨p, l, e, R, s, m, args, below, meth, c, Q, out, D, cy, ad⟩ := X
  obtain ⟨hx, hb, hr, hml, hown, hts, hK, hI, hZ, hN, hlk, hR⟩ := O
  subst hst; subst hR
  exact fun H locs ls h1 h2 h3 h4 => va_calll (va_runS (As := av ad) (rest := rest) ⟨hx, hb, hml, hown, hts⟩ (hC D cy ad P out h1) (va_cwS n hts (gdS w1 w2 w3 w4) rfl hrm.1 hrm.2.1 hd2 hrm.2.2) ⟨PG_blind, fun U hU hW => ⟨rfl, PG_call h2 h3 hK hI hZ hN U hU hW⟩⟩ rfl hn (by rw [← hml]; exact h4.1) rfl (lv_room hrest) hd ⟨Nat.zero_le _, Nat.zero_le _⟩) h3 (fun q _ h => h) (fun q h => h) (fun r u t H1 locs1 ht hvm hw hB hz hk hS1 => K r u H1 locs1 ls hw (by rw [← ht]; exact hB) hS1 h4)
theorem r_callSNl (O : OK N X own cc nL ret rm) {host : String} {f : (Int64 → MS → Option α) → Option α} {P : Int64 → MS → Option α} (hC : CtL N E (lX X) y c2 n2 r2 rm2 S av f) (w1 : Cond.methodLinkNest own idx y host ∈ lw_tbl) (w2 : Cond.static y ∈ lw_gd) (w3 : Cond.initialized y.cls ∈ lw_gd) (w4 : Cond.code y c2 n2 r2 ∈ lw_gd) (hd2 : y.cls ≠ "java/lang/invoke/MethodHandle" ∧ y.cls ≠ "java/lang/invoke/VarHandle" ∧ (parseMethodDescriptor y.desc).map (fun d => d.parameters.length) = some n) (hrm : rm2.cells = 0 ∧ rm2.slots = 0 ∧ rm2.frames + 1 ≤ rm.frames ∧ 8 + (n2 + 11) + rm2.locals ≤ rm.locals) (hn : (av (aX X)).length = n) (hst : st = (av (aX X)).reverse ++ rest) (hrest : (rest.map fun v => v.category).sum ≤ 8) (hd : decode cc pc = .ok (.invokestatic idx, 3)) (K : ∀ r S, GM N E X (P r S) S (pc + 3) lv (.long r :: rest)) : GM N E X (f P) S pc lv st := by
  obtain ⟨p, l, e, R, s, m, args, below, meth, c, Q, out, D, cy, ad⟩ := X
  obtain ⟨hx, hb, hr, hml, hown, hts, hK, hI, hZ, hN, hlk, hR⟩ := O
  subst hst; subst hR
  exact fun H locs ls h1 h2 h3 h4 => va_calll (va_runSN (As := av ad) (rest := rest) ⟨hx, hb, hml, hown, hts⟩ (hC D cy ad P out h1) ⟨va_cnB n hts (gd_cons w4) rfl hrm.1 hrm.2.1 (hN _ w1 rfl) (hts _ w3) hd2 hrm.2.2, hts _ w2, trivial⟩ ⟨PG_blind, fun U hU hW => ⟨rfl, PG_call h2 h3 hK hI hZ hN U hU hW⟩⟩ rfl hn (by rw [← hml]; exact h4.1) rfl (lv_room hrest) hd ⟨Nat.zero_le _, Nat.zero_le _⟩) h3 (fun q _ h => h) (fun q h => h) (fun r u t H1 locs1 ht hvm hw hB hz hk hS1 => K r u H1 locs1 ls hw (by rw [← ht]; exact hB) hS1 h4)
theorem r_callVl (O : OK N X own cc nL ret rm) {b ci : Nat} {q : vw_C} {fs : List Value} {bv : (Nat → Nat) → List Value} {f : (Int64 → MS → Option α) → Option α} {P : Int64 → MS → Option α} (hC : CtL N E (lX X) y c2 n2 r2 rm2 S av f) (hav : ∀ ad, av ad = .ref (ad b) :: bv ad) (hj : b < N) (he : E (cX X) (aX X) b (S.1 b) (S.2 b) = .inr (ci, fs)) (hc : classes[ci]? = some q) (hcl : y.cls = q.1) (w1 : Cond.methodLink own idx y ∈ lw_gd) (w2 : Cond.instanceMethod y ∈ lw_gd) (w3 : Cond.selects q.1 y y ∈ lw_gd) (w5 : Cond.initialized q.1 ∈ lw_gd) (w4 : Cond.code y c2 n2 r2 ∈ lw_gd) (hd2 : y.cls ≠ "java/lang/invoke/MethodHandle" ∧ y.cls ≠ "java/lang/invoke/VarHandle" ∧ (parseMethodDescriptor y.desc).map (fun d => d.parameters.length) = some n) (hrm : rm2.cells = 0 ∧ rm2.slots = 0 ∧ rm2.frames + 1 ≤ rm.frames ∧ 8 + (n2 + 11) + rm2.locals ≤ rm.locals) (hn : (bv (aX X)).length = n) (hst : st = (bv (aX X)).reverse ++ .ref (aX X b) :: rest) (hrest : (rest.map fun v => v.category).sum ≤ 8) (hd : decode cc pc = .ok (.invokevirtual idx, 3)) (K : ∀ r S, GM N E X (P r S) S (pc + 3) lv (.long r :: rest)) : GM N E X (f P) S pc lv st := by
  obtain ⟨p, l, e, R, s, m, args, below, meth, c, Q, out, D, cy, ad⟩ := X
  obtain ⟨hx, hb, hr, hml, hown, hts, hK, hI, hZ, hN, hlk, hR⟩ := O
  subst hst; subst hR
  exact fun H locs ls h1 h2 h3 h4 => va_calll (va_runV (C := q.1) (b := ad b) (As := bv ad) (rest := rest) ⟨hx, hb, hml, hown, hts⟩ (hC D cy ad P out h1) (cwV n hts (gdV w1 w2 w3 w5 w4) rfl hrm.1 hrm.2.1 ⟨hcl, hd2⟩ hrm.2.2) ⟨PG_blind, va_recv hK h2 hc ((wG_at hj).trans (congrArg (fun z => some (ad b, z)) he)), fun U hU hW => ⟨by rw [hav ad], PG_call h2 h3 hK hI hZ hN U hU hW⟩⟩ rfl hn (by rw [← hml]; exact h4.1) rfl (lv_room hrest) hd ⟨Nat.zero_le _, Nat.zero_le _⟩) h3 (fun q _ h => h) (fun q h => h) (fun r u t H1 locs1 ht hvm hw hB hz hk hS1 => K r u H1 locs1 ls hw (by rw [← ht]; exact hB) hS1 h4)
theorem r_callSv (O : OK N X own cc nL ret rm) {f : (MS → Option α) → Option α} {P : MS → Option α} (hC : CtV N E (lX X) y c2 n2 r2 rm2 S av f) (w1 : Cond.methodLink own idx y ∈ lw_gd) (w2 : Cond.static y ∈ lw_gd) (w3 : Cond.initialized y.cls ∈ lw_gd) (w4 : Cond.code y c2 n2 r2 ∈ lw_gd) (hd2 : y.cls ≠ "java/lang/invoke/MethodHandle" ∧ y.cls ≠ "java/lang/invoke/VarHandle" ∧ (parseMethodDescriptor y.desc).map (fun d => d.parameters.length) = some n) (hrm : rm2.cells = 0 ∧ rm2.slots = 0 ∧ rm2.frames + 1 ≤ rm.frames ∧ 8 + (n2 + 11) + rm2.locals ≤ rm.locals) (hn : (av (aX X)).length = n) (hst : st = (av (aX X)).reverse ++ rest) (hrest : (rest.map fun v => v.category).sum ≤ 8) (hd : decode cc pc = .ok (.invokestatic idx, 3)) (K : ∀ S, GM N E X (P S) S (pc + 3) lv rest) : GM N E X (f P) S pc lv st := by
  obtain ⟨p, l, e, R, s, m, args, below, meth, c, Q, out, D, cy, ad⟩ := X
  obtain ⟨hx, hb, hr, hml, hown, hts, hK, hI, hZ, hN, hlk, hR⟩ := O
  subst hst; subst hR
  exact fun H locs ls h1 h2 h3 h4 => va_callv (va_runS (As := av ad) (rest := rest) ⟨hx, hb, hml, hown, hts⟩ (hC D cy ad P out h1) (va_cwS n hts (gdS w1 w2 w3 w4) rfl hrm.1 hrm.2.1 hd2 hrm.2.2) ⟨PG_blind, fun U hU hW => ⟨rfl, PG_call h2 h3 hK hI hZ hN U hU hW⟩⟩ rfl hn (by rw [← hml]; exact h4.1) rfl (lv_room hrest) hd ⟨Nat.zero_le _, Nat.zero_le _⟩) h3 (fun q _ h => h) (fun q h => h) (fun u t H1 locs1 ht hvm hw hB hz hk hS1 => K u H1 locs1 ls hw (by rw [← ht]; exact hB) hS1 h4)
theorem r_callSNv (O : OK N X own cc nL ret rm) {host : String} {f : (MS → Option α) → Option α} {P : MS → Option α} (hC : CtV N E (lX X) y c2 n2 r2 rm2 S av f) (w1 : Cond.methodLinkNest own idx y host ∈ lw_tbl) (w2 : Cond.static y ∈ lw_gd) (w3 : Cond.initialized y.cls ∈ lw_gd) (w4 : Cond.code y c2 n2 r2 ∈ lw_gd) (hd2 : y.cls ≠ "java/lang/invoke/MethodHandle" ∧ y.cls ≠ "java/lang/invoke/VarHandle" ∧ (parseMethodDescriptor y.desc).map (fun d => d.parameters.length) = some n) (hrm : rm2.cells = 0 ∧ rm2.slots = 0 ∧ rm2.frames + 1 ≤ rm.frames ∧ 8 + (n2 + 11) + rm2.locals ≤ rm.locals) (hn : (av (aX X)).length = n) (hst : st = (av (aX X)).reverse ++ rest) (hrest : (rest.map fun v => v.category).sum ≤ 8) (hd : decode cc pc = .ok (.invokestatic idx, 3)) (K : ∀ S, GM N E X (P S) S (pc + 3) lv rest) : GM N E X (f P) S pc lv st := by
  obtain ⟨p, l, e, R, s, m, args, below, meth, c, Q, out, D, cy, ad⟩ := X
  obtain ⟨hx, hb, hr, hml, hown, hts, hK, hI, hZ, hN, hlk, hR⟩ := O
  subst hst; subst hR
  exact fun H locs ls h1 h2 h3 h4 => va_callv (va_runSN (As := av ad) (rest := rest) ⟨hx, hb, hml, hown, hts⟩ (hC D cy ad P out h1) ⟨va_cnB n hts (gd_cons w4) rfl hrm.1 hrm.2.1 (hN _ w1 rfl) (hts _ w3) hd2 hrm.2.2, hts _ w2, trivial⟩ ⟨PG_blind, fun U hU hW => ⟨rfl, PG_call h2 h3 hK hI hZ hN U hU hW⟩⟩ rfl hn (by rw [← hml]; exact h4.1) rfl (lv_room hrest) hd ⟨Nat.zero_le _, Nat.zero_le _⟩) h3 (fun q _ h => h) (fun q h => h) (fun u t H1 locs1 ht hvm hw hB hz hk hS1 => K u H1 locs1 ls hw (by rw [← ht]; exact hB) hS1 h4)
theorem r_callVv (O : OK N X own cc nL ret rm) {b ci : Nat} {q : vw_C} {fs : List Value} {bv : (Nat → Nat) → List Value} {f : (MS → Option α) → Option α} {P : MS → Option α} (hC : CtV N E (lX X) y c2 n2 r2 rm2 S av f) (hav : ∀ ad, av ad = .ref (ad b) :: bv ad) (hj : b < N) (he : E (cX X) (aX X) b (S.1 b) (S.2 b) = .inr (ci, fs)) (hc : classes[ci]? = some q) (hcl : y.cls = q.1) (w1 : Cond.methodLink own idx y ∈ lw_gd) (w2 : Cond.instanceMethod y ∈ lw_gd) (w3 : Cond.selects q.1 y y ∈ lw_gd) (w5 : Cond.initialized q.1 ∈ lw_gd) (w4 : Cond.code y c2 n2 r2 ∈ lw_gd) (hd2 : y.cls ≠ "java/lang/invoke/MethodHandle" ∧ y.cls ≠ "java/lang/invoke/VarHandle" ∧ (parseMethodDescriptor y.desc).map (fun d => d.parameters.length) = some n) (hrm : rm2.cells = 0 ∧ rm2.slots = 0 ∧ rm2.frames + 1 ≤ rm.frames ∧ 8 + (n2 + 11) + rm2.locals ≤ rm.locals) (hn : (bv (aX X)).length = n) (hst : st = (bv (aX X)).reverse ++ .ref (aX X b) :: rest) (hrest : (rest.map fun v => v.category).sum ≤ 8) (hd : decode cc pc = .ok (.invokevirtual idx, 3)) (K : ∀ S, GM N E X (P S) S (pc + 3) lv rest) : GM N E X (f P) S pc lv st := by
  obtain ⟨p, l, e, R, s, m, args, below, meth, c, Q, out, D, cy, ad⟩ := X
  obtain ⟨hx, hb, hr, hml, hown, hts, hK, hI, hZ, hN, hlk, hR⟩ := O
  subst hst; subst hR
  exact fun H locs ls h1 h2 h3 h4 => va_callv (va_runV (C := q.1) (b := ad b) (As := bv ad) (rest := rest) ⟨hx, hb, hml, hown, hts⟩ (hC D cy ad P out h1) (cwV n hts (gdV w1 w2 w3 w5 w4) rfl hrm.1 hrm.2.1 ⟨hcl, hd2⟩ hrm.2.2) ⟨PG_blind, va_recv hK h2 hc ((wG_at hj).trans (congrArg (fun z => some (ad b, z)) he)), fun U hU hW => ⟨by rw [hav ad], PG_call h2 h3 hK hI hZ hN U hU hW⟩⟩ rfl hn (by rw [← hml]; exact h4.1) rfl (lv_room hrest) hd ⟨Nat.zero_le _, Nat.zero_le _⟩) h3 (fun q _ h => h) (fun q h => h) (fun u t H1 locs1 ht hvm hw hB hz hk hS1 => K u H1 locs1 ls hw (by rw [← ht]; exact hB) hS1 h4)
theorem r_callSr (O : OK N X own cc nL ret rm) {j : Nat} {f : (MS → Option α) → Option α} {P : MS → Option α} (hC : CtR N E (lX X) y c2 n2 r2 rm2 S av j f) (w1 : Cond.methodLink own idx y ∈ lw_gd) (w2 : Cond.static y ∈ lw_gd) (w3 : Cond.initialized y.cls ∈ lw_gd) (w4 : Cond.code y c2 n2 r2 ∈ lw_gd) (hd2 : y.cls ≠ "java/lang/invoke/MethodHandle" ∧ y.cls ≠ "java/lang/invoke/VarHandle" ∧ (parseMethodDescriptor y.desc).map (fun d => d.parameters.length) = some n) (hrm : rm2.cells = 0 ∧ rm2.slots = 0 ∧ rm2.frames + 1 ≤ rm.frames ∧ 8 + (n2 + 11) + rm2.locals ≤ rm.locals) (hn : (av (aX X)).length = n) (hst : st = (av (aX X)).reverse ++ rest) (hrest : (rest.map fun v => v.category).sum ≤ 8) (hd : decode cc pc = .ok (.invokestatic idx, 3)) (K : ∀ S, GM N E X (P S) S (pc + 3) lv (.ref (aX X j) :: rest)) : GM N E X (f P) S pc lv st := by
  obtain ⟨p, l, e, R, s, m, args, below, meth, c, Q, out, D, cy, ad⟩ := X
  obtain ⟨hx, hb, hr, hml, hown, hts, hK, hI, hZ, hN, hlk, hR⟩ := O
  subst hst; subst hR
  exact fun H locs ls h1 h2 h3 h4 => va_callr (va_runS (As := av ad) (rest := rest) ⟨hx, hb, hml, hown, hts⟩ (hC D cy ad P out h1) (va_cwS n hts (gdS w1 w2 w3 w4) rfl hrm.1 hrm.2.1 hd2 hrm.2.2) ⟨PG_blind, fun U hU hW => ⟨rfl, PG_call h2 h3 hK hI hZ hN U hU hW⟩⟩ rfl hn (by rw [← hml]; exact h4.1) rfl (lv_room hrest) hd ⟨Nat.zero_le _, Nat.zero_le _⟩) h3 (fun q _ h => h) (fun q h => h) (fun u ra t H1 locs1 ht hvm hw hB hz hk hS1 => by rw [hB.1]; exact K u H1 locs1 ls hw (by rw [← ht]; exact hB.2) hS1 h4)
theorem r_callSNr (O : OK N X own cc nL ret rm) {j : Nat} {host : String} {f : (MS → Option α) → Option α} {P : MS → Option α} (hC : CtR N E (lX X) y c2 n2 r2 rm2 S av j f) (w1 : Cond.methodLinkNest own idx y host ∈ lw_tbl) (w2 : Cond.static y ∈ lw_gd) (w3 : Cond.initialized y.cls ∈ lw_gd) (w4 : Cond.code y c2 n2 r2 ∈ lw_gd) (hd2 : y.cls ≠ "java/lang/invoke/MethodHandle" ∧ y.cls ≠ "java/lang/invoke/VarHandle" ∧ (parseMethodDescriptor y.desc).map (fun d => d.parameters.length) = some n) (hrm : rm2.cells = 0 ∧ rm2.slots = 0 ∧ rm2.frames + 1 ≤ rm.frames ∧ 8 + (n2 + 11) + rm2.locals ≤ rm.locals) (hn : (av (aX X)).length = n) (hst : st = (av (aX X)).reverse ++ rest) (hrest : (rest.map fun v => v.category).sum ≤ 8) (hd : decode cc pc = .ok (.invokestatic idx, 3)) (K : ∀ S, GM N E X (P S) S (pc + 3) lv (.ref (aX X j) :: rest)) : GM N E X (f P) S pc lv st := by
  obtain ⟨p, l, e, R, s, m, args, below, meth, c, Q, out, D, cy, ad⟩ := X
  obtain ⟨hx, hb, hr, hml, hown, hts, hK, hI, hZ, hN, hlk, hR⟩ := O
  subst hst; subst hR
  exact fun H locs ls h1 h2 h3 h4 => va_callr (va_runSN (As := av ad) (rest := rest) ⟨hx, hb, hml, hown, hts⟩ (hC D cy ad P out h1) ⟨va_cnB n hts (gd_cons w4) rfl hrm.1 hrm.2.1 (hN _ w1 rfl) (hts _ w3) hd2 hrm.2.2, hts _ w2, trivial⟩ ⟨PG_blind, fun U hU hW => ⟨rfl, PG_call h2 h3 hK hI hZ hN U hU hW⟩⟩ rfl hn (by rw [← hml]; exact h4.1) rfl (lv_room hrest) hd ⟨Nat.zero_le _, Nat.zero_le _⟩) h3 (fun q _ h => h) (fun q h => h) (fun u ra t H1 locs1 ht hvm hw hB hz hk hS1 => by rw [hB.1]; exact K u H1 locs1 ls hw (by rw [← ht]; exact hB.2) hS1 h4)
theorem r_callVr (O : OK N X own cc nL ret rm) {j : Nat} {b ci : Nat} {q : vw_C} {fs : List Value} {bv : (Nat → Nat) → List Value} {f : (MS → Option α) → Option α} {P : MS → Option α} (hC : CtR N E (lX X) y c2 n2 r2 rm2 S av j f) (hav : ∀ ad, av ad = .ref (ad b) :: bv ad) (hj : b < N) (he : E (cX X) (aX X) b (S.1 b) (S.2 b) = .inr (ci, fs)) (hc : classes[ci]? = some q) (hcl : y.cls = q.1) (w1 : Cond.methodLink own idx y ∈ lw_gd) (w2 : Cond.instanceMethod y ∈ lw_gd) (w3 : Cond.selects q.1 y y ∈ lw_gd) (w5 : Cond.initialized q.1 ∈ lw_gd) (w4 : Cond.code y c2 n2 r2 ∈ lw_gd) (hd2 : y.cls ≠ "java/lang/invoke/MethodHandle" ∧ y.cls ≠ "java/lang/invoke/VarHandle" ∧ (parseMethodDescriptor y.desc).map (fun d => d.parameters.length) = some n) (hrm : rm2.cells = 0 ∧ rm2.slots = 0 ∧ rm2.frames + 1 ≤ rm.frames ∧ 8 + (n2 + 11) + rm2.locals ≤ rm.locals) (hn : (bv (aX X)).length = n) (hst : st = (bv (aX X)).reverse ++ .ref (aX X b) :: rest) (hrest : (rest.map fun v => v.category).sum ≤ 8) (hd : decode cc pc = .ok (.invokevirtual idx, 3)) (K : ∀ S, GM N E X (P S) S (pc + 3) lv (.ref (aX X j) :: rest)) : GM N E X (f P) S pc lv st := by
  obtain ⟨p, l, e, R, s, m, args, below, meth, c, Q, out, D, cy, ad⟩ := X
  obtain ⟨hx, hb, hr, hml, hown, hts, hK, hI, hZ, hN, hlk, hR⟩ := O
  subst hst; subst hR
  exact fun H locs ls h1 h2 h3 h4 => va_callr (va_runV (C := q.1) (b := ad b) (As := bv ad) (rest := rest) ⟨hx, hb, hml, hown, hts⟩ (hC D cy ad P out h1) (cwV n hts (gdV w1 w2 w3 w5 w4) rfl hrm.1 hrm.2.1 ⟨hcl, hd2⟩ hrm.2.2) ⟨PG_blind, va_recv hK h2 hc ((wG_at hj).trans (congrArg (fun z => some (ad b, z)) he)), fun U hU hW => ⟨by rw [hav ad], PG_call h2 h3 hK hI hZ hN U hU hW⟩⟩ rfl hn (by rw [← hml]; exact h4.1) rfl (lv_room hrest) hd ⟨Nat.zero_le _, Nat.zero_le _⟩) h3 (fun q _ h => h) (fun q h => h) (fun u ra t H1 locs1 ht hvm hw hB hz hk hS1 => by rw [hB.1]; exact K u H1 locs1 ls hw (by rw [← ht]; exact hB.2) hS1 h4)
end GMcalls
