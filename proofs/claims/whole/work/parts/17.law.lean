/-! THE CLAIM OUT OF ONE WALK OF THE LAW'S BODY. Your part is whole_start (and what it stands on); all else here is the same for every law, but numbers. -/
def R_law : String := "BallastStepsLaw"
def lw_P (b : Addr) (xs : List Int32) (args : Array Value) (s : State) : Prop := args = #[.ref b] ∧ s.IntsAt b xs ∧ xs.length ≤ 3072 ∧ (Jvm.Cond.and given_1 narrow_1).before args s = true
def lw_Q (_ : Array Value) (s : State) (o : Outcome) (t : State) : Prop := o = .returned (some (.int 1)) ∧ Framed s o t [] 600000 7302250
def lw_Z (below : List Frame) (a : Array Value) (s : State) : State → Prop := fun t => ∃ o, t.status = .running ∧ Ended t below o ∧ lw_Q a s o t
/-- the law's own end, with 1 on the stack, nothing written that was there before, its room as the claim has it -/
theorem lw_ret {p : Program} {l : Launch} {e : Env} {s : State} {m : MethodId} {below : List Frame} {meth : Method} {c : Code} {b : Nat} (hx : p.tables.exec = Jvm.exec) (hb : c.code = code) (hr : meth.sig.returnType = ret) (hlocks : meth.locks = false) {pc : Nat} {H : Heap} {ls : Array Slot} (hdg : decode code pc = .ok (.ireturn, 1)) : W p l e room_1 s m #[Value.ref b] below meth c H [] 600000 7302250 (lw_Z below #[Value.ref b] s) (F0 m pc ls [.int 1]) := by
  intro T hT X
  obtain ⟨fs, hret, hrun, hended, hW, hframe⟩ := X.leave (v := some (.int 1)) (hlocks := hlocks) (fun h => by rw [hr] at h; cases h)
  have hmeth' : T.vm.method? m = some meth := X.method'
  refine ⟨T.setFrames fs, ?_, .returned (some (.int 1)), hrun, hended, rfl, ⟨_, rfl⟩, hW, hframe⟩
  jvm_step X.here [X.here.top, hx, hb, hdg, hmeth', hr, ret, narrow_b1]
  (try refine ⟨rfl, ?_⟩); (try refine ⟨rfl, ?_⟩)
  first | (intro acts; rw [hret _ acts rfl rfl rfl]) | rw [hret _ _ rfl rfl rfl]
  exact Steps.refl _
/-- what holds at the law's entry: the machine, the code, the tables' words (any of lw_tbl by 'hts w (by decide +kernel)'), the script of L ints xs at the cell b, what the Statement gives of the start (any of its parts by flat_of_before) -/
def lw_At (p : Program) (s : State) (m : MethodId) (meth : Method) (c : Code) (b L : Nat) (xs : Nat → Int32) : Prop :=
  p.tables.exec = Jvm.exec ∧ c.code = code ∧ meth.sig.returnType = ret ∧ c.maxLocals = 4 ∧ s.vm.findClass R_law = some m.cls ∧ (∀ w ∈ lw_tbl, w.before #[Value.ref b] s = true) ∧ va_X b L xs s s.heap ∧ b < s.heap.size ∧ meth.locks = false ∧ (Jvm.Cond.and given_1 narrow_1).before #[Value.ref b] s = true
/-! THE LAW: a judgement over both worlds, its rows, its cases -/
abbrev LW : Type := Program × Launch × Env × State × MethodId × List Frame × Method × Code × va_G × (Nat → ClassId) × (Nat → Nat) × (Nat → Nat) × Nat × Nat × (Nat → Int32)
def w_l (X : LW) : Launch := X.2.1
def ln_1 (X : LW) : Nat → Nat := X.2.2.2.2.2.2.2.2.2.2.1
def ln_2 (X : LW) : Nat → Nat := X.2.2.2.2.2.2.2.2.2.2.2.1
def w_b (X : LW) : Nat := X.2.2.2.2.2.2.2.2.2.2.2.2.1
def w_L (X : LW) : Nat := X.2.2.2.2.2.2.2.2.2.2.2.2.2.1
def w_x (X : LW) : Nat → Int32 := X.2.2.2.2.2.2.2.2.2.2.2.2.2.2
def GL (X : LW) (SX SM : MS) (pc : Nat) (lv : List (Nat × Value)) (st : List Value) : Prop := match X with
  | (p, l, e, s, m, below, meth, c, D, cy, a1, a2, b, L, xs) => ∀ (H : Heap) (locs : List Loc) (ls : Array Slot), va_P D classes (wG 30 (eX cy) a1 SX) H → va_P D classes (wG 22 (eM cy) a2 SM) H → va_S (fun q => s.heap.size ≤ q) s.heap H locs → lv_has ls 4 lv → W p l e room_1 s m #[Value.ref b] below meth c H locs 600000 7302250 (lw_Z below #[Value.ref b] s) (F0 m pc ls st)
def OL (X : LW) : Prop := match X with
  | (p, l, e, s, m, below, meth, c, D, cy, a1, a2, b, L, xs) => p.tables.exec = Jvm.exec ∧ c.code = code ∧ meth.sig.returnType = ret ∧ c.maxLocals = 4 ∧ s.vm.findClass R_law = some m.cls ∧ (∀ w ∈ lw_gd, w.before #[Value.ref b] s = true) ∧ va_K D classes (tysG cy) s ∧ (IG 30 a1 ∧ IG 22 a2 ∧ (∀ i j, i < 30 → j < 22 → a1 i ≠ a2 j)) ∧ ((∀ i, i < 30 → s.heap.size ≤ a1 i) ∧ ∀ j, j < 22 → s.heap.size ≤ a2 j) ∧ ZG (fun q => s.heap.size ≤ q) s s.heap ∧ NG s ∧ va_X b L xs s s.heap ∧ b < s.heap.size ∧ meth.locks = false
section GLrows
variable {X : LW} {SX SM : MS} {pc : Nat} {lv : List (Nat × Value)} {st : List Value}
theorem q_aload (O : OL X) {k : Fin 4} (hd : decode code pc = .ok (.aload_n k, 1)) (i : Nat) {v : Nat} (hl : lv[i]? = some (k.val, .ref v)) (K : GL X SX SM (pc + 1) lv (.ref v :: st)) : GL X SX SM pc lv st := by
  obtain ⟨p, l, e, s, m, below, meth, c, D, cy, a1, a2, b, L, xs⟩ := X
  obtain ⟨hx, hb, hr, hml, hown, hts, hK, ⟨hI1, hI2, hI3⟩, ⟨hA1, hA2⟩, hZ, hN, hX, hbl, hlk⟩ := O
  exact fun H locs ls h1 h2 h3 h4 => lv_aload_n hx hb hd rfl (lv_at h4 i hl) (K H locs ls h1 h2 h3 h4)
theorem q_iload (O : OL X) {k : Fin 4} (hd : decode code pc = .ok (.iload_n k, 1)) (i : Nat) {v : Int32} (hl : lv[i]? = some (k.val, .int v)) (K : GL X SX SM (pc + 1) lv (.int v :: st)) : GL X SX SM pc lv st := by
  obtain ⟨p, l, e, s, m, below, meth, c, D, cy, a1, a2, b, L, xs⟩ := X
  obtain ⟨hx, hb, hr, hml, hown, hts, hK, ⟨hI1, hI2, hI3⟩, ⟨hA1, hA2⟩, hZ, hN, hX, hbl, hlk⟩ := O
  exact fun H locs ls h1 h2 h3 h4 => lv_iload_n hx hb hd rfl (lv_at h4 i hl) (K H locs ls h1 h2 h3 h4)
theorem q_iconst (O : OL X) {z : Int} (hd : decode code pc = .ok (.iconst z, 1)) {v : Int32} (hv : Int32.ofInt z = v) (K : GL X SX SM (pc + 1) lv (.int v :: st)) : GL X SX SM pc lv st := by
  obtain ⟨p, l, e, s, m, below, meth, c, D, cy, a1, a2, b, L, xs⟩ := X
  obtain ⟨hx, hb, hr, hml, hown, hts, hK, ⟨hI1, hI2, hI3⟩, ⟨hA1, hA2⟩, hZ, hN, hX, hbl, hlk⟩ := O
  exact fun H locs ls h1 h2 h3 h4 => lv_iconst hx hb hd hv (K H locs ls h1 h2 h3 h4)
theorem q_bipush (O : OL X) {z : Int} (hd : decode code pc = .ok (.bipush z, 2)) {v : Int32} (hv : (Int8.ofInt z).toInt32 = v) (K : GL X SX SM (pc + 2) lv (.int v :: st)) : GL X SX SM pc lv st := by
  obtain ⟨p, l, e, s, m, below, meth, c, D, cy, a1, a2, b, L, xs⟩ := X
  obtain ⟨hx, hb, hr, hml, hown, hts, hK, ⟨hI1, hI2, hI3⟩, ⟨hA1, hA2⟩, hZ, hN, hX, hbl, hlk⟩ := O
  exact fun H locs ls h1 h2 h3 h4 => lv_bipush hx hb hd hv (K H locs ls h1 h2 h3 h4)
theorem q_iadd (O : OL X) {x y : Int32} (hd : decode code pc = .ok (.iadd, 1)) (K : GL X SX SM (pc + 1) lv (.int (x + y) :: st)) : GL X SX SM pc lv (.int y :: .int x :: st) := by
  obtain ⟨p, l, e, s, m, below, meth, c, D, cy, a1, a2, b, L, xs⟩ := X
  obtain ⟨hx, hb, hr, hml, hown, hts, hK, ⟨hI1, hI2, hI3⟩, ⟨hA1, hA2⟩, hZ, hN, hX, hbl, hlk⟩ := O
  exact fun H locs ls h1 h2 h3 h4 => lv_iadd hx hb hd (K H locs ls h1 h2 h3 h4)
theorem q_isub (O : OL X) {x y : Int32} (hd : decode code pc = .ok (.isub, 1)) (K : GL X SX SM (pc + 1) lv (.int (x - y) :: st)) : GL X SX SM pc lv (.int y :: .int x :: st) := by
  obtain ⟨p, l, e, s, m, below, meth, c, D, cy, a1, a2, b, L, xs⟩ := X
  obtain ⟨hx, hb, hr, hml, hown, hts, hK, ⟨hI1, hI2, hI3⟩, ⟨hA1, hA2⟩, hZ, hN, hX, hbl, hlk⟩ := O
  exact fun H locs ls h1 h2 h3 h4 => lv_isub hx hb hd (K H locs ls h1 h2 h3 h4)
theorem q_iand (O : OL X) {x y : Int32} (hd : decode code pc = .ok (.iand, 1)) (K : GL X SX SM (pc + 1) lv (.int (x &&& y) :: st)) : GL X SX SM pc lv (.int y :: .int x :: st) := by
  obtain ⟨p, l, e, s, m, below, meth, c, D, cy, a1, a2, b, L, xs⟩ := X
  obtain ⟨hx, hb, hr, hml, hown, hts, hK, ⟨hI1, hI2, hI3⟩, ⟨hA1, hA2⟩, hZ, hN, hX, hbl, hlk⟩ := O
  exact fun H locs ls h1 h2 h3 h4 => lv_iand hx hb hd (K H locs ls h1 h2 h3 h4)
theorem q_sld (O : OL X) {i : Int32} (hi : vp_in i (w_L X)) (hd : decode code pc = .ok (.iaload, 1)) (K : GL X SX SM (pc + 1) lv (.int (w_x X i.toNatClampNeg) :: st)) : GL X SX SM pc lv (.int i :: .ref (w_b X) :: st) := by
  obtain ⟨p, l, e, s, m, below, meth, c, D, cy, a1, a2, b, L, xs⟩ := X
  obtain ⟨hx, hb, hr, hml, hown, hts, hK, ⟨hI1, hI2, hI3⟩, ⟨hA1, hA2⟩, hZ, hN, hX, hbl, hlk⟩ := O
  exact fun H locs ls h1 h2 h3 h4 => va_sld hx hb hX hbl (Nat.not_le.mpr hbl) h3 hi hd (K H locs ls h1 h2 h3 h4)
theorem q_slen (O : OL X) (hd : decode code pc = .ok (.arraylength, 1)) (K : GL X SX SM (pc + 1) lv (.int (Int32.ofNat (w_L X)) :: st)) : GL X SX SM pc lv (.ref (w_b X) :: st) := by
  obtain ⟨p, l, e, s, m, below, meth, c, D, cy, a1, a2, b, L, xs⟩ := X
  obtain ⟨hx, hb, hr, hml, hown, hts, hK, ⟨hI1, hI2, hI3⟩, ⟨hA1, hA2⟩, hZ, hN, hX, hbl, hlk⟩ := O
  exact fun H locs ls h1 h2 h3 h4 => va_slen hx hb hX hbl (Nat.not_le.mpr hbl) h3 hd (K H locs ls h1 h2 h3 h4)
theorem q_goto (O : OL X) {off : Int} (tgt : Nat) (hd : decode code pc = .ok (.goto off, 3)) (ht : (pc : Int) + off = (tgt : Int)) (K : GL X SX SM tgt lv st) : GL X SX SM pc lv st := by
  obtain ⟨p, l, e, s, m, below, meth, c, D, cy, a1, a2, b, L, xs⟩ := X
  obtain ⟨hx, hb, hr, hml, hown, hts, hK, ⟨hI1, hI2, hI3⟩, ⟨hA1, hA2⟩, hZ, hN, hX, hbl, hlk⟩ := O
  exact fun H locs ls h1 h2 h3 h4 => lv_goto hx hb hd ht (K H locs ls h1 h2 h3 h4)
theorem q_eq (O : OL X) {x : Int32} {off : Int} (tgt : Nat) (hd : decode code pc = .ok (.if_icmp .eq off, 3)) (ht : (pc : Int) + off = (tgt : Int)) (K : GL X SX SM tgt lv st) : GL X SX SM pc lv (.int x :: .int x :: st) := by
  obtain ⟨p, l, e, s, m, below, meth, c, D, cy, a1, a2, b, L, xs⟩ := X
  obtain ⟨hx, hb, hr, hml, hown, hts, hK, ⟨hI1, hI2, hI3⟩, ⟨hA1, hA2⟩, hZ, hN, hX, hbl, hlk⟩ := O
  exact fun H locs ls h1 h2 h3 h4 => lv_icmp_eq hx hb hd ht (fun _ => (K H locs ls h1 h2 h3 h4)) (fun q => absurd rfl q)
theorem lg_self (x : Int64) : lg_cmp x x = 0 := by
  simp [lg_cmp]
theorem q_leq (O : OL X) {x : Int64} {off : Int} (tgt : Nat) (hd : decode code pc = .ok (.lcmp, 1)) (hd2 : decode code (pc + 1) = .ok (.ifCond .eq off, 3)) (ht : ((pc + 1 : Nat) : Int) + off = (tgt : Int)) (K : GL X SX SM tgt lv st) : GL X SX SM pc lv (.long x :: .long x :: st) := by
  obtain ⟨p, l, e, s, m, below, meth, c, D, cy, a1, a2, b, L, xs⟩ := X
  obtain ⟨hx, hb, hr, hml, hown, hts, hK, ⟨hI1, hI2, hI3⟩, ⟨hA1, hA2⟩, hZ, hN, hX, hbl, hlk⟩ := O
  exact fun H locs ls h1 h2 h3 h4 => W.lcmp hx hb hd (lv_if_eq hx hb hd2 ht (fun _ => (K H locs ls h1 h2 h3 h4)) (fun q => absurd (lg_self x) q))
theorem q_gt (O : OL X) {x y : Int32} {off : Int} (tgt : Nat) (hd : decode code pc = .ok (.if_icmp .gt off, 3)) (ht : (pc : Int) + off = (tgt : Int)) (K1 : y < x → GL X SX SM tgt lv st) (K2 : ¬ y < x → GL X SX SM (pc + 3) lv st) : GL X SX SM pc lv (.int y :: .int x :: st) := by
  obtain ⟨p, l, e, s, m, below, meth, c, D, cy, a1, a2, b, L, xs⟩ := X
  obtain ⟨hx, hb, hr, hml, hown, hts, hK, ⟨hI1, hI2, hI3⟩, ⟨hA1, hA2⟩, hZ, hN, hX, hbl, hlk⟩ := O
  exact fun H locs ls h1 h2 h3 h4 => lv_icmp_gt hx hb hd ht (fun q => K1 q H locs ls h1 h2 h3 h4) (fun q => K2 q H locs ls h1 h2 h3 h4)
theorem q_iinc (O : OL X) {k : Nat} {z : Int} (hd : decode code pc = .ok (.iinc k z, 3)) (i : Nat) {x v : Int32} (hi : lv[i]? = some (k, .int x)) (hv : x + Int32.ofInt z = v) (lv' : List (Nat × Value)) (hn : k < 4) (hl : (k, Value.int v) :: lv.filter (fun q => !(q.1 == k) && !(q.1 + 1 == k && q.2.category == 2)) = lv') (K : GL X SX SM (pc + 3) lv' st) : GL X SX SM pc lv st := by
  obtain ⟨p, l, e, s, m, below, meth, c, D, cy, a1, a2, b, L, xs⟩ := X
  obtain ⟨hx, hb, hr, hml, hown, hts, hK, ⟨hI1, hI2, hI3⟩, ⟨hA1, hA2⟩, hZ, hN, hX, hbl, hlk⟩ := O
  exact fun H locs ls h1 h2 h3 h4 => lv_iinc hx hb hd h4 hi hv hn hl (fun ls' h4' => K H locs ls' h1 h2 h3 h4')
theorem q_tin (O : OL X) {dflt lo hi : Int} {offs : Array Int} {len : Nat} {x : Int32} {off : Int} (tgt : Nat) (hd : decode code pc = .ok (.tableswitch dflt lo hi offs, len)) (q1 : ¬ x.toInt < lo) (q2 : ¬ hi < x.toInt) (ho : offs[(x.toInt - lo).toNat]? = some off) (ht : (pc : Int) + off = (tgt : Int)) (K : GL X SX SM tgt lv st) : GL X SX SM pc lv (.int x :: st) := by
  obtain ⟨p, l, e, s, m, below, meth, c, D, cy, a1, a2, b, L, xs⟩ := X
  obtain ⟨hx, hb, hr, hml, hown, hts, hK, ⟨hI1, hI2, hI3⟩, ⟨hA1, hA2⟩, hZ, hN, hX, hbl, hlk⟩ := O
  exact fun H locs ls h1 h2 h3 h4 => lv_tableIn hx hb hd q1 q2 ho ht (K H locs ls h1 h2 h3 h4)
theorem q_tout (O : OL X) {dflt lo hi : Int} {offs : Array Int} {len : Nat} {x : Int32} (tgt : Nat) (hd : decode code pc = .ok (.tableswitch dflt lo hi offs, len)) (q1 : x.toInt < lo ∨ hi < x.toInt) (ht : (pc : Int) + dflt = (tgt : Int)) (K : GL X SX SM tgt lv st) : GL X SX SM pc lv (.int x :: st) := by
  obtain ⟨p, l, e, s, m, below, meth, c, D, cy, a1, a2, b, L, xs⟩ := X
  obtain ⟨hx, hb, hr, hml, hown, hts, hK, ⟨hI1, hI2, hI3⟩, ⟨hA1, hA2⟩, hZ, hN, hX, hbl, hlk⟩ := O
  exact fun H locs ls h1 h2 h3 h4 => lv_tableOut hx hb hd q1 ht (K H locs ls h1 h2 h3 h4)
theorem q_sub (O : OL X) {lv' : List (Nat × Value)} (ks : List Nat) (hl : lv_pick lv ks = lv') (K : GL X SX SM pc lv' st) : GL X SX SM pc lv st := by
  obtain ⟨p, l, e, s, m, below, meth, c, D, cy, a1, a2, b, L, xs⟩ := X
  obtain ⟨hx, hb, hr, hml, hown, hts, hK, ⟨hI1, hI2, hI3⟩, ⟨hA1, hA2⟩, hZ, hN, hX, hbl, hlk⟩ := O
  exact fun H locs ls h1 h2 h3 h4 => K H locs ls h1 h2 h3 (lv_sub h4 ks hl)
theorem q_ret (O : OL X) (hd : decode code pc = .ok (.ireturn, 1)) : GL X SX SM pc lv ([.int 1]) := by
  obtain ⟨p, l, e, s, m, below, meth, c, D, cy, a1, a2, b, L, xs⟩ := X
  obtain ⟨hx, hb, hr, hml, hown, hts, hK, ⟨hI1, hI2, hI3⟩, ⟨hA1, hA2⟩, hZ, hN, hX, hbl, hlk⟩ := O
  exact fun H locs ls h1 h2 h3 h4 => va_forget (fun q hq => h3.2.2 q hq) (lw_ret hx hb hr hlk hd)
variable {y : MethodName} {c2 : ByteArray} {n2 idx n : Nat} {r2 : Option FieldType} {rm2 : Room} {av bv : (Nat → Nat) → List Value} {rest : List Value}
theorem q_callXi (O : OL X) {f : (Int32 → MS → Option (Int32 × MS)) → Option (Int32 × MS)} {r0 : Int32} {S' : MS} (hf : f (fun r u => some (r, u)) = some (r0, S')) (hC : CtI 30 eX (w_l X) y c2 n2 r2 rm2 SX av f) (hav : ∀ ad, av ad = .ref (ad 0) :: bv ad) (hcl : y.cls = RX5) (w1 : Cond.methodLink R_law idx y ∈ lw_gd) (w2 : Cond.instanceMethod y ∈ lw_gd) (w3 : Cond.selects RX5 y y ∈ lw_gd) (w5 : Cond.initialized RX5 ∈ lw_gd) (w4 : Cond.code y c2 n2 r2 ∈ lw_gd) (hd2 : y.cls ≠ "java/lang/invoke/MethodHandle" ∧ y.cls ≠ "java/lang/invoke/VarHandle" ∧ (parseMethodDescriptor y.desc).map (fun d => d.parameters.length) = some n) (hrm : rm2.cells = 0 ∧ rm2.slots = 0 ∧ rm2.frames + 1 ≤ room_1.frames ∧ 8 + (n2 + 11) + rm2.locals ≤ room_1.locals) (hn : (bv (ln_1 X)).length = n) (hst : st = (bv (ln_1 X)).reverse ++ .ref (ln_1 X 0) :: rest) (hrest : (rest.map fun v => v.category).sum ≤ 8) (hd : decode code pc = .ok (.invokevirtual idx, 3)) (K : GL X S' SM (pc + 3) lv (.int r0 :: rest)) : GL X SX SM pc lv st := by
  obtain ⟨p, l, e, s, m, below, meth, c, D, cy, a1, a2, b, L, xs⟩ := X
  obtain ⟨hx, hb, hr, hml, hown, hts, hK, ⟨hI1, hI2, hI3⟩, ⟨hA1, hA2⟩, hZ, hN, hX, hbl, hlk⟩ := O
  subst hst
  intro H locs ls h1 h2 h3 h4
  have hAG : ∀ q, AG 30 a1 q → s.heap.size ≤ q := fun q ⟨j, hj, e⟩ => by rw [e]; exact hA1 j hj
  have hZ2 : ZG (AG 30 a1) s s.heap := by
    obtain ⟨t3, z1, z2⟩ := hZ
    exact ⟨t3, z1.narrow hAG, z2.narrow hAG⟩
  have h3b : va_S (AG 30 a1) s.heap s.heap [] := va_S.rf
  have hZ3 : ZG (AG 30 a1) s H := hZ2.kept (fun q g1 g2 => h3.2.1 q g1 (fun g3 => absurd g3 (Nat.not_le.mpr g1)))
  refine va_calli (va_runV (C := RX5) (b := a1 0) (As := bv a1) (rest := rest) ⟨hx, hb, hml, hown, hts⟩ (hC D cy a1 _ (r0, S') hf) (cwV n hts (gdV w1 w2 w3 w5 w4) rfl hrm.1 hrm.2.1 ⟨hcl, hd2⟩ hrm.2.2) ⟨PG_blind, va_recv hK h1 (ci := 5) (q := (RX5, TX5, 7)) rfl (wG_at (by decide)), fun U hU hW => ⟨by rw [hav a1], by rw [hU]; exact h1, va_K.moved hW.alike hK, hI1, by rw [hU]; exact hZ3.moved hW.alike, hN.warm hW⟩⟩ rfl hn h4.1 rfl (lv_room hrest) hd ⟨Nat.le_of_ble_eq_true rfl, Nat.le_of_ble_eq_true rfl⟩) h3 (fun q _ h => hAG q h) hAG (fun r u t H1 locs1 ht hvm hw hB hz hk hS1 => ?_)
  cases hw
  exact K H1 locs1 ls (by rw [← ht]; exact hB) (h2.kept (fun j q hj => hk q.1 (h2 j q hj).lt (fun ⟨i, hi, e⟩ => by obtain ⟨g1, rfl⟩ := wG_inv hj; exact hI3 i j hi g1 e.symm))) hS1 h4
theorem q_callXl (O : OL X) {f : (Int64 → MS → Option (Int64 × MS)) → Option (Int64 × MS)} {r0 : Int64} {S' : MS} (hf : f (fun r u => some (r, u)) = some (r0, S')) (hC : CtL 30 eX (w_l X) y c2 n2 r2 rm2 SX av f) (hav : ∀ ad, av ad = .ref (ad 0) :: bv ad) (hcl : y.cls = RX5) (w1 : Cond.methodLink R_law idx y ∈ lw_gd) (w2 : Cond.instanceMethod y ∈ lw_gd) (w3 : Cond.selects RX5 y y ∈ lw_gd) (w5 : Cond.initialized RX5 ∈ lw_gd) (w4 : Cond.code y c2 n2 r2 ∈ lw_gd) (hd2 : y.cls ≠ "java/lang/invoke/MethodHandle" ∧ y.cls ≠ "java/lang/invoke/VarHandle" ∧ (parseMethodDescriptor y.desc).map (fun d => d.parameters.length) = some n) (hrm : rm2.cells = 0 ∧ rm2.slots = 0 ∧ rm2.frames + 1 ≤ room_1.frames ∧ 8 + (n2 + 11) + rm2.locals ≤ room_1.locals) (hn : (bv (ln_1 X)).length = n) (hst : st = (bv (ln_1 X)).reverse ++ .ref (ln_1 X 0) :: rest) (hrest : (rest.map fun v => v.category).sum ≤ 8) (hd : decode code pc = .ok (.invokevirtual idx, 3)) (K : GL X S' SM (pc + 3) lv (.long r0 :: rest)) : GL X SX SM pc lv st := by
  obtain ⟨p, l, e, s, m, below, meth, c, D, cy, a1, a2, b, L, xs⟩ := X
  obtain ⟨hx, hb, hr, hml, hown, hts, hK, ⟨hI1, hI2, hI3⟩, ⟨hA1, hA2⟩, hZ, hN, hX, hbl, hlk⟩ := O
  subst hst
  intro H locs ls h1 h2 h3 h4
  have hAG : ∀ q, AG 30 a1 q → s.heap.size ≤ q := fun q ⟨j, hj, e⟩ => by rw [e]; exact hA1 j hj
  have hZ2 : ZG (AG 30 a1) s s.heap := by
    obtain ⟨t3, z1, z2⟩ := hZ
    exact ⟨t3, z1.narrow hAG, z2.narrow hAG⟩
  have h3b : va_S (AG 30 a1) s.heap s.heap [] := va_S.rf
  have hZ3 : ZG (AG 30 a1) s H := hZ2.kept (fun q g1 g2 => h3.2.1 q g1 (fun g3 => absurd g3 (Nat.not_le.mpr g1)))
  refine va_calll (va_runV (C := RX5) (b := a1 0) (As := bv a1) (rest := rest) ⟨hx, hb, hml, hown, hts⟩ (hC D cy a1 _ (r0, S') hf) (cwV n hts (gdV w1 w2 w3 w5 w4) rfl hrm.1 hrm.2.1 ⟨hcl, hd2⟩ hrm.2.2) ⟨PG_blind, va_recv hK h1 (ci := 5) (q := (RX5, TX5, 7)) rfl (wG_at (by decide)), fun U hU hW => ⟨by rw [hav a1], by rw [hU]; exact h1, va_K.moved hW.alike hK, hI1, by rw [hU]; exact hZ3.moved hW.alike, hN.warm hW⟩⟩ rfl hn h4.1 rfl (lv_room hrest) hd ⟨Nat.le_of_ble_eq_true rfl, Nat.le_of_ble_eq_true rfl⟩) h3 (fun q _ h => hAG q h) hAG (fun r u t H1 locs1 ht hvm hw hB hz hk hS1 => ?_)
  cases hw
  exact K H1 locs1 ls (by rw [← ht]; exact hB) (h2.kept (fun j q hj => hk q.1 (h2 j q hj).lt (fun ⟨i, hi, e⟩ => by obtain ⟨g1, rfl⟩ := wG_inv hj; exact hI3 i j hi g1 e.symm))) hS1 h4
theorem q_callMi (O : OL X) {f : (Int32 → MS → Option (Int32 × MS)) → Option (Int32 × MS)} {r0 : Int32} {S' : MS} (hf : f (fun r u => some (r, u)) = some (r0, S')) (hC : CtI 22 eM (w_l X) y c2 n2 r2 rm2 SM av f) (hav : ∀ ad, av ad = .ref (ad 0) :: bv ad) (hcl : y.cls = RX6) (w1 : Cond.methodLink R_law idx y ∈ lw_gd) (w2 : Cond.instanceMethod y ∈ lw_gd) (w3 : Cond.selects RX6 y y ∈ lw_gd) (w5 : Cond.initialized RX6 ∈ lw_gd) (w4 : Cond.code y c2 n2 r2 ∈ lw_gd) (hd2 : y.cls ≠ "java/lang/invoke/MethodHandle" ∧ y.cls ≠ "java/lang/invoke/VarHandle" ∧ (parseMethodDescriptor y.desc).map (fun d => d.parameters.length) = some n) (hrm : rm2.cells = 0 ∧ rm2.slots = 0 ∧ rm2.frames + 1 ≤ room_1.frames ∧ 8 + (n2 + 11) + rm2.locals ≤ room_1.locals) (hn : (bv (ln_2 X)).length = n) (hst : st = (bv (ln_2 X)).reverse ++ .ref (ln_2 X 0) :: rest) (hrest : (rest.map fun v => v.category).sum ≤ 8) (hd : decode code pc = .ok (.invokevirtual idx, 3)) (K : GL X SX S' (pc + 3) lv (.int r0 :: rest)) : GL X SX SM pc lv st := by
  obtain ⟨p, l, e, s, m, below, meth, c, D, cy, a1, a2, b, L, xs⟩ := X
  obtain ⟨hx, hb, hr, hml, hown, hts, hK, ⟨hI1, hI2, hI3⟩, ⟨hA1, hA2⟩, hZ, hN, hX, hbl, hlk⟩ := O
  subst hst
  intro H locs ls h1 h2 h3 h4
  have hAG : ∀ q, AG 22 a2 q → s.heap.size ≤ q := fun q ⟨j, hj, e⟩ => by rw [e]; exact hA2 j hj
  have hZ2 : ZG (AG 22 a2) s s.heap := by
    obtain ⟨t3, z1, z2⟩ := hZ
    exact ⟨t3, z1.narrow hAG, z2.narrow hAG⟩
  have h3b : va_S (AG 22 a2) s.heap s.heap [] := va_S.rf
  have hZ3 : ZG (AG 22 a2) s H := hZ2.kept (fun q g1 g2 => h3.2.1 q g1 (fun g3 => absurd g3 (Nat.not_le.mpr g1)))
  refine va_calli (va_runV (C := RX6) (b := a2 0) (As := bv a2) (rest := rest) ⟨hx, hb, hml, hown, hts⟩ (hC D cy a2 _ (r0, S') hf) (cwV n hts (gdV w1 w2 w3 w5 w4) rfl hrm.1 hrm.2.1 ⟨hcl, hd2⟩ hrm.2.2) ⟨PG_blind, va_recv hK h2 (ci := 6) (q := (RX6, TX6, 36)) rfl (wG_at (by decide)), fun U hU hW => ⟨by rw [hav a2], by rw [hU]; exact h2, va_K.moved hW.alike hK, hI2, by rw [hU]; exact hZ3.moved hW.alike, hN.warm hW⟩⟩ rfl hn h4.1 rfl (lv_room hrest) hd ⟨Nat.le_of_ble_eq_true rfl, Nat.le_of_ble_eq_true rfl⟩) h3 (fun q _ h => hAG q h) hAG (fun r u t H1 locs1 ht hvm hw hB hz hk hS1 => ?_)
  cases hw
  exact K H1 locs1 ls (h1.kept (fun j q hj => hk q.1 (h1 j q hj).lt (fun ⟨i, hi, e⟩ => by obtain ⟨g1, rfl⟩ := wG_inv hj; exact hI3 j i g1 hi e))) (by rw [← ht]; exact hB) hS1 h4
theorem q_callMl (O : OL X) {f : (Int64 → MS → Option (Int64 × MS)) → Option (Int64 × MS)} {r0 : Int64} {S' : MS} (hf : f (fun r u => some (r, u)) = some (r0, S')) (hC : CtL 22 eM (w_l X) y c2 n2 r2 rm2 SM av f) (hav : ∀ ad, av ad = .ref (ad 0) :: bv ad) (hcl : y.cls = RX6) (w1 : Cond.methodLink R_law idx y ∈ lw_gd) (w2 : Cond.instanceMethod y ∈ lw_gd) (w3 : Cond.selects RX6 y y ∈ lw_gd) (w5 : Cond.initialized RX6 ∈ lw_gd) (w4 : Cond.code y c2 n2 r2 ∈ lw_gd) (hd2 : y.cls ≠ "java/lang/invoke/MethodHandle" ∧ y.cls ≠ "java/lang/invoke/VarHandle" ∧ (parseMethodDescriptor y.desc).map (fun d => d.parameters.length) = some n) (hrm : rm2.cells = 0 ∧ rm2.slots = 0 ∧ rm2.frames + 1 ≤ room_1.frames ∧ 8 + (n2 + 11) + rm2.locals ≤ room_1.locals) (hn : (bv (ln_2 X)).length = n) (hst : st = (bv (ln_2 X)).reverse ++ .ref (ln_2 X 0) :: rest) (hrest : (rest.map fun v => v.category).sum ≤ 8) (hd : decode code pc = .ok (.invokevirtual idx, 3)) (K : GL X SX S' (pc + 3) lv (.long r0 :: rest)) : GL X SX SM pc lv st := by
  obtain ⟨p, l, e, s, m, below, meth, c, D, cy, a1, a2, b, L, xs⟩ := X
  obtain ⟨hx, hb, hr, hml, hown, hts, hK, ⟨hI1, hI2, hI3⟩, ⟨hA1, hA2⟩, hZ, hN, hX, hbl, hlk⟩ := O
  subst hst
  intro H locs ls h1 h2 h3 h4
  have hAG : ∀ q, AG 22 a2 q → s.heap.size ≤ q := fun q ⟨j, hj, e⟩ => by rw [e]; exact hA2 j hj
  have hZ2 : ZG (AG 22 a2) s s.heap := by
    obtain ⟨t3, z1, z2⟩ := hZ
    exact ⟨t3, z1.narrow hAG, z2.narrow hAG⟩
  have h3b : va_S (AG 22 a2) s.heap s.heap [] := va_S.rf
  have hZ3 : ZG (AG 22 a2) s H := hZ2.kept (fun q g1 g2 => h3.2.1 q g1 (fun g3 => absurd g3 (Nat.not_le.mpr g1)))
  refine va_calll (va_runV (C := RX6) (b := a2 0) (As := bv a2) (rest := rest) ⟨hx, hb, hml, hown, hts⟩ (hC D cy a2 _ (r0, S') hf) (cwV n hts (gdV w1 w2 w3 w5 w4) rfl hrm.1 hrm.2.1 ⟨hcl, hd2⟩ hrm.2.2) ⟨PG_blind, va_recv hK h2 (ci := 6) (q := (RX6, TX6, 36)) rfl (wG_at (by decide)), fun U hU hW => ⟨by rw [hav a2], by rw [hU]; exact h2, va_K.moved hW.alike hK, hI2, by rw [hU]; exact hZ3.moved hW.alike, hN.warm hW⟩⟩ rfl hn h4.1 rfl (lv_room hrest) hd ⟨Nat.le_of_ble_eq_true rfl, Nat.le_of_ble_eq_true rfl⟩) h3 (fun q _ h => hAG q h) hAG (fun r u t H1 locs1 ht hvm hw hB hz hk hS1 => ?_)
  cases hw
  exact K H1 locs1 ls (h1.kept (fun j q hj => hk q.1 (h1 j q hj).lt (fun ⟨i, hi, e⟩ => by obtain ⟨g1, rfl⟩ := wG_inv hj; exact hI3 j i g1 hi e))) (by rw [← ht]; exact hB) hS1 h4
end GLrows
def SimI (Rel : MS → MS → Prop) (f g : MS → (Int32 → MS → Option (Int32 × MS)) → Option (Int32 × MS)) : Prop := ∀ SX SM, Rel SX SM → ∃ r SX2 SM2, f SX (fun r u => some (r, u)) = some (r, SX2) ∧ g SM (fun r u => some (r, u)) = some (r, SM2) ∧ Rel SX2 SM2
def SimL (Rel : MS → MS → Prop) (f g : MS → (Int64 → MS → Option (Int64 × MS)) → Option (Int64 × MS)) : Prop := ∀ SX SM, Rel SX SM → ∃ r SX2 SM2, f SX (fun r u => some (r, u)) = some (r, SX2) ∧ g SM (fun r u => some (r, u)) = some (r, SM2) ∧ Rel SX2 SM2
theorem dL_0 : decode code 0 = .ok (.new 7, 3) := by decide +kernel
theorem dL_3 : decode code 3 = .ok (.dup, 1) := by decide +kernel
theorem dL_4 : decode code 4 = .ok (.invokespecial 9, 3) := by decide +kernel
theorem dL_7 : decode code 7 = .ok (.astore_n 1, 1) := by decide +kernel
theorem dL_8 : decode code 8 = .ok (.new 10, 3) := by decide +kernel
theorem dL_11 : decode code 11 = .ok (.dup, 1) := by decide +kernel
theorem dL_12 : decode code 12 = .ok (.invokespecial 12, 3) := by decide +kernel
theorem dL_15 : decode code 15 = .ok (.astore_n 2, 1) := by decide +kernel
theorem dL_16 : decode code 16 = .ok (.iconst 0, 1) := by decide +kernel
theorem dL_17 : decode code 17 = .ok (.istore_n 3, 1) := by decide +kernel
theorem dL_18 : decode code 18 = .ok (.iload_n 3, 1) := by decide +kernel
theorem dL_19 : decode code 19 = .ok (.aload_n 0, 1) := by decide +kernel
theorem dL_20 : decode code 20 = .ok (.arraylength, 1) := by decide +kernel
theorem dL_21 : decode code 21 = .ok (.bipush 6, 2) := by decide +kernel
theorem dL_23 : decode code 23 = .ok (.isub, 1) := by decide +kernel
theorem dL_24 : decode code 24 = .ok (.if_icmp .gt 1013, 3) := by decide +kernel
theorem dL_27 : decode code 27 = .ok (.aload_n 0, 1) := by decide +kernel
theorem dL_28 : decode code 28 = .ok (.iload_n 3, 1) := by decide +kernel
theorem dL_29 : decode code 29 = .ok (.iaload, 1) := by decide +kernel
theorem dL_30 : decode code 30 = .ok (.bipush 31, 2) := by decide +kernel
theorem dL_32 : decode code 32 = .ok (.iand, 1) := by decide +kernel
theorem dL_33 : decode code 33 = .ok (.tableswitch 998 0 29 #[135, 188, 221, 254, 287, 310, 333, 356, 379, 402, 425, 439, 502, 515, 538, 561, 584, 607, 630, 654, 697, 720, 763, 807, 870, 893, 916, 949, 962, 975], 135) := by decide +kernel
theorem dL_168 : decode code 168 = .ok (.aload_n 1, 1) := by decide +kernel
theorem dL_169 : decode code 169 = .ok (.aload_n 0, 1) := by decide +kernel
theorem dL_170 : decode code 170 = .ok (.iload_n 3, 1) := by decide +kernel
theorem dL_171 : decode code 171 = .ok (.iconst 1, 1) := by decide +kernel
theorem dL_172 : decode code 172 = .ok (.iadd, 1) := by decide +kernel
theorem dL_173 : decode code 173 = .ok (.iaload, 1) := by decide +kernel
theorem dL_174 : decode code 174 = .ok (.aload_n 0, 1) := by decide +kernel
theorem dL_175 : decode code 175 = .ok (.iload_n 3, 1) := by decide +kernel
theorem dL_176 : decode code 176 = .ok (.iconst 2, 1) := by decide +kernel
theorem dL_177 : decode code 177 = .ok (.iadd, 1) := by decide +kernel
theorem dL_178 : decode code 178 = .ok (.iaload, 1) := by decide +kernel
theorem dL_179 : decode code 179 = .ok (.aload_n 0, 1) := by decide +kernel
theorem dL_180 : decode code 180 = .ok (.iload_n 3, 1) := by decide +kernel
theorem dL_181 : decode code 181 = .ok (.iconst 3, 1) := by decide +kernel
theorem dL_182 : decode code 182 = .ok (.iadd, 1) := by decide +kernel
theorem dL_183 : decode code 183 = .ok (.iaload, 1) := by decide +kernel
theorem dL_184 : decode code 184 = .ok (.aload_n 0, 1) := by decide +kernel
theorem dL_185 : decode code 185 = .ok (.iload_n 3, 1) := by decide +kernel
theorem dL_186 : decode code 186 = .ok (.iconst 4, 1) := by decide +kernel
theorem dL_187 : decode code 187 = .ok (.iadd, 1) := by decide +kernel
theorem dL_188 : decode code 188 = .ok (.iaload, 1) := by decide +kernel
theorem dL_189 : decode code 189 = .ok (.invokevirtual 13, 3) := by decide +kernel
theorem dL_192 : decode code 192 = .ok (.aload_n 2, 1) := by decide +kernel
theorem dL_193 : decode code 193 = .ok (.aload_n 0, 1) := by decide +kernel
theorem dL_194 : decode code 194 = .ok (.iload_n 3, 1) := by decide +kernel
theorem dL_195 : decode code 195 = .ok (.iconst 1, 1) := by decide +kernel
theorem dL_196 : decode code 196 = .ok (.iadd, 1) := by decide +kernel
theorem dL_197 : decode code 197 = .ok (.iaload, 1) := by decide +kernel
theorem dL_198 : decode code 198 = .ok (.aload_n 0, 1) := by decide +kernel
theorem dL_199 : decode code 199 = .ok (.iload_n 3, 1) := by decide +kernel
theorem dL_200 : decode code 200 = .ok (.iconst 2, 1) := by decide +kernel
theorem dL_201 : decode code 201 = .ok (.iadd, 1) := by decide +kernel
theorem dL_202 : decode code 202 = .ok (.iaload, 1) := by decide +kernel
theorem dL_203 : decode code 203 = .ok (.aload_n 0, 1) := by decide +kernel
theorem dL_204 : decode code 204 = .ok (.iload_n 3, 1) := by decide +kernel
theorem dL_205 : decode code 205 = .ok (.iconst 3, 1) := by decide +kernel
theorem dL_206 : decode code 206 = .ok (.iadd, 1) := by decide +kernel
theorem dL_207 : decode code 207 = .ok (.iaload, 1) := by decide +kernel
theorem dL_208 : decode code 208 = .ok (.aload_n 0, 1) := by decide +kernel
theorem dL_209 : decode code 209 = .ok (.iload_n 3, 1) := by decide +kernel
theorem dL_210 : decode code 210 = .ok (.iconst 4, 1) := by decide +kernel
theorem dL_211 : decode code 211 = .ok (.iadd, 1) := by decide +kernel
theorem dL_212 : decode code 212 = .ok (.iaload, 1) := by decide +kernel
theorem dL_213 : decode code 213 = .ok (.invokevirtual 17, 3) := by decide +kernel
theorem dL_216 : decode code 216 = .ok (.if_icmp .eq 815, 3) := by decide +kernel
theorem dL_219 : decode code 219 = .ok (.iconst 0, 1) := by decide +kernel
theorem dL_220 : decode code 220 = .ok (.ireturn, 1) := by decide +kernel
theorem dL_221 : decode code 221 = .ok (.aload_n 1, 1) := by decide +kernel
theorem dL_222 : decode code 222 = .ok (.aload_n 0, 1) := by decide +kernel
theorem dL_223 : decode code 223 = .ok (.iload_n 3, 1) := by decide +kernel
theorem dL_224 : decode code 224 = .ok (.iconst 1, 1) := by decide +kernel
theorem dL_225 : decode code 225 = .ok (.iadd, 1) := by decide +kernel
theorem dL_226 : decode code 226 = .ok (.iaload, 1) := by decide +kernel
theorem dL_227 : decode code 227 = .ok (.aload_n 0, 1) := by decide +kernel
theorem dL_228 : decode code 228 = .ok (.iload_n 3, 1) := by decide +kernel
theorem dL_229 : decode code 229 = .ok (.iconst 2, 1) := by decide +kernel
theorem dL_230 : decode code 230 = .ok (.iadd, 1) := by decide +kernel
theorem dL_231 : decode code 231 = .ok (.iaload, 1) := by decide +kernel
theorem dL_232 : decode code 232 = .ok (.invokevirtual 18, 3) := by decide +kernel
theorem dL_235 : decode code 235 = .ok (.aload_n 2, 1) := by decide +kernel
theorem dL_236 : decode code 236 = .ok (.aload_n 0, 1) := by decide +kernel
theorem dL_237 : decode code 237 = .ok (.iload_n 3, 1) := by decide +kernel
theorem dL_238 : decode code 238 = .ok (.iconst 1, 1) := by decide +kernel
theorem dL_239 : decode code 239 = .ok (.iadd, 1) := by decide +kernel
theorem dL_240 : decode code 240 = .ok (.iaload, 1) := by decide +kernel
theorem dL_241 : decode code 241 = .ok (.aload_n 0, 1) := by decide +kernel
theorem dL_242 : decode code 242 = .ok (.iload_n 3, 1) := by decide +kernel
theorem dL_243 : decode code 243 = .ok (.iconst 2, 1) := by decide +kernel
theorem dL_244 : decode code 244 = .ok (.iadd, 1) := by decide +kernel
theorem dL_245 : decode code 245 = .ok (.iaload, 1) := by decide +kernel
theorem dL_246 : decode code 246 = .ok (.invokevirtual 22, 3) := by decide +kernel
theorem dL_249 : decode code 249 = .ok (.if_icmp .eq 782, 3) := by decide +kernel
theorem dL_252 : decode code 252 = .ok (.iconst 0, 1) := by decide +kernel
theorem dL_253 : decode code 253 = .ok (.ireturn, 1) := by decide +kernel
theorem dL_254 : decode code 254 = .ok (.aload_n 1, 1) := by decide +kernel
theorem dL_255 : decode code 255 = .ok (.aload_n 0, 1) := by decide +kernel
theorem dL_256 : decode code 256 = .ok (.iload_n 3, 1) := by decide +kernel
theorem dL_257 : decode code 257 = .ok (.iconst 1, 1) := by decide +kernel
theorem dL_258 : decode code 258 = .ok (.iadd, 1) := by decide +kernel
theorem dL_259 : decode code 259 = .ok (.iaload, 1) := by decide +kernel
theorem dL_260 : decode code 260 = .ok (.aload_n 0, 1) := by decide +kernel
theorem dL_261 : decode code 261 = .ok (.iload_n 3, 1) := by decide +kernel
theorem dL_262 : decode code 262 = .ok (.iconst 2, 1) := by decide +kernel
theorem dL_263 : decode code 263 = .ok (.iadd, 1) := by decide +kernel
theorem dL_264 : decode code 264 = .ok (.iaload, 1) := by decide +kernel
theorem dL_265 : decode code 265 = .ok (.invokevirtual 23, 3) := by decide +kernel
theorem dL_268 : decode code 268 = .ok (.aload_n 2, 1) := by decide +kernel
theorem dL_269 : decode code 269 = .ok (.aload_n 0, 1) := by decide +kernel
theorem dL_270 : decode code 270 = .ok (.iload_n 3, 1) := by decide +kernel
theorem dL_271 : decode code 271 = .ok (.iconst 1, 1) := by decide +kernel
theorem dL_272 : decode code 272 = .ok (.iadd, 1) := by decide +kernel
theorem dL_273 : decode code 273 = .ok (.iaload, 1) := by decide +kernel
theorem dL_274 : decode code 274 = .ok (.aload_n 0, 1) := by decide +kernel
theorem dL_275 : decode code 275 = .ok (.iload_n 3, 1) := by decide +kernel
theorem dL_276 : decode code 276 = .ok (.iconst 2, 1) := by decide +kernel
theorem dL_277 : decode code 277 = .ok (.iadd, 1) := by decide +kernel
theorem dL_278 : decode code 278 = .ok (.iaload, 1) := by decide +kernel
theorem dL_279 : decode code 279 = .ok (.invokevirtual 26, 3) := by decide +kernel
theorem dL_282 : decode code 282 = .ok (.if_icmp .eq 749, 3) := by decide +kernel
theorem dL_285 : decode code 285 = .ok (.iconst 0, 1) := by decide +kernel
theorem dL_286 : decode code 286 = .ok (.ireturn, 1) := by decide +kernel
theorem dL_287 : decode code 287 = .ok (.aload_n 1, 1) := by decide +kernel
theorem dL_288 : decode code 288 = .ok (.aload_n 0, 1) := by decide +kernel
theorem dL_289 : decode code 289 = .ok (.iload_n 3, 1) := by decide +kernel
theorem dL_290 : decode code 290 = .ok (.iconst 1, 1) := by decide +kernel
theorem dL_291 : decode code 291 = .ok (.iadd, 1) := by decide +kernel
theorem dL_292 : decode code 292 = .ok (.iaload, 1) := by decide +kernel
theorem dL_293 : decode code 293 = .ok (.aload_n 0, 1) := by decide +kernel
theorem dL_294 : decode code 294 = .ok (.iload_n 3, 1) := by decide +kernel
theorem dL_295 : decode code 295 = .ok (.iconst 2, 1) := by decide +kernel
theorem dL_296 : decode code 296 = .ok (.iadd, 1) := by decide +kernel
theorem dL_297 : decode code 297 = .ok (.iaload, 1) := by decide +kernel
theorem dL_298 : decode code 298 = .ok (.invokevirtual 27, 3) := by decide +kernel
theorem dL_301 : decode code 301 = .ok (.aload_n 2, 1) := by decide +kernel
theorem dL_302 : decode code 302 = .ok (.aload_n 0, 1) := by decide +kernel
theorem dL_303 : decode code 303 = .ok (.iload_n 3, 1) := by decide +kernel
theorem dL_304 : decode code 304 = .ok (.iconst 1, 1) := by decide +kernel
theorem dL_305 : decode code 305 = .ok (.iadd, 1) := by decide +kernel
theorem dL_306 : decode code 306 = .ok (.iaload, 1) := by decide +kernel
theorem dL_307 : decode code 307 = .ok (.aload_n 0, 1) := by decide +kernel
theorem dL_308 : decode code 308 = .ok (.iload_n 3, 1) := by decide +kernel
theorem dL_309 : decode code 309 = .ok (.iconst 2, 1) := by decide +kernel
theorem dL_310 : decode code 310 = .ok (.iadd, 1) := by decide +kernel
theorem dL_311 : decode code 311 = .ok (.iaload, 1) := by decide +kernel
theorem dL_312 : decode code 312 = .ok (.invokevirtual 30, 3) := by decide +kernel
theorem dL_315 : decode code 315 = .ok (.if_icmp .eq 716, 3) := by decide +kernel
theorem dL_318 : decode code 318 = .ok (.iconst 0, 1) := by decide +kernel
theorem dL_319 : decode code 319 = .ok (.ireturn, 1) := by decide +kernel
theorem dL_320 : decode code 320 = .ok (.aload_n 1, 1) := by decide +kernel
theorem dL_321 : decode code 321 = .ok (.aload_n 0, 1) := by decide +kernel
theorem dL_322 : decode code 322 = .ok (.iload_n 3, 1) := by decide +kernel
theorem dL_323 : decode code 323 = .ok (.iconst 1, 1) := by decide +kernel
theorem dL_324 : decode code 324 = .ok (.iadd, 1) := by decide +kernel
theorem dL_325 : decode code 325 = .ok (.iaload, 1) := by decide +kernel
theorem dL_326 : decode code 326 = .ok (.invokevirtual 31, 3) := by decide +kernel
theorem dL_329 : decode code 329 = .ok (.aload_n 2, 1) := by decide +kernel
theorem dL_330 : decode code 330 = .ok (.aload_n 0, 1) := by decide +kernel
theorem dL_331 : decode code 331 = .ok (.iload_n 3, 1) := by decide +kernel
theorem dL_332 : decode code 332 = .ok (.iconst 1, 1) := by decide +kernel
theorem dL_333 : decode code 333 = .ok (.iadd, 1) := by decide +kernel
theorem dL_334 : decode code 334 = .ok (.iaload, 1) := by decide +kernel
theorem dL_335 : decode code 335 = .ok (.invokevirtual 35, 3) := by decide +kernel
theorem dL_338 : decode code 338 = .ok (.if_icmp .eq 693, 3) := by decide +kernel
theorem dL_341 : decode code 341 = .ok (.iconst 0, 1) := by decide +kernel
theorem dL_342 : decode code 342 = .ok (.ireturn, 1) := by decide +kernel
theorem dL_343 : decode code 343 = .ok (.aload_n 1, 1) := by decide +kernel
theorem dL_344 : decode code 344 = .ok (.aload_n 0, 1) := by decide +kernel
theorem dL_345 : decode code 345 = .ok (.iload_n 3, 1) := by decide +kernel
theorem dL_346 : decode code 346 = .ok (.iconst 1, 1) := by decide +kernel
theorem dL_347 : decode code 347 = .ok (.iadd, 1) := by decide +kernel
theorem dL_348 : decode code 348 = .ok (.iaload, 1) := by decide +kernel
theorem dL_349 : decode code 349 = .ok (.invokevirtual 36, 3) := by decide +kernel
theorem dL_352 : decode code 352 = .ok (.aload_n 2, 1) := by decide +kernel
theorem dL_353 : decode code 353 = .ok (.aload_n 0, 1) := by decide +kernel
theorem dL_354 : decode code 354 = .ok (.iload_n 3, 1) := by decide +kernel
theorem dL_355 : decode code 355 = .ok (.iconst 1, 1) := by decide +kernel
theorem dL_356 : decode code 356 = .ok (.iadd, 1) := by decide +kernel
theorem dL_357 : decode code 357 = .ok (.iaload, 1) := by decide +kernel
theorem dL_358 : decode code 358 = .ok (.invokevirtual 39, 3) := by decide +kernel
theorem dL_361 : decode code 361 = .ok (.if_icmp .eq 670, 3) := by decide +kernel
theorem dL_364 : decode code 364 = .ok (.iconst 0, 1) := by decide +kernel
theorem dL_365 : decode code 365 = .ok (.ireturn, 1) := by decide +kernel
theorem dL_366 : decode code 366 = .ok (.aload_n 1, 1) := by decide +kernel
theorem dL_367 : decode code 367 = .ok (.aload_n 0, 1) := by decide +kernel
theorem dL_368 : decode code 368 = .ok (.iload_n 3, 1) := by decide +kernel
theorem dL_369 : decode code 369 = .ok (.iconst 1, 1) := by decide +kernel
theorem dL_370 : decode code 370 = .ok (.iadd, 1) := by decide +kernel
theorem dL_371 : decode code 371 = .ok (.iaload, 1) := by decide +kernel
theorem dL_372 : decode code 372 = .ok (.invokevirtual 40, 3) := by decide +kernel
theorem dL_375 : decode code 375 = .ok (.aload_n 2, 1) := by decide +kernel
theorem dL_376 : decode code 376 = .ok (.aload_n 0, 1) := by decide +kernel
theorem dL_377 : decode code 377 = .ok (.iload_n 3, 1) := by decide +kernel
theorem dL_378 : decode code 378 = .ok (.iconst 1, 1) := by decide +kernel
theorem dL_379 : decode code 379 = .ok (.iadd, 1) := by decide +kernel
theorem dL_380 : decode code 380 = .ok (.iaload, 1) := by decide +kernel
theorem dL_381 : decode code 381 = .ok (.invokevirtual 43, 3) := by decide +kernel
theorem dL_384 : decode code 384 = .ok (.if_icmp .eq 647, 3) := by decide +kernel
theorem dL_387 : decode code 387 = .ok (.iconst 0, 1) := by decide +kernel
theorem dL_388 : decode code 388 = .ok (.ireturn, 1) := by decide +kernel
theorem dL_389 : decode code 389 = .ok (.aload_n 1, 1) := by decide +kernel
theorem dL_390 : decode code 390 = .ok (.aload_n 0, 1) := by decide +kernel
theorem dL_391 : decode code 391 = .ok (.iload_n 3, 1) := by decide +kernel
theorem dL_392 : decode code 392 = .ok (.iconst 1, 1) := by decide +kernel
theorem dL_393 : decode code 393 = .ok (.iadd, 1) := by decide +kernel
theorem dL_394 : decode code 394 = .ok (.iaload, 1) := by decide +kernel
theorem dL_395 : decode code 395 = .ok (.invokevirtual 44, 3) := by decide +kernel
theorem dL_398 : decode code 398 = .ok (.aload_n 2, 1) := by decide +kernel
theorem dL_399 : decode code 399 = .ok (.aload_n 0, 1) := by decide +kernel
theorem dL_400 : decode code 400 = .ok (.iload_n 3, 1) := by decide +kernel
theorem dL_401 : decode code 401 = .ok (.iconst 1, 1) := by decide +kernel
theorem dL_402 : decode code 402 = .ok (.iadd, 1) := by decide +kernel
theorem dL_403 : decode code 403 = .ok (.iaload, 1) := by decide +kernel
theorem dL_404 : decode code 404 = .ok (.invokevirtual 47, 3) := by decide +kernel
theorem dL_407 : decode code 407 = .ok (.if_icmp .eq 624, 3) := by decide +kernel
theorem dL_410 : decode code 410 = .ok (.iconst 0, 1) := by decide +kernel
theorem dL_411 : decode code 411 = .ok (.ireturn, 1) := by decide +kernel
theorem dL_412 : decode code 412 = .ok (.aload_n 1, 1) := by decide +kernel
theorem dL_413 : decode code 413 = .ok (.aload_n 0, 1) := by decide +kernel
theorem dL_414 : decode code 414 = .ok (.iload_n 3, 1) := by decide +kernel
theorem dL_415 : decode code 415 = .ok (.iconst 1, 1) := by decide +kernel
theorem dL_416 : decode code 416 = .ok (.iadd, 1) := by decide +kernel
theorem dL_417 : decode code 417 = .ok (.iaload, 1) := by decide +kernel
theorem dL_418 : decode code 418 = .ok (.invokevirtual 48, 3) := by decide +kernel
theorem dL_421 : decode code 421 = .ok (.aload_n 2, 1) := by decide +kernel
theorem dL_422 : decode code 422 = .ok (.aload_n 0, 1) := by decide +kernel
theorem dL_423 : decode code 423 = .ok (.iload_n 3, 1) := by decide +kernel
theorem dL_424 : decode code 424 = .ok (.iconst 1, 1) := by decide +kernel
theorem dL_425 : decode code 425 = .ok (.iadd, 1) := by decide +kernel
theorem dL_426 : decode code 426 = .ok (.iaload, 1) := by decide +kernel
theorem dL_427 : decode code 427 = .ok (.invokevirtual 51, 3) := by decide +kernel
theorem dL_430 : decode code 430 = .ok (.if_icmp .eq 601, 3) := by decide +kernel
theorem dL_433 : decode code 433 = .ok (.iconst 0, 1) := by decide +kernel
theorem dL_434 : decode code 434 = .ok (.ireturn, 1) := by decide +kernel
theorem dL_435 : decode code 435 = .ok (.aload_n 1, 1) := by decide +kernel
theorem dL_436 : decode code 436 = .ok (.aload_n 0, 1) := by decide +kernel
theorem dL_437 : decode code 437 = .ok (.iload_n 3, 1) := by decide +kernel
theorem dL_438 : decode code 438 = .ok (.iconst 1, 1) := by decide +kernel
theorem dL_439 : decode code 439 = .ok (.iadd, 1) := by decide +kernel
theorem dL_440 : decode code 440 = .ok (.iaload, 1) := by decide +kernel
theorem dL_441 : decode code 441 = .ok (.invokevirtual 52, 3) := by decide +kernel
theorem dL_444 : decode code 444 = .ok (.aload_n 2, 1) := by decide +kernel
theorem dL_445 : decode code 445 = .ok (.aload_n 0, 1) := by decide +kernel
theorem dL_446 : decode code 446 = .ok (.iload_n 3, 1) := by decide +kernel
theorem dL_447 : decode code 447 = .ok (.iconst 1, 1) := by decide +kernel
theorem dL_448 : decode code 448 = .ok (.iadd, 1) := by decide +kernel
theorem dL_449 : decode code 449 = .ok (.iaload, 1) := by decide +kernel
theorem dL_450 : decode code 450 = .ok (.invokevirtual 55, 3) := by decide +kernel
theorem dL_453 : decode code 453 = .ok (.if_icmp .eq 578, 3) := by decide +kernel
theorem dL_456 : decode code 456 = .ok (.iconst 0, 1) := by decide +kernel
theorem dL_457 : decode code 457 = .ok (.ireturn, 1) := by decide +kernel
theorem dL_458 : decode code 458 = .ok (.aload_n 1, 1) := by decide +kernel
theorem dL_459 : decode code 459 = .ok (.invokevirtual 56, 3) := by decide +kernel
theorem dL_462 : decode code 462 = .ok (.aload_n 2, 1) := by decide +kernel
theorem dL_463 : decode code 463 = .ok (.invokevirtual 60, 3) := by decide +kernel
theorem dL_466 : decode code 466 = .ok (.lcmp, 1) := by decide +kernel
theorem dL_467 : decode code 467 = .ok (.ifCond .eq 564, 3) := by decide +kernel
theorem dL_470 : decode code 470 = .ok (.iconst 0, 1) := by decide +kernel
theorem dL_471 : decode code 471 = .ok (.ireturn, 1) := by decide +kernel
theorem dL_472 : decode code 472 = .ok (.aload_n 1, 1) := by decide +kernel
theorem dL_473 : decode code 473 = .ok (.aload_n 0, 1) := by decide +kernel
theorem dL_474 : decode code 474 = .ok (.iload_n 3, 1) := by decide +kernel
theorem dL_475 : decode code 475 = .ok (.iconst 1, 1) := by decide +kernel
theorem dL_476 : decode code 476 = .ok (.iadd, 1) := by decide +kernel
theorem dL_477 : decode code 477 = .ok (.iaload, 1) := by decide +kernel
theorem dL_478 : decode code 478 = .ok (.aload_n 0, 1) := by decide +kernel
theorem dL_479 : decode code 479 = .ok (.iload_n 3, 1) := by decide +kernel
theorem dL_480 : decode code 480 = .ok (.iconst 2, 1) := by decide +kernel
theorem dL_481 : decode code 481 = .ok (.iadd, 1) := by decide +kernel
theorem dL_482 : decode code 482 = .ok (.iaload, 1) := by decide +kernel
theorem dL_483 : decode code 483 = .ok (.aload_n 0, 1) := by decide +kernel
theorem dL_484 : decode code 484 = .ok (.iload_n 3, 1) := by decide +kernel
theorem dL_485 : decode code 485 = .ok (.iconst 3, 1) := by decide +kernel
theorem dL_486 : decode code 486 = .ok (.iadd, 1) := by decide +kernel
theorem dL_487 : decode code 487 = .ok (.iaload, 1) := by decide +kernel
theorem dL_488 : decode code 488 = .ok (.aload_n 0, 1) := by decide +kernel
theorem dL_489 : decode code 489 = .ok (.iload_n 3, 1) := by decide +kernel
theorem dL_490 : decode code 490 = .ok (.iconst 4, 1) := by decide +kernel
theorem dL_491 : decode code 491 = .ok (.iadd, 1) := by decide +kernel
theorem dL_492 : decode code 492 = .ok (.iaload, 1) := by decide +kernel
theorem dL_493 : decode code 493 = .ok (.aload_n 0, 1) := by decide +kernel
theorem dL_494 : decode code 494 = .ok (.iload_n 3, 1) := by decide +kernel
theorem dL_495 : decode code 495 = .ok (.iconst 5, 1) := by decide +kernel
theorem dL_496 : decode code 496 = .ok (.iadd, 1) := by decide +kernel
theorem dL_497 : decode code 497 = .ok (.iaload, 1) := by decide +kernel
theorem dL_498 : decode code 498 = .ok (.invokevirtual 61, 3) := by decide +kernel
theorem dL_501 : decode code 501 = .ok (.aload_n 2, 1) := by decide +kernel
theorem dL_502 : decode code 502 = .ok (.aload_n 0, 1) := by decide +kernel
theorem dL_503 : decode code 503 = .ok (.iload_n 3, 1) := by decide +kernel
theorem dL_504 : decode code 504 = .ok (.iconst 1, 1) := by decide +kernel
theorem dL_505 : decode code 505 = .ok (.iadd, 1) := by decide +kernel
theorem dL_506 : decode code 506 = .ok (.iaload, 1) := by decide +kernel
theorem dL_507 : decode code 507 = .ok (.aload_n 0, 1) := by decide +kernel
theorem dL_508 : decode code 508 = .ok (.iload_n 3, 1) := by decide +kernel
theorem dL_509 : decode code 509 = .ok (.iconst 2, 1) := by decide +kernel
theorem dL_510 : decode code 510 = .ok (.iadd, 1) := by decide +kernel
theorem dL_511 : decode code 511 = .ok (.iaload, 1) := by decide +kernel
theorem dL_512 : decode code 512 = .ok (.aload_n 0, 1) := by decide +kernel
theorem dL_513 : decode code 513 = .ok (.iload_n 3, 1) := by decide +kernel
theorem dL_514 : decode code 514 = .ok (.iconst 3, 1) := by decide +kernel
theorem dL_515 : decode code 515 = .ok (.iadd, 1) := by decide +kernel
theorem dL_516 : decode code 516 = .ok (.iaload, 1) := by decide +kernel
theorem dL_517 : decode code 517 = .ok (.aload_n 0, 1) := by decide +kernel
theorem dL_518 : decode code 518 = .ok (.iload_n 3, 1) := by decide +kernel
theorem dL_519 : decode code 519 = .ok (.iconst 4, 1) := by decide +kernel
theorem dL_520 : decode code 520 = .ok (.iadd, 1) := by decide +kernel
theorem dL_521 : decode code 521 = .ok (.iaload, 1) := by decide +kernel
theorem dL_522 : decode code 522 = .ok (.aload_n 0, 1) := by decide +kernel
theorem dL_523 : decode code 523 = .ok (.iload_n 3, 1) := by decide +kernel
theorem dL_524 : decode code 524 = .ok (.iconst 5, 1) := by decide +kernel
theorem dL_525 : decode code 525 = .ok (.iadd, 1) := by decide +kernel
theorem dL_526 : decode code 526 = .ok (.iaload, 1) := by decide +kernel
theorem dL_527 : decode code 527 = .ok (.invokevirtual 65, 3) := by decide +kernel
theorem dL_530 : decode code 530 = .ok (.if_icmp .eq 501, 3) := by decide +kernel
theorem dL_533 : decode code 533 = .ok (.iconst 0, 1) := by decide +kernel
theorem dL_534 : decode code 534 = .ok (.ireturn, 1) := by decide +kernel
theorem dL_535 : decode code 535 = .ok (.aload_n 1, 1) := by decide +kernel
theorem dL_536 : decode code 536 = .ok (.invokevirtual 66, 3) := by decide +kernel
theorem dL_539 : decode code 539 = .ok (.aload_n 2, 1) := by decide +kernel
theorem dL_540 : decode code 540 = .ok (.invokevirtual 70, 3) := by decide +kernel
theorem dL_543 : decode code 543 = .ok (.if_icmp .eq 488, 3) := by decide +kernel
theorem dL_546 : decode code 546 = .ok (.iconst 0, 1) := by decide +kernel
theorem dL_547 : decode code 547 = .ok (.ireturn, 1) := by decide +kernel
theorem dL_548 : decode code 548 = .ok (.aload_n 1, 1) := by decide +kernel
theorem dL_549 : decode code 549 = .ok (.aload_n 0, 1) := by decide +kernel
theorem dL_550 : decode code 550 = .ok (.iload_n 3, 1) := by decide +kernel
theorem dL_551 : decode code 551 = .ok (.iconst 1, 1) := by decide +kernel
theorem dL_552 : decode code 552 = .ok (.iadd, 1) := by decide +kernel
theorem dL_553 : decode code 553 = .ok (.iaload, 1) := by decide +kernel
theorem dL_554 : decode code 554 = .ok (.invokevirtual 71, 3) := by decide +kernel
theorem dL_557 : decode code 557 = .ok (.aload_n 2, 1) := by decide +kernel
theorem dL_558 : decode code 558 = .ok (.aload_n 0, 1) := by decide +kernel
theorem dL_559 : decode code 559 = .ok (.iload_n 3, 1) := by decide +kernel
theorem dL_560 : decode code 560 = .ok (.iconst 1, 1) := by decide +kernel
theorem dL_561 : decode code 561 = .ok (.iadd, 1) := by decide +kernel
theorem dL_562 : decode code 562 = .ok (.iaload, 1) := by decide +kernel
theorem dL_563 : decode code 563 = .ok (.invokevirtual 74, 3) := by decide +kernel
theorem dL_566 : decode code 566 = .ok (.if_icmp .eq 465, 3) := by decide +kernel
theorem dL_569 : decode code 569 = .ok (.iconst 0, 1) := by decide +kernel
theorem dL_570 : decode code 570 = .ok (.ireturn, 1) := by decide +kernel
theorem dL_571 : decode code 571 = .ok (.aload_n 1, 1) := by decide +kernel
theorem dL_572 : decode code 572 = .ok (.aload_n 0, 1) := by decide +kernel
theorem dL_573 : decode code 573 = .ok (.iload_n 3, 1) := by decide +kernel
theorem dL_574 : decode code 574 = .ok (.iconst 1, 1) := by decide +kernel
theorem dL_575 : decode code 575 = .ok (.iadd, 1) := by decide +kernel
theorem dL_576 : decode code 576 = .ok (.iaload, 1) := by decide +kernel
theorem dL_577 : decode code 577 = .ok (.invokevirtual 75, 3) := by decide +kernel
theorem dL_580 : decode code 580 = .ok (.aload_n 2, 1) := by decide +kernel
theorem dL_581 : decode code 581 = .ok (.aload_n 0, 1) := by decide +kernel
theorem dL_582 : decode code 582 = .ok (.iload_n 3, 1) := by decide +kernel
theorem dL_583 : decode code 583 = .ok (.iconst 1, 1) := by decide +kernel
theorem dL_584 : decode code 584 = .ok (.iadd, 1) := by decide +kernel
theorem dL_585 : decode code 585 = .ok (.iaload, 1) := by decide +kernel
theorem dL_586 : decode code 586 = .ok (.invokevirtual 78, 3) := by decide +kernel
theorem dL_589 : decode code 589 = .ok (.if_icmp .eq 442, 3) := by decide +kernel
theorem dL_592 : decode code 592 = .ok (.iconst 0, 1) := by decide +kernel
theorem dL_593 : decode code 593 = .ok (.ireturn, 1) := by decide +kernel
theorem dL_594 : decode code 594 = .ok (.aload_n 1, 1) := by decide +kernel
theorem dL_595 : decode code 595 = .ok (.aload_n 0, 1) := by decide +kernel
theorem dL_596 : decode code 596 = .ok (.iload_n 3, 1) := by decide +kernel
theorem dL_597 : decode code 597 = .ok (.iconst 1, 1) := by decide +kernel
theorem dL_598 : decode code 598 = .ok (.iadd, 1) := by decide +kernel
theorem dL_599 : decode code 599 = .ok (.iaload, 1) := by decide +kernel
theorem dL_600 : decode code 600 = .ok (.invokevirtual 79, 3) := by decide +kernel
theorem dL_603 : decode code 603 = .ok (.aload_n 2, 1) := by decide +kernel
theorem dL_604 : decode code 604 = .ok (.aload_n 0, 1) := by decide +kernel
theorem dL_605 : decode code 605 = .ok (.iload_n 3, 1) := by decide +kernel
theorem dL_606 : decode code 606 = .ok (.iconst 1, 1) := by decide +kernel
theorem dL_607 : decode code 607 = .ok (.iadd, 1) := by decide +kernel
theorem dL_608 : decode code 608 = .ok (.iaload, 1) := by decide +kernel
theorem dL_609 : decode code 609 = .ok (.invokevirtual 82, 3) := by decide +kernel
theorem dL_612 : decode code 612 = .ok (.if_icmp .eq 419, 3) := by decide +kernel
theorem dL_615 : decode code 615 = .ok (.iconst 0, 1) := by decide +kernel
theorem dL_616 : decode code 616 = .ok (.ireturn, 1) := by decide +kernel
theorem dL_617 : decode code 617 = .ok (.aload_n 1, 1) := by decide +kernel
theorem dL_618 : decode code 618 = .ok (.aload_n 0, 1) := by decide +kernel
theorem dL_619 : decode code 619 = .ok (.iload_n 3, 1) := by decide +kernel
theorem dL_620 : decode code 620 = .ok (.iconst 1, 1) := by decide +kernel
theorem dL_621 : decode code 621 = .ok (.iadd, 1) := by decide +kernel
theorem dL_622 : decode code 622 = .ok (.iaload, 1) := by decide +kernel
theorem dL_623 : decode code 623 = .ok (.invokevirtual 83, 3) := by decide +kernel
theorem dL_626 : decode code 626 = .ok (.aload_n 2, 1) := by decide +kernel
theorem dL_627 : decode code 627 = .ok (.aload_n 0, 1) := by decide +kernel
theorem dL_628 : decode code 628 = .ok (.iload_n 3, 1) := by decide +kernel
theorem dL_629 : decode code 629 = .ok (.iconst 1, 1) := by decide +kernel
theorem dL_630 : decode code 630 = .ok (.iadd, 1) := by decide +kernel
theorem dL_631 : decode code 631 = .ok (.iaload, 1) := by decide +kernel
theorem dL_632 : decode code 632 = .ok (.invokevirtual 86, 3) := by decide +kernel
theorem dL_635 : decode code 635 = .ok (.if_icmp .eq 396, 3) := by decide +kernel
theorem dL_638 : decode code 638 = .ok (.iconst 0, 1) := by decide +kernel
theorem dL_639 : decode code 639 = .ok (.ireturn, 1) := by decide +kernel
theorem dL_640 : decode code 640 = .ok (.aload_n 1, 1) := by decide +kernel
theorem dL_641 : decode code 641 = .ok (.aload_n 0, 1) := by decide +kernel
theorem dL_642 : decode code 642 = .ok (.iload_n 3, 1) := by decide +kernel
theorem dL_643 : decode code 643 = .ok (.iconst 1, 1) := by decide +kernel
theorem dL_644 : decode code 644 = .ok (.iadd, 1) := by decide +kernel
theorem dL_645 : decode code 645 = .ok (.iaload, 1) := by decide +kernel
theorem dL_646 : decode code 646 = .ok (.invokevirtual 87, 3) := by decide +kernel
theorem dL_649 : decode code 649 = .ok (.aload_n 2, 1) := by decide +kernel
theorem dL_650 : decode code 650 = .ok (.aload_n 0, 1) := by decide +kernel
theorem dL_651 : decode code 651 = .ok (.iload_n 3, 1) := by decide +kernel
theorem dL_652 : decode code 652 = .ok (.iconst 1, 1) := by decide +kernel
theorem dL_653 : decode code 653 = .ok (.iadd, 1) := by decide +kernel
theorem dL_654 : decode code 654 = .ok (.iaload, 1) := by decide +kernel
theorem dL_655 : decode code 655 = .ok (.invokevirtual 90, 3) := by decide +kernel
theorem dL_658 : decode code 658 = .ok (.if_icmp .eq 373, 3) := by decide +kernel
theorem dL_661 : decode code 661 = .ok (.iconst 0, 1) := by decide +kernel
theorem dL_662 : decode code 662 = .ok (.ireturn, 1) := by decide +kernel
theorem dL_663 : decode code 663 = .ok (.aload_n 1, 1) := by decide +kernel
theorem dL_664 : decode code 664 = .ok (.aload_n 0, 1) := by decide +kernel
theorem dL_665 : decode code 665 = .ok (.iload_n 3, 1) := by decide +kernel
theorem dL_666 : decode code 666 = .ok (.iconst 1, 1) := by decide +kernel
theorem dL_667 : decode code 667 = .ok (.iadd, 1) := by decide +kernel
theorem dL_668 : decode code 668 = .ok (.iaload, 1) := by decide +kernel
theorem dL_669 : decode code 669 = .ok (.invokevirtual 91, 3) := by decide +kernel
theorem dL_672 : decode code 672 = .ok (.aload_n 2, 1) := by decide +kernel
theorem dL_673 : decode code 673 = .ok (.aload_n 0, 1) := by decide +kernel
theorem dL_674 : decode code 674 = .ok (.iload_n 3, 1) := by decide +kernel
theorem dL_675 : decode code 675 = .ok (.iconst 1, 1) := by decide +kernel
theorem dL_676 : decode code 676 = .ok (.iadd, 1) := by decide +kernel
theorem dL_677 : decode code 677 = .ok (.iaload, 1) := by decide +kernel
theorem dL_678 : decode code 678 = .ok (.invokevirtual 95, 3) := by decide +kernel
theorem dL_681 : decode code 681 = .ok (.lcmp, 1) := by decide +kernel
theorem dL_682 : decode code 682 = .ok (.ifCond .eq 349, 3) := by decide +kernel
theorem dL_685 : decode code 685 = .ok (.iconst 0, 1) := by decide +kernel
theorem dL_686 : decode code 686 = .ok (.ireturn, 1) := by decide +kernel
theorem dL_687 : decode code 687 = .ok (.aload_n 1, 1) := by decide +kernel
theorem dL_688 : decode code 688 = .ok (.aload_n 0, 1) := by decide +kernel
theorem dL_689 : decode code 689 = .ok (.iload_n 3, 1) := by decide +kernel
theorem dL_690 : decode code 690 = .ok (.iconst 1, 1) := by decide +kernel
theorem dL_691 : decode code 691 = .ok (.iadd, 1) := by decide +kernel
theorem dL_692 : decode code 692 = .ok (.iaload, 1) := by decide +kernel
theorem dL_693 : decode code 693 = .ok (.aload_n 0, 1) := by decide +kernel
theorem dL_694 : decode code 694 = .ok (.iload_n 3, 1) := by decide +kernel
theorem dL_695 : decode code 695 = .ok (.iconst 2, 1) := by decide +kernel
theorem dL_696 : decode code 696 = .ok (.iadd, 1) := by decide +kernel
theorem dL_697 : decode code 697 = .ok (.iaload, 1) := by decide +kernel
theorem dL_698 : decode code 698 = .ok (.aload_n 0, 1) := by decide +kernel
theorem dL_699 : decode code 699 = .ok (.iload_n 3, 1) := by decide +kernel
theorem dL_700 : decode code 700 = .ok (.iconst 3, 1) := by decide +kernel
theorem dL_701 : decode code 701 = .ok (.iadd, 1) := by decide +kernel
theorem dL_702 : decode code 702 = .ok (.iaload, 1) := by decide +kernel
theorem dL_703 : decode code 703 = .ok (.invokevirtual 96, 3) := by decide +kernel
theorem dL_706 : decode code 706 = .ok (.aload_n 2, 1) := by decide +kernel
theorem dL_707 : decode code 707 = .ok (.aload_n 0, 1) := by decide +kernel
theorem dL_708 : decode code 708 = .ok (.iload_n 3, 1) := by decide +kernel
theorem dL_709 : decode code 709 = .ok (.iconst 1, 1) := by decide +kernel
theorem dL_710 : decode code 710 = .ok (.iadd, 1) := by decide +kernel
theorem dL_711 : decode code 711 = .ok (.iaload, 1) := by decide +kernel
theorem dL_712 : decode code 712 = .ok (.aload_n 0, 1) := by decide +kernel
theorem dL_713 : decode code 713 = .ok (.iload_n 3, 1) := by decide +kernel
theorem dL_714 : decode code 714 = .ok (.iconst 2, 1) := by decide +kernel
theorem dL_715 : decode code 715 = .ok (.iadd, 1) := by decide +kernel
theorem dL_716 : decode code 716 = .ok (.iaload, 1) := by decide +kernel
theorem dL_717 : decode code 717 = .ok (.aload_n 0, 1) := by decide +kernel
theorem dL_718 : decode code 718 = .ok (.iload_n 3, 1) := by decide +kernel
theorem dL_719 : decode code 719 = .ok (.iconst 3, 1) := by decide +kernel
theorem dL_720 : decode code 720 = .ok (.iadd, 1) := by decide +kernel
theorem dL_721 : decode code 721 = .ok (.iaload, 1) := by decide +kernel
theorem dL_722 : decode code 722 = .ok (.invokevirtual 100, 3) := by decide +kernel
theorem dL_725 : decode code 725 = .ok (.if_icmp .eq 306, 3) := by decide +kernel
theorem dL_728 : decode code 728 = .ok (.iconst 0, 1) := by decide +kernel
theorem dL_729 : decode code 729 = .ok (.ireturn, 1) := by decide +kernel
theorem dL_730 : decode code 730 = .ok (.aload_n 1, 1) := by decide +kernel
theorem dL_731 : decode code 731 = .ok (.aload_n 0, 1) := by decide +kernel
theorem dL_732 : decode code 732 = .ok (.iload_n 3, 1) := by decide +kernel
theorem dL_733 : decode code 733 = .ok (.iconst 1, 1) := by decide +kernel
theorem dL_734 : decode code 734 = .ok (.iadd, 1) := by decide +kernel
theorem dL_735 : decode code 735 = .ok (.iaload, 1) := by decide +kernel
theorem dL_736 : decode code 736 = .ok (.invokevirtual 101, 3) := by decide +kernel
theorem dL_739 : decode code 739 = .ok (.aload_n 2, 1) := by decide +kernel
theorem dL_740 : decode code 740 = .ok (.aload_n 0, 1) := by decide +kernel
theorem dL_741 : decode code 741 = .ok (.iload_n 3, 1) := by decide +kernel
theorem dL_742 : decode code 742 = .ok (.iconst 1, 1) := by decide +kernel
theorem dL_743 : decode code 743 = .ok (.iadd, 1) := by decide +kernel
theorem dL_744 : decode code 744 = .ok (.iaload, 1) := by decide +kernel
theorem dL_745 : decode code 745 = .ok (.invokevirtual 104, 3) := by decide +kernel
theorem dL_748 : decode code 748 = .ok (.if_icmp .eq 283, 3) := by decide +kernel
theorem dL_751 : decode code 751 = .ok (.iconst 0, 1) := by decide +kernel
theorem dL_752 : decode code 752 = .ok (.ireturn, 1) := by decide +kernel
theorem dL_753 : decode code 753 = .ok (.aload_n 1, 1) := by decide +kernel
theorem dL_754 : decode code 754 = .ok (.aload_n 0, 1) := by decide +kernel
theorem dL_755 : decode code 755 = .ok (.iload_n 3, 1) := by decide +kernel
theorem dL_756 : decode code 756 = .ok (.iconst 1, 1) := by decide +kernel
theorem dL_757 : decode code 757 = .ok (.iadd, 1) := by decide +kernel
theorem dL_758 : decode code 758 = .ok (.iaload, 1) := by decide +kernel
theorem dL_759 : decode code 759 = .ok (.aload_n 0, 1) := by decide +kernel
theorem dL_760 : decode code 760 = .ok (.iload_n 3, 1) := by decide +kernel
theorem dL_761 : decode code 761 = .ok (.iconst 2, 1) := by decide +kernel
theorem dL_762 : decode code 762 = .ok (.iadd, 1) := by decide +kernel
theorem dL_763 : decode code 763 = .ok (.iaload, 1) := by decide +kernel
theorem dL_764 : decode code 764 = .ok (.aload_n 0, 1) := by decide +kernel
theorem dL_765 : decode code 765 = .ok (.iload_n 3, 1) := by decide +kernel
theorem dL_766 : decode code 766 = .ok (.iconst 3, 1) := by decide +kernel
theorem dL_767 : decode code 767 = .ok (.iadd, 1) := by decide +kernel
theorem dL_768 : decode code 768 = .ok (.iaload, 1) := by decide +kernel
theorem dL_769 : decode code 769 = .ok (.invokevirtual 105, 3) := by decide +kernel
theorem dL_772 : decode code 772 = .ok (.aload_n 2, 1) := by decide +kernel
theorem dL_773 : decode code 773 = .ok (.aload_n 0, 1) := by decide +kernel
theorem dL_774 : decode code 774 = .ok (.iload_n 3, 1) := by decide +kernel
theorem dL_775 : decode code 775 = .ok (.iconst 1, 1) := by decide +kernel
theorem dL_776 : decode code 776 = .ok (.iadd, 1) := by decide +kernel
theorem dL_777 : decode code 777 = .ok (.iaload, 1) := by decide +kernel
theorem dL_778 : decode code 778 = .ok (.aload_n 0, 1) := by decide +kernel
theorem dL_779 : decode code 779 = .ok (.iload_n 3, 1) := by decide +kernel
theorem dL_780 : decode code 780 = .ok (.iconst 2, 1) := by decide +kernel
theorem dL_781 : decode code 781 = .ok (.iadd, 1) := by decide +kernel
theorem dL_782 : decode code 782 = .ok (.iaload, 1) := by decide +kernel
theorem dL_783 : decode code 783 = .ok (.aload_n 0, 1) := by decide +kernel
theorem dL_784 : decode code 784 = .ok (.iload_n 3, 1) := by decide +kernel
theorem dL_785 : decode code 785 = .ok (.iconst 3, 1) := by decide +kernel
theorem dL_786 : decode code 786 = .ok (.iadd, 1) := by decide +kernel
theorem dL_787 : decode code 787 = .ok (.iaload, 1) := by decide +kernel
theorem dL_788 : decode code 788 = .ok (.invokevirtual 108, 3) := by decide +kernel
theorem dL_791 : decode code 791 = .ok (.if_icmp .eq 240, 3) := by decide +kernel
theorem dL_794 : decode code 794 = .ok (.iconst 0, 1) := by decide +kernel
theorem dL_795 : decode code 795 = .ok (.ireturn, 1) := by decide +kernel
theorem dL_796 : decode code 796 = .ok (.aload_n 1, 1) := by decide +kernel
theorem dL_797 : decode code 797 = .ok (.aload_n 0, 1) := by decide +kernel
theorem dL_798 : decode code 798 = .ok (.iload_n 3, 1) := by decide +kernel
theorem dL_799 : decode code 799 = .ok (.iconst 1, 1) := by decide +kernel
theorem dL_800 : decode code 800 = .ok (.iadd, 1) := by decide +kernel
theorem dL_801 : decode code 801 = .ok (.iaload, 1) := by decide +kernel
theorem dL_802 : decode code 802 = .ok (.aload_n 0, 1) := by decide +kernel
theorem dL_803 : decode code 803 = .ok (.iload_n 3, 1) := by decide +kernel
theorem dL_804 : decode code 804 = .ok (.iconst 2, 1) := by decide +kernel
theorem dL_805 : decode code 805 = .ok (.iadd, 1) := by decide +kernel
theorem dL_806 : decode code 806 = .ok (.iaload, 1) := by decide +kernel
theorem dL_807 : decode code 807 = .ok (.aload_n 0, 1) := by decide +kernel
theorem dL_808 : decode code 808 = .ok (.iload_n 3, 1) := by decide +kernel
theorem dL_809 : decode code 809 = .ok (.iconst 3, 1) := by decide +kernel
theorem dL_810 : decode code 810 = .ok (.iadd, 1) := by decide +kernel
theorem dL_811 : decode code 811 = .ok (.iaload, 1) := by decide +kernel
theorem dL_812 : decode code 812 = .ok (.invokevirtual 109, 3) := by decide +kernel
theorem dL_815 : decode code 815 = .ok (.aload_n 2, 1) := by decide +kernel
theorem dL_816 : decode code 816 = .ok (.aload_n 0, 1) := by decide +kernel
theorem dL_817 : decode code 817 = .ok (.iload_n 3, 1) := by decide +kernel
theorem dL_818 : decode code 818 = .ok (.iconst 1, 1) := by decide +kernel
theorem dL_819 : decode code 819 = .ok (.iadd, 1) := by decide +kernel
theorem dL_820 : decode code 820 = .ok (.iaload, 1) := by decide +kernel
theorem dL_821 : decode code 821 = .ok (.aload_n 0, 1) := by decide +kernel
theorem dL_822 : decode code 822 = .ok (.iload_n 3, 1) := by decide +kernel
theorem dL_823 : decode code 823 = .ok (.iconst 2, 1) := by decide +kernel
theorem dL_824 : decode code 824 = .ok (.iadd, 1) := by decide +kernel
theorem dL_825 : decode code 825 = .ok (.iaload, 1) := by decide +kernel
theorem dL_826 : decode code 826 = .ok (.aload_n 0, 1) := by decide +kernel
theorem dL_827 : decode code 827 = .ok (.iload_n 3, 1) := by decide +kernel
theorem dL_828 : decode code 828 = .ok (.iconst 3, 1) := by decide +kernel
theorem dL_829 : decode code 829 = .ok (.iadd, 1) := by decide +kernel
theorem dL_830 : decode code 830 = .ok (.iaload, 1) := by decide +kernel
theorem dL_831 : decode code 831 = .ok (.invokevirtual 113, 3) := by decide +kernel
theorem dL_834 : decode code 834 = .ok (.lcmp, 1) := by decide +kernel
theorem dL_835 : decode code 835 = .ok (.ifCond .eq 196, 3) := by decide +kernel
theorem dL_838 : decode code 838 = .ok (.iconst 0, 1) := by decide +kernel
theorem dL_839 : decode code 839 = .ok (.ireturn, 1) := by decide +kernel
theorem dL_840 : decode code 840 = .ok (.aload_n 1, 1) := by decide +kernel
theorem dL_841 : decode code 841 = .ok (.aload_n 0, 1) := by decide +kernel
theorem dL_842 : decode code 842 = .ok (.iload_n 3, 1) := by decide +kernel
theorem dL_843 : decode code 843 = .ok (.iconst 1, 1) := by decide +kernel
theorem dL_844 : decode code 844 = .ok (.iadd, 1) := by decide +kernel
theorem dL_845 : decode code 845 = .ok (.iaload, 1) := by decide +kernel
theorem dL_846 : decode code 846 = .ok (.aload_n 0, 1) := by decide +kernel
theorem dL_847 : decode code 847 = .ok (.iload_n 3, 1) := by decide +kernel
theorem dL_848 : decode code 848 = .ok (.iconst 2, 1) := by decide +kernel
theorem dL_849 : decode code 849 = .ok (.iadd, 1) := by decide +kernel
theorem dL_850 : decode code 850 = .ok (.iaload, 1) := by decide +kernel
theorem dL_851 : decode code 851 = .ok (.aload_n 0, 1) := by decide +kernel
theorem dL_852 : decode code 852 = .ok (.iload_n 3, 1) := by decide +kernel
theorem dL_853 : decode code 853 = .ok (.iconst 3, 1) := by decide +kernel
theorem dL_854 : decode code 854 = .ok (.iadd, 1) := by decide +kernel
theorem dL_855 : decode code 855 = .ok (.iaload, 1) := by decide +kernel
theorem dL_856 : decode code 856 = .ok (.aload_n 0, 1) := by decide +kernel
theorem dL_857 : decode code 857 = .ok (.iload_n 3, 1) := by decide +kernel
theorem dL_858 : decode code 858 = .ok (.iconst 4, 1) := by decide +kernel
theorem dL_859 : decode code 859 = .ok (.iadd, 1) := by decide +kernel
theorem dL_860 : decode code 860 = .ok (.iaload, 1) := by decide +kernel
theorem dL_861 : decode code 861 = .ok (.aload_n 0, 1) := by decide +kernel
theorem dL_862 : decode code 862 = .ok (.iload_n 3, 1) := by decide +kernel
theorem dL_863 : decode code 863 = .ok (.iconst 5, 1) := by decide +kernel
theorem dL_864 : decode code 864 = .ok (.iadd, 1) := by decide +kernel
theorem dL_865 : decode code 865 = .ok (.iaload, 1) := by decide +kernel
theorem dL_866 : decode code 866 = .ok (.invokevirtual 114, 3) := by decide +kernel
theorem dL_869 : decode code 869 = .ok (.aload_n 2, 1) := by decide +kernel
theorem dL_870 : decode code 870 = .ok (.aload_n 0, 1) := by decide +kernel
theorem dL_871 : decode code 871 = .ok (.iload_n 3, 1) := by decide +kernel
theorem dL_872 : decode code 872 = .ok (.iconst 1, 1) := by decide +kernel
theorem dL_873 : decode code 873 = .ok (.iadd, 1) := by decide +kernel
theorem dL_874 : decode code 874 = .ok (.iaload, 1) := by decide +kernel
theorem dL_875 : decode code 875 = .ok (.aload_n 0, 1) := by decide +kernel
theorem dL_876 : decode code 876 = .ok (.iload_n 3, 1) := by decide +kernel
theorem dL_877 : decode code 877 = .ok (.iconst 2, 1) := by decide +kernel
theorem dL_878 : decode code 878 = .ok (.iadd, 1) := by decide +kernel
theorem dL_879 : decode code 879 = .ok (.iaload, 1) := by decide +kernel
theorem dL_880 : decode code 880 = .ok (.aload_n 0, 1) := by decide +kernel
theorem dL_881 : decode code 881 = .ok (.iload_n 3, 1) := by decide +kernel
theorem dL_882 : decode code 882 = .ok (.iconst 3, 1) := by decide +kernel
theorem dL_883 : decode code 883 = .ok (.iadd, 1) := by decide +kernel
theorem dL_884 : decode code 884 = .ok (.iaload, 1) := by decide +kernel
theorem dL_885 : decode code 885 = .ok (.aload_n 0, 1) := by decide +kernel
theorem dL_886 : decode code 886 = .ok (.iload_n 3, 1) := by decide +kernel
theorem dL_887 : decode code 887 = .ok (.iconst 4, 1) := by decide +kernel
theorem dL_888 : decode code 888 = .ok (.iadd, 1) := by decide +kernel
theorem dL_889 : decode code 889 = .ok (.iaload, 1) := by decide +kernel
theorem dL_890 : decode code 890 = .ok (.aload_n 0, 1) := by decide +kernel
theorem dL_891 : decode code 891 = .ok (.iload_n 3, 1) := by decide +kernel
theorem dL_892 : decode code 892 = .ok (.iconst 5, 1) := by decide +kernel
theorem dL_893 : decode code 893 = .ok (.iadd, 1) := by decide +kernel
theorem dL_894 : decode code 894 = .ok (.iaload, 1) := by decide +kernel
theorem dL_895 : decode code 895 = .ok (.invokevirtual 117, 3) := by decide +kernel
theorem dL_898 : decode code 898 = .ok (.if_icmp .eq 133, 3) := by decide +kernel
theorem dL_901 : decode code 901 = .ok (.iconst 0, 1) := by decide +kernel
theorem dL_902 : decode code 902 = .ok (.ireturn, 1) := by decide +kernel
theorem dL_903 : decode code 903 = .ok (.aload_n 1, 1) := by decide +kernel
theorem dL_904 : decode code 904 = .ok (.aload_n 0, 1) := by decide +kernel
theorem dL_905 : decode code 905 = .ok (.iload_n 3, 1) := by decide +kernel
theorem dL_906 : decode code 906 = .ok (.iconst 1, 1) := by decide +kernel
theorem dL_907 : decode code 907 = .ok (.iadd, 1) := by decide +kernel
theorem dL_908 : decode code 908 = .ok (.iaload, 1) := by decide +kernel
theorem dL_909 : decode code 909 = .ok (.invokevirtual 118, 3) := by decide +kernel
theorem dL_912 : decode code 912 = .ok (.aload_n 2, 1) := by decide +kernel
theorem dL_913 : decode code 913 = .ok (.aload_n 0, 1) := by decide +kernel
theorem dL_914 : decode code 914 = .ok (.iload_n 3, 1) := by decide +kernel
theorem dL_915 : decode code 915 = .ok (.iconst 1, 1) := by decide +kernel
theorem dL_916 : decode code 916 = .ok (.iadd, 1) := by decide +kernel
theorem dL_917 : decode code 917 = .ok (.iaload, 1) := by decide +kernel
theorem dL_918 : decode code 918 = .ok (.invokevirtual 121, 3) := by decide +kernel
theorem dL_921 : decode code 921 = .ok (.if_icmp .eq 110, 3) := by decide +kernel
theorem dL_924 : decode code 924 = .ok (.iconst 0, 1) := by decide +kernel
theorem dL_925 : decode code 925 = .ok (.ireturn, 1) := by decide +kernel
theorem dL_926 : decode code 926 = .ok (.aload_n 1, 1) := by decide +kernel
theorem dL_927 : decode code 927 = .ok (.aload_n 0, 1) := by decide +kernel
theorem dL_928 : decode code 928 = .ok (.iload_n 3, 1) := by decide +kernel
theorem dL_929 : decode code 929 = .ok (.iconst 1, 1) := by decide +kernel
theorem dL_930 : decode code 930 = .ok (.iadd, 1) := by decide +kernel
theorem dL_931 : decode code 931 = .ok (.iaload, 1) := by decide +kernel
theorem dL_932 : decode code 932 = .ok (.invokevirtual 122, 3) := by decide +kernel
theorem dL_935 : decode code 935 = .ok (.aload_n 2, 1) := by decide +kernel
theorem dL_936 : decode code 936 = .ok (.aload_n 0, 1) := by decide +kernel
theorem dL_937 : decode code 937 = .ok (.iload_n 3, 1) := by decide +kernel
theorem dL_938 : decode code 938 = .ok (.iconst 1, 1) := by decide +kernel
theorem dL_939 : decode code 939 = .ok (.iadd, 1) := by decide +kernel
theorem dL_940 : decode code 940 = .ok (.iaload, 1) := by decide +kernel
theorem dL_941 : decode code 941 = .ok (.invokevirtual 125, 3) := by decide +kernel
theorem dL_944 : decode code 944 = .ok (.if_icmp .eq 87, 3) := by decide +kernel
theorem dL_947 : decode code 947 = .ok (.iconst 0, 1) := by decide +kernel
theorem dL_948 : decode code 948 = .ok (.ireturn, 1) := by decide +kernel
theorem dL_949 : decode code 949 = .ok (.aload_n 1, 1) := by decide +kernel
theorem dL_950 : decode code 950 = .ok (.aload_n 0, 1) := by decide +kernel
theorem dL_951 : decode code 951 = .ok (.iload_n 3, 1) := by decide +kernel
theorem dL_952 : decode code 952 = .ok (.iconst 1, 1) := by decide +kernel
theorem dL_953 : decode code 953 = .ok (.iadd, 1) := by decide +kernel
theorem dL_954 : decode code 954 = .ok (.iaload, 1) := by decide +kernel
theorem dL_955 : decode code 955 = .ok (.aload_n 0, 1) := by decide +kernel
theorem dL_956 : decode code 956 = .ok (.iload_n 3, 1) := by decide +kernel
theorem dL_957 : decode code 957 = .ok (.iconst 2, 1) := by decide +kernel
theorem dL_958 : decode code 958 = .ok (.iadd, 1) := by decide +kernel
theorem dL_959 : decode code 959 = .ok (.iaload, 1) := by decide +kernel
theorem dL_960 : decode code 960 = .ok (.invokevirtual 126, 3) := by decide +kernel
theorem dL_963 : decode code 963 = .ok (.aload_n 2, 1) := by decide +kernel
theorem dL_964 : decode code 964 = .ok (.aload_n 0, 1) := by decide +kernel
theorem dL_965 : decode code 965 = .ok (.iload_n 3, 1) := by decide +kernel
theorem dL_966 : decode code 966 = .ok (.iconst 1, 1) := by decide +kernel
theorem dL_967 : decode code 967 = .ok (.iadd, 1) := by decide +kernel
theorem dL_968 : decode code 968 = .ok (.iaload, 1) := by decide +kernel
theorem dL_969 : decode code 969 = .ok (.aload_n 0, 1) := by decide +kernel
theorem dL_970 : decode code 970 = .ok (.iload_n 3, 1) := by decide +kernel
theorem dL_971 : decode code 971 = .ok (.iconst 2, 1) := by decide +kernel
theorem dL_972 : decode code 972 = .ok (.iadd, 1) := by decide +kernel
theorem dL_973 : decode code 973 = .ok (.iaload, 1) := by decide +kernel
theorem dL_974 : decode code 974 = .ok (.invokevirtual 129, 3) := by decide +kernel
theorem dL_977 : decode code 977 = .ok (.if_icmp .eq 54, 3) := by decide +kernel
theorem dL_980 : decode code 980 = .ok (.iconst 0, 1) := by decide +kernel
theorem dL_981 : decode code 981 = .ok (.ireturn, 1) := by decide +kernel
theorem dL_982 : decode code 982 = .ok (.aload_n 1, 1) := by decide +kernel
theorem dL_983 : decode code 983 = .ok (.invokevirtual 130, 3) := by decide +kernel
theorem dL_986 : decode code 986 = .ok (.aload_n 2, 1) := by decide +kernel
theorem dL_987 : decode code 987 = .ok (.invokevirtual 133, 3) := by decide +kernel
theorem dL_990 : decode code 990 = .ok (.if_icmp .eq 41, 3) := by decide +kernel
theorem dL_993 : decode code 993 = .ok (.iconst 0, 1) := by decide +kernel
theorem dL_994 : decode code 994 = .ok (.ireturn, 1) := by decide +kernel
theorem dL_995 : decode code 995 = .ok (.aload_n 1, 1) := by decide +kernel
theorem dL_996 : decode code 996 = .ok (.invokevirtual 134, 3) := by decide +kernel
theorem dL_999 : decode code 999 = .ok (.aload_n 2, 1) := by decide +kernel
theorem dL_1000 : decode code 1000 = .ok (.invokevirtual 137, 3) := by decide +kernel
theorem dL_1003 : decode code 1003 = .ok (.if_icmp .eq 28, 3) := by decide +kernel
theorem dL_1006 : decode code 1006 = .ok (.iconst 0, 1) := by decide +kernel
theorem dL_1007 : decode code 1007 = .ok (.ireturn, 1) := by decide +kernel
theorem dL_1008 : decode code 1008 = .ok (.aload_n 1, 1) := by decide +kernel
theorem dL_1009 : decode code 1009 = .ok (.aload_n 0, 1) := by decide +kernel
theorem dL_1010 : decode code 1010 = .ok (.iload_n 3, 1) := by decide +kernel
theorem dL_1011 : decode code 1011 = .ok (.iconst 1, 1) := by decide +kernel
theorem dL_1012 : decode code 1012 = .ok (.iadd, 1) := by decide +kernel
theorem dL_1013 : decode code 1013 = .ok (.iaload, 1) := by decide +kernel
theorem dL_1014 : decode code 1014 = .ok (.invokevirtual 138, 3) := by decide +kernel
theorem dL_1017 : decode code 1017 = .ok (.aload_n 2, 1) := by decide +kernel
theorem dL_1018 : decode code 1018 = .ok (.aload_n 0, 1) := by decide +kernel
theorem dL_1019 : decode code 1019 = .ok (.iload_n 3, 1) := by decide +kernel
theorem dL_1020 : decode code 1020 = .ok (.iconst 1, 1) := by decide +kernel
theorem dL_1021 : decode code 1021 = .ok (.iadd, 1) := by decide +kernel
theorem dL_1022 : decode code 1022 = .ok (.iaload, 1) := by decide +kernel
theorem dL_1023 : decode code 1023 = .ok (.invokevirtual 141, 3) := by decide +kernel
theorem dL_1026 : decode code 1026 = .ok (.if_icmp .eq 5, 3) := by decide +kernel
theorem dL_1029 : decode code 1029 = .ok (.iconst 0, 1) := by decide +kernel
theorem dL_1030 : decode code 1030 = .ok (.ireturn, 1) := by decide +kernel
theorem dL_1031 : decode code 1031 = .ok (.iinc 3 6, 3) := by decide +kernel
theorem dL_1034 : decode code 1034 = .ok (.goto (-1016), 3) := by decide +kernel
theorem dL_1037 : decode code 1037 = .ok (.iconst 1, 1) := by decide +kernel
theorem dL_1038 : decode code 1038 = .ok (.ireturn, 1) := by decide +kernel
theorem lc_0 {Rel : MS → MS → Prop} {X : LW} (O : OL X) {SX SM : MS} {x3 : Int32} (hv : vp_in x3 (w_L X) ∧ vp_in (x3 + 1) (w_L X) ∧ vp_in (x3 + 2) (w_L X) ∧ vp_in (x3 + 3) (w_L X) ∧ vp_in (x3 + 4) (w_L X) ∧ vp_in (x3 + 5) (w_L X)) (hR : Rel SX SM) (hs : SimI Rel (f5_ship (w_x X (x3 + 1).toNatClampNeg) (w_x X (x3 + 2).toNatClampNeg) (w_x X (x3 + 3).toNatClampNeg) (w_x X (x3 + 4).toNatClampNeg)) (f6_ship (w_x X (x3 + 1).toNatClampNeg) (w_x X (x3 + 2).toNatClampNeg) (w_x X (x3 + 3).toNatClampNeg) (w_x X (x3 + 4).toNatClampNeg))) (K : ∀ SX2 SM2, Rel SX2 SM2 → GL X SX2 SM2 1031 [(0, .ref (w_b X)), (1, .ref (ln_1 X 0)), (2, .ref (ln_2 X 0)), (3, .int x3)] []) : GL X SX SM 168 [(0, .ref (w_b X)), (1, .ref (ln_1 X 0)), (2, .ref (ln_2 X 0)), (3, .int x3)] [] := by
  refine q_aload O dL_168 1 rfl ?_
  refine q_aload O dL_169 0 rfl ?_
  refine q_iload O dL_170 3 rfl ?_
  refine q_iconst O dL_171 (v := 1) (by decide) ?_
  refine q_iadd O dL_172 ?_
  refine q_sld O hv.2.1 dL_173 ?_
  refine q_aload O dL_174 0 rfl ?_
  refine q_iload O dL_175 3 rfl ?_
  refine q_iconst O dL_176 (v := 2) (by decide) ?_
  refine q_iadd O dL_177 ?_
  refine q_sld O hv.2.2.1 dL_178 ?_
  refine q_aload O dL_179 0 rfl ?_
  refine q_iload O dL_180 3 rfl ?_
  refine q_iconst O dL_181 (v := 3) (by decide) ?_
  refine q_iadd O dL_182 ?_
  refine q_sld O hv.2.2.2.1 dL_183 ?_
  refine q_aload O dL_184 0 rfl ?_
  refine q_iload O dL_185 3 rfl ?_
  refine q_iconst O dL_186 (v := 4) (by decide) ?_
  refine q_iadd O dL_187 ?_
  refine q_sld O hv.2.2.2.2.1 dL_188 ?_
  obtain ⟨r, SX2, SM2, e1, e2, hR2⟩ := hs SX SM hR
  refine q_callXi O (bv := fun _ => [.int (w_x X (x3 + 1).toNatClampNeg), .int (w_x X (x3 + 2).toNatClampNeg), .int (w_x X (x3 + 3).toNatClampNeg), .int (w_x X (x3 + 4).toNatClampNeg)]) (rest := []) e1 (c5_ship (w_l X) (w_x X (x3 + 1).toNatClampNeg) (w_x X (x3 + 2).toNatClampNeg) (w_x X (x3 + 3).toNatClampNeg) (w_x X (x3 + 4).toNatClampNeg) SX) (fun _ => rfl) rfl w_236 w_237 w_238 w_45 w_239 hy_X5_ship ⟨rfl, rfl, by decide, by decide⟩ rfl rfl (Nat.le_of_ble_eq_true rfl) dL_189 ?_
  refine q_aload O dL_192 2 rfl ?_
  refine q_aload O dL_193 0 rfl ?_
  refine q_iload O dL_194 3 rfl ?_
  refine q_iconst O dL_195 (v := 1) (by decide) ?_
  refine q_iadd O dL_196 ?_
  refine q_sld O hv.2.1 dL_197 ?_
  refine q_aload O dL_198 0 rfl ?_
  refine q_iload O dL_199 3 rfl ?_
  refine q_iconst O dL_200 (v := 2) (by decide) ?_
  refine q_iadd O dL_201 ?_
  refine q_sld O hv.2.2.1 dL_202 ?_
  refine q_aload O dL_203 0 rfl ?_
  refine q_iload O dL_204 3 rfl ?_
  refine q_iconst O dL_205 (v := 3) (by decide) ?_
  refine q_iadd O dL_206 ?_
  refine q_sld O hv.2.2.2.1 dL_207 ?_
  refine q_aload O dL_208 0 rfl ?_
  refine q_iload O dL_209 3 rfl ?_
  refine q_iconst O dL_210 (v := 4) (by decide) ?_
  refine q_iadd O dL_211 ?_
  refine q_sld O hv.2.2.2.2.1 dL_212 ?_
  refine q_callMi O (bv := fun _ => [.int (w_x X (x3 + 1).toNatClampNeg), .int (w_x X (x3 + 2).toNatClampNeg), .int (w_x X (x3 + 3).toNatClampNeg), .int (w_x X (x3 + 4).toNatClampNeg)]) (rest := [.int r]) e2 (c6_ship (w_l X) (w_x X (x3 + 1).toNatClampNeg) (w_x X (x3 + 2).toNatClampNeg) (w_x X (x3 + 3).toNatClampNeg) (w_x X (x3 + 4).toNatClampNeg) SM) (fun _ => rfl) rfl w_745 w_746 w_747 w_51 w_748 hy_X6_ship ⟨rfl, rfl, by decide, by decide⟩ rfl rfl (Nat.le_of_ble_eq_true rfl) dL_213 ?_
  refine q_eq O 1031 dL_216 (by decide) ?_
  exact K SX2 SM2 hR2
theorem lc_1 {Rel : MS → MS → Prop} {X : LW} (O : OL X) {SX SM : MS} {x3 : Int32} (hv : vp_in x3 (w_L X) ∧ vp_in (x3 + 1) (w_L X) ∧ vp_in (x3 + 2) (w_L X) ∧ vp_in (x3 + 3) (w_L X) ∧ vp_in (x3 + 4) (w_L X) ∧ vp_in (x3 + 5) (w_L X)) (hR : Rel SX SM) (hs : SimI Rel (f5_ofTank (w_x X (x3 + 1).toNatClampNeg) (w_x X (x3 + 2).toNatClampNeg)) (f6_ofTank (w_x X (x3 + 1).toNatClampNeg) (w_x X (x3 + 2).toNatClampNeg))) (K : ∀ SX2 SM2, Rel SX2 SM2 → GL X SX2 SM2 1031 [(0, .ref (w_b X)), (1, .ref (ln_1 X 0)), (2, .ref (ln_2 X 0)), (3, .int x3)] []) : GL X SX SM 221 [(0, .ref (w_b X)), (1, .ref (ln_1 X 0)), (2, .ref (ln_2 X 0)), (3, .int x3)] [] := by
  refine q_aload O dL_221 1 rfl ?_
  refine q_aload O dL_222 0 rfl ?_
  refine q_iload O dL_223 3 rfl ?_
  refine q_iconst O dL_224 (v := 1) (by decide) ?_
  refine q_iadd O dL_225 ?_
  refine q_sld O hv.2.1 dL_226 ?_
  refine q_aload O dL_227 0 rfl ?_
  refine q_iload O dL_228 3 rfl ?_
  refine q_iconst O dL_229 (v := 2) (by decide) ?_
  refine q_iadd O dL_230 ?_
  refine q_sld O hv.2.2.1 dL_231 ?_
  obtain ⟨r, SX2, SM2, e1, e2, hR2⟩ := hs SX SM hR
  refine q_callXi O (bv := fun _ => [.int (w_x X (x3 + 1).toNatClampNeg), .int (w_x X (x3 + 2).toNatClampNeg)]) (rest := []) e1 (c5_ofTank (w_l X) (w_x X (x3 + 1).toNatClampNeg) (w_x X (x3 + 2).toNatClampNeg) SX) (fun _ => rfl) rfl w_300 w_301 w_302 w_45 w_303 hy_X5_ofTank ⟨rfl, rfl, by decide, by decide⟩ rfl rfl (Nat.le_of_ble_eq_true rfl) dL_232 ?_
  refine q_aload O dL_235 2 rfl ?_
  refine q_aload O dL_236 0 rfl ?_
  refine q_iload O dL_237 3 rfl ?_
  refine q_iconst O dL_238 (v := 1) (by decide) ?_
  refine q_iadd O dL_239 ?_
  refine q_sld O hv.2.1 dL_240 ?_
  refine q_aload O dL_241 0 rfl ?_
  refine q_iload O dL_242 3 rfl ?_
  refine q_iconst O dL_243 (v := 2) (by decide) ?_
  refine q_iadd O dL_244 ?_
  refine q_sld O hv.2.2.1 dL_245 ?_
  refine q_callMi O (bv := fun _ => [.int (w_x X (x3 + 1).toNatClampNeg), .int (w_x X (x3 + 2).toNatClampNeg)]) (rest := [.int r]) e2 (c6_ofTank (w_l X) (w_x X (x3 + 1).toNatClampNeg) (w_x X (x3 + 2).toNatClampNeg) SM) (fun _ => rfl) rfl w_793 w_794 w_795 w_51 w_796 hy_X6_ofTank ⟨rfl, rfl, by decide, by decide⟩ rfl rfl (Nat.le_of_ble_eq_true rfl) dL_246 ?_
  refine q_eq O 1031 dL_249 (by decide) ?_
  exact K SX2 SM2 hR2
theorem lc_2 {Rel : MS → MS → Prop} {X : LW} (O : OL X) {SX SM : MS} {x3 : Int32} (hv : vp_in x3 (w_L X) ∧ vp_in (x3 + 1) (w_L X) ∧ vp_in (x3 + 2) (w_L X) ∧ vp_in (x3 + 3) (w_L X) ∧ vp_in (x3 + 4) (w_L X) ∧ vp_in (x3 + 5) (w_L X)) (hR : Rel SX SM) (hs : SimI Rel (f5_mass (w_x X (x3 + 1).toNatClampNeg) (w_x X (x3 + 2).toNatClampNeg)) (f6_mass (w_x X (x3 + 1).toNatClampNeg) (w_x X (x3 + 2).toNatClampNeg))) (K : ∀ SX2 SM2, Rel SX2 SM2 → GL X SX2 SM2 1031 [(0, .ref (w_b X)), (1, .ref (ln_1 X 0)), (2, .ref (ln_2 X 0)), (3, .int x3)] []) : GL X SX SM 254 [(0, .ref (w_b X)), (1, .ref (ln_1 X 0)), (2, .ref (ln_2 X 0)), (3, .int x3)] [] := by
  refine q_aload O dL_254 1 rfl ?_
  refine q_aload O dL_255 0 rfl ?_
  refine q_iload O dL_256 3 rfl ?_
  refine q_iconst O dL_257 (v := 1) (by decide) ?_
  refine q_iadd O dL_258 ?_
  refine q_sld O hv.2.1 dL_259 ?_
  refine q_aload O dL_260 0 rfl ?_
  refine q_iload O dL_261 3 rfl ?_
  refine q_iconst O dL_262 (v := 2) (by decide) ?_
  refine q_iadd O dL_263 ?_
  refine q_sld O hv.2.2.1 dL_264 ?_
  obtain ⟨r, SX2, SM2, e1, e2, hR2⟩ := hs SX SM hR
  refine q_callXi O (bv := fun _ => [.int (w_x X (x3 + 1).toNatClampNeg), .int (w_x X (x3 + 2).toNatClampNeg)]) (rest := []) e1 (c5_mass (w_l X) (w_x X (x3 + 1).toNatClampNeg) (w_x X (x3 + 2).toNatClampNeg) SX) (fun _ => rfl) rfl w_367 w_368 w_369 w_45 w_370 hy_X5_mass ⟨rfl, rfl, by decide, by decide⟩ rfl rfl (Nat.le_of_ble_eq_true rfl) dL_265 ?_
  refine q_aload O dL_268 2 rfl ?_
  refine q_aload O dL_269 0 rfl ?_
  refine q_iload O dL_270 3 rfl ?_
  refine q_iconst O dL_271 (v := 1) (by decide) ?_
  refine q_iadd O dL_272 ?_
  refine q_sld O hv.2.1 dL_273 ?_
  refine q_aload O dL_274 0 rfl ?_
  refine q_iload O dL_275 3 rfl ?_
  refine q_iconst O dL_276 (v := 2) (by decide) ?_
  refine q_iadd O dL_277 ?_
  refine q_sld O hv.2.2.1 dL_278 ?_
  refine q_callMi O (bv := fun _ => [.int (w_x X (x3 + 1).toNatClampNeg), .int (w_x X (x3 + 2).toNatClampNeg)]) (rest := [.int r]) e2 (c6_mass (w_l X) (w_x X (x3 + 1).toNatClampNeg) (w_x X (x3 + 2).toNatClampNeg) SM) (fun _ => rfl) rfl w_828 w_829 w_830 w_51 w_831 hy_X6_mass ⟨rfl, rfl, by decide, by decide⟩ rfl rfl (Nat.le_of_ble_eq_true rfl) dL_279 ?_
  refine q_eq O 1031 dL_282 (by decide) ?_
  exact K SX2 SM2 hR2
theorem lc_3 {Rel : MS → MS → Prop} {X : LW} (O : OL X) {SX SM : MS} {x3 : Int32} (hv : vp_in x3 (w_L X) ∧ vp_in (x3 + 1) (w_L X) ∧ vp_in (x3 + 2) (w_L X) ∧ vp_in (x3 + 3) (w_L X) ∧ vp_in (x3 + 4) (w_L X) ∧ vp_in (x3 + 5) (w_L X)) (hR : Rel SX SM) (hs : SimI Rel (f5_bound (w_x X (x3 + 1).toNatClampNeg) (w_x X (x3 + 2).toNatClampNeg)) (f6_bound (w_x X (x3 + 1).toNatClampNeg) (w_x X (x3 + 2).toNatClampNeg))) (K : ∀ SX2 SM2, Rel SX2 SM2 → GL X SX2 SM2 1031 [(0, .ref (w_b X)), (1, .ref (ln_1 X 0)), (2, .ref (ln_2 X 0)), (3, .int x3)] []) : GL X SX SM 287 [(0, .ref (w_b X)), (1, .ref (ln_1 X 0)), (2, .ref (ln_2 X 0)), (3, .int x3)] [] := by
  refine q_aload O dL_287 1 rfl ?_
  refine q_aload O dL_288 0 rfl ?_
  refine q_iload O dL_289 3 rfl ?_
  refine q_iconst O dL_290 (v := 1) (by decide) ?_
  refine q_iadd O dL_291 ?_
  refine q_sld O hv.2.1 dL_292 ?_
  refine q_aload O dL_293 0 rfl ?_
  refine q_iload O dL_294 3 rfl ?_
  refine q_iconst O dL_295 (v := 2) (by decide) ?_
  refine q_iadd O dL_296 ?_
  refine q_sld O hv.2.2.1 dL_297 ?_
  obtain ⟨r, SX2, SM2, e1, e2, hR2⟩ := hs SX SM hR
  refine q_callXi O (bv := fun _ => [.int (w_x X (x3 + 1).toNatClampNeg), .int (w_x X (x3 + 2).toNatClampNeg)]) (rest := []) e1 (c5_bound (w_l X) (w_x X (x3 + 1).toNatClampNeg) (w_x X (x3 + 2).toNatClampNeg) SX) (fun _ => rfl) rfl w_371 w_372 w_373 w_45 w_374 hy_X5_bound ⟨rfl, rfl, by decide, by decide⟩ rfl rfl (Nat.le_of_ble_eq_true rfl) dL_298 ?_
  refine q_aload O dL_301 2 rfl ?_
  refine q_aload O dL_302 0 rfl ?_
  refine q_iload O dL_303 3 rfl ?_
  refine q_iconst O dL_304 (v := 1) (by decide) ?_
  refine q_iadd O dL_305 ?_
  refine q_sld O hv.2.1 dL_306 ?_
  refine q_aload O dL_307 0 rfl ?_
  refine q_iload O dL_308 3 rfl ?_
  refine q_iconst O dL_309 (v := 2) (by decide) ?_
  refine q_iadd O dL_310 ?_
  refine q_sld O hv.2.2.1 dL_311 ?_
  refine q_callMi O (bv := fun _ => [.int (w_x X (x3 + 1).toNatClampNeg), .int (w_x X (x3 + 2).toNatClampNeg)]) (rest := [.int r]) e2 (c6_bound (w_l X) (w_x X (x3 + 1).toNatClampNeg) (w_x X (x3 + 2).toNatClampNeg) SM) (fun _ => rfl) rfl w_833 w_834 w_835 w_51 w_836 hy_X6_bound ⟨rfl, rfl, by decide, by decide⟩ rfl rfl (Nat.le_of_ble_eq_true rfl) dL_312 ?_
  refine q_eq O 1031 dL_315 (by decide) ?_
  exact K SX2 SM2 hR2
theorem lc_4 {Rel : MS → MS → Prop} {X : LW} (O : OL X) {SX SM : MS} {x3 : Int32} (hv : vp_in x3 (w_L X) ∧ vp_in (x3 + 1) (w_L X) ∧ vp_in (x3 + 2) (w_L X) ∧ vp_in (x3 + 3) (w_L X) ∧ vp_in (x3 + 4) (w_L X) ∧ vp_in (x3 + 5) (w_L X)) (hR : Rel SX SM) (hs : SimI Rel (f5_due (w_x X (x3 + 1).toNatClampNeg)) (f6_due (w_x X (x3 + 1).toNatClampNeg))) (K : ∀ SX2 SM2, Rel SX2 SM2 → GL X SX2 SM2 1031 [(0, .ref (w_b X)), (1, .ref (ln_1 X 0)), (2, .ref (ln_2 X 0)), (3, .int x3)] []) : GL X SX SM 320 [(0, .ref (w_b X)), (1, .ref (ln_1 X 0)), (2, .ref (ln_2 X 0)), (3, .int x3)] [] := by
  refine q_aload O dL_320 1 rfl ?_
  refine q_aload O dL_321 0 rfl ?_
  refine q_iload O dL_322 3 rfl ?_
  refine q_iconst O dL_323 (v := 1) (by decide) ?_
  refine q_iadd O dL_324 ?_
  refine q_sld O hv.2.1 dL_325 ?_
  obtain ⟨r, SX2, SM2, e1, e2, hR2⟩ := hs SX SM hR
  refine q_callXi O (bv := fun _ => [.int (w_x X (x3 + 1).toNatClampNeg)]) (rest := []) e1 (c5_due (w_l X) (w_x X (x3 + 1).toNatClampNeg) SX) (fun _ => rfl) rfl w_379 w_380 w_381 w_45 w_382 hy_X5_due ⟨rfl, rfl, by decide, by decide⟩ rfl rfl (Nat.le_of_ble_eq_true rfl) dL_326 ?_
  refine q_aload O dL_329 2 rfl ?_
  refine q_aload O dL_330 0 rfl ?_
  refine q_iload O dL_331 3 rfl ?_
  refine q_iconst O dL_332 (v := 1) (by decide) ?_
  refine q_iadd O dL_333 ?_
  refine q_sld O hv.2.1 dL_334 ?_
  refine q_callMi O (bv := fun _ => [.int (w_x X (x3 + 1).toNatClampNeg)]) (rest := [.int r]) e2 (c6_due (w_l X) (w_x X (x3 + 1).toNatClampNeg) SM) (fun _ => rfl) rfl w_838 w_839 w_840 w_51 w_841 hy_X6_due ⟨rfl, rfl, by decide, by decide⟩ rfl rfl (Nat.le_of_ble_eq_true rfl) dL_335 ?_
  refine q_eq O 1031 dL_338 (by decide) ?_
  exact K SX2 SM2 hR2
theorem lc_5 {Rel : MS → MS → Prop} {X : LW} (O : OL X) {SX SM : MS} {x3 : Int32} (hv : vp_in x3 (w_L X) ∧ vp_in (x3 + 1) (w_L X) ∧ vp_in (x3 + 2) (w_L X) ∧ vp_in (x3 + 3) (w_L X) ∧ vp_in (x3 + 4) (w_L X) ∧ vp_in (x3 + 5) (w_L X)) (hR : Rel SX SM) (hs : SimI Rel (f5_fail (w_x X (x3 + 1).toNatClampNeg)) (f6_fail (w_x X (x3 + 1).toNatClampNeg))) (K : ∀ SX2 SM2, Rel SX2 SM2 → GL X SX2 SM2 1031 [(0, .ref (w_b X)), (1, .ref (ln_1 X 0)), (2, .ref (ln_2 X 0)), (3, .int x3)] []) : GL X SX SM 343 [(0, .ref (w_b X)), (1, .ref (ln_1 X 0)), (2, .ref (ln_2 X 0)), (3, .int x3)] [] := by
  refine q_aload O dL_343 1 rfl ?_
  refine q_aload O dL_344 0 rfl ?_
  refine q_iload O dL_345 3 rfl ?_
  refine q_iconst O dL_346 (v := 1) (by decide) ?_
  refine q_iadd O dL_347 ?_
  refine q_sld O hv.2.1 dL_348 ?_
  obtain ⟨r, SX2, SM2, e1, e2, hR2⟩ := hs SX SM hR
  refine q_callXi O (bv := fun _ => [.int (w_x X (x3 + 1).toNatClampNeg)]) (rest := []) e1 (c5_fail (w_l X) (w_x X (x3 + 1).toNatClampNeg) SX) (fun _ => rfl) rfl w_383 w_384 w_385 w_45 w_386 hy_X5_fail ⟨rfl, rfl, by decide, by decide⟩ rfl rfl (Nat.le_of_ble_eq_true rfl) dL_349 ?_
  refine q_aload O dL_352 2 rfl ?_
  refine q_aload O dL_353 0 rfl ?_
  refine q_iload O dL_354 3 rfl ?_
  refine q_iconst O dL_355 (v := 1) (by decide) ?_
  refine q_iadd O dL_356 ?_
  refine q_sld O hv.2.1 dL_357 ?_
  refine q_callMi O (bv := fun _ => [.int (w_x X (x3 + 1).toNatClampNeg)]) (rest := [.int r]) e2 (c6_fail (w_l X) (w_x X (x3 + 1).toNatClampNeg) SM) (fun _ => rfl) rfl w_842 w_843 w_844 w_51 w_845 hy_X6_fail ⟨rfl, rfl, by decide, by decide⟩ rfl rfl (Nat.le_of_ble_eq_true rfl) dL_358 ?_
  refine q_eq O 1031 dL_361 (by decide) ?_
  exact K SX2 SM2 hR2
theorem lc_6 {Rel : MS → MS → Prop} {X : LW} (O : OL X) {SX SM : MS} {x3 : Int32} (hv : vp_in x3 (w_L X) ∧ vp_in (x3 + 1) (w_L X) ∧ vp_in (x3 + 2) (w_L X) ∧ vp_in (x3 + 3) (w_L X) ∧ vp_in (x3 + 4) (w_L X) ∧ vp_in (x3 + 5) (w_L X)) (hR : Rel SX SM) (hs : SimI Rel (f5_measure (w_x X (x3 + 1).toNatClampNeg)) (f6_measure (w_x X (x3 + 1).toNatClampNeg))) (K : ∀ SX2 SM2, Rel SX2 SM2 → GL X SX2 SM2 1031 [(0, .ref (w_b X)), (1, .ref (ln_1 X 0)), (2, .ref (ln_2 X 0)), (3, .int x3)] []) : GL X SX SM 366 [(0, .ref (w_b X)), (1, .ref (ln_1 X 0)), (2, .ref (ln_2 X 0)), (3, .int x3)] [] := by
  refine q_aload O dL_366 1 rfl ?_
  refine q_aload O dL_367 0 rfl ?_
  refine q_iload O dL_368 3 rfl ?_
  refine q_iconst O dL_369 (v := 1) (by decide) ?_
  refine q_iadd O dL_370 ?_
  refine q_sld O hv.2.1 dL_371 ?_
  obtain ⟨r, SX2, SM2, e1, e2, hR2⟩ := hs SX SM hR
  refine q_callXi O (bv := fun _ => [.int (w_x X (x3 + 1).toNatClampNeg)]) (rest := []) e1 (c5_measure (w_l X) (w_x X (x3 + 1).toNatClampNeg) SX) (fun _ => rfl) rfl w_387 w_388 w_389 w_45 w_390 hy_X5_measure ⟨rfl, rfl, by decide, by decide⟩ rfl rfl (Nat.le_of_ble_eq_true rfl) dL_372 ?_
  refine q_aload O dL_375 2 rfl ?_
  refine q_aload O dL_376 0 rfl ?_
  refine q_iload O dL_377 3 rfl ?_
  refine q_iconst O dL_378 (v := 1) (by decide) ?_
  refine q_iadd O dL_379 ?_
  refine q_sld O hv.2.1 dL_380 ?_
  refine q_callMi O (bv := fun _ => [.int (w_x X (x3 + 1).toNatClampNeg)]) (rest := [.int r]) e2 (c6_measure (w_l X) (w_x X (x3 + 1).toNatClampNeg) SM) (fun _ => rfl) rfl w_846 w_847 w_848 w_51 w_849 hy_X6_measure ⟨rfl, rfl, by decide, by decide⟩ rfl rfl (Nat.le_of_ble_eq_true rfl) dL_381 ?_
  refine q_eq O 1031 dL_384 (by decide) ?_
  exact K SX2 SM2 hR2
theorem lc_7 {Rel : MS → MS → Prop} {X : LW} (O : OL X) {SX SM : MS} {x3 : Int32} (hv : vp_in x3 (w_L X) ∧ vp_in (x3 + 1) (w_L X) ∧ vp_in (x3 + 2) (w_L X) ∧ vp_in (x3 + 3) (w_L X) ∧ vp_in (x3 + 4) (w_L X) ∧ vp_in (x3 + 5) (w_L X)) (hR : Rel SX SM) (hs : SimI Rel (f5_moment (w_x X (x3 + 1).toNatClampNeg)) (f6_moment (w_x X (x3 + 1).toNatClampNeg))) (K : ∀ SX2 SM2, Rel SX2 SM2 → GL X SX2 SM2 1031 [(0, .ref (w_b X)), (1, .ref (ln_1 X 0)), (2, .ref (ln_2 X 0)), (3, .int x3)] []) : GL X SX SM 389 [(0, .ref (w_b X)), (1, .ref (ln_1 X 0)), (2, .ref (ln_2 X 0)), (3, .int x3)] [] := by
  refine q_aload O dL_389 1 rfl ?_
  refine q_aload O dL_390 0 rfl ?_
  refine q_iload O dL_391 3 rfl ?_
  refine q_iconst O dL_392 (v := 1) (by decide) ?_
  refine q_iadd O dL_393 ?_
  refine q_sld O hv.2.1 dL_394 ?_
  obtain ⟨r, SX2, SM2, e1, e2, hR2⟩ := hs SX SM hR
  refine q_callXi O (bv := fun _ => [.int (w_x X (x3 + 1).toNatClampNeg)]) (rest := []) e1 (c5_moment (w_l X) (w_x X (x3 + 1).toNatClampNeg) SX) (fun _ => rfl) rfl w_395 w_396 w_397 w_45 w_398 hy_X5_moment ⟨rfl, rfl, by decide, by decide⟩ rfl rfl (Nat.le_of_ble_eq_true rfl) dL_395 ?_
  refine q_aload O dL_398 2 rfl ?_
  refine q_aload O dL_399 0 rfl ?_
  refine q_iload O dL_400 3 rfl ?_
  refine q_iconst O dL_401 (v := 1) (by decide) ?_
  refine q_iadd O dL_402 ?_
  refine q_sld O hv.2.1 dL_403 ?_
  refine q_callMi O (bv := fun _ => [.int (w_x X (x3 + 1).toNatClampNeg)]) (rest := [.int r]) e2 (c6_moment (w_l X) (w_x X (x3 + 1).toNatClampNeg) SM) (fun _ => rfl) rfl w_854 w_855 w_856 w_51 w_857 hy_X6_moment ⟨rfl, rfl, by decide, by decide⟩ rfl rfl (Nat.le_of_ble_eq_true rfl) dL_404 ?_
  refine q_eq O 1031 dL_407 (by decide) ?_
  exact K SX2 SM2 hR2
theorem lc_8 {Rel : MS → MS → Prop} {X : LW} (O : OL X) {SX SM : MS} {x3 : Int32} (hv : vp_in x3 (w_L X) ∧ vp_in (x3 + 1) (w_L X) ∧ vp_in (x3 + 2) (w_L X) ∧ vp_in (x3 + 3) (w_L X) ∧ vp_in (x3 + 4) (w_L X) ∧ vp_in (x3 + 5) (w_L X)) (hR : Rel SX SM) (hs : SimI Rel (f5_pump (w_x X (x3 + 1).toNatClampNeg)) (f6_pump (w_x X (x3 + 1).toNatClampNeg))) (K : ∀ SX2 SM2, Rel SX2 SM2 → GL X SX2 SM2 1031 [(0, .ref (w_b X)), (1, .ref (ln_1 X 0)), (2, .ref (ln_2 X 0)), (3, .int x3)] []) : GL X SX SM 412 [(0, .ref (w_b X)), (1, .ref (ln_1 X 0)), (2, .ref (ln_2 X 0)), (3, .int x3)] [] := by
  refine q_aload O dL_412 1 rfl ?_
  refine q_aload O dL_413 0 rfl ?_
  refine q_iload O dL_414 3 rfl ?_
  refine q_iconst O dL_415 (v := 1) (by decide) ?_
  refine q_iadd O dL_416 ?_
  refine q_sld O hv.2.1 dL_417 ?_
  obtain ⟨r, SX2, SM2, e1, e2, hR2⟩ := hs SX SM hR
  refine q_callXi O (bv := fun _ => [.int (w_x X (x3 + 1).toNatClampNeg)]) (rest := []) e1 (c5_pump (w_l X) (w_x X (x3 + 1).toNatClampNeg) SX) (fun _ => rfl) rfl w_403 w_404 w_405 w_45 w_406 hy_X5_pump ⟨rfl, rfl, by decide, by decide⟩ rfl rfl (Nat.le_of_ble_eq_true rfl) dL_418 ?_
  refine q_aload O dL_421 2 rfl ?_
  refine q_aload O dL_422 0 rfl ?_
  refine q_iload O dL_423 3 rfl ?_
  refine q_iconst O dL_424 (v := 1) (by decide) ?_
  refine q_iadd O dL_425 ?_
  refine q_sld O hv.2.1 dL_426 ?_
  refine q_callMi O (bv := fun _ => [.int (w_x X (x3 + 1).toNatClampNeg)]) (rest := [.int r]) e2 (c6_pump (w_l X) (w_x X (x3 + 1).toNatClampNeg) SM) (fun _ => rfl) rfl w_859 w_860 w_861 w_51 w_862 hy_X6_pump ⟨rfl, rfl, by decide, by decide⟩ rfl rfl (Nat.le_of_ble_eq_true rfl) dL_427 ?_
  refine q_eq O 1031 dL_430 (by decide) ?_
  exact K SX2 SM2 hR2
theorem lc_9 {Rel : MS → MS → Prop} {X : LW} (O : OL X) {SX SM : MS} {x3 : Int32} (hv : vp_in x3 (w_L X) ∧ vp_in (x3 + 1) (w_L X) ∧ vp_in (x3 + 2) (w_L X) ∧ vp_in (x3 + 3) (w_L X) ∧ vp_in (x3 + 4) (w_L X) ∧ vp_in (x3 + 5) (w_L X)) (hR : Rel SX SM) (hs : SimI Rel (f5_plan (w_x X (x3 + 1).toNatClampNeg)) (f6_plan (w_x X (x3 + 1).toNatClampNeg))) (K : ∀ SX2 SM2, Rel SX2 SM2 → GL X SX2 SM2 1031 [(0, .ref (w_b X)), (1, .ref (ln_1 X 0)), (2, .ref (ln_2 X 0)), (3, .int x3)] []) : GL X SX SM 435 [(0, .ref (w_b X)), (1, .ref (ln_1 X 0)), (2, .ref (ln_2 X 0)), (3, .int x3)] [] := by
  refine q_aload O dL_435 1 rfl ?_
  refine q_aload O dL_436 0 rfl ?_
  refine q_iload O dL_437 3 rfl ?_
  refine q_iconst O dL_438 (v := 1) (by decide) ?_
  refine q_iadd O dL_439 ?_
  refine q_sld O hv.2.1 dL_440 ?_
  obtain ⟨r, SX2, SM2, e1, e2, hR2⟩ := hs SX SM hR
  refine q_callXi O (bv := fun _ => [.int (w_x X (x3 + 1).toNatClampNeg)]) (rest := []) e1 (c5_plan (w_l X) (w_x X (x3 + 1).toNatClampNeg) SX) (fun _ => rfl) rfl w_410 w_411 w_412 w_45 w_413 hy_X5_plan ⟨rfl, rfl, by decide, by decide⟩ rfl rfl (Nat.le_of_ble_eq_true rfl) dL_441 ?_
  refine q_aload O dL_444 2 rfl ?_
  refine q_aload O dL_445 0 rfl ?_
  refine q_iload O dL_446 3 rfl ?_
  refine q_iconst O dL_447 (v := 1) (by decide) ?_
  refine q_iadd O dL_448 ?_
  refine q_sld O hv.2.1 dL_449 ?_
  refine q_callMi O (bv := fun _ => [.int (w_x X (x3 + 1).toNatClampNeg)]) (rest := [.int r]) e2 (c6_plan (w_l X) (w_x X (x3 + 1).toNatClampNeg) SM) (fun _ => rfl) rfl w_863 w_864 w_865 w_51 w_866 hy_X6_plan ⟨rfl, rfl, by decide, by decide⟩ rfl rfl (Nat.le_of_ble_eq_true rfl) dL_450 ?_
  refine q_eq O 1031 dL_453 (by decide) ?_
  exact K SX2 SM2 hR2
theorem lc_10 {Rel : MS → MS → Prop} {X : LW} (O : OL X) {SX SM : MS} {x3 : Int32} (hv : vp_in x3 (w_L X) ∧ vp_in (x3 + 1) (w_L X) ∧ vp_in (x3 + 2) (w_L X) ∧ vp_in (x3 + 3) (w_L X) ∧ vp_in (x3 + 4) (w_L X) ∧ vp_in (x3 + 5) (w_L X)) (hR : Rel SX SM) (hs : SimL Rel (f5_plans) (f6_plans)) (K : ∀ SX2 SM2, Rel SX2 SM2 → GL X SX2 SM2 1031 [(0, .ref (w_b X)), (1, .ref (ln_1 X 0)), (2, .ref (ln_2 X 0)), (3, .int x3)] []) : GL X SX SM 458 [(0, .ref (w_b X)), (1, .ref (ln_1 X 0)), (2, .ref (ln_2 X 0)), (3, .int x3)] [] := by
  refine q_aload O dL_458 1 rfl ?_
  obtain ⟨r, SX2, SM2, e1, e2, hR2⟩ := hs SX SM hR
  refine q_callXl O (bv := fun _ => []) (rest := []) e1 (c5_plans (w_l X) SX) (fun _ => rfl) rfl w_453 w_454 w_455 w_45 w_456 hy_X5_plans ⟨rfl, rfl, by decide, by decide⟩ rfl rfl (Nat.le_of_ble_eq_true rfl) dL_459 ?_
  refine q_aload O dL_462 2 rfl ?_
  refine q_callMl O (bv := fun _ => []) (rest := [.long r]) e2 (c6_plans (w_l X) SM) (fun _ => rfl) rfl w_889 w_890 w_891 w_51 w_892 hy_X6_plans ⟨rfl, rfl, by decide, by decide⟩ rfl rfl (Nat.le_of_ble_eq_true rfl) dL_463 ?_
  refine q_leq O 1031 dL_466 dL_467 (by decide) ?_
  exact K SX2 SM2 hR2
theorem lc_11 {Rel : MS → MS → Prop} {X : LW} (O : OL X) {SX SM : MS} {x3 : Int32} (hv : vp_in x3 (w_L X) ∧ vp_in (x3 + 1) (w_L X) ∧ vp_in (x3 + 2) (w_L X) ∧ vp_in (x3 + 3) (w_L X) ∧ vp_in (x3 + 4) (w_L X) ∧ vp_in (x3 + 5) (w_L X)) (hR : Rel SX SM) (hs : SimI Rel (f5_day (w_x X (x3 + 1).toNatClampNeg) (w_x X (x3 + 2).toNatClampNeg) (w_x X (x3 + 3).toNatClampNeg) (w_x X (x3 + 4).toNatClampNeg) (w_x X (x3 + 5).toNatClampNeg)) (f6_day (w_x X (x3 + 1).toNatClampNeg) (w_x X (x3 + 2).toNatClampNeg) (w_x X (x3 + 3).toNatClampNeg) (w_x X (x3 + 4).toNatClampNeg) (w_x X (x3 + 5).toNatClampNeg))) (K : ∀ SX2 SM2, Rel SX2 SM2 → GL X SX2 SM2 1031 [(0, .ref (w_b X)), (1, .ref (ln_1 X 0)), (2, .ref (ln_2 X 0)), (3, .int x3)] []) : GL X SX SM 472 [(0, .ref (w_b X)), (1, .ref (ln_1 X 0)), (2, .ref (ln_2 X 0)), (3, .int x3)] [] := by
  refine q_aload O dL_472 1 rfl ?_
  refine q_aload O dL_473 0 rfl ?_
  refine q_iload O dL_474 3 rfl ?_
  refine q_iconst O dL_475 (v := 1) (by decide) ?_
  refine q_iadd O dL_476 ?_
  refine q_sld O hv.2.1 dL_477 ?_
  refine q_aload O dL_478 0 rfl ?_
  refine q_iload O dL_479 3 rfl ?_
  refine q_iconst O dL_480 (v := 2) (by decide) ?_
  refine q_iadd O dL_481 ?_
  refine q_sld O hv.2.2.1 dL_482 ?_
  refine q_aload O dL_483 0 rfl ?_
  refine q_iload O dL_484 3 rfl ?_
  refine q_iconst O dL_485 (v := 3) (by decide) ?_
  refine q_iadd O dL_486 ?_
  refine q_sld O hv.2.2.2.1 dL_487 ?_
  refine q_aload O dL_488 0 rfl ?_
  refine q_iload O dL_489 3 rfl ?_
  refine q_iconst O dL_490 (v := 4) (by decide) ?_
  refine q_iadd O dL_491 ?_
  refine q_sld O hv.2.2.2.2.1 dL_492 ?_
  refine q_aload O dL_493 0 rfl ?_
  refine q_iload O dL_494 3 rfl ?_
  refine q_iconst O dL_495 (v := 5) (by decide) ?_
  refine q_iadd O dL_496 ?_
  refine q_sld O hv.2.2.2.2.2 dL_497 ?_
  obtain ⟨r, SX2, SM2, e1, e2, hR2⟩ := hs SX SM hR
  refine q_callXi O (bv := fun _ => [.int (w_x X (x3 + 1).toNatClampNeg), .int (w_x X (x3 + 2).toNatClampNeg), .int (w_x X (x3 + 3).toNatClampNeg), .int (w_x X (x3 + 4).toNatClampNeg), .int (w_x X (x3 + 5).toNatClampNeg)]) (rest := []) e1 (c5_day (w_l X) (w_x X (x3 + 1).toNatClampNeg) (w_x X (x3 + 2).toNatClampNeg) (w_x X (x3 + 3).toNatClampNeg) (w_x X (x3 + 4).toNatClampNeg) (w_x X (x3 + 5).toNatClampNeg) SX) (fun _ => rfl) rfl w_462 w_463 w_464 w_45 w_465 hy_X5_day ⟨rfl, rfl, by decide, by decide⟩ rfl rfl (Nat.le_of_ble_eq_true rfl) dL_498 ?_
  refine q_aload O dL_501 2 rfl ?_
  refine q_aload O dL_502 0 rfl ?_
  refine q_iload O dL_503 3 rfl ?_
  refine q_iconst O dL_504 (v := 1) (by decide) ?_
  refine q_iadd O dL_505 ?_
  refine q_sld O hv.2.1 dL_506 ?_
  refine q_aload O dL_507 0 rfl ?_
  refine q_iload O dL_508 3 rfl ?_
  refine q_iconst O dL_509 (v := 2) (by decide) ?_
  refine q_iadd O dL_510 ?_
  refine q_sld O hv.2.2.1 dL_511 ?_
  refine q_aload O dL_512 0 rfl ?_
  refine q_iload O dL_513 3 rfl ?_
  refine q_iconst O dL_514 (v := 3) (by decide) ?_
  refine q_iadd O dL_515 ?_
  refine q_sld O hv.2.2.2.1 dL_516 ?_
  refine q_aload O dL_517 0 rfl ?_
  refine q_iload O dL_518 3 rfl ?_
  refine q_iconst O dL_519 (v := 4) (by decide) ?_
  refine q_iadd O dL_520 ?_
  refine q_sld O hv.2.2.2.2.1 dL_521 ?_
  refine q_aload O dL_522 0 rfl ?_
  refine q_iload O dL_523 3 rfl ?_
  refine q_iconst O dL_524 (v := 5) (by decide) ?_
  refine q_iadd O dL_525 ?_
  refine q_sld O hv.2.2.2.2.2 dL_526 ?_
  refine q_callMi O (bv := fun _ => [.int (w_x X (x3 + 1).toNatClampNeg), .int (w_x X (x3 + 2).toNatClampNeg), .int (w_x X (x3 + 3).toNatClampNeg), .int (w_x X (x3 + 4).toNatClampNeg), .int (w_x X (x3 + 5).toNatClampNeg)]) (rest := [.int r]) e2 (c6_day (w_l X) (w_x X (x3 + 1).toNatClampNeg) (w_x X (x3 + 2).toNatClampNeg) (w_x X (x3 + 3).toNatClampNeg) (w_x X (x3 + 4).toNatClampNeg) (w_x X (x3 + 5).toNatClampNeg) SM) (fun _ => rfl) rfl w_894 w_895 w_896 w_51 w_897 hy_X6_day ⟨rfl, rfl, by decide, by decide⟩ rfl rfl (Nat.le_of_ble_eq_true rfl) dL_527 ?_
  refine q_eq O 1031 dL_530 (by decide) ?_
  exact K SX2 SM2 hR2
theorem lc_12 {Rel : MS → MS → Prop} {X : LW} (O : OL X) {SX SM : MS} {x3 : Int32} (hv : vp_in x3 (w_L X) ∧ vp_in (x3 + 1) (w_L X) ∧ vp_in (x3 + 2) (w_L X) ∧ vp_in (x3 + 3) (w_L X) ∧ vp_in (x3 + 4) (w_L X) ∧ vp_in (x3 + 5) (w_L X)) (hR : Rel SX SM) (hs : SimI Rel (f5_states) (f6_states)) (K : ∀ SX2 SM2, Rel SX2 SM2 → GL X SX2 SM2 1031 [(0, .ref (w_b X)), (1, .ref (ln_1 X 0)), (2, .ref (ln_2 X 0)), (3, .int x3)] []) : GL X SX SM 535 [(0, .ref (w_b X)), (1, .ref (ln_1 X 0)), (2, .ref (ln_2 X 0)), (3, .int x3)] [] := by
  refine q_aload O dL_535 1 rfl ?_
  obtain ⟨r, SX2, SM2, e1, e2, hR2⟩ := hs SX SM hR
  refine q_callXi O (bv := fun _ => []) (rest := []) e1 (c5_states (w_l X) SX) (fun _ => rfl) rfl w_494 w_495 w_496 w_45 w_497 hy_X5_states ⟨rfl, rfl, by decide, by decide⟩ rfl rfl (Nat.le_of_ble_eq_true rfl) dL_536 ?_
  refine q_aload O dL_539 2 rfl ?_
  refine q_callMi O (bv := fun _ => []) (rest := [.int r]) e2 (c6_states (w_l X) SM) (fun _ => rfl) rfl w_915 w_916 w_917 w_51 w_918 hy_X6_states ⟨rfl, rfl, by decide, by decide⟩ rfl rfl (Nat.le_of_ble_eq_true rfl) dL_540 ?_
  refine q_eq O 1031 dL_543 (by decide) ?_
  exact K SX2 SM2 hR2
theorem lc_13 {Rel : MS → MS → Prop} {X : LW} (O : OL X) {SX SM : MS} {x3 : Int32} (hv : vp_in x3 (w_L X) ∧ vp_in (x3 + 1) (w_L X) ∧ vp_in (x3 + 2) (w_L X) ∧ vp_in (x3 + 3) (w_L X) ∧ vp_in (x3 + 4) (w_L X) ∧ vp_in (x3 + 5) (w_L X)) (hR : Rel SX SM) (hs : SimI Rel (f5_worst (w_x X (x3 + 1).toNatClampNeg)) (f6_worst (w_x X (x3 + 1).toNatClampNeg))) (K : ∀ SX2 SM2, Rel SX2 SM2 → GL X SX2 SM2 1031 [(0, .ref (w_b X)), (1, .ref (ln_1 X 0)), (2, .ref (ln_2 X 0)), (3, .int x3)] []) : GL X SX SM 548 [(0, .ref (w_b X)), (1, .ref (ln_1 X 0)), (2, .ref (ln_2 X 0)), (3, .int x3)] [] := by
  refine q_aload O dL_548 1 rfl ?_
  refine q_aload O dL_549 0 rfl ?_
  refine q_iload O dL_550 3 rfl ?_
  refine q_iconst O dL_551 (v := 1) (by decide) ?_
  refine q_iadd O dL_552 ?_
  refine q_sld O hv.2.1 dL_553 ?_
  obtain ⟨r, SX2, SM2, e1, e2, hR2⟩ := hs SX SM hR
  refine q_callXi O (bv := fun _ => [.int (w_x X (x3 + 1).toNatClampNeg)]) (rest := []) e1 (c5_worst (w_l X) (w_x X (x3 + 1).toNatClampNeg) SX) (fun _ => rfl) rfl w_498 w_499 w_500 w_45 w_501 hy_X5_worst ⟨rfl, rfl, by decide, by decide⟩ rfl rfl (Nat.le_of_ble_eq_true rfl) dL_554 ?_
  refine q_aload O dL_557 2 rfl ?_
  refine q_aload O dL_558 0 rfl ?_
  refine q_iload O dL_559 3 rfl ?_
  refine q_iconst O dL_560 (v := 1) (by decide) ?_
  refine q_iadd O dL_561 ?_
  refine q_sld O hv.2.1 dL_562 ?_
  refine q_callMi O (bv := fun _ => [.int (w_x X (x3 + 1).toNatClampNeg)]) (rest := [.int r]) e2 (c6_worst (w_l X) (w_x X (x3 + 1).toNatClampNeg) SM) (fun _ => rfl) rfl w_923 w_924 w_925 w_51 w_926 hy_X6_worst ⟨rfl, rfl, by decide, by decide⟩ rfl rfl (Nat.le_of_ble_eq_true rfl) dL_563 ?_
  refine q_eq O 1031 dL_566 (by decide) ?_
  exact K SX2 SM2 hR2
theorem lc_14 {Rel : MS → MS → Prop} {X : LW} (O : OL X) {SX SM : MS} {x3 : Int32} (hv : vp_in x3 (w_L X) ∧ vp_in (x3 + 1) (w_L X) ∧ vp_in (x3 + 2) (w_L X) ∧ vp_in (x3 + 3) (w_L X) ∧ vp_in (x3 + 4) (w_L X) ∧ vp_in (x3 + 5) (w_L X)) (hR : Rel SX SM) (hs : SimI Rel (f5_reading (w_x X (x3 + 1).toNatClampNeg)) (f6_reading (w_x X (x3 + 1).toNatClampNeg))) (K : ∀ SX2 SM2, Rel SX2 SM2 → GL X SX2 SM2 1031 [(0, .ref (w_b X)), (1, .ref (ln_1 X 0)), (2, .ref (ln_2 X 0)), (3, .int x3)] []) : GL X SX SM 571 [(0, .ref (w_b X)), (1, .ref (ln_1 X 0)), (2, .ref (ln_2 X 0)), (3, .int x3)] [] := by
  refine q_aload O dL_571 1 rfl ?_
  refine q_aload O dL_572 0 rfl ?_
  refine q_iload O dL_573 3 rfl ?_
  refine q_iconst O dL_574 (v := 1) (by decide) ?_
  refine q_iadd O dL_575 ?_
  refine q_sld O hv.2.1 dL_576 ?_
  obtain ⟨r, SX2, SM2, e1, e2, hR2⟩ := hs SX SM hR
  refine q_callXi O (bv := fun _ => [.int (w_x X (x3 + 1).toNatClampNeg)]) (rest := []) e1 (c5_reading (w_l X) (w_x X (x3 + 1).toNatClampNeg) SX) (fun _ => rfl) rfl w_512 w_513 w_514 w_45 w_515 hy_X5_reading ⟨rfl, rfl, by decide, by decide⟩ rfl rfl (Nat.le_of_ble_eq_true rfl) dL_577 ?_
  refine q_aload O dL_580 2 rfl ?_
  refine q_aload O dL_581 0 rfl ?_
  refine q_iload O dL_582 3 rfl ?_
  refine q_iconst O dL_583 (v := 1) (by decide) ?_
  refine q_iadd O dL_584 ?_
  refine q_sld O hv.2.1 dL_585 ?_
  refine q_callMi O (bv := fun _ => [.int (w_x X (x3 + 1).toNatClampNeg)]) (rest := [.int r]) e2 (c6_reading (w_l X) (w_x X (x3 + 1).toNatClampNeg) SM) (fun _ => rfl) rfl w_927 w_928 w_929 w_51 w_930 hy_X6_reading ⟨rfl, rfl, by decide, by decide⟩ rfl rfl (Nat.le_of_ble_eq_true rfl) dL_586 ?_
  refine q_eq O 1031 dL_589 (by decide) ?_
  exact K SX2 SM2 hR2
theorem lc_15 {Rel : MS → MS → Prop} {X : LW} (O : OL X) {SX SM : MS} {x3 : Int32} (hv : vp_in x3 (w_L X) ∧ vp_in (x3 + 1) (w_L X) ∧ vp_in (x3 + 2) (w_L X) ∧ vp_in (x3 + 3) (w_L X) ∧ vp_in (x3 + 4) (w_L X) ∧ vp_in (x3 + 5) (w_L X)) (hR : Rel SX SM) (hs : SimI Rel (f5_back (w_x X (x3 + 1).toNatClampNeg)) (f6_back (w_x X (x3 + 1).toNatClampNeg))) (K : ∀ SX2 SM2, Rel SX2 SM2 → GL X SX2 SM2 1031 [(0, .ref (w_b X)), (1, .ref (ln_1 X 0)), (2, .ref (ln_2 X 0)), (3, .int x3)] []) : GL X SX SM 594 [(0, .ref (w_b X)), (1, .ref (ln_1 X 0)), (2, .ref (ln_2 X 0)), (3, .int x3)] [] := by
  refine q_aload O dL_594 1 rfl ?_
  refine q_aload O dL_595 0 rfl ?_
  refine q_iload O dL_596 3 rfl ?_
  refine q_iconst O dL_597 (v := 1) (by decide) ?_
  refine q_iadd O dL_598 ?_
  refine q_sld O hv.2.1 dL_599 ?_
  obtain ⟨r, SX2, SM2, e1, e2, hR2⟩ := hs SX SM hR
  refine q_callXi O (bv := fun _ => [.int (w_x X (x3 + 1).toNatClampNeg)]) (rest := []) e1 (c5_back (w_l X) (w_x X (x3 + 1).toNatClampNeg) SX) (fun _ => rfl) rfl w_516 w_517 w_518 w_45 w_519 hy_X5_back ⟨rfl, rfl, by decide, by decide⟩ rfl rfl (Nat.le_of_ble_eq_true rfl) dL_600 ?_
  refine q_aload O dL_603 2 rfl ?_
  refine q_aload O dL_604 0 rfl ?_
  refine q_iload O dL_605 3 rfl ?_
  refine q_iconst O dL_606 (v := 1) (by decide) ?_
  refine q_iadd O dL_607 ?_
  refine q_sld O hv.2.1 dL_608 ?_
  refine q_callMi O (bv := fun _ => [.int (w_x X (x3 + 1).toNatClampNeg)]) (rest := [.int r]) e2 (c6_back (w_l X) (w_x X (x3 + 1).toNatClampNeg) SM) (fun _ => rfl) rfl w_933 w_934 w_935 w_51 w_936 hy_X6_back ⟨rfl, rfl, by decide, by decide⟩ rfl rfl (Nat.le_of_ble_eq_true rfl) dL_609 ?_
  refine q_eq O 1031 dL_612 (by decide) ?_
  exact K SX2 SM2 hR2
theorem lc_16 {Rel : MS → MS → Prop} {X : LW} (O : OL X) {SX SM : MS} {x3 : Int32} (hv : vp_in x3 (w_L X) ∧ vp_in (x3 + 1) (w_L X) ∧ vp_in (x3 + 2) (w_L X) ∧ vp_in (x3 + 3) (w_L X) ∧ vp_in (x3 + 4) (w_L X) ∧ vp_in (x3 + 5) (w_L X)) (hR : Rel SX SM) (hs : SimI Rel (f5_kinds (w_x X (x3 + 1).toNatClampNeg)) (f6_kinds (w_x X (x3 + 1).toNatClampNeg))) (K : ∀ SX2 SM2, Rel SX2 SM2 → GL X SX2 SM2 1031 [(0, .ref (w_b X)), (1, .ref (ln_1 X 0)), (2, .ref (ln_2 X 0)), (3, .int x3)] []) : GL X SX SM 617 [(0, .ref (w_b X)), (1, .ref (ln_1 X 0)), (2, .ref (ln_2 X 0)), (3, .int x3)] [] := by
  refine q_aload O dL_617 1 rfl ?_
  refine q_aload O dL_618 0 rfl ?_
  refine q_iload O dL_619 3 rfl ?_
  refine q_iconst O dL_620 (v := 1) (by decide) ?_
  refine q_iadd O dL_621 ?_
  refine q_sld O hv.2.1 dL_622 ?_
  obtain ⟨r, SX2, SM2, e1, e2, hR2⟩ := hs SX SM hR
  refine q_callXi O (bv := fun _ => [.int (w_x X (x3 + 1).toNatClampNeg)]) (rest := []) e1 (c5_kinds (w_l X) (w_x X (x3 + 1).toNatClampNeg) SX) (fun _ => rfl) rfl w_520 w_521 w_522 w_45 w_523 hy_X5_kinds ⟨rfl, rfl, by decide, by decide⟩ rfl rfl (Nat.le_of_ble_eq_true rfl) dL_623 ?_
  refine q_aload O dL_626 2 rfl ?_
  refine q_aload O dL_627 0 rfl ?_
  refine q_iload O dL_628 3 rfl ?_
  refine q_iconst O dL_629 (v := 1) (by decide) ?_
  refine q_iadd O dL_630 ?_
  refine q_sld O hv.2.1 dL_631 ?_
  refine q_callMi O (bv := fun _ => [.int (w_x X (x3 + 1).toNatClampNeg)]) (rest := [.int r]) e2 (c6_kinds (w_l X) (w_x X (x3 + 1).toNatClampNeg) SM) (fun _ => rfl) rfl w_937 w_938 w_939 w_51 w_940 hy_X6_kinds ⟨rfl, rfl, by decide, by decide⟩ rfl rfl (Nat.le_of_ble_eq_true rfl) dL_632 ?_
  refine q_eq O 1031 dL_635 (by decide) ?_
  exact K SX2 SM2 hR2
theorem lc_17 {Rel : MS → MS → Prop} {X : LW} (O : OL X) {SX SM : MS} {x3 : Int32} (hv : vp_in x3 (w_L X) ∧ vp_in (x3 + 1) (w_L X) ∧ vp_in (x3 + 2) (w_L X) ∧ vp_in (x3 + 3) (w_L X) ∧ vp_in (x3 + 4) (w_L X) ∧ vp_in (x3 + 5) (w_L X)) (hR : Rel SX SM) (hs : SimI Rel (f5_masses (w_x X (x3 + 1).toNatClampNeg)) (f6_masses (w_x X (x3 + 1).toNatClampNeg))) (K : ∀ SX2 SM2, Rel SX2 SM2 → GL X SX2 SM2 1031 [(0, .ref (w_b X)), (1, .ref (ln_1 X 0)), (2, .ref (ln_2 X 0)), (3, .int x3)] []) : GL X SX SM 640 [(0, .ref (w_b X)), (1, .ref (ln_1 X 0)), (2, .ref (ln_2 X 0)), (3, .int x3)] [] := by
  refine q_aload O dL_640 1 rfl ?_
  refine q_aload O dL_641 0 rfl ?_
  refine q_iload O dL_642 3 rfl ?_
  refine q_iconst O dL_643 (v := 1) (by decide) ?_
  refine q_iadd O dL_644 ?_
  refine q_sld O hv.2.1 dL_645 ?_
  obtain ⟨r, SX2, SM2, e1, e2, hR2⟩ := hs SX SM hR
  refine q_callXi O (bv := fun _ => [.int (w_x X (x3 + 1).toNatClampNeg)]) (rest := []) e1 (c5_masses (w_l X) (w_x X (x3 + 1).toNatClampNeg) SX) (fun _ => rfl) rfl w_533 w_534 w_535 w_45 w_536 hy_X5_masses ⟨rfl, rfl, by decide, by decide⟩ rfl rfl (Nat.le_of_ble_eq_true rfl) dL_646 ?_
  refine q_aload O dL_649 2 rfl ?_
  refine q_aload O dL_650 0 rfl ?_
  refine q_iload O dL_651 3 rfl ?_
  refine q_iconst O dL_652 (v := 1) (by decide) ?_
  refine q_iadd O dL_653 ?_
  refine q_sld O hv.2.1 dL_654 ?_
  refine q_callMi O (bv := fun _ => [.int (w_x X (x3 + 1).toNatClampNeg)]) (rest := [.int r]) e2 (c6_masses (w_l X) (w_x X (x3 + 1).toNatClampNeg) SM) (fun _ => rfl) rfl w_945 w_946 w_947 w_51 w_948 hy_X6_masses ⟨rfl, rfl, by decide, by decide⟩ rfl rfl (Nat.le_of_ble_eq_true rfl) dL_655 ?_
  refine q_eq O 1031 dL_658 (by decide) ?_
  exact K SX2 SM2 hR2
theorem lc_18 {Rel : MS → MS → Prop} {X : LW} (O : OL X) {SX SM : MS} {x3 : Int32} (hv : vp_in x3 (w_L X) ∧ vp_in (x3 + 1) (w_L X) ∧ vp_in (x3 + 2) (w_L X) ∧ vp_in (x3 + 3) (w_L X) ∧ vp_in (x3 + 4) (w_L X) ∧ vp_in (x3 + 5) (w_L X)) (hR : Rel SX SM) (hs : SimL Rel (f5_odds (w_x X (x3 + 1).toNatClampNeg)) (f6_odds (w_x X (x3 + 1).toNatClampNeg))) (K : ∀ SX2 SM2, Rel SX2 SM2 → GL X SX2 SM2 1031 [(0, .ref (w_b X)), (1, .ref (ln_1 X 0)), (2, .ref (ln_2 X 0)), (3, .int x3)] []) : GL X SX SM 663 [(0, .ref (w_b X)), (1, .ref (ln_1 X 0)), (2, .ref (ln_2 X 0)), (3, .int x3)] [] := by
  refine q_aload O dL_663 1 rfl ?_
  refine q_aload O dL_664 0 rfl ?_
  refine q_iload O dL_665 3 rfl ?_
  refine q_iconst O dL_666 (v := 1) (by decide) ?_
  refine q_iadd O dL_667 ?_
  refine q_sld O hv.2.1 dL_668 ?_
  obtain ⟨r, SX2, SM2, e1, e2, hR2⟩ := hs SX SM hR
  refine q_callXl O (bv := fun _ => [.int (w_x X (x3 + 1).toNatClampNeg)]) (rest := []) e1 (c5_odds (w_l X) (w_x X (x3 + 1).toNatClampNeg) SX) (fun _ => rfl) rfl w_537 w_538 w_539 w_45 w_540 hy_X5_odds ⟨rfl, rfl, by decide, by decide⟩ rfl rfl (Nat.le_of_ble_eq_true rfl) dL_669 ?_
  refine q_aload O dL_672 2 rfl ?_
  refine q_aload O dL_673 0 rfl ?_
  refine q_iload O dL_674 3 rfl ?_
  refine q_iconst O dL_675 (v := 1) (by decide) ?_
  refine q_iadd O dL_676 ?_
  refine q_sld O hv.2.1 dL_677 ?_
  refine q_callMl O (bv := fun _ => [.int (w_x X (x3 + 1).toNatClampNeg)]) (rest := [.long r]) e2 (c6_odds (w_l X) (w_x X (x3 + 1).toNatClampNeg) SM) (fun _ => rfl) rfl w_949 w_950 w_951 w_51 w_952 hy_X6_odds ⟨rfl, rfl, by decide, by decide⟩ rfl rfl (Nat.le_of_ble_eq_true rfl) dL_678 ?_
  refine q_leq O 1031 dL_681 dL_682 (by decide) ?_
  exact K SX2 SM2 hR2
theorem lc_19 {Rel : MS → MS → Prop} {X : LW} (O : OL X) {SX SM : MS} {x3 : Int32} (hv : vp_in x3 (w_L X) ∧ vp_in (x3 + 1) (w_L X) ∧ vp_in (x3 + 2) (w_L X) ∧ vp_in (x3 + 3) (w_L X) ∧ vp_in (x3 + 4) (w_L X) ∧ vp_in (x3 + 5) (w_L X)) (hR : Rel SX SM) (hs : SimI Rel (f5_sheet (w_x X (x3 + 1).toNatClampNeg) (w_x X (x3 + 2).toNatClampNeg) (w_x X (x3 + 3).toNatClampNeg)) (f6_sheet (w_x X (x3 + 1).toNatClampNeg) (w_x X (x3 + 2).toNatClampNeg) (w_x X (x3 + 3).toNatClampNeg))) (K : ∀ SX2 SM2, Rel SX2 SM2 → GL X SX2 SM2 1031 [(0, .ref (w_b X)), (1, .ref (ln_1 X 0)), (2, .ref (ln_2 X 0)), (3, .int x3)] []) : GL X SX SM 687 [(0, .ref (w_b X)), (1, .ref (ln_1 X 0)), (2, .ref (ln_2 X 0)), (3, .int x3)] [] := by
  refine q_aload O dL_687 1 rfl ?_
  refine q_aload O dL_688 0 rfl ?_
  refine q_iload O dL_689 3 rfl ?_
  refine q_iconst O dL_690 (v := 1) (by decide) ?_
  refine q_iadd O dL_691 ?_
  refine q_sld O hv.2.1 dL_692 ?_
  refine q_aload O dL_693 0 rfl ?_
  refine q_iload O dL_694 3 rfl ?_
  refine q_iconst O dL_695 (v := 2) (by decide) ?_
  refine q_iadd O dL_696 ?_
  refine q_sld O hv.2.2.1 dL_697 ?_
  refine q_aload O dL_698 0 rfl ?_
  refine q_iload O dL_699 3 rfl ?_
  refine q_iconst O dL_700 (v := 3) (by decide) ?_
  refine q_iadd O dL_701 ?_
  refine q_sld O hv.2.2.2.1 dL_702 ?_
  obtain ⟨r, SX2, SM2, e1, e2, hR2⟩ := hs SX SM hR
  refine q_callXi O (bv := fun _ => [.int (w_x X (x3 + 1).toNatClampNeg), .int (w_x X (x3 + 2).toNatClampNeg), .int (w_x X (x3 + 3).toNatClampNeg)]) (rest := []) e1 (c5_sheet (w_l X) (w_x X (x3 + 1).toNatClampNeg) (w_x X (x3 + 2).toNatClampNeg) (w_x X (x3 + 3).toNatClampNeg) SX) (fun _ => rfl) rfl w_545 w_546 w_547 w_45 w_548 hy_X5_sheet ⟨rfl, rfl, by decide, by decide⟩ rfl rfl (Nat.le_of_ble_eq_true rfl) dL_703 ?_
  refine q_aload O dL_706 2 rfl ?_
  refine q_aload O dL_707 0 rfl ?_
  refine q_iload O dL_708 3 rfl ?_
  refine q_iconst O dL_709 (v := 1) (by decide) ?_
  refine q_iadd O dL_710 ?_
  refine q_sld O hv.2.1 dL_711 ?_
  refine q_aload O dL_712 0 rfl ?_
  refine q_iload O dL_713 3 rfl ?_
  refine q_iconst O dL_714 (v := 2) (by decide) ?_
  refine q_iadd O dL_715 ?_
  refine q_sld O hv.2.2.1 dL_716 ?_
  refine q_aload O dL_717 0 rfl ?_
  refine q_iload O dL_718 3 rfl ?_
  refine q_iconst O dL_719 (v := 3) (by decide) ?_
  refine q_iadd O dL_720 ?_
  refine q_sld O hv.2.2.2.1 dL_721 ?_
  refine q_callMi O (bv := fun _ => [.int (w_x X (x3 + 1).toNatClampNeg), .int (w_x X (x3 + 2).toNatClampNeg), .int (w_x X (x3 + 3).toNatClampNeg)]) (rest := [.int r]) e2 (c6_sheet (w_l X) (w_x X (x3 + 1).toNatClampNeg) (w_x X (x3 + 2).toNatClampNeg) (w_x X (x3 + 3).toNatClampNeg) SM) (fun _ => rfl) rfl w_956 w_957 w_958 w_51 w_959 hy_X6_sheet ⟨rfl, rfl, by decide, by decide⟩ rfl rfl (Nat.le_of_ble_eq_true rfl) dL_722 ?_
  refine q_eq O 1031 dL_725 (by decide) ?_
  exact K SX2 SM2 hR2
theorem lc_20 {Rel : MS → MS → Prop} {X : LW} (O : OL X) {SX SM : MS} {x3 : Int32} (hv : vp_in x3 (w_L X) ∧ vp_in (x3 + 1) (w_L X) ∧ vp_in (x3 + 2) (w_L X) ∧ vp_in (x3 + 3) (w_L X) ∧ vp_in (x3 + 4) (w_L X) ∧ vp_in (x3 + 5) (w_L X)) (hR : Rel SX SM) (hs : SimI Rel (f5_lose (w_x X (x3 + 1).toNatClampNeg)) (f6_lose (w_x X (x3 + 1).toNatClampNeg))) (K : ∀ SX2 SM2, Rel SX2 SM2 → GL X SX2 SM2 1031 [(0, .ref (w_b X)), (1, .ref (ln_1 X 0)), (2, .ref (ln_2 X 0)), (3, .int x3)] []) : GL X SX SM 730 [(0, .ref (w_b X)), (1, .ref (ln_1 X 0)), (2, .ref (ln_2 X 0)), (3, .int x3)] [] := by
  refine q_aload O dL_730 1 rfl ?_
  refine q_aload O dL_731 0 rfl ?_
  refine q_iload O dL_732 3 rfl ?_
  refine q_iconst O dL_733 (v := 1) (by decide) ?_
  refine q_iadd O dL_734 ?_
  refine q_sld O hv.2.1 dL_735 ?_
  obtain ⟨r, SX2, SM2, e1, e2, hR2⟩ := hs SX SM hR
  refine q_callXi O (bv := fun _ => [.int (w_x X (x3 + 1).toNatClampNeg)]) (rest := []) e1 (c5_lose (w_l X) (w_x X (x3 + 1).toNatClampNeg) SX) (fun _ => rfl) rfl w_554 w_555 w_556 w_45 w_557 hy_X5_lose ⟨rfl, rfl, by decide, by decide⟩ rfl rfl (Nat.le_of_ble_eq_true rfl) dL_736 ?_
  refine q_aload O dL_739 2 rfl ?_
  refine q_aload O dL_740 0 rfl ?_
  refine q_iload O dL_741 3 rfl ?_
  refine q_iconst O dL_742 (v := 1) (by decide) ?_
  refine q_iadd O dL_743 ?_
  refine q_sld O hv.2.1 dL_744 ?_
  refine q_callMi O (bv := fun _ => [.int (w_x X (x3 + 1).toNatClampNeg)]) (rest := [.int r]) e2 (c6_lose (w_l X) (w_x X (x3 + 1).toNatClampNeg) SM) (fun _ => rfl) rfl w_960 w_961 w_962 w_51 w_963 hy_X6_lose ⟨rfl, rfl, by decide, by decide⟩ rfl rfl (Nat.le_of_ble_eq_true rfl) dL_745 ?_
  refine q_eq O 1031 dL_748 (by decide) ?_
  exact K SX2 SM2 hR2
theorem lc_21 {Rel : MS → MS → Prop} {X : LW} (O : OL X) {SX SM : MS} {x3 : Int32} (hv : vp_in x3 (w_L X) ∧ vp_in (x3 + 1) (w_L X) ∧ vp_in (x3 + 2) (w_L X) ∧ vp_in (x3 + 3) (w_L X) ∧ vp_in (x3 + 4) (w_L X) ∧ vp_in (x3 + 5) (w_L X)) (hR : Rel SX SM) (hs : SimI Rel (f5_put (w_x X (x3 + 1).toNatClampNeg) (w_x X (x3 + 2).toNatClampNeg) (w_x X (x3 + 3).toNatClampNeg)) (f6_put (w_x X (x3 + 1).toNatClampNeg) (w_x X (x3 + 2).toNatClampNeg) (w_x X (x3 + 3).toNatClampNeg))) (K : ∀ SX2 SM2, Rel SX2 SM2 → GL X SX2 SM2 1031 [(0, .ref (w_b X)), (1, .ref (ln_1 X 0)), (2, .ref (ln_2 X 0)), (3, .int x3)] []) : GL X SX SM 753 [(0, .ref (w_b X)), (1, .ref (ln_1 X 0)), (2, .ref (ln_2 X 0)), (3, .int x3)] [] := by
  refine q_aload O dL_753 1 rfl ?_
  refine q_aload O dL_754 0 rfl ?_
  refine q_iload O dL_755 3 rfl ?_
  refine q_iconst O dL_756 (v := 1) (by decide) ?_
  refine q_iadd O dL_757 ?_
  refine q_sld O hv.2.1 dL_758 ?_
  refine q_aload O dL_759 0 rfl ?_
  refine q_iload O dL_760 3 rfl ?_
  refine q_iconst O dL_761 (v := 2) (by decide) ?_
  refine q_iadd O dL_762 ?_
  refine q_sld O hv.2.2.1 dL_763 ?_
  refine q_aload O dL_764 0 rfl ?_
  refine q_iload O dL_765 3 rfl ?_
  refine q_iconst O dL_766 (v := 3) (by decide) ?_
  refine q_iadd O dL_767 ?_
  refine q_sld O hv.2.2.2.1 dL_768 ?_
  obtain ⟨r, SX2, SM2, e1, e2, hR2⟩ := hs SX SM hR
  refine q_callXi O (bv := fun _ => [.int (w_x X (x3 + 1).toNatClampNeg), .int (w_x X (x3 + 2).toNatClampNeg), .int (w_x X (x3 + 3).toNatClampNeg)]) (rest := []) e1 (c5_put (w_l X) (w_x X (x3 + 1).toNatClampNeg) (w_x X (x3 + 2).toNatClampNeg) (w_x X (x3 + 3).toNatClampNeg) SX) (fun _ => rfl) rfl w_563 w_564 w_565 w_45 w_566 hy_X5_put ⟨rfl, rfl, by decide, by decide⟩ rfl rfl (Nat.le_of_ble_eq_true rfl) dL_769 ?_
  refine q_aload O dL_772 2 rfl ?_
  refine q_aload O dL_773 0 rfl ?_
  refine q_iload O dL_774 3 rfl ?_
  refine q_iconst O dL_775 (v := 1) (by decide) ?_
  refine q_iadd O dL_776 ?_
  refine q_sld O hv.2.1 dL_777 ?_
  refine q_aload O dL_778 0 rfl ?_
  refine q_iload O dL_779 3 rfl ?_
  refine q_iconst O dL_780 (v := 2) (by decide) ?_
  refine q_iadd O dL_781 ?_
  refine q_sld O hv.2.2.1 dL_782 ?_
  refine q_aload O dL_783 0 rfl ?_
  refine q_iload O dL_784 3 rfl ?_
  refine q_iconst O dL_785 (v := 3) (by decide) ?_
  refine q_iadd O dL_786 ?_
  refine q_sld O hv.2.2.2.1 dL_787 ?_
  refine q_callMi O (bv := fun _ => [.int (w_x X (x3 + 1).toNatClampNeg), .int (w_x X (x3 + 2).toNatClampNeg), .int (w_x X (x3 + 3).toNatClampNeg)]) (rest := [.int r]) e2 (c6_put (w_l X) (w_x X (x3 + 1).toNatClampNeg) (w_x X (x3 + 2).toNatClampNeg) (w_x X (x3 + 3).toNatClampNeg) SM) (fun _ => rfl) rfl w_964 w_965 w_966 w_51 w_967 hy_X6_put ⟨rfl, rfl, by decide, by decide⟩ rfl rfl (Nat.le_of_ble_eq_true rfl) dL_788 ?_
  refine q_eq O 1031 dL_791 (by decide) ?_
  exact K SX2 SM2 hR2
theorem lc_22 {Rel : MS → MS → Prop} {X : LW} (O : OL X) {SX SM : MS} {x3 : Int32} (hv : vp_in x3 (w_L X) ∧ vp_in (x3 + 1) (w_L X) ∧ vp_in (x3 + 2) (w_L X) ∧ vp_in (x3 + 3) (w_L X) ∧ vp_in (x3 + 4) (w_L X) ∧ vp_in (x3 + 5) (w_L X)) (hR : Rel SX SM) (hs : SimL Rel (f5_cell (w_x X (x3 + 1).toNatClampNeg) (w_x X (x3 + 2).toNatClampNeg) (w_x X (x3 + 3).toNatClampNeg)) (f6_cell (w_x X (x3 + 1).toNatClampNeg) (w_x X (x3 + 2).toNatClampNeg) (w_x X (x3 + 3).toNatClampNeg))) (K : ∀ SX2 SM2, Rel SX2 SM2 → GL X SX2 SM2 1031 [(0, .ref (w_b X)), (1, .ref (ln_1 X 0)), (2, .ref (ln_2 X 0)), (3, .int x3)] []) : GL X SX SM 796 [(0, .ref (w_b X)), (1, .ref (ln_1 X 0)), (2, .ref (ln_2 X 0)), (3, .int x3)] [] := by
  refine q_aload O dL_796 1 rfl ?_
  refine q_aload O dL_797 0 rfl ?_
  refine q_iload O dL_798 3 rfl ?_
  refine q_iconst O dL_799 (v := 1) (by decide) ?_
  refine q_iadd O dL_800 ?_
  refine q_sld O hv.2.1 dL_801 ?_
  refine q_aload O dL_802 0 rfl ?_
  refine q_iload O dL_803 3 rfl ?_
  refine q_iconst O dL_804 (v := 2) (by decide) ?_
  refine q_iadd O dL_805 ?_
  refine q_sld O hv.2.2.1 dL_806 ?_
  refine q_aload O dL_807 0 rfl ?_
  refine q_iload O dL_808 3 rfl ?_
  refine q_iconst O dL_809 (v := 3) (by decide) ?_
  refine q_iadd O dL_810 ?_
  refine q_sld O hv.2.2.2.1 dL_811 ?_
  obtain ⟨r, SX2, SM2, e1, e2, hR2⟩ := hs SX SM hR
  refine q_callXl O (bv := fun _ => [.int (w_x X (x3 + 1).toNatClampNeg), .int (w_x X (x3 + 2).toNatClampNeg), .int (w_x X (x3 + 3).toNatClampNeg)]) (rest := []) e1 (c5_cell (w_l X) (w_x X (x3 + 1).toNatClampNeg) (w_x X (x3 + 2).toNatClampNeg) (w_x X (x3 + 3).toNatClampNeg) SX) (fun _ => rfl) rfl w_571 w_572 w_573 w_45 w_574 hy_X5_cell ⟨rfl, rfl, by decide, by decide⟩ rfl rfl (Nat.le_of_ble_eq_true rfl) dL_812 ?_
  refine q_aload O dL_815 2 rfl ?_
  refine q_aload O dL_816 0 rfl ?_
  refine q_iload O dL_817 3 rfl ?_
  refine q_iconst O dL_818 (v := 1) (by decide) ?_
  refine q_iadd O dL_819 ?_
  refine q_sld O hv.2.1 dL_820 ?_
  refine q_aload O dL_821 0 rfl ?_
  refine q_iload O dL_822 3 rfl ?_
  refine q_iconst O dL_823 (v := 2) (by decide) ?_
  refine q_iadd O dL_824 ?_
  refine q_sld O hv.2.2.1 dL_825 ?_
  refine q_aload O dL_826 0 rfl ?_
  refine q_iload O dL_827 3 rfl ?_
  refine q_iconst O dL_828 (v := 3) (by decide) ?_
  refine q_iadd O dL_829 ?_
  refine q_sld O hv.2.2.2.1 dL_830 ?_
  refine q_callMl O (bv := fun _ => [.int (w_x X (x3 + 1).toNatClampNeg), .int (w_x X (x3 + 2).toNatClampNeg), .int (w_x X (x3 + 3).toNatClampNeg)]) (rest := [.long r]) e2 (c6_cell (w_l X) (w_x X (x3 + 1).toNatClampNeg) (w_x X (x3 + 2).toNatClampNeg) (w_x X (x3 + 3).toNatClampNeg) SM) (fun _ => rfl) rfl w_968 w_969 w_970 w_51 w_971 hy_X6_cell ⟨rfl, rfl, by decide, by decide⟩ rfl rfl (Nat.le_of_ble_eq_true rfl) dL_831 ?_
  refine q_leq O 1031 dL_834 dL_835 (by decide) ?_
  exact K SX2 SM2 hR2
theorem lc_23 {Rel : MS → MS → Prop} {X : LW} (O : OL X) {SX SM : MS} {x3 : Int32} (hv : vp_in x3 (w_L X) ∧ vp_in (x3 + 1) (w_L X) ∧ vp_in (x3 + 2) (w_L X) ∧ vp_in (x3 + 3) (w_L X) ∧ vp_in (x3 + 4) (w_L X) ∧ vp_in (x3 + 5) (w_L X)) (hR : Rel SX SM) (hs : SimI Rel (f5_copy (w_x X (x3 + 1).toNatClampNeg) (w_x X (x3 + 2).toNatClampNeg) (w_x X (x3 + 3).toNatClampNeg) (w_x X (x3 + 4).toNatClampNeg) (w_x X (x3 + 5).toNatClampNeg)) (f6_copy (w_x X (x3 + 1).toNatClampNeg) (w_x X (x3 + 2).toNatClampNeg) (w_x X (x3 + 3).toNatClampNeg) (w_x X (x3 + 4).toNatClampNeg) (w_x X (x3 + 5).toNatClampNeg))) (K : ∀ SX2 SM2, Rel SX2 SM2 → GL X SX2 SM2 1031 [(0, .ref (w_b X)), (1, .ref (ln_1 X 0)), (2, .ref (ln_2 X 0)), (3, .int x3)] []) : GL X SX SM 840 [(0, .ref (w_b X)), (1, .ref (ln_1 X 0)), (2, .ref (ln_2 X 0)), (3, .int x3)] [] := by
  refine q_aload O dL_840 1 rfl ?_
  refine q_aload O dL_841 0 rfl ?_
  refine q_iload O dL_842 3 rfl ?_
  refine q_iconst O dL_843 (v := 1) (by decide) ?_
  refine q_iadd O dL_844 ?_
  refine q_sld O hv.2.1 dL_845 ?_
  refine q_aload O dL_846 0 rfl ?_
  refine q_iload O dL_847 3 rfl ?_
  refine q_iconst O dL_848 (v := 2) (by decide) ?_
  refine q_iadd O dL_849 ?_
  refine q_sld O hv.2.2.1 dL_850 ?_
  refine q_aload O dL_851 0 rfl ?_
  refine q_iload O dL_852 3 rfl ?_
  refine q_iconst O dL_853 (v := 3) (by decide) ?_
  refine q_iadd O dL_854 ?_
  refine q_sld O hv.2.2.2.1 dL_855 ?_
  refine q_aload O dL_856 0 rfl ?_
  refine q_iload O dL_857 3 rfl ?_
  refine q_iconst O dL_858 (v := 4) (by decide) ?_
  refine q_iadd O dL_859 ?_
  refine q_sld O hv.2.2.2.2.1 dL_860 ?_
  refine q_aload O dL_861 0 rfl ?_
  refine q_iload O dL_862 3 rfl ?_
  refine q_iconst O dL_863 (v := 5) (by decide) ?_
  refine q_iadd O dL_864 ?_
  refine q_sld O hv.2.2.2.2.2 dL_865 ?_
  obtain ⟨r, SX2, SM2, e1, e2, hR2⟩ := hs SX SM hR
  refine q_callXi O (bv := fun _ => [.int (w_x X (x3 + 1).toNatClampNeg), .int (w_x X (x3 + 2).toNatClampNeg), .int (w_x X (x3 + 3).toNatClampNeg), .int (w_x X (x3 + 4).toNatClampNeg), .int (w_x X (x3 + 5).toNatClampNeg)]) (rest := []) e1 (c5_copy (w_l X) (w_x X (x3 + 1).toNatClampNeg) (w_x X (x3 + 2).toNatClampNeg) (w_x X (x3 + 3).toNatClampNeg) (w_x X (x3 + 4).toNatClampNeg) (w_x X (x3 + 5).toNatClampNeg) SX) (fun _ => rfl) rfl w_575 w_576 w_577 w_45 w_578 hy_X5_copy ⟨rfl, rfl, by decide, by decide⟩ rfl rfl (Nat.le_of_ble_eq_true rfl) dL_866 ?_
  refine q_aload O dL_869 2 rfl ?_
  refine q_aload O dL_870 0 rfl ?_
  refine q_iload O dL_871 3 rfl ?_
  refine q_iconst O dL_872 (v := 1) (by decide) ?_
  refine q_iadd O dL_873 ?_
  refine q_sld O hv.2.1 dL_874 ?_
  refine q_aload O dL_875 0 rfl ?_
  refine q_iload O dL_876 3 rfl ?_
  refine q_iconst O dL_877 (v := 2) (by decide) ?_
  refine q_iadd O dL_878 ?_
  refine q_sld O hv.2.2.1 dL_879 ?_
  refine q_aload O dL_880 0 rfl ?_
  refine q_iload O dL_881 3 rfl ?_
  refine q_iconst O dL_882 (v := 3) (by decide) ?_
  refine q_iadd O dL_883 ?_
  refine q_sld O hv.2.2.2.1 dL_884 ?_
  refine q_aload O dL_885 0 rfl ?_
  refine q_iload O dL_886 3 rfl ?_
  refine q_iconst O dL_887 (v := 4) (by decide) ?_
  refine q_iadd O dL_888 ?_
  refine q_sld O hv.2.2.2.2.1 dL_889 ?_
  refine q_aload O dL_890 0 rfl ?_
  refine q_iload O dL_891 3 rfl ?_
  refine q_iconst O dL_892 (v := 5) (by decide) ?_
  refine q_iadd O dL_893 ?_
  refine q_sld O hv.2.2.2.2.2 dL_894 ?_
  refine q_callMi O (bv := fun _ => [.int (w_x X (x3 + 1).toNatClampNeg), .int (w_x X (x3 + 2).toNatClampNeg), .int (w_x X (x3 + 3).toNatClampNeg), .int (w_x X (x3 + 4).toNatClampNeg), .int (w_x X (x3 + 5).toNatClampNeg)]) (rest := [.int r]) e2 (c6_copy (w_l X) (w_x X (x3 + 1).toNatClampNeg) (w_x X (x3 + 2).toNatClampNeg) (w_x X (x3 + 3).toNatClampNeg) (w_x X (x3 + 4).toNatClampNeg) (w_x X (x3 + 5).toNatClampNeg) SM) (fun _ => rfl) rfl w_976 w_977 w_978 w_51 w_979 hy_X6_copy ⟨rfl, rfl, by decide, by decide⟩ rfl rfl (Nat.le_of_ble_eq_true rfl) dL_895 ?_
  refine q_eq O 1031 dL_898 (by decide) ?_
  exact K SX2 SM2 hR2
theorem lc_24 {Rel : MS → MS → Prop} {X : LW} (O : OL X) {SX SM : MS} {x3 : Int32} (hv : vp_in x3 (w_L X) ∧ vp_in (x3 + 1) (w_L X) ∧ vp_in (x3 + 2) (w_L X) ∧ vp_in (x3 + 3) (w_L X) ∧ vp_in (x3 + 4) (w_L X) ∧ vp_in (x3 + 5) (w_L X)) (hR : Rel SX SM) (hs : SimI Rel (f5_tell (w_x X (x3 + 1).toNatClampNeg)) (f6_tell (w_x X (x3 + 1).toNatClampNeg))) (K : ∀ SX2 SM2, Rel SX2 SM2 → GL X SX2 SM2 1031 [(0, .ref (w_b X)), (1, .ref (ln_1 X 0)), (2, .ref (ln_2 X 0)), (3, .int x3)] []) : GL X SX SM 903 [(0, .ref (w_b X)), (1, .ref (ln_1 X 0)), (2, .ref (ln_2 X 0)), (3, .int x3)] [] := by
  refine q_aload O dL_903 1 rfl ?_
  refine q_aload O dL_904 0 rfl ?_
  refine q_iload O dL_905 3 rfl ?_
  refine q_iconst O dL_906 (v := 1) (by decide) ?_
  refine q_iadd O dL_907 ?_
  refine q_sld O hv.2.1 dL_908 ?_
  obtain ⟨r, SX2, SM2, e1, e2, hR2⟩ := hs SX SM hR
  refine q_callXi O (bv := fun _ => [.int (w_x X (x3 + 1).toNatClampNeg)]) (rest := []) e1 (c5_tell (w_l X) (w_x X (x3 + 1).toNatClampNeg) SX) (fun _ => rfl) rfl w_582 w_583 w_584 w_45 w_585 hy_X5_tell ⟨rfl, rfl, by decide, by decide⟩ rfl rfl (Nat.le_of_ble_eq_true rfl) dL_909 ?_
  refine q_aload O dL_912 2 rfl ?_
  refine q_aload O dL_913 0 rfl ?_
  refine q_iload O dL_914 3 rfl ?_
  refine q_iconst O dL_915 (v := 1) (by decide) ?_
  refine q_iadd O dL_916 ?_
  refine q_sld O hv.2.1 dL_917 ?_
  refine q_callMi O (bv := fun _ => [.int (w_x X (x3 + 1).toNatClampNeg)]) (rest := [.int r]) e2 (c6_tell (w_l X) (w_x X (x3 + 1).toNatClampNeg) SM) (fun _ => rfl) rfl w_980 w_981 w_982 w_51 w_983 hy_X6_tell ⟨rfl, rfl, by decide, by decide⟩ rfl rfl (Nat.le_of_ble_eq_true rfl) dL_918 ?_
  refine q_eq O 1031 dL_921 (by decide) ?_
  exact K SX2 SM2 hR2
theorem lc_25 {Rel : MS → MS → Prop} {X : LW} (O : OL X) {SX SM : MS} {x3 : Int32} (hv : vp_in x3 (w_L X) ∧ vp_in (x3 + 1) (w_L X) ∧ vp_in (x3 + 2) (w_L X) ∧ vp_in (x3 + 3) (w_L X) ∧ vp_in (x3 + 4) (w_L X) ∧ vp_in (x3 + 5) (w_L X)) (hR : Rel SX SM) (hs : SimI Rel (f5_sound (w_x X (x3 + 1).toNatClampNeg)) (f6_sound (w_x X (x3 + 1).toNatClampNeg))) (K : ∀ SX2 SM2, Rel SX2 SM2 → GL X SX2 SM2 1031 [(0, .ref (w_b X)), (1, .ref (ln_1 X 0)), (2, .ref (ln_2 X 0)), (3, .int x3)] []) : GL X SX SM 926 [(0, .ref (w_b X)), (1, .ref (ln_1 X 0)), (2, .ref (ln_2 X 0)), (3, .int x3)] [] := by
  refine q_aload O dL_926 1 rfl ?_
  refine q_aload O dL_927 0 rfl ?_
  refine q_iload O dL_928 3 rfl ?_
  refine q_iconst O dL_929 (v := 1) (by decide) ?_
  refine q_iadd O dL_930 ?_
  refine q_sld O hv.2.1 dL_931 ?_
  obtain ⟨r, SX2, SM2, e1, e2, hR2⟩ := hs SX SM hR
  refine q_callXi O (bv := fun _ => [.int (w_x X (x3 + 1).toNatClampNeg)]) (rest := []) e1 (c5_sound (w_l X) (w_x X (x3 + 1).toNatClampNeg) SX) (fun _ => rfl) rfl w_602 w_603 w_604 w_45 w_605 hy_X5_sound ⟨rfl, rfl, by decide, by decide⟩ rfl rfl (Nat.le_of_ble_eq_true rfl) dL_932 ?_
  refine q_aload O dL_935 2 rfl ?_
  refine q_aload O dL_936 0 rfl ?_
  refine q_iload O dL_937 3 rfl ?_
  refine q_iconst O dL_938 (v := 1) (by decide) ?_
  refine q_iadd O dL_939 ?_
  refine q_sld O hv.2.1 dL_940 ?_
  refine q_callMi O (bv := fun _ => [.int (w_x X (x3 + 1).toNatClampNeg)]) (rest := [.int r]) e2 (c6_sound (w_l X) (w_x X (x3 + 1).toNatClampNeg) SM) (fun _ => rfl) rfl w_988 w_989 w_990 w_51 w_991 hy_X6_sound ⟨rfl, rfl, by decide, by decide⟩ rfl rfl (Nat.le_of_ble_eq_true rfl) dL_941 ?_
  refine q_eq O 1031 dL_944 (by decide) ?_
  exact K SX2 SM2 hR2
theorem lc_26 {Rel : MS → MS → Prop} {X : LW} (O : OL X) {SX SM : MS} {x3 : Int32} (hv : vp_in x3 (w_L X) ∧ vp_in (x3 + 1) (w_L X) ∧ vp_in (x3 + 2) (w_L X) ∧ vp_in (x3 + 3) (w_L X) ∧ vp_in (x3 + 4) (w_L X) ∧ vp_in (x3 + 5) (w_L X)) (hR : Rel SX SM) (hs : SimI Rel (f5_as (w_x X (x3 + 1).toNatClampNeg) (w_x X (x3 + 2).toNatClampNeg)) (f6_as (w_x X (x3 + 1).toNatClampNeg) (w_x X (x3 + 2).toNatClampNeg))) (K : ∀ SX2 SM2, Rel SX2 SM2 → GL X SX2 SM2 1031 [(0, .ref (w_b X)), (1, .ref (ln_1 X 0)), (2, .ref (ln_2 X 0)), (3, .int x3)] []) : GL X SX SM 949 [(0, .ref (w_b X)), (1, .ref (ln_1 X 0)), (2, .ref (ln_2 X 0)), (3, .int x3)] [] := by
  refine q_aload O dL_949 1 rfl ?_
  refine q_aload O dL_950 0 rfl ?_
  refine q_iload O dL_951 3 rfl ?_
  refine q_iconst O dL_952 (v := 1) (by decide) ?_
  refine q_iadd O dL_953 ?_
  refine q_sld O hv.2.1 dL_954 ?_
  refine q_aload O dL_955 0 rfl ?_
  refine q_iload O dL_956 3 rfl ?_
  refine q_iconst O dL_957 (v := 2) (by decide) ?_
  refine q_iadd O dL_958 ?_
  refine q_sld O hv.2.2.1 dL_959 ?_
  obtain ⟨r, SX2, SM2, e1, e2, hR2⟩ := hs SX SM hR
  refine q_callXi O (bv := fun _ => [.int (w_x X (x3 + 1).toNatClampNeg), .int (w_x X (x3 + 2).toNatClampNeg)]) (rest := []) e1 (c5_as (w_l X) (w_x X (x3 + 1).toNatClampNeg) (w_x X (x3 + 2).toNatClampNeg) SX) (fun _ => rfl) rfl w_614 w_615 w_616 w_45 w_617 hy_X5_as ⟨rfl, rfl, by decide, by decide⟩ rfl rfl (Nat.le_of_ble_eq_true rfl) dL_960 ?_
  refine q_aload O dL_963 2 rfl ?_
  refine q_aload O dL_964 0 rfl ?_
  refine q_iload O dL_965 3 rfl ?_
  refine q_iconst O dL_966 (v := 1) (by decide) ?_
  refine q_iadd O dL_967 ?_
  refine q_sld O hv.2.1 dL_968 ?_
  refine q_aload O dL_969 0 rfl ?_
  refine q_iload O dL_970 3 rfl ?_
  refine q_iconst O dL_971 (v := 2) (by decide) ?_
  refine q_iadd O dL_972 ?_
  refine q_sld O hv.2.2.1 dL_973 ?_
  refine q_callMi O (bv := fun _ => [.int (w_x X (x3 + 1).toNatClampNeg), .int (w_x X (x3 + 2).toNatClampNeg)]) (rest := [.int r]) e2 (c6_as (w_l X) (w_x X (x3 + 1).toNatClampNeg) (w_x X (x3 + 2).toNatClampNeg) SM) (fun _ => rfl) rfl w_992 w_993 w_994 w_51 w_995 hy_X6_as ⟨rfl, rfl, by decide, by decide⟩ rfl rfl (Nat.le_of_ble_eq_true rfl) dL_974 ?_
  refine q_eq O 1031 dL_977 (by decide) ?_
  exact K SX2 SM2 hR2
theorem lc_27 {Rel : MS → MS → Prop} {X : LW} (O : OL X) {SX SM : MS} {x3 : Int32} (hv : vp_in x3 (w_L X) ∧ vp_in (x3 + 1) (w_L X) ∧ vp_in (x3 + 2) (w_L X) ∧ vp_in (x3 + 3) (w_L X) ∧ vp_in (x3 + 4) (w_L X) ∧ vp_in (x3 + 5) (w_L X)) (hR : Rel SX SM) (hs : SimI Rel (f5_trace) (f6_trace)) (K : ∀ SX2 SM2, Rel SX2 SM2 → GL X SX2 SM2 1031 [(0, .ref (w_b X)), (1, .ref (ln_1 X 0)), (2, .ref (ln_2 X 0)), (3, .int x3)] []) : GL X SX SM 982 [(0, .ref (w_b X)), (1, .ref (ln_1 X 0)), (2, .ref (ln_2 X 0)), (3, .int x3)] [] := by
  refine q_aload O dL_982 1 rfl ?_
  obtain ⟨r, SX2, SM2, e1, e2, hR2⟩ := hs SX SM hR
  refine q_callXi O (bv := fun _ => []) (rest := []) e1 (c5_trace (w_l X) SX) (fun _ => rfl) rfl w_618 w_619 w_620 w_45 w_621 hy_X5_trace ⟨rfl, rfl, by decide, by decide⟩ rfl rfl (Nat.le_of_ble_eq_true rfl) dL_983 ?_
  refine q_aload O dL_986 2 rfl ?_
  refine q_callMi O (bv := fun _ => []) (rest := [.int r]) e2 (c6_trace (w_l X) SM) (fun _ => rfl) rfl w_996 w_997 w_998 w_51 w_999 hy_X6_trace ⟨rfl, rfl, by decide, by decide⟩ rfl rfl (Nat.le_of_ble_eq_true rfl) dL_987 ?_
  refine q_eq O 1031 dL_990 (by decide) ?_
  exact K SX2 SM2 hR2
theorem lc_28 {Rel : MS → MS → Prop} {X : LW} (O : OL X) {SX SM : MS} {x3 : Int32} (hv : vp_in x3 (w_L X) ∧ vp_in (x3 + 1) (w_L X) ∧ vp_in (x3 + 2) (w_L X) ∧ vp_in (x3 + 3) (w_L X) ∧ vp_in (x3 + 4) (w_L X) ∧ vp_in (x3 + 5) (w_L X)) (hR : Rel SX SM) (hs : SimI Rel (f5_fault) (f6_fault)) (K : ∀ SX2 SM2, Rel SX2 SM2 → GL X SX2 SM2 1031 [(0, .ref (w_b X)), (1, .ref (ln_1 X 0)), (2, .ref (ln_2 X 0)), (3, .int x3)] []) : GL X SX SM 995 [(0, .ref (w_b X)), (1, .ref (ln_1 X 0)), (2, .ref (ln_2 X 0)), (3, .int x3)] [] := by
  refine q_aload O dL_995 1 rfl ?_
  obtain ⟨r, SX2, SM2, e1, e2, hR2⟩ := hs SX SM hR
  refine q_callXi O (bv := fun _ => []) (rest := []) e1 (c5_fault (w_l X) SX) (fun _ => rfl) rfl w_622 w_623 w_624 w_45 w_625 hy_X5_fault ⟨rfl, rfl, by decide, by decide⟩ rfl rfl (Nat.le_of_ble_eq_true rfl) dL_996 ?_
  refine q_aload O dL_999 2 rfl ?_
  refine q_callMi O (bv := fun _ => []) (rest := [.int r]) e2 (c6_fault (w_l X) SM) (fun _ => rfl) rfl w_1000 w_1001 w_1002 w_51 w_1003 hy_X6_fault ⟨rfl, rfl, by decide, by decide⟩ rfl rfl (Nat.le_of_ble_eq_true rfl) dL_1000 ?_
  refine q_eq O 1031 dL_1003 (by decide) ?_
  exact K SX2 SM2 hR2
theorem lc_29 {Rel : MS → MS → Prop} {X : LW} (O : OL X) {SX SM : MS} {x3 : Int32} (hv : vp_in x3 (w_L X) ∧ vp_in (x3 + 1) (w_L X) ∧ vp_in (x3 + 2) (w_L X) ∧ vp_in (x3 + 3) (w_L X) ∧ vp_in (x3 + 4) (w_L X) ∧ vp_in (x3 + 5) (w_L X)) (hR : Rel SX SM) (hs : SimI Rel (f5_many (w_x X (x3 + 1).toNatClampNeg)) (f6_many (w_x X (x3 + 1).toNatClampNeg))) (K : ∀ SX2 SM2, Rel SX2 SM2 → GL X SX2 SM2 1031 [(0, .ref (w_b X)), (1, .ref (ln_1 X 0)), (2, .ref (ln_2 X 0)), (3, .int x3)] []) : GL X SX SM 1008 [(0, .ref (w_b X)), (1, .ref (ln_1 X 0)), (2, .ref (ln_2 X 0)), (3, .int x3)] [] := by
  refine q_aload O dL_1008 1 rfl ?_
  refine q_aload O dL_1009 0 rfl ?_
  refine q_iload O dL_1010 3 rfl ?_
  refine q_iconst O dL_1011 (v := 1) (by decide) ?_
  refine q_iadd O dL_1012 ?_
  refine q_sld O hv.2.1 dL_1013 ?_
  obtain ⟨r, SX2, SM2, e1, e2, hR2⟩ := hs SX SM hR
  refine q_callXi O (bv := fun _ => [.int (w_x X (x3 + 1).toNatClampNeg)]) (rest := []) e1 (c5_many (w_l X) (w_x X (x3 + 1).toNatClampNeg) SX) (fun _ => rfl) rfl w_626 w_627 w_628 w_45 w_629 hy_X5_many ⟨rfl, rfl, by decide, by decide⟩ rfl rfl (Nat.le_of_ble_eq_true rfl) dL_1014 ?_
  refine q_aload O dL_1017 2 rfl ?_
  refine q_aload O dL_1018 0 rfl ?_
  refine q_iload O dL_1019 3 rfl ?_
  refine q_iconst O dL_1020 (v := 1) (by decide) ?_
  refine q_iadd O dL_1021 ?_
  refine q_sld O hv.2.1 dL_1022 ?_
  refine q_callMi O (bv := fun _ => [.int (w_x X (x3 + 1).toNatClampNeg)]) (rest := [.int r]) e2 (c6_many (w_l X) (w_x X (x3 + 1).toNatClampNeg) SM) (fun _ => rfl) rfl w_1004 w_1005 w_1006 w_51 w_1007 hy_X6_many ⟨rfl, rfl, by decide, by decide⟩ rfl rfl (Nat.le_of_ble_eq_true rfl) dL_1023 ?_
  refine q_eq O 1031 dL_1026 (by decide) ?_
  exact K SX2 SM2 hR2
def OpsOK (Rel : MS → MS → Prop) : Prop :=
  (∀ a b c d : Int32, SimI Rel (f5_ship a b c d) (f6_ship a b c d)) ∧
  (∀ a b : Int32, SimI Rel (f5_ofTank a b) (f6_ofTank a b)) ∧
  (∀ a b : Int32, SimI Rel (f5_mass a b) (f6_mass a b)) ∧
  (∀ a b : Int32, SimI Rel (f5_bound a b) (f6_bound a b)) ∧
  (∀ a : Int32, SimI Rel (f5_due a) (f6_due a)) ∧
  (∀ a : Int32, SimI Rel (f5_fail a) (f6_fail a)) ∧
  (∀ a : Int32, SimI Rel (f5_measure a) (f6_measure a)) ∧
  (∀ a : Int32, SimI Rel (f5_moment a) (f6_moment a)) ∧
  (∀ a : Int32, SimI Rel (f5_pump a) (f6_pump a)) ∧
  (∀ a : Int32, SimI Rel (f5_plan a) (f6_plan a)) ∧
  (SimL Rel (f5_plans) (f6_plans)) ∧
  (∀ a b c d e : Int32, SimI Rel (f5_day a b c d e) (f6_day a b c d e)) ∧
  (SimI Rel (f5_states) (f6_states)) ∧
  (∀ a : Int32, SimI Rel (f5_worst a) (f6_worst a)) ∧
  (∀ a : Int32, SimI Rel (f5_reading a) (f6_reading a)) ∧
  (∀ a : Int32, SimI Rel (f5_back a) (f6_back a)) ∧
  (∀ a : Int32, SimI Rel (f5_kinds a) (f6_kinds a)) ∧
  (∀ a : Int32, SimI Rel (f5_masses a) (f6_masses a)) ∧
  (∀ a : Int32, SimL Rel (f5_odds a) (f6_odds a)) ∧
  (∀ a b c : Int32, SimI Rel (f5_sheet a b c) (f6_sheet a b c)) ∧
  (∀ a : Int32, SimI Rel (f5_lose a) (f6_lose a)) ∧
  (∀ a b c : Int32, SimI Rel (f5_put a b c) (f6_put a b c)) ∧
  (∀ a b c : Int32, SimL Rel (f5_cell a b c) (f6_cell a b c)) ∧
  (∀ a b c d e : Int32, SimI Rel (f5_copy a b c d e) (f6_copy a b c d e)) ∧
  (∀ a : Int32, SimI Rel (f5_tell a) (f6_tell a)) ∧
  (∀ a : Int32, SimI Rel (f5_sound a) (f6_sound a)) ∧
  (∀ a b : Int32, SimI Rel (f5_as a b) (f6_as a b)) ∧
  (SimI Rel (f5_trace) (f6_trace)) ∧
  (SimI Rel (f5_fault) (f6_fault)) ∧
  (∀ a : Int32, SimI Rel (f5_many a) (f6_many a))
theorem i32_add_nat {i k : Nat} (h : i + k < 2 ^ 31) : Int32.ofNat i + Int32.ofNat k = Int32.ofNat (i + k) := by
  apply Int32.toInt_inj.mp
  rw [Int32.toInt_ofNat_of_lt (by omega), Jvm.Kit.i32_add (by rw [Int32.toInt_ofNat_of_lt (by omega), Int32.toInt_ofNat_of_lt (by omega)]; omega) (by rw [Int32.toInt_ofNat_of_lt (by omega), Int32.toInt_ofNat_of_lt (by omega)]; omega), Int32.toInt_ofNat_of_lt (by omega), Int32.toInt_ofNat_of_lt (by omega)]
  omega
theorem vin_nat {i L : Nat} (h : i < L) (hL : L ≤ 3072) : vp_in (Int32.ofNat i) L := by
  have h1 : (Int32.ofNat i).toInt = i := Int32.toInt_ofNat_of_lt (by omega)
  intro z
  rcases z with z | z
  · have := Int32.lt_iff_toInt_lt.mp z
    rw [h1] at this
    simp at this
    omega
  · have h2 : (Int32.ofNat i).toNatClampNeg = i := Int32.toNatClampNeg_ofNat_of_lt (by omega)
    omega
set_option maxHeartbeats 4000000 in
set_option maxRecDepth 100000 in
theorem law_loop {Rel : MS → MS → Prop} (ops : OpsOK Rel) {X : LW} (O : OL X) (hL : w_L X ≤ 3072) : ∀ (n i : Nat) (x3 : Int32) (SX SM : MS), i ≤ w_L X → w_L X + 1 ≤ i + n → x3 = Int32.ofNat i → Rel SX SM → GL X SX SM 18 [(0, .ref (w_b X)), (1, .ref (ln_1 X 0)), (2, .ref (ln_2 X 0)), (3, .int x3)] [] := by
  intro n
  induction n with
  | zero => intro i x3 SX SM h1 h2; exact absurd h2 (by omega)
  | succ n ih =>
    intro i x3 SX SM hi hin hx3 hR
    refine q_iload O dL_18 3 rfl ?_
    refine q_aload O dL_19 0 rfl ?_
    refine q_slen O dL_20 ?_
    refine q_bipush O dL_21 (v := 6) (by decide) ?_
    refine q_isub O dL_23 ?_
    refine q_gt O 1037 dL_24 (by decide) (fun hq => ?_) (fun hq => ?_)
    · refine q_iconst O dL_1037 (v := 1) (by decide) ?_
      exact q_ret O dL_1038
    · have hle : i + 6 ≤ w_L X := by
        rcases Nat.lt_or_ge (w_L X) (i + 6) with q | q
        · exfalso
          apply hq
          rw [hx3]
          apply Int32.lt_iff_toInt_lt.mpr
          have e1 : (Int32.ofNat (w_L X)).toInt = w_L X := Int32.toInt_ofNat_of_lt (by omega)
          have e2 : (Int32.ofNat i).toInt = i := Int32.toInt_ofNat_of_lt (by omega)
          have e3 : (Int32.ofNat (w_L X) - 6).toInt = (w_L X : Int) - 6 := by
            rw [Jvm.Kit.i32_sub (by rw [e1]; show -2147483648 ≤ (w_L X : Int) - 6; omega) (by rw [e1]; show (w_L X : Int) - 6 < 2147483648; omega), e1]; rfl
          rw [e2, e3]; omega
        · exact q
      have hv : vp_in x3 (w_L X) ∧ vp_in (x3 + 1) (w_L X) ∧ vp_in (x3 + 2) (w_L X) ∧ vp_in (x3 + 3) (w_L X) ∧ vp_in (x3 + 4) (w_L X) ∧ vp_in (x3 + 5) (w_L X) := by
        rw [hx3]
        refine ⟨vin_nat (by omega) hL, ?_, ?_, ?_, ?_, ?_⟩
        · rw [show (1 : Int32) = Int32.ofNat 1 from rfl, i32_add_nat (by omega)]; exact vin_nat (by omega) hL
        · rw [show (2 : Int32) = Int32.ofNat 2 from rfl, i32_add_nat (by omega)]; exact vin_nat (by omega) hL
        · rw [show (3 : Int32) = Int32.ofNat 3 from rfl, i32_add_nat (by omega)]; exact vin_nat (by omega) hL
        · rw [show (4 : Int32) = Int32.ofNat 4 from rfl, i32_add_nat (by omega)]; exact vin_nat (by omega) hL
        · rw [show (5 : Int32) = Int32.ofNat 5 from rfl, i32_add_nat (by omega)]; exact vin_nat (by omega) hL
      have K : ∀ SX2 SM2, Rel SX2 SM2 → GL X SX2 SM2 1031 [(0, .ref (w_b X)), (1, .ref (ln_1 X 0)), (2, .ref (ln_2 X 0)), (3, .int x3)] [] := by
        intro SX2 SM2 hR2
        refine q_iinc O dL_1031 3 (v := x3 + 6) rfl rfl [(3, .int (x3 + 6)), (0, .ref (w_b X)), (1, .ref (ln_1 X 0)), (2, .ref (ln_2 X 0))] (by decide) rfl ?_
        refine q_goto O 18 dL_1034 (by decide) ?_
        refine q_sub O [1, 2, 3, 0] rfl ?_
        exact ih (i + 6) (x3 + 6) SX2 SM2 hle (by omega) (by rw [hx3, show (6 : Int32) = Int32.ofNat 6 from rfl]; exact i32_add_nat (by omega)) hR2
      refine q_aload O dL_27 0 rfl ?_
      refine q_iload O dL_28 3 rfl ?_
      refine q_sld O hv.1 dL_29 ?_
      refine q_bipush O dL_30 (v := 31) (by decide) ?_
      refine q_iand O dL_32 ?_
      obtain ⟨o0, o1, o2, o3, o4, o5, o6, o7, o8, o9, o10, o11, o12, o13, o14, o15, o16, o17, o18, o19, o20, o21, o22, o23, o24, o25, o26, o27, o28, o29⟩ := ops
      generalize w_x X x3.toNatClampNeg &&& 31 = v
      by_cases h0 : v = 0
      · refine q_tin O 168 dL_33 (by rw [h0]; decide) (by rw [h0]; decide) (by rw [h0]; rfl) (by decide) ?_
        exact lc_0 O hv hR (o0 _ _ _ _) K
      by_cases h1 : v = 1
      · refine q_tin O 221 dL_33 (by rw [h1]; decide) (by rw [h1]; decide) (by rw [h1]; rfl) (by decide) ?_
        exact lc_1 O hv hR (o1 _ _) K
      by_cases h2 : v = 2
      · refine q_tin O 254 dL_33 (by rw [h2]; decide) (by rw [h2]; decide) (by rw [h2]; rfl) (by decide) ?_
        exact lc_2 O hv hR (o2 _ _) K
      by_cases h3 : v = 3
      · refine q_tin O 287 dL_33 (by rw [h3]; decide) (by rw [h3]; decide) (by rw [h3]; rfl) (by decide) ?_
        exact lc_3 O hv hR (o3 _ _) K
      by_cases h4 : v = 4
      · refine q_tin O 320 dL_33 (by rw [h4]; decide) (by rw [h4]; decide) (by rw [h4]; rfl) (by decide) ?_
        exact lc_4 O hv hR (o4 _) K
      by_cases h5 : v = 5
      · refine q_tin O 343 dL_33 (by rw [h5]; decide) (by rw [h5]; decide) (by rw [h5]; rfl) (by decide) ?_
        exact lc_5 O hv hR (o5 _) K
      by_cases h6 : v = 6
      · refine q_tin O 366 dL_33 (by rw [h6]; decide) (by rw [h6]; decide) (by rw [h6]; rfl) (by decide) ?_
        exact lc_6 O hv hR (o6 _) K
      by_cases h7 : v = 7
      · refine q_tin O 389 dL_33 (by rw [h7]; decide) (by rw [h7]; decide) (by rw [h7]; rfl) (by decide) ?_
        exact lc_7 O hv hR (o7 _) K
      by_cases h8 : v = 8
      · refine q_tin O 412 dL_33 (by rw [h8]; decide) (by rw [h8]; decide) (by rw [h8]; rfl) (by decide) ?_
        exact lc_8 O hv hR (o8 _) K
      by_cases h9 : v = 9
      · refine q_tin O 435 dL_33 (by rw [h9]; decide) (by rw [h9]; decide) (by rw [h9]; rfl) (by decide) ?_
        exact lc_9 O hv hR (o9 _) K
      by_cases h10 : v = 10
      · refine q_tin O 458 dL_33 (by rw [h10]; decide) (by rw [h10]; decide) (by rw [h10]; rfl) (by decide) ?_
        exact lc_10 O hv hR (o10) K
      by_cases h11 : v = 11
      · refine q_tin O 472 dL_33 (by rw [h11]; decide) (by rw [h11]; decide) (by rw [h11]; rfl) (by decide) ?_
        exact lc_11 O hv hR (o11 _ _ _ _ _) K
      by_cases h12 : v = 12
      · refine q_tin O 535 dL_33 (by rw [h12]; decide) (by rw [h12]; decide) (by rw [h12]; rfl) (by decide) ?_
        exact lc_12 O hv hR (o12) K
      by_cases h13 : v = 13
      · refine q_tin O 548 dL_33 (by rw [h13]; decide) (by rw [h13]; decide) (by rw [h13]; rfl) (by decide) ?_
        exact lc_13 O hv hR (o13 _) K
      by_cases h14 : v = 14
      · refine q_tin O 571 dL_33 (by rw [h14]; decide) (by rw [h14]; decide) (by rw [h14]; rfl) (by decide) ?_
        exact lc_14 O hv hR (o14 _) K
      by_cases h15 : v = 15
      · refine q_tin O 594 dL_33 (by rw [h15]; decide) (by rw [h15]; decide) (by rw [h15]; rfl) (by decide) ?_
        exact lc_15 O hv hR (o15 _) K
      by_cases h16 : v = 16
      · refine q_tin O 617 dL_33 (by rw [h16]; decide) (by rw [h16]; decide) (by rw [h16]; rfl) (by decide) ?_
        exact lc_16 O hv hR (o16 _) K
      by_cases h17 : v = 17
      · refine q_tin O 640 dL_33 (by rw [h17]; decide) (by rw [h17]; decide) (by rw [h17]; rfl) (by decide) ?_
        exact lc_17 O hv hR (o17 _) K
      by_cases h18 : v = 18
      · refine q_tin O 663 dL_33 (by rw [h18]; decide) (by rw [h18]; decide) (by rw [h18]; rfl) (by decide) ?_
        exact lc_18 O hv hR (o18 _) K
      by_cases h19 : v = 19
      · refine q_tin O 687 dL_33 (by rw [h19]; decide) (by rw [h19]; decide) (by rw [h19]; rfl) (by decide) ?_
        exact lc_19 O hv hR (o19 _ _ _) K
      by_cases h20 : v = 20
      · refine q_tin O 730 dL_33 (by rw [h20]; decide) (by rw [h20]; decide) (by rw [h20]; rfl) (by decide) ?_
        exact lc_20 O hv hR (o20 _) K
      by_cases h21 : v = 21
      · refine q_tin O 753 dL_33 (by rw [h21]; decide) (by rw [h21]; decide) (by rw [h21]; rfl) (by decide) ?_
        exact lc_21 O hv hR (o21 _ _ _) K
      by_cases h22 : v = 22
      · refine q_tin O 796 dL_33 (by rw [h22]; decide) (by rw [h22]; decide) (by rw [h22]; rfl) (by decide) ?_
        exact lc_22 O hv hR (o22 _ _ _) K
      by_cases h23 : v = 23
      · refine q_tin O 840 dL_33 (by rw [h23]; decide) (by rw [h23]; decide) (by rw [h23]; rfl) (by decide) ?_
        exact lc_23 O hv hR (o23 _ _ _ _ _) K
      by_cases h24 : v = 24
      · refine q_tin O 903 dL_33 (by rw [h24]; decide) (by rw [h24]; decide) (by rw [h24]; rfl) (by decide) ?_
        exact lc_24 O hv hR (o24 _) K
      by_cases h25 : v = 25
      · refine q_tin O 926 dL_33 (by rw [h25]; decide) (by rw [h25]; decide) (by rw [h25]; rfl) (by decide) ?_
        exact lc_25 O hv hR (o25 _) K
      by_cases h26 : v = 26
      · refine q_tin O 949 dL_33 (by rw [h26]; decide) (by rw [h26]; decide) (by rw [h26]; rfl) (by decide) ?_
        exact lc_26 O hv hR (o26 _ _) K
      by_cases h27 : v = 27
      · refine q_tin O 982 dL_33 (by rw [h27]; decide) (by rw [h27]; decide) (by rw [h27]; rfl) (by decide) ?_
        exact lc_27 O hv hR (o27) K
      by_cases h28 : v = 28
      · refine q_tin O 995 dL_33 (by rw [h28]; decide) (by rw [h28]; decide) (by rw [h28]; rfl) (by decide) ?_
        exact lc_28 O hv hR (o28) K
      by_cases h29 : v = 29
      · refine q_tin O 1008 dL_33 (by rw [h29]; decide) (by rw [h29]; decide) (by rw [h29]; rfl) (by decide) ?_
        exact lc_29 O hv hR (o29 _) K
      have n0 := i32_ne (n := 0) 0 (by decide) h0
      have n1 := i32_ne (n := 1) 1 (by decide) h1
      have n2 := i32_ne (n := 2) 2 (by decide) h2
      have n3 := i32_ne (n := 3) 3 (by decide) h3
      have n4 := i32_ne (n := 4) 4 (by decide) h4
      have n5 := i32_ne (n := 5) 5 (by decide) h5
      have n6 := i32_ne (n := 6) 6 (by decide) h6
      have n7 := i32_ne (n := 7) 7 (by decide) h7
      have n8 := i32_ne (n := 8) 8 (by decide) h8
      have n9 := i32_ne (n := 9) 9 (by decide) h9
      have n10 := i32_ne (n := 10) 10 (by decide) h10
      have n11 := i32_ne (n := 11) 11 (by decide) h11
      have n12 := i32_ne (n := 12) 12 (by decide) h12
      have n13 := i32_ne (n := 13) 13 (by decide) h13
      have n14 := i32_ne (n := 14) 14 (by decide) h14
      have n15 := i32_ne (n := 15) 15 (by decide) h15
      have n16 := i32_ne (n := 16) 16 (by decide) h16
      have n17 := i32_ne (n := 17) 17 (by decide) h17
      have n18 := i32_ne (n := 18) 18 (by decide) h18
      have n19 := i32_ne (n := 19) 19 (by decide) h19
      have n20 := i32_ne (n := 20) 20 (by decide) h20
      have n21 := i32_ne (n := 21) 21 (by decide) h21
      have n22 := i32_ne (n := 22) 22 (by decide) h22
      have n23 := i32_ne (n := 23) 23 (by decide) h23
      have n24 := i32_ne (n := 24) 24 (by decide) h24
      have n25 := i32_ne (n := 25) 25 (by decide) h25
      have n26 := i32_ne (n := 26) 26 (by decide) h26
      have n27 := i32_ne (n := 27) 27 (by decide) h27
      have n28 := i32_ne (n := 28) 28 (by decide) h28
      have n29 := i32_ne (n := 29) 29 (by decide) h29
      refine q_tout O 1031 dL_33 (by omega) (by decide) ?_
      exact K SX SM hR
