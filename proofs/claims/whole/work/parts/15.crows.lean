/-! CONSTRUCTORS: a judgement over a world that grows, its rows -/
def NA (U : State) : Prop := va_AO "BallastSteps$Row" U ∧ va_AO "BallastSteps$Tank" U
theorem NA.moved {u U : State} (hvm : u.vm.Alike U.vm) (h : NA u) : NA U := ⟨h.1.moved hvm, h.2.moved hvm⟩
abbrev GQ : Type := Program × Launch × Env × Room × State × MethodId × Array Value × List Frame × Method × Code × (State → Prop) × va_G × (Nat → ClassId) × (Nat → Prop)
def qC (X : GQ) : Nat → ClassId := X.2.2.2.2.2.2.2.2.2.2.2.2.1
def qL (X : GQ) : Launch := X.2.1
def GC (X : GQ) (ws : va_W) (k n : Nat) (pc : Nat) (lv : List (Nat × Value)) (st : List Value) : Prop :=
  match X with
  | (p, l, e, R, s, m, args, below, meth, c, Q, D, cy, A) => ∀ (H : Heap) (locs : List Loc) (ls : Array Slot), va_P D classes ws H → va_D A ws → va_S A s.heap H locs → lv_has ls c.maxLocals lv → W p l e R s m args below meth c H locs k n Q (F0 m pc ls st)
def OC (X : GQ) (own : String) (cc : ByteArray) (nL : Nat) (rm : Room) : Prop :=
  match X with
  | (p, l, e, R, s, m, args, below, meth, c, Q, D, cy, A) => p.tables.exec = Jvm.exec ∧ c.code = cc ∧ meth.sig.returnType = none ∧ c.maxLocals = nL ∧ s.vm.findClass own = some m.cls ∧ (∀ w ∈ lw_gd, w.before args s = true) ∧ va_K D classes (tysG cy) s ∧ NG s ∧ NA s ∧ meth.locks = false ∧ meth.name = "<init>" ∧ R = rm ∧ ∀ q, s.heap.size ≤ q → A q
abbrev rmC (f n k m : Nat) : Room := { frames := f, cells := k, slots := m, locals := n }
def CtC (l : Launch) (y : MethodName) (cc : ByteArray) (nL : Nat) (rm : Room) (e0 : va_E) (mk : (Nat → ClassId) → (Nat → Nat) → va_W) (mc ms : Nat) : Prop :=
  ∀ (D : va_G) (cy : Nat → ClassId) (h sz : Nat), Met l y (.code y cc nL none :: lw_gd) rm (va_Pc [.ref h] (fun U => U.heap.size = sz ∧ va_P D classes [(h, e0)] U.heap ∧ va_K D classes (tysG cy) U ∧ NG U ∧ NA U)) (va_Qv (fun u : Nat → Nat => u 0 = h) (fun u t => va_P D classes (mk cy u) t.heap ∧ va_D (va_A [(h, e0)] sz) (mk cy u)) (va_A [(h, e0)] sz)) mc ms (va_A [(h, e0)] sz)
def RtC (X : GQ) (h mc ms : Nat) (mk : (Nat → ClassId) → (Nat → Nat) → va_W) : Prop :=
  match X with
  | (p, l, e, R, s, m, args, below, meth, c, Q, D, cy, A) => Q = MQ below (va_Qv (fun u : Nat → Nat => u 0 = h) (fun u t => va_P D classes (mk cy u) t.heap ∧ va_D A (mk cy u)) A) args s mc ms A
theorem CtC.of {l : Launch} {y : MethodName} {cc : ByteArray} {nL : Nat} {rm : Room} {e0 : va_E} {mk : (Nat → ClassId) → (Nat → Nat) → va_W} {mc ms : Nat} (hy : plainName y.cls = true) (hn : 1 ≤ nL) (hyn : y.name = "<init>")
    (body : ∀ (X : GQ) (h : Nat), qL X = l → OC X y.cls cc nL rm → RtC X h mc ms mk → GC X [(h, e0)] 0 0 0 [(0, .ref h)] []) : CtC l y cc nL rm e0 mk mc ms := by
  intro D cy h sz
  refine Met.ofW (cc := cc) (maxL := nL) (ret := none) hy rfl ?_
  intro p e s m args below meth c s₁ B hml hv
  obtain ⟨rfl, hsz, hP, hK, hN, hA⟩ := hv
  subst hsz
  have hD : va_D (va_A [(h, e0)] s.heap.size) [(h, e0)] := ⟨fun i j p q hi hj _ => by
    have h1 := (List.getElem?_eq_some_iff.mp hi).1
    have h2 := (List.getElem?_eq_some_iff.mp hj).1
    simp at h1 h2
    omega, fun _ _ hk => va_A.in hk⟩
  have hh := body (p, l, e, rm, s, m, _, below, meth, c, _, D, cy, va_A [(h, e0)] s.heap.size) h rfl ⟨B.exec, B.bytes, B.returns, hml, findClass_of_methodNamed B.named, fun w hw => atoms_spec (ws := .code y cc nL none :: lw_gd) B.pre w (List.mem_cons_of_mem _ hw), hK, hN, hA, B.notSynchronized, by rw [(name_of_methodNamed B.named B.method).1]; exact hyn, rfl, fun q hq => Or.inr hq⟩ rfl
  have hl := lv_entry ([.ref h]) (n := nL) (by show 1 ≤ nL; exact hn)
  rw [lg_entry_eq]
  exact hh s.heap [] _ hP hD va_S.rf (by rw [hml]; exact hl)
theorem vin {i : Int32} {n : Nat} (h : (decide (i < 0) || decide (n ≤ i.toNatClampNeg)) = false) : vp_in i n := by
  simp only [Bool.or_eq_false_iff, decide_eq_false_iff_not] at h
  exact fun z => z.elim h.1 h.2
section GCrows
variable {X : GQ} {own : String} {cc : ByteArray} {nL : Nat} {rm : Room} {ws : va_W} {k n pc : Nat} {lv : List (Nat × Value)} {st : List Value}
theorem k_aload_n (O : OC X own cc nL rm) {i0 : Fin 4} (hd : decode cc pc = .ok (.aload_n i0, 1)) (i : Nat) {v : Nat} (hl : lv[i]? = some (i0.val, .ref v)) (K : GC X ws k n (pc + 1) lv (.ref v :: st)) : GC X ws k n pc lv st := by
  obtain ⟨p, l, e, R, s, m, args, below, meth, c, Q, D, cy, A⟩ := X
  obtain ⟨hx, hb, hr, hml, hown, hts, hK, hN, hNA, hlk, hnm, hR, hA⟩ := O
  exact fun H locs ls h1 h2 h3 h4 => lv_aload_n hx hb hd rfl (lv_at h4 i hl) (K H locs ls h1 h2 h3 h4)
theorem k_iload_n (O : OC X own cc nL rm) {i0 : Fin 4} (hd : decode cc pc = .ok (.iload_n i0, 1)) (i : Nat) {v : Int32} (hl : lv[i]? = some (i0.val, .int v)) (K : GC X ws k n (pc + 1) lv (.int v :: st)) : GC X ws k n pc lv st := by
  obtain ⟨p, l, e, R, s, m, args, below, meth, c, Q, D, cy, A⟩ := X
  obtain ⟨hx, hb, hr, hml, hown, hts, hK, hN, hNA, hlk, hnm, hR, hA⟩ := O
  exact fun H locs ls h1 h2 h3 h4 => lv_iload_n hx hb hd rfl (lv_at h4 i hl) (K H locs ls h1 h2 h3 h4)
theorem k_iconst (O : OC X own cc nL rm) {z : Int} (hd : decode cc pc = .ok (.iconst z, 1)) {v : Int32} (hv : Int32.ofInt z = v) (K : GC X ws k n (pc + 1) lv (.int v :: st)) : GC X ws k n pc lv st := by
  obtain ⟨p, l, e, R, s, m, args, below, meth, c, Q, D, cy, A⟩ := X
  obtain ⟨hx, hb, hr, hml, hown, hts, hK, hN, hNA, hlk, hnm, hR, hA⟩ := O
  exact fun H locs ls h1 h2 h3 h4 => lv_iconst hx hb hd hv (K H locs ls h1 h2 h3 h4)
theorem k_bipush (O : OC X own cc nL rm) {z : Int} (hd : decode cc pc = .ok (.bipush z, 2)) {v : Int32} (hv : (Int8.ofInt z).toInt32 = v) (K : GC X ws k n (pc + 2) lv (.int v :: st)) : GC X ws k n pc lv st := by
  obtain ⟨p, l, e, R, s, m, args, below, meth, c, Q, D, cy, A⟩ := X
  obtain ⟨hx, hb, hr, hml, hown, hts, hK, hN, hNA, hlk, hnm, hR, hA⟩ := O
  exact fun H locs ls h1 h2 h3 h4 => lv_bipush hx hb hd hv (K H locs ls h1 h2 h3 h4)
theorem k_sipush (O : OC X own cc nL rm) {z : Int} (hd : decode cc pc = .ok (.sipush z, 3)) {v : Int32} (hv : (Int16.ofInt z).toInt32 = v) (K : GC X ws k n (pc + 3) lv (.int v :: st)) : GC X ws k n pc lv st := by
  obtain ⟨p, l, e, R, s, m, args, below, meth, c, Q, D, cy, A⟩ := X
  obtain ⟨hx, hb, hr, hml, hown, hts, hK, hN, hNA, hlk, hnm, hR, hA⟩ := O
  exact fun H locs ls h1 h2 h3 h4 => lv_sipush hx hb hd hv (K H locs ls h1 h2 h3 h4)
theorem k_dup (O : OC X own cc nL rm) {v : Value} (hd : decode cc pc = .ok (.dup, 1)) (hv : v.category = 1) (K : GC X ws k n (pc + 1) lv (v :: v :: st)) : GC X ws k n pc lv (v :: st) := by
  obtain ⟨p, l, e, R, s, m, args, below, meth, c, Q, D, cy, A⟩ := X
  obtain ⟨hx, hb, hr, hml, hown, hts, hK, hN, hNA, hlk, hnm, hR, hA⟩ := O
  exact fun H locs ls h1 h2 h3 h4 => lv_dup hx hb hd hv (K H locs ls h1 h2 h3 h4)
theorem k_istore_n (O : OC X own cc nL rm) {i0 : Fin 4} (hd : decode cc pc = .ok (.istore_n i0, 1)) {x : Int32} (lv' : List (Nat × Value)) (hn : i0.val < nL) (hl : (i0.val, Value.int x) :: lv.filter (fun q => !(q.1 == i0.val) && !(q.1 + 1 == i0.val && q.2.category == 2)) = lv') (K : GC X ws k n (pc + 1) lv' st) : GC X ws k n pc lv (.int x :: st) := by
  obtain ⟨p, l, e, R, s, m, args, below, meth, c, Q, D, cy, A⟩ := X
  obtain ⟨hx, hb, hr, hml, hown, hts, hK, hN, hNA, hlk, hnm, hR, hA⟩ := O
  exact fun H locs ls h1 h2 h3 h4 => lv_istore_n hx hb hd rfl h4 (by rw [hml]; exact hn) hl (fun ls' h4' => K H locs ls' h1 h2 h3 h4')
theorem k_iinc (O : OC X own cc nL rm) {i0 : Nat} {z : Int} (hd : decode cc pc = .ok (.iinc i0 z, 3)) (i : Nat) {x v : Int32} (hi : lv[i]? = some (i0, .int x)) (hv : x + Int32.ofInt z = v) (lv' : List (Nat × Value)) (hn : i0 < nL) (hl : (i0, Value.int v) :: lv.filter (fun q => !(q.1 == i0) && !(q.1 + 1 == i0 && q.2.category == 2)) = lv') (K : GC X ws k n (pc + 3) lv' st) : GC X ws k n pc lv st := by
  obtain ⟨p, l, e, R, s, m, args, below, meth, c, Q, D, cy, A⟩ := X
  obtain ⟨hx, hb, hr, hml, hown, hts, hK, hN, hNA, hlk, hnm, hR, hA⟩ := O
  exact fun H locs ls h1 h2 h3 h4 => lv_iinc hx hb hd h4 hi hv (by rw [hml]; exact hn) hl (fun ls' h4' => K H locs ls' h1 h2 h3 h4')
theorem k_goto (O : OC X own cc nL rm) {off : Int} (tgt : Nat) (hd : decode cc pc = .ok (.goto off, 3)) (ht : (pc : Int) + off = (tgt : Int)) (K : GC X ws k n tgt lv st) : GC X ws k n pc lv st := by
  obtain ⟨p, l, e, R, s, m, args, below, meth, c, Q, D, cy, A⟩ := X
  obtain ⟨hx, hb, hr, hml, hown, hts, hK, hN, hNA, hlk, hnm, hR, hA⟩ := O
  exact fun H locs ls h1 h2 h3 h4 => lv_goto hx hb hd ht (K H locs ls h1 h2 h3 h4)
theorem k_ge_y (O : OC X own cc nL rm) {x y : Int32} {off : Int} (tgt : Nat) (hd : decode cc pc = .ok (.if_icmp .ge off, 3)) (ht : (pc : Int) + off = (tgt : Int)) (hq : y ≤ x) (K : GC X ws k n tgt lv st) : GC X ws k n pc lv (.int y :: .int x :: st) := by
  obtain ⟨p, l, e, R, s, m, args, below, meth, c, Q, D, cy, A⟩ := X
  obtain ⟨hx, hb, hr, hml, hown, hts, hK, hN, hNA, hlk, hnm, hR, hA⟩ := O
  exact fun H locs ls h1 h2 h3 h4 => lv_icmp_ge hx hb hd ht (fun _ => K H locs ls h1 h2 h3 h4) (fun q => absurd hq q)
theorem k_ge_n (O : OC X own cc nL rm) {x y : Int32} {off : Int} (tgt : Nat) (hd : decode cc pc = .ok (.if_icmp .ge off, 3)) (ht : (pc : Int) + off = (tgt : Int)) (hq : ¬ y ≤ x) (K : GC X ws k n (pc + 3) lv st) : GC X ws k n pc lv (.int y :: .int x :: st) := by
  obtain ⟨p, l, e, R, s, m, args, below, meth, c, Q, D, cy, A⟩ := X
  obtain ⟨hx, hb, hr, hml, hown, hts, hK, hN, hNA, hlk, hnm, hR, hA⟩ := O
  exact fun H locs ls h1 h2 h3 h4 => lv_icmp_ge hx hb hd ht (fun q => absurd q hq) (fun _ => K H locs ls h1 h2 h3 h4)
theorem k_obj (O : OC X own cc nL rm) {idx a : Nat} (w1 : Cond.methodLink own idx Lib.objectInit ∈ lw_gd) (w2 : Cond.instanceMethod Lib.objectInit ∈ lw_gd) (w3 : Cond.code Lib.objectInit ⟨#[0xb1]⟩ 1 none ∈ lw_gd) (hf : 1 ≤ rm.frames) (hlo : (st.map fun v => v.category).sum + 12 ≤ rm.locals) (hd : decode cc pc = .ok (.invokespecial idx, 3)) (K : GC X ws k n (pc + 3) lv st) : GC X ws k n pc lv (.ref a :: st) := by
  obtain ⟨p, l, e, R, s, m, args, below, meth, c, Q, D, cy, A⟩ := X
  obtain ⟨hx, hb, hr, hml, hown, hts, hK, hN, hNA, hlk, hnm, hR, hA⟩ := O
  subst hR
  exact fun H locs ls h1 h2 h3 h4 => W.objInit hx hb hown (hts _ w1) (hts _ w2) (hts _ w3) rfl h4.1 rfl hd hf (by show 2 * 0 + _ + 12 ≤ _; omega) (K H locs ls h1 h2 h3 h4)
theorem k_put (O : OC X own cc nL rm) {ci N f idx a : Nat} {C : String} {T : u_T} {fs : List Value} {v : Value} {ty0 : Nat → FieldType} {ty : FieldType} (i : Nat) (ws' : va_W) (hc : classes[ci]? = some (C, T, N)) (hin : ∀ w ∈ u_ws C T N, w ∈ lw_gd) (hty : ∀ k, k < N → parseFieldDescriptor (T k).2.2.1 = some (ty0 k)) (hnm2 : ∀ a, a < N → ∀ b, b < N → a ≠ b → (T a).2.1 ≠ (T b).2.1) (hk : f < N) (w : Cond.fieldLink own idx (T f).1 (T f).2.1 (T f).2.2.1 ∈ lw_gd) (he : ws[i]? = some (a, .inr (ci, fs))) (hfin : (T f).2.2.2 = false) (hdd : parseFieldDescriptor (T f).2.2.1 = some ty) (hn : narrow ty v = v) (hfit : fits ty v = true) (hl : f < fs.length) (hw : ws.set i (a, .inr (ci, fs.set f v)) = ws') (hd : decode cc pc = .ok (.putfield idx, 3)) (K : GC X ws' k n (pc + 3) lv st) : GC X ws k n pc lv (v :: .ref a :: st) := by
  obtain ⟨p, l, e, R, s, m, args, below, meth, c, Q, D, cy, A⟩ := X
  obtain ⟨hx, hb, hr, hml, hown, hts, hK, hN, hNA, hlk, hnm, hR, hA⟩ := O
  subst hw
  exact fun H locs ls h1 h2 h3 h4 => va_put hx hb hts hin ty0 hty hnm2 hown hK h1 h2 h3 i he hc f hk (hts _ w) (fun _ h => h) hfin hdd hn hfit hl hd (fun H1 locs1 g1 g2 g3 => K H1 locs1 ls g1 g2 g3 h4)
theorem k_putF (O : OC X own cc nL rm) {ci N f idx a : Nat} {C : String} {T : u_T} {fs : List Value} {v : Value} {ty0 : Nat → FieldType} {ty : FieldType} (i : Nat) (ws' : va_W) (hc : classes[ci]? = some (C, T, N)) (hin : ∀ w ∈ u_ws C T N, w ∈ lw_gd) (hty : ∀ k, k < N → parseFieldDescriptor (T k).2.2.1 = some (ty0 k)) (hnm2 : ∀ a, a < N → ∀ b, b < N → a ≠ b → (T a).2.1 ≠ (T b).2.1) (hk : f < N) (w : Cond.fieldLink own idx (T f).1 (T f).2.1 (T f).2.2.1 ∈ lw_gd) (he : ws[i]? = some (a, .inr (ci, fs))) (hfin : (T f).2.2.2 = true) (hdecl : (T f).1 = own) (hdd : parseFieldDescriptor (T f).2.2.1 = some ty) (hn : narrow ty v = v) (hfit : fits ty v = true) (hl : f < fs.length) (hw : ws.set i (a, .inr (ci, fs.set f v)) = ws') (hd : decode cc pc = .ok (.putfield idx, 3)) (K : GC X ws' k n (pc + 3) lv st) : GC X ws k n pc lv (v :: .ref a :: st) := by
  obtain ⟨p, l, e, R, s, m, args, below, meth, c, Q, D, cy, A⟩ := X
  obtain ⟨hx, hb, hr, hml, hown, hts, hK, hN, hNA, hlk, hnm, hR, hA⟩ := O
  subst hw
  exact fun H locs ls h1 h2 h3 h4 => va_putF hx hb hts hin ty0 hty hnm2 hown hK h1 h2 h3 i he hc f hk (hts _ w) (fun _ h => h) hfin hnm hdecl hdd hn hfit hl hd (fun H1 locs1 g1 g2 g3 => K H1 locs1 ls g1 g2 g3 h4)
theorem k_get (O : OC X own cc nL rm) {ci N f idx a : Nat} {C : String} {T : u_T} {fs : List Value} {v : Value} (i : Nat) (hc : classes[ci]? = some (C, T, N)) (hin : ∀ w ∈ u_ws C T N, w ∈ lw_gd) (hk : f < N) (w : Cond.fieldLink own idx (T f).1 (T f).2.1 (T f).2.2.1 ∈ lw_gd) (he : ws[i]? = some (a, .inr (ci, fs))) (hv : fs[f]? = some v) (hd : decode cc pc = .ok (.getfield idx, 3)) (K : GC X ws k n (pc + 3) lv (v :: st)) : GC X ws k n pc lv (.ref a :: st) := by
  obtain ⟨p, l, e, R, s, m, args, below, meth, c, Q, D, cy, A⟩ := X
  obtain ⟨hx, hb, hr, hml, hown, hts, hK, hN, hNA, hlk, hnm, hR, hA⟩ := O
  exact fun H locs ls h1 h2 h3 h4 => va_get hx hb hts hin hown hK h1 i he hc f hk (hts _ w) (fun _ h => h) hv hd (K H locs ls h1 h2 h3 h4)
theorem k_newa (O : OC X own cc nL rm) {atype : ArrayType} {ty : FieldType} (t0 : Nat) (hty : newarray.typeOf atype = ty) (ht : (tysG (qC X))[t0]? = some (qC X t0, ty)) (hno : ∀ C, ty ≠ .object C) (w : Cond.arrayClass (newarray.typeOf atype) ∈ lw_gd) {z : Int32} {N' : Nat} (a0 : vp_A) (ha : ∀ cA : ClassId, vp_cell cA a0 = arrV cA N' (fun _ => defaultValue ty)) (hn : ¬ z < 0) (hN : z.toNatClampNeg = N') (hby : N' * componentBytes ty ≤ 536870912) (hc : k + 1 ≤ rm.cells) (hs : n + N' ≤ rm.slots) (hd : decode cc pc = .ok (.newarray atype, 2))
    (K : ∀ q, GC X (ws ++ [(q, .inl (qC X t0, a0))]) (k + 1) (n + N') (pc + 2) lv (.ref q :: st)) : GC X ws k n pc lv (.int z :: st) := by
  obtain ⟨p, l, e, R, s, m, args, below, meth, c, Q, D, cy, A⟩ := X
  obtain ⟨hx, hb, hr, hml, hown, hts, hK, hN0, hNA, hlk, hnm, hR, hA⟩ := O
  subst hR
  refine fun H locs ls h1 h2 h3 h4 => va_newa hx hb (hts _ w) hty hK h1 h2 h3 hA ha hn hN hby hc hs hd (fun q cA H1 g0 g1 g2 g3 => ?_)
  have e1 := (hK.2 t0 _ ht).2
  have e2 := (g0.2 (tysG cy).length (cA, ty) (by simp)).2
  have e3 : cA = cy t0 := by
    cases ty <;> first | exact absurd rfl (hno _) | exact Option.some.inj (Eq.trans (Eq.symm e2) e1)
  subst e3
  exact K q H1 locs ls g1 g2 g3 h4
theorem k_newq (O : OC X own cc nL rm) {C : String} {idx : Nat} (t0 : Nat) (ht : (tysG (qC X))[t0]? = some (qC X t0, .object C)) (hC : C = "BallastSteps$Row" ∨ C = "BallastSteps$Tank") (w : Cond.classLink own idx C ∈ lw_gd) {z : Int32} {N' : Nat} (hn : ¬ z < 0) (hN : z.toNatClampNeg = N') (hby : N' * 4 ≤ 536870912) (hc : k + 1 ≤ rm.cells) (hs : n + N' ≤ rm.slots) (hd : decode cc pc = .ok (.anewarray idx, 3))
    (K : ∀ q, GC X (ws ++ [(q, .inl (qC X t0, N', .inr (.inr (.inr (.inr (fun _ => none))))))]) (k + 1) (n + N') (pc + 3) lv (.ref q :: st)) : GC X ws k n pc lv (.int z :: st) := by
  obtain ⟨p, l, e, R, s, m, args, below, meth, c, Q, D, cy, A⟩ := X
  obtain ⟨hx, hb, hr, hml, hown, hts, hK, hN0, hNA, hlk, hnm, hR, hA⟩ := O
  subst hR
  have hov : va_AO C s := by
    rcases hC with rfl | rfl
    · exact hNA.1
    · exact hNA.2
  refine fun H locs ls h1 h2 h3 h4 => va_newq hx hb hown (hts _ w) hov hK h1 h2 h3 hA hn hN hby hc hs hd (fun q cA H1 g0 g1 g2 g3 => ?_)
  obtain ⟨_, _, _, _, _, e1⟩ := (hK.2 t0 _ ht).2
  obtain ⟨_, _, _, _, _, e2⟩ := (g0.2 (tysG cy).length (cA, .object C) (by simp)).2
  have e3 : cA = cy t0 := Option.some.inj (e2.symm.trans e1)
  subst e3
  exact K q H1 locs ls g1 g2 g3 h4
theorem k_new (O : OC X own cc nL rm) {ci N idx : Nat} {C : String} {T : u_T} {ty0 : Nat → FieldType} (fs : List Value) (hc : classes[ci]? = some (C, T, N)) (hin : ∀ w ∈ u_ws C T N, w ∈ lw_gd) (hty : ∀ k, k < N → parseFieldDescriptor (T k).2.2.1 = some (ty0 k)) (w1 : Cond.classLink own idx C ∈ lw_gd) (w2 : Cond.instantiable C N ∈ lw_gd) (w3 : Cond.initialized C ∈ lw_gd) (hfs : ∀ j, j < N → defaultValue (ty0 j) = vp_V fs j) (hce : k + 1 ≤ rm.cells) (hs : n + N ≤ rm.slots) (hd : decode cc pc = .ok (.new idx, 3))
    (K : ∀ q, GC X (ws ++ [(q, .inr (ci, fs))]) (k + 1) (n + N) (pc + 3) lv (.ref q :: st)) : GC X ws k n pc lv st := by
  obtain ⟨p, l, e, R, s, m, args, below, meth, c, Q, D, cy, A⟩ := X
  obtain ⟨hx, hb, hr, hml, hown, hts, hK, hN0, hNA, hlk, hnm, hR, hA⟩ := O
  subst hR
  exact fun H locs ls h1 h2 h3 h4 => va_new hx hb hts hin ty0 hty hown (hts _ w1) (hts _ w2) (hts _ w3) hK h1 h2 h3 hA hc hfs hce hs hd (fun q H1 g1 g2 g3 => K q H1 locs ls g1 g2 g3 h4)
theorem k_astq (O : OC X own cc nL rm) {t0 ci a v N' : Nat} {r : vw_C} {vs : List Value} {f : Nat → Option Nat} {z : Int32} (i j : Nat) (ws' : va_W) (he : ws[i]? = some (a, .inl (qC X t0, N', .inr (.inr (.inr (.inr f)))))) (ht : (tysG (qC X))[t0]? = some (qC X t0, .object r.1)) (hv : ws[j]? = some (v, .inr (ci, vs))) (hc : classes[ci]? = some r) (hin : vp_in z N') (hw : ws.set i (a, .inl (qC X t0, N', .inr (.inr (.inr (.inr (va_up f z.toNatClampNeg (some v))))))) = ws') (hd : decode cc pc = .ok (.aastore, 1)) (K : GC X ws' k n (pc + 1) lv st) : GC X ws k n pc lv (.ref v :: .int z :: .ref a :: st) := by
  obtain ⟨p, l, e, R, s, m, args, below, meth, c, Q, D, cy, A⟩ := X
  obtain ⟨hx, hb, hr, hml, hown, hts, hK, hN0, hNA, hlk, hnm, hR, hA⟩ := O
  subst hw
  exact fun H locs ls h1 h2 h3 h4 => va_astq hx hb hK h1 h2 h3 i t0 j ci he ht hv hc hin hd (fun H1 locs1 g1 g2 g3 => K H1 locs1 ls g1 g2 g3 h4)
theorem k_iast (O : OC X own cc nL rm) {a N' : Nat} {f : Nat → Int32} {z x : Int32} (i : Nat) (ws' : va_W) (he : ws[i]? = some (a, .inl (qC X 0, N', .inl f))) (hin : vp_in z N') (hw : ws.set i (a, .inl (qC X 0, N', .inl (upd f z.toNatClampNeg x))) = ws') (hd : decode cc pc = .ok (.iastore, 1)) (K : GC X ws' k n (pc + 1) lv st) : GC X ws k n pc lv (.int x :: .int z :: .ref a :: st) := by
  obtain ⟨p, l, e, R, s, m, args, below, meth, c, Q, D, cy, A⟩ := X
  obtain ⟨hx, hb, hr, hml, hown, hts, hK, hN0, hNA, hlk, hnm, hR, hA⟩ := O
  subst hw
  exact fun H locs ls h1 h2 h3 h4 => va_iast hx hb hK h1 h2 h3 i 0 he rfl hin hd (fun H1 locs1 g1 g2 g3 => K H1 locs1 ls g1 g2 g3 h4)
/-- a world told otherwise -/
theorem k_show (ws' : va_W) (h : ws = ws') (K : GC X ws' k n pc lv st) : GC X ws k n pc lv st := h ▸ K
theorem k_ret {h mc ms : Nat} {mk : (Nat → ClassId) → (Nat → Nat) → va_W} (O : OC X own cc nL rm) (hQ : RtC X h mc ms mk) (u : Nat → Nat) (hu : u 0 = h) (hk : k = mc) (hm : n = ms) (hPP : ∀ D H, va_P D classes ws H → va_P D classes (mk (qC X) u) H) (hDD : ∀ A, va_D A ws → va_D A (mk (qC X) u)) (hd : decode cc pc = .ok (.return_, 1)) : GC X ws k n pc lv [] := by
  obtain ⟨p, l, e, R, s, m, args, below, meth, c, Q, D, cy, A⟩ := X
  obtain ⟨hx, hb, hr, hml, hown, hts, hK, hN0, hNA, hlk, hnm, hR, hA⟩ := O
  cases hQ
  subst hk; subst hm
  exact fun H locs ls h1 h2 h3 h4 => W.vret hx hb hr (fun t ht hW => ⟨⟨u, rfl, hu, by rw [ht]; exact hPP D H h1, hDD A h2⟩, h3.F ht⟩) h3.2.2 hd
/-- a constructor called: the cell i of the world is the new object, blank -/
theorem k_init (O : OC X own cc nL rm) {y : MethodName} {c2 : ByteArray} {n2 idx h mc ms : Nat} {rm2 : Room} {e0 : va_E} {mk : (Nat → ClassId) → (Nat → Nat) → va_W} (hC : CtC (qL X) y c2 n2 rm2 e0 mk mc ms) (i : Nat) (isR : List Nat) (wr : va_W) (he : ws[i]? = some (h, e0)) (hR2 : isR.map (fun j => ws[j]?) = wr.map some) (hn : va_nd isR = true) (hdis : ∀ j ∈ isR, j ∉ [i]) (hyn : y.name = "<init>")
    (w1 : (Cond.methodLink own idx y ∈ lw_gd) ∨ ∃ host, Cond.methodLinkNest own idx y host ∈ lw_tbl) (w2 : Cond.instanceMethod y ∈ lw_gd) (w3 : Cond.initialized y.cls ∈ lw_gd) (w4 : Cond.code y c2 n2 none ∈ lw_gd) (hd2 : y.cls ≠ "java/lang/invoke/MethodHandle" ∧ y.cls ≠ "java/lang/invoke/VarHandle" ∧ (parseMethodDescriptor y.desc).map (fun d => d.parameters.length) = some 0) (hrm : rm2.cells = mc ∧ rm2.slots = ms ∧ rm2.frames + 1 ≤ rm.frames ∧ 8 + (n2 + 11) + rm2.locals ≤ rm.locals) (hrest : (st.map fun v => v.category).sum ≤ 8) (hce : k + mc ≤ rm.cells ∧ n + ms ≤ rm.slots) (hd : decode cc pc = .ok (.invokespecial idx, 3))
    (K : ∀ u : Nat → Nat, u 0 = h → GC X (wr ++ mk (qC X) u) (k + mc) (n + ms) (pc + 3) lv st) : GC X ws k n pc lv (.ref h :: st) := by
  obtain ⟨p, l, e, R, s, m, args, below, meth, c, Q, D, cy, A⟩ := X
  obtain ⟨hx, hb, hr, hml, hown, hts, hK, hN0, hNA, hlk, hnm, hR, hA⟩ := O
  subst hR
  intro H locs ls h1 h2 h3 h4
  have hPc : va_P D classes [(h, e0)] H := fun j q hj => by
    have hl := (List.getElem?_eq_some_iff.mp hj).1
    have hj0 : j = 0 := by simp at hl; exact hl
    subst hj0
    cases hj
    exact h1 i _ he
  have hFc : ∀ q, va_A [(h, e0)] H.size q → A q := va_free (wc := [(h, e0)]) h2 h3 hA [i] (by simp [he])
  have hpre : PreS s H (va_Pc [.ref h] (fun U => U.heap.size = H.size ∧ va_P D classes [(h, e0)] U.heap ∧ va_K D classes (tysG cy) U ∧ NG U ∧ NA U)) [.ref h] := by
    refine ⟨?_, fun U hU hW => ⟨rfl, by rw [hU], by rw [hU]; exact hPc, va_K.moved hW.alike hK, hN0.warm hW, hNA.moved hW.alike⟩⟩
    intro a U g mk2 ⟨q0, q1, q2, q3, q4, q5⟩
    exact ⟨q0, q1, q2, va_K.moved (u := U) (U := U.calling g mk2 a) (Vm.Alike.refl U.vm) q3, NG.same (s := U) (U := U.calling g mk2 a) rfl q4, NA.moved (u := U) (U := U.calling g mk2 a) (Vm.Alike.refl U.vm) q5⟩
  have hrun : va_Run p l e R s m args below meth c H locs k n mc ms (F0 m pc ls (.ref h :: st)) st (va_Qv (fun u : Nat → Nat => u 0 = h) (fun u t => va_P D classes (mk cy u) t.heap ∧ va_D (va_A [(h, e0)] H.size) (mk cy u)) (va_A [(h, e0)] H.size) #[.ref h]) (va_A [(h, e0)] H.size) := by
    rcases w1 with w1 | ⟨host, w1⟩
    · exact va_runI (As := []) (rest := st) ⟨hx, hb, hml, hown, hts⟩ (hC D cy h H.size) (cwI 0 hts (gd_cons w4) rfl hrm.1 hrm.2.1 (hts _ w3) (hts _ w1) (hts _ w2) hyn hd2 hrm.2.2) hpre rfl rfl (by rw [← hml]; exact h4.1) rfl (lv_room hrest) hd hce
    · exact va_runIN (As := []) (rest := st) ⟨hx, hb, hml, hown, hts⟩ (hC D cy h H.size) ⟨va_cnB 0 hts (gd_cons w4) rfl hrm.1 hrm.2.1 (hN0 _ w1 rfl) (hts _ w3) hd2 hrm.2.2, hyn, hts _ w2⟩ hpre rfl rfl (by rw [← hml]; exact h4.1) rfl (lv_room hrest) hd hce
  refine va_callv hrun h3 (fun q _ hq => hFc q hq) hFc (fun u t H1 locs1 ht hvm hw hB hz hk hS1 => ?_)
  obtain ⟨hP1, hD1⟩ := hB
  rw [ht] at hP1
  obtain ⟨g1, g2⟩ := va_join (wr := wr) (w1 := mk cy u) h1 h2 [i] isR (wc := [(h, e0)]) (by simp [he]) hR2 hn hdis hk hFc hP1 hD1
  exact K u hw H1 locs1 ls g1 g2 hS1 h4
end GCrows
