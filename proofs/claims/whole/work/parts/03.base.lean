/-! THE BASE: one memory for a whole object graph, a judgement that a machine at a pc goes along with a program in passing style, rows of it -/
abbrev classes : List vw_C := [(RX0, TX0, 4), (RX1, TX1, 3), (RX2, TX2, 10), (RX3, TX3, 7), (RX4, TX4, 4), (RX5, TX5, 7), (RX6, TX6, 36)]
def tysG (cy : Nat → ClassId) : List (ClassId × FieldType) := [(cy 0, .int), (cy 1, .long), (cy 2, .boolean), (cy 3, .object "BallastSteps$Row"), (cy 4, .object "BallastSteps$Tank")]
abbrev MS : Type := (Nat → Nat → Int32) × (Nat → Nat → Int64)
def sI (S : MS) (j f : Nat) (v : Int32) : MS := (va_up S.1 j (upd (S.1 j) f v), S.2)
def sL (S : MS) (j f : Nat) (v : Int64) : MS := (S.1, va_up S.2 j (vp_updL (S.2 j) f v))
def sR (S : MS) (j : Nat) (r : Nat → Int32) : MS := (va_up S.1 j r, S.2)
abbrev EG : Type := (Nat → Nat) → Nat → (Nat → Int32) → (Nat → Int64) → va_E
def wG (N : Nat) (E : EG) (ad : Nat → Nat) (S : MS) : va_W := (List.range N).map fun j => (ad j, E ad j (S.1 j) (S.2 j))
def AG (N : Nat) (ad : Nat → Nat) : Nat → Prop := fun q => ∃ j, j < N ∧ q = ad j
def IG (N : Nat) (ad : Nat → Nat) : Prop := ∀ i j, i < N → j < N → ad i = ad j → i = j
theorem wG_at {N : Nat} {E : EG} {ad : Nat → Nat} {S : MS} {j : Nat} (h : j < N) : (wG N E ad S)[j]? = some (ad j, E ad j (S.1 j) (S.2 j)) := by
  simp [wG, h]
theorem wG_inv {N : Nat} {E : EG} {ad : Nat → Nat} {S : MS} {j : Nat} {q : Nat × va_E} (h : (wG N E ad S)[j]? = some q) : j < N ∧ q = (ad j, E ad j (S.1 j) (S.2 j)) := by
  have hl : j < (wG N E ad S).length := (List.getElem?_eq_some_iff.mp h).1
  have hj : j < N := by simpa [wG] using hl
  rw [wG_at hj] at h
  exact ⟨hj, (Option.some.inj h).symm⟩
theorem wG_D {N : Nat} {E : EG} {ad : Nat → Nat} {S : MS} (h : IG N ad) : va_D (AG N ad) (wG N E ad S) := by
  refine ⟨fun i j p q hi hj hpq => ?_, fun k q hk => ?_⟩
  · obtain ⟨h1, rfl⟩ := wG_inv hi
    obtain ⟨h2, rfl⟩ := wG_inv hj
    exact h i j h1 h2 hpq
  · obtain ⟨h1, rfl⟩ := wG_inv hk
    exact ⟨k, h1, rfl⟩
theorem wG_set {N : Nat} {E : EG} {ad : Nat → Nat} {S S' : MS} {j : Nat} {e : va_E} (he : E ad j (S'.1 j) (S'.2 j) = e) (ho : ∀ i, i ≠ j → S'.1 i = S.1 i ∧ S'.2 i = S.2 i) : (wG N E ad S).set j (ad j, e) = wG N E ad S' := by
  apply List.ext_getElem?
  intro i
  by_cases hN : i < N
  · rw [wG_at hN]
    by_cases hij : i = j
    · subst hij
      rw [List.getElem?_set_self (by simpa [wG] using hN), he]
    · rw [List.getElem?_set_ne (Ne.symm hij), wG_at hN, (ho i hij).1, (ho i hij).2]
  · rw [List.getElem?_eq_none (by simp [wG]; omega), List.getElem?_eq_none (by simp [wG]; omega)]
theorem wG_setI {N : Nat} {E : EG} {ad : Nat → Nat} {S : MS} {j f : Nat} {v : Int32} {e : va_E} (he : E ad j (upd (S.1 j) f v) (S.2 j) = e) : (wG N E ad S).set j (ad j, e) = wG N E ad (sI S j f v) :=
  wG_set (by simp [sI, va_up, he]) (fun i hi => by simp [sI, va_up, hi])
theorem wG_setL {N : Nat} {E : EG} {ad : Nat → Nat} {S : MS} {j f : Nat} {v : Int64} {e : va_E} (he : E ad j (S.1 j) (vp_updL (S.2 j) f v) = e) : (wG N E ad S).set j (ad j, e) = wG N E ad (sL S j f v) :=
  wG_set (by simp [sL, va_up, he]) (fun i hi => by simp [sL, va_up, hi])
theorem wG_setR {N : Nat} {E : EG} {ad : Nat → Nat} {S : MS} {j : Nat} {r : Nat → Int32} {e : va_E} (he : E ad j r (S.2 j) = e) : (wG N E ad S).set j (ad j, e) = wG N E ad (sR S j r) :=
  wG_set (by simp [sR, va_up, he]) (fun i hi => by simp [sR, va_up, hi])
/-- the powers of 3 -/
def pw3 : Nat → Int32 := fun j => match j with | 0 => 1 | 1 => 3 | 2 => 9 | 3 => 27 | 4 => 81 | _ => 243
def ZG (A : Nat → Prop) (U : State) (H : Heap) : Prop := ∃ t3 : Nat, va_Z "BallastSteps" "POWERS_OF_3" "[I" (.ref t3) A U H ∧ va_T .int t3 6 (fun j => .int (pw3 j)) A U H
theorem ZG.moved {A : Nat → Prop} {u U : State} {H : Heap} (hvm : u.vm.Alike U.vm) (h : ZG A u H) : ZG A U H := by
  obtain ⟨t, h1, h2⟩ := h
  exact ⟨t, h1.moved hvm, h2.moved hvm⟩
theorem ZG.kept {A : Nat → Prop} {U : State} {H H1 : Heap} (h : ZG A U H) (hq : ∀ a : Nat, a < H.size → ¬ A a → H1[a]? = H[a]?) : ZG A U H1 := by
  obtain ⟨t, h1, h2⟩ := h
  exact ⟨t, h1.kept hq, h2.kept hq⟩
/-- the links of private members of nest mates -/
def NGw (w : Cond) : Bool := match w with
  | .fieldLinkNest .. => true
  | .methodLinkNest .. => true
  | _ => false
def NG (U : State) : Prop := ∀ w ∈ lw_tbl, NGw w = true → va_Nw w U
theorem NG.warm {s U : State} (hW : s.WarmedH U.vm) (h : NG s) : NG U := by
  intro w hw hn
  have h1 := h w hw hn
  cases w with
  | fieldLinkNest a i b n d k => exact va_Nw.warmF hW h1
  | methodLinkNest a i x k => exact va_Nw.warmM hW h1
  | _ => cases hn
theorem NG.same {s U : State} (hW : s.vm = U.vm) (h : NG s) : NG U := by
  intro w hw hn
  have h1 := h w hw hn
  cases w with
  | fieldLinkNest a i b n d k => exact va_Nw.same rfl hW h1
  | methodLinkNest a i x k => exact va_Nw.same rfl hW h1
  | _ => cases hn
/-- the program's world in a state: its cells, classes, the static table, the nest's links, addresses apart -/
def PG (N : Nat) (E : (Nat → ClassId) → EG) (D : va_G) (cy : Nat → ClassId) (ad : Nat → Nat) (S : MS) (U : State) : Prop :=
  va_P D classes (wG N (E cy) ad S) U.heap ∧ va_K D classes (tysG cy) U ∧ IG N ad ∧ ZG (AG N ad) U U.heap ∧ NG U
abbrev GX (α : Type) : Type := Program × Launch × Env × Room × State × MethodId × Array Value × List Frame × Method × Code × (State → Prop) × α × va_G × (Nat → ClassId) × (Nat → Nat)
def aX {α : Type} (X : GX α) : Nat → Nat := X.2.2.2.2.2.2.2.2.2.2.2.2.2.2
def cX {α : Type} (X : GX α) : Nat → ClassId := X.2.2.2.2.2.2.2.2.2.2.2.2.2.1
def lX {α : Type} (X : GX α) : Launch := X.2.1
/-- the machine at pc, with the memory S, the locals lv, the operands st, goes along with the program P -/
def GM {α : Type} (N : Nat) (E : (Nat → ClassId) → EG) (X : GX α) (P : Option α) (S : MS) (pc : Nat) (lv : List (Nat × Value)) (st : List Value) : Prop :=
  match X with
  | (p, l, e, R, s, m, args, below, meth, c, Q, out, D, cy, ad) => ∀ (H : Heap) (locs : List Loc) (ls : Array Slot), P = some out → va_P D classes (wG N (E cy) ad S) H → va_S (AG N ad) s.heap H locs → lv_has ls c.maxLocals lv → W p l e R s m args below meth c H locs 0 0 Q (F0 m pc ls st)
/-- what a method's body stands on -/
def OK {α : Type} (N : Nat) (X : GX α) (own : String) (cc : ByteArray) (nL : Nat) (ret : Option FieldType) (rm : Room) : Prop :=
  match X with
  | (p, l, e, R, s, m, args, below, meth, c, Q, out, D, cy, ad) => p.tables.exec = Jvm.exec ∧ c.code = cc ∧ meth.sig.returnType = ret ∧ c.maxLocals = nL ∧ s.vm.findClass own = some m.cls ∧ (∀ w ∈ lw_gd, w.before args s = true) ∧ va_K D classes (tysG cy) s ∧ IG N ad ∧ ZG (AG N ad) s s.heap ∧ NG s ∧ meth.locks = false ∧ R = rm
def BG (N : Nat) (E : (Nat → ClassId) → EG) (D : va_G) (cy : Nat → ClassId) (ad : Nat → Nat) : MS → State → Prop := fun u t => va_P D classes (wG N (E cy) ad u) t.heap
/-- what a return must meet -/
def RtI {α : Type} (N : Nat) (E : (Nat → ClassId) → EG) (X : GX α) (K : Int32 → MS → Option α) : Prop :=
  match X with
  | (p, l, e, R, s, m, args, below, meth, c, Q, out, D, cy, ad) => Q = MQ below (va_Qi (fun r u => K r u = some out) (BG N E D cy ad) (AG N ad)) args s 0 0 (AG N ad)
def RtL {α : Type} (N : Nat) (E : (Nat → ClassId) → EG) (X : GX α) (K : Int64 → MS → Option α) : Prop :=
  match X with
  | (p, l, e, R, s, m, args, below, meth, c, Q, out, D, cy, ad) => Q = MQ below (va_Ql (fun r u => K r u = some out) (BG N E D cy ad) (AG N ad)) args s 0 0 (AG N ad)
def RtV {α : Type} (N : Nat) (E : (Nat → ClassId) → EG) (X : GX α) (K : MS → Option α) : Prop :=
  match X with
  | (p, l, e, R, s, m, args, below, meth, c, Q, out, D, cy, ad) => Q = MQ below (va_Qv (fun u => K u = some out) (BG N E D cy ad) (AG N ad)) args s 0 0 (AG N ad)
/-- a reference that is returned is the cell j -/
def RtR {α : Type} (N : Nat) (E : (Nat → ClassId) → EG) (X : GX α) (j : Nat) (K : MS → Option α) : Prop :=
  match X with
  | (p, l, e, R, s, m, args, below, meth, c, Q, out, D, cy, ad) => Q = MQ below (va_Qr (fun u => K u = some out) (fun u a t => a = ad j ∧ BG N E D cy ad u t) (AG N ad)) args s 0 0 (AG N ad)
/-- contracts -/
abbrev rmG (f n : Nat) : Room := { frames := f, cells := 0, slots := 0, locals := n }
def CtI (N : Nat) (E : (Nat → ClassId) → EG) (l : Launch) (y : MethodName) (cc : ByteArray) (nL : Nat) (ret : Option FieldType) (rm : Room) (S : MS) (av : (Nat → Nat) → List Value) {α : Type} (f : (Int32 → MS → Option α) → Option α) : Prop :=
  ∀ (D : va_G) (cy : Nat → ClassId) (ad : Nat → Nat) (K : Int32 → MS → Option α) (out : α), f K = some out → Met l y (.code y cc nL ret :: lw_gd) rm (va_Pc (av ad) (PG N E D cy ad S)) (va_Qi (fun r u => K r u = some out) (BG N E D cy ad) (AG N ad)) 0 0 (AG N ad)
def CtL (N : Nat) (E : (Nat → ClassId) → EG) (l : Launch) (y : MethodName) (cc : ByteArray) (nL : Nat) (ret : Option FieldType) (rm : Room) (S : MS) (av : (Nat → Nat) → List Value) {α : Type} (f : (Int64 → MS → Option α) → Option α) : Prop :=
  ∀ (D : va_G) (cy : Nat → ClassId) (ad : Nat → Nat) (K : Int64 → MS → Option α) (out : α), f K = some out → Met l y (.code y cc nL ret :: lw_gd) rm (va_Pc (av ad) (PG N E D cy ad S)) (va_Ql (fun r u => K r u = some out) (BG N E D cy ad) (AG N ad)) 0 0 (AG N ad)
def CtV (N : Nat) (E : (Nat → ClassId) → EG) (l : Launch) (y : MethodName) (cc : ByteArray) (nL : Nat) (ret : Option FieldType) (rm : Room) (S : MS) (av : (Nat → Nat) → List Value) {α : Type} (f : (MS → Option α) → Option α) : Prop :=
  ∀ (D : va_G) (cy : Nat → ClassId) (ad : Nat → Nat) (K : MS → Option α) (out : α), f K = some out → Met l y (.code y cc nL ret :: lw_gd) rm (va_Pc (av ad) (PG N E D cy ad S)) (va_Qv (fun u => K u = some out) (BG N E D cy ad) (AG N ad)) 0 0 (AG N ad)
def CtR (N : Nat) (E : (Nat → ClassId) → EG) (l : Launch) (y : MethodName) (cc : ByteArray) (nL : Nat) (ret : Option FieldType) (rm : Room) (S : MS) (av : (Nat → Nat) → List Value) (j : Nat) {α : Type} (f : (MS → Option α) → Option α) : Prop :=
  ∀ (D : va_G) (cy : Nat → ClassId) (ad : Nat → Nat) (K : MS → Option α) (out : α), f K = some out → Met l y (.code y cc nL ret :: lw_gd) rm (va_Pc (av ad) (PG N E D cy ad S)) (va_Qr (fun u => K u = some out) (fun u a t => a = ad j ∧ BG N E D cy ad u t) (AG N ad)) 0 0 (AG N ad)
/-- the words of programs: a value named; an index looked at; a divisor looked at; a truth value looked at -/
def nm {α β : Type} (v : β) (P : β → Option α) : Option α := P v
def ck {α : Type} (i : Int32) (n : Nat) (P : Nat → Option α) : Option α := if i < 0 ∨ n ≤ i.toNatClampNeg then none else P i.toNatClampNeg
def dz {α : Type} (y : Int32) (P : Option α) : Option α := if y = 0 then none else P
def zb {α : Type} (r : Int32) (P : Option α) : Option α := if r = 0 ∨ r = 1 then P else none
section GMbody
variable {α : Type} {N : Nat} {E : (Nat → ClassId) → EG} {l : Launch} {y : MethodName} {cc : ByteArray} {nL : Nat} {ret : Option FieldType} {rm : Room} {S : MS} {av : (Nat → Nat) → List Value}
theorem body_OK {X : GX α} {p : Program} {e : Env} {s : State} {m : MethodId} {args : Array Value} {below : List Frame} {meth : Method} {c : Code} {Q : State → Prop} {out : α} {D : va_G} {cy : Nat → ClassId} {ad : Nat → Nat} {s₁ : State}
    (hX : X = (p, l, e, rm, s, m, args, below, meth, c, Q, out, D, cy, ad)) (B : BodyLoose p l y (headSpec (.code y cc nL ret :: lw_gd) rm) cc nL ret e s m args below meth c s₁) (hml : c.maxLocals = nL) (hG : PG N E D cy ad S s) : OK N X y.cls cc nL ret rm := by
  subst hX
  exact ⟨B.exec, B.bytes, B.returns, hml, findClass_of_methodNamed B.named, fun w hw => atoms_spec (ws := .code y cc nL ret :: lw_gd) B.pre w (List.mem_cons_of_mem _ hw), hG.2.1, hG.2.2.1, hG.2.2.2.1, hG.2.2.2.2, B.notSynchronized, rfl⟩
theorem CtI.of (hy : plainName y.cls = true) {f : (Int32 → MS → Option α) → Option α} (hn : ∀ ad, (lg_sl (av ad)).length ≤ nL)
    (body : ∀ (X : GX α) (K : Int32 → MS → Option α), lX X = l → OK N X y.cls cc nL ret rm → RtI N E X K → GM N E X (f K) S 0 (lv_args 0 (av (aX X))) []) : CtI N E l y cc nL ret rm S av f := by
  intro D cy ad K out hf
  refine Met.ofW (cc := cc) (maxL := nL) (ret := ret) hy rfl ?_
  intro p e s m args below meth c s₁ B hml hv
  obtain ⟨rfl, hG⟩ := hv
  have h := body (p, l, e, rm, s, m, (av ad).toArray, below, meth, c, _, out, D, cy, ad) K rfl (body_OK rfl B hml hG) rfl
  have hl := lv_entry (av ad) (n := nL) (hn ad)
  rw [lg_entry_eq]
  exact h s.heap [] _ hf hG.1 va_S.rf (by rw [hml]; exact hl)
theorem CtL.of (hy : plainName y.cls = true) {f : (Int64 → MS → Option α) → Option α} (hn : ∀ ad, (lg_sl (av ad)).length ≤ nL)
    (body : ∀ (X : GX α) (K : Int64 → MS → Option α), lX X = l → OK N X y.cls cc nL ret rm → RtL N E X K → GM N E X (f K) S 0 (lv_args 0 (av (aX X))) []) : CtL N E l y cc nL ret rm S av f := by
  intro D cy ad K out hf
  refine Met.ofW (cc := cc) (maxL := nL) (ret := ret) hy rfl ?_
  intro p e s m args below meth c s₁ B hml hv
  obtain ⟨rfl, hG⟩ := hv
  have h := body (p, l, e, rm, s, m, (av ad).toArray, below, meth, c, _, out, D, cy, ad) K rfl (body_OK rfl B hml hG) rfl
  have hl := lv_entry (av ad) (n := nL) (hn ad)
  rw [lg_entry_eq]
  exact h s.heap [] _ hf hG.1 va_S.rf (by rw [hml]; exact hl)
theorem CtV.of (hy : plainName y.cls = true) {f : (MS → Option α) → Option α} (hn : ∀ ad, (lg_sl (av ad)).length ≤ nL)
    (body : ∀ (X : GX α) (K : MS → Option α), lX X = l → OK N X y.cls cc nL ret rm → RtV N E X K → GM N E X (f K) S 0 (lv_args 0 (av (aX X))) []) : CtV N E l y cc nL ret rm S av f := by
  intro D cy ad K out hf
  refine Met.ofW (cc := cc) (maxL := nL) (ret := ret) hy rfl ?_
  intro p e s m args below meth c s₁ B hml hv
  obtain ⟨rfl, hG⟩ := hv
  have h := body (p, l, e, rm, s, m, (av ad).toArray, below, meth, c, _, out, D, cy, ad) K rfl (body_OK rfl B hml hG) rfl
  have hl := lv_entry (av ad) (n := nL) (hn ad)
  rw [lg_entry_eq]
  exact h s.heap [] _ hf hG.1 va_S.rf (by rw [hml]; exact hl)
theorem CtR.of (hy : plainName y.cls = true) {j : Nat} {f : (MS → Option α) → Option α} (hn : ∀ ad, (lg_sl (av ad)).length ≤ nL)
    (body : ∀ (X : GX α) (K : MS → Option α), lX X = l → OK N X y.cls cc nL ret rm → RtR N E X j K → GM N E X (f K) S 0 (lv_args 0 (av (aX X))) []) : CtR N E l y cc nL ret rm S av j f := by
  intro D cy ad K out hf
  refine Met.ofW (cc := cc) (maxL := nL) (ret := ret) hy rfl ?_
  intro p e s m args below meth c s₁ B hml hv
  obtain ⟨rfl, hG⟩ := hv
  have h := body (p, l, e, rm, s, m, (av ad).toArray, below, meth, c, _, out, D, cy, ad) K rfl (body_OK rfl B hml hG) rfl
  have hl := lv_entry (av ad) (n := nL) (hn ad)
  rw [lg_entry_eq]
  exact h s.heap [] _ hf hG.1 va_S.rf (by rw [hml]; exact hl)
end GMbody
