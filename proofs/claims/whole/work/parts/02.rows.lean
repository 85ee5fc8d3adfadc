/-! A walk with the heap left out: Z K P pc L st says: from every heap that holds P, with locals L and stack st, the walk comes to its end. -/
def zRM (d : Nat) : Room := { frames := d, cells := 0, slots := 0, locals := 40 * d }
abbrev zE : Type := va_G × (Nat → ClassId) × Nat × (Nat → Nat)
abbrev zKey : Type := Nat × Nat × Nat
def zcl : List vw_C := [(RX0, TX0, 6), (RX1, TX1, 10), (RX2, TX2, 6), (RX3, TX3, 3), (RX4, TX4, 7), (RX5, TX5, 5), (RX6, TX6, 8), (RX7, TX7, 48)]
def zT (E : zE) : List (ClassId × FieldType) := [(E.2.1 0, .int), (E.2.1 1, .long), (E.2.1 2, .object RX4), (E.2.1 3, .object RX0), (E.2.1 4, .object RX3)]
/-- the cells of a system, each at the address of its key -/
def zCel {σ : Type} (E : zE) (adr : zKey → Nat) (cell : σ → zKey → va_E) (ok : zKey → Prop) (F : σ) (H : Heap) : Prop := ∀ k, ok k → va_at E.1 zcl (adr k, cell F k) H
/-- what holds of a state of the machine and its heap: what lies still there, and the cells -/
def zPP {σ : Type} (E : zE) (adr : zKey → Nat) (cell : σ → zKey → va_E) (ok : zKey → Prop) (ev : State → Heap → Prop) (F : σ) (U : State) (H : Heap) : Prop := ev U H ∧ zCel E adr cell ok F H
/-- what holds of the machine's tables -/
def zPre (E : zE) (eu : State → Prop) (U : State) : Prop := va_K E.1 zcl (zT E) U ∧ eu U
def zSy (adr : zKey → Nat) (ok : zKey → Prop) (eu : State → Prop) (ev : State → Heap → Prop) (A : Nat → Prop) : Prop :=
  (∀ k k', ok k → ok k' → adr k = adr k' → k = k') ∧ (∀ k, ok k → A (adr k)) ∧ (∀ u U H, u.vm.Alike U.vm → ev u H → ev U H) ∧ (∀ U H H1, ev U H → H.size ≤ H1.size → (∀ q : Nat, q < H.size → ¬ A q → H1[q]? = H[q]?) → ev U H1) ∧ (∀ s U : State, s.WarmedH U.vm → eu s → eu U) ∧ (∀ u U : State, U.vm = u.vm → eu u → eu U)
def zQ (A : Nat → Prop) (Post : Option Value → State → Prop) : Array Value → State → Outcome → State → Prop := fun _ st oc t => (∃ v, oc = .returned v ∧ Post v t) ∧ va_F A st t
/-- a contract: from F, with the arguments as, method y returns, and post holds of the answer and the new state -/
def zMet {σ : Type} (l : Launch) (E : zE) (adr : zKey → Nat) (cell : σ → zKey → va_E) (ok : zKey → Prop) (eu : State → Prop) (ev : State → Heap → Prop) (A : Nat → Prop) (y : MethodName) (cc : ByteArray) (mL : Nat) (ret : Option FieldType) (d : Nat) (as : List Value) (F : σ) (post : Option Value → σ → Prop) : Prop :=
  Met l y (Cond.code y cc mL ret :: zTB) (zRM d) (va_Pc as (fun U => zPre E eu U ∧ zPP E adr cell ok ev F U U.heap)) (zQ A (fun v t => ∃ F', post v F' ∧ zPP E adr cell ok ev F' t t.heap)) 0 0 A
abbrev zK : Type := (Heap → List Loc → JFrame → Prop) × MethodId × (Heap → List Loc → Prop) × Nat
def Z (K : zK) (P : Heap → Prop) (pc : Nat) (L : List (Nat × Value)) (st : List Value) : Prop := ∀ (H : Heap) (locs : List Loc) (ls : Array Slot), K.2.2.1 H locs → P H → lv_has ls K.2.2.2 L → K.1 H locs (F0 K.2.1 pc ls st)
/-- where a walk is: the machine, the method's code, the words, the system's cells -/
def zC {σ : Type} (l : Launch) (E : zE) (adr : zKey → Nat) (cell : σ → zKey → va_E) (ok : zKey → Prop) (eu : State → Prop) (ev : State → Heap → Prop) (A : Nat → Prop) (K : zK) (cc : ByteArray) (own : String) (R : Room) (s : State) (mL : Nat) : Prop :=
  ∃ (p : Program) (e : Env) (m : MethodId) (args : Array Value) (below : List Frame) (meth : Method) (c : Code) (n1 n2 : Nat) (Q : State → Prop),
    K = ((fun H locs g => W p l e R s m args below meth c H locs n1 n2 Q g), m, (fun H locs => va_S A s.heap H locs), mL) ∧ p.tables.exec = Jvm.exec ∧ c.code = cc ∧ c.maxLocals = mL ∧ s.vm.findClass own = some m.cls ∧ (∀ w ∈ zTB, w.before args s = true) ∧ va_K E.1 zcl (zT E) s ∧ eu s ∧ zSy adr ok eu ev A ∧ n1 ≤ R.cells ∧ n2 ≤ R.slots
/-- the same, at a method's end too -/
def zR {σ : Type} (l : Launch) (E : zE) (adr : zKey → Nat) (cell : σ → zKey → va_E) (ok : zKey → Prop) (eu : State → Prop) (ev : State → Heap → Prop) (A : Nat → Prop) (K : zK) (cc : ByteArray) (own : String) (d : Nat) (s : State) (mL : Nat) (ret : Option FieldType) (post : Option Value → σ → Prop) : Prop :=
  ∃ (p : Program) (e : Env) (m : MethodId) (args : Array Value) (below : List Frame) (meth : Method) (c : Code),
    K = ((fun H locs g => W p l e (zRM d) s m args below meth c H locs 0 0 (MQ below (zQ A (fun v t => ∃ F', post v F' ∧ zPP E adr cell ok ev F' t t.heap)) args s 0 0 A) g), m, (fun H locs => va_S A s.heap H locs), mL) ∧ p.tables.exec = Jvm.exec ∧ c.code = cc ∧ c.maxLocals = mL ∧ meth.sig.returnType = ret ∧ meth.locks = false ∧ s.vm.findClass own = some m.cls ∧ (∀ w ∈ zTB, w.before args s = true) ∧ va_K E.1 zcl (zT E) s ∧ eu s ∧ zSy adr ok eu ev A
def zst (L : List (Nat × Value)) (i : Nat) (v : Value) : List (Nat × Value) := (i, v) :: L.filter (fun q => !(q.1 == i) && !(q.1 + 1 == i && q.2.category == 2))
def zst2 (L : List (Nat × Value)) (i : Nat) (v : Value) : List (Nat × Value) := (i, v) :: L.filter (fun q => !(q.1 == i) && (!(q.1 == i + 1) && !(q.1 + 1 == i && q.2.category == 2)))
section ZA
variable {σ : Type} {l : Launch} {E : zE} {adr : zKey → Nat} {cell : σ → zKey → va_E} {ok : zKey → Prop} {eu : State → Prop} {ev : State → Heap → Prop} {A : Nat → Prop} {K : zK} {cc : ByteArray} {own : String} {R : Room} {s : State} {mL : Nat} {d : Nat} {ret : Option FieldType} {post : Option Value → σ → Prop} {F : σ}
theorem zPP.moved {u U : State} {H : Heap} (hs : zSy adr ok eu ev A) (hvm : u.vm.Alike U.vm) (h : zPP E adr cell ok ev F u H) : zPP E adr cell ok ev F U H := ⟨hs.2.2.1 _ _ _ hvm h.1, h.2⟩
theorem zPP.blind (hs : zSy adr ok eu ev A) {as : List Value} : FrameBlind (va_Pc as (fun U => zPre E eu U ∧ zPP E adr cell ok ev F U U.heap)) := fun a U g mk q => ⟨q.1, ⟨va_K.moved (u := U) (U := U.calling g mk a) (Vm.Alike.refl U.vm) q.2.1.1, hs.2.2.2.2.2 U (U.calling g mk a) rfl q.2.1.2⟩, zPP.moved (u := U) (U := U.calling g mk a) hs (Vm.Alike.refl U.vm) q.2.2⟩
theorem zR.c (h : zR l E adr cell ok eu ev A K cc own d s mL ret post) : zC (cell := cell) l E adr ok eu ev A K cc own (zRM d) s mL := by
  obtain ⟨p, e, m, args, below, meth, c, rfl, h1, h2, h3, h4, h5, h6, h7, h8, h8b, h9⟩ := h
  exact ⟨p, e, m, args, below, meth, c, 0, 0, _, rfl, h1, h2, h3, h6, h7, h8, h8b, h9, Nat.zero_le _, Nat.zero_le _⟩
theorem zMet.mk {y : MethodName} {as : List Value} (hs : zSy adr ok eu ev A) (hy : plainName y.cls = true) (hl : (lg_sl as).length ≤ mL)
    (body : ∀ (K : zK) (s : State), zR (cell := cell) l E adr ok eu ev A K cc y.cls d s mL ret post → Z K (zPP E adr cell ok ev F s) 0 (lv_args 0 as) []) : zMet l E adr cell ok eu ev A y cc mL ret d as F post := by
  refine Met.ofW (cc := cc) (maxL := mL) (ret := ret) hy rfl ?_
  intro p e s m args below meth c s₁ B hml hv
  obtain ⟨rfl, hP⟩ := hv
  have hts := atoms_spec (ws := Cond.code y cc mL ret :: zTB) B.pre
  have hown : s.vm.findClass y.cls = some m.cls := findClass_of_methodNamed B.named
  have hZ := body _ s ⟨p, e, m, as.toArray, below, meth, c, rfl, B.exec, B.bytes, hml, B.returns, B.notSynchronized, hown, fun w hw => hts w (List.mem_cons_of_mem _ hw), hP.1.1, hP.1.2, hs⟩
  have hl2 := lv_entry as (n := mL) hl
  have hE := lg_entry_eq (m := m) (vs := as) (n := mL)
  first
    | (rw [lg_entry_eq]; exact hZ s.heap [] _ va_S.rf hP.2 hl2)
    | (have := hZ s.heap [] _ va_S.rf hP.2 hl2; simpa [lg_entry_eq] using this)

variable {P : Heap → Prop} {pc : Nat} {L : List (Nat × Value)} {st : List Value}
theorem z_iconst (C : zC (cell := cell) l E adr ok eu ev A K cc own R s mL) {n : Int} {v : Int32} (hd : decode cc pc = .ok (.iconst n, 1)) (hv : Int32.ofInt n = v) (k : Z K P (pc + 1) L (.int v :: st)) : Z K P pc L (st) := by
  obtain ⟨p, e, m, args, below, meth, c, n1, n2, Q, rfl, hx, hb, hml, hown, hts, hK, he, hs, hc1, hc2⟩ := C
  intro H locs ls hS hP hl
  exact lv_iconst hx hb hd hv (k H locs ls hS hP hl)
theorem z_bipush (C : zC (cell := cell) l E adr ok eu ev A K cc own R s mL) {n : Int} {v : Int32} (hd : decode cc pc = .ok (.bipush n, 2)) (hv : (Int8.ofInt n).toInt32 = v) (k : Z K P (pc + 2) L (.int v :: st)) : Z K P pc L (st) := by
  obtain ⟨p, e, m, args, below, meth, c, n1, n2, Q, rfl, hx, hb, hml, hown, hts, hK, he, hs, hc1, hc2⟩ := C
  intro H locs ls hS hP hl
  exact lv_bipush hx hb hd hv (k H locs ls hS hP hl)
theorem z_sipush (C : zC (cell := cell) l E adr ok eu ev A K cc own R s mL) {n : Int} {v : Int32} (hd : decode cc pc = .ok (.sipush n, 3)) (hv : (Int16.ofInt n).toInt32 = v) (k : Z K P (pc + 3) L (.int v :: st)) : Z K P pc L (st) := by
  obtain ⟨p, e, m, args, below, meth, c, n1, n2, Q, rfl, hx, hb, hml, hown, hts, hK, he, hs, hc1, hc2⟩ := C
  intro H locs ls hS hP hl
  exact lv_sipush hx hb hd hv (k H locs ls hS hP hl)
theorem z_lconst (C : zC (cell := cell) l E adr ok eu ev A K cc own R s mL) {n : Fin 2} {v : Int64} (hd : decode cc pc = .ok (.lconst n, 1)) (hv : Int64.ofNat (n : Nat) = v) (k : Z K P (pc + 1) L (.long v :: st)) : Z K P pc L (st) := by
  obtain ⟨p, e, m, args, below, meth, c, n1, n2, Q, rfl, hx, hb, hml, hown, hts, hK, he, hs, hc1, hc2⟩ := C
  intro H locs ls hS hP hl
  exact lv_lconst hx hb hd hv (k H locs ls hS hP hl)
theorem z_iload_n (C : zC (cell := cell) l E adr ok eu ev A K cc own R s mL) {k : Fin 4} {x : Int32} (q : Nat) (hd : decode cc pc = .ok (.iload_n k, 1)) (hq : L[q]? = some ((k : Nat), .int x)) (k : Z K P (pc + 1) L (.int x :: st)) : Z K P pc L (st) := by
  obtain ⟨p, e, m, args, below, meth, c, n1, n2, Q, rfl, hx, hb, hml, hown, hts, hK, he, hs, hc1, hc2⟩ := C
  intro H locs ls hS hP hl
  exact lv_iload_n hx hb hd rfl (lv_at hl q hq) (k H locs ls hS hP hl)
theorem z_iload (C : zC (cell := cell) l E adr ok eu ev A K cc own R s mL) {i : Nat} {x : Int32} (q : Nat) (hd : decode cc pc = .ok (.iload i, 2)) (hq : L[q]? = some (i, .int x)) (k : Z K P (pc + 2) L (.int x :: st)) : Z K P pc L (st) := by
  obtain ⟨p, e, m, args, below, meth, c, n1, n2, Q, rfl, hx, hb, hml, hown, hts, hK, he, hs, hc1, hc2⟩ := C
  intro H locs ls hS hP hl
  exact lv_iload hx hb hd (lv_at hl q hq) (k H locs ls hS hP hl)
theorem z_istore_n (C : zC (cell := cell) l E adr ok eu ev A K cc own R s mL) {k : Fin 4} {i : Nat} {x : Int32} (hd : decode cc pc = .ok (.istore_n k, 1)) (hi : (k : Nat) = i) (hn : i < mL) (k : Z K P (pc + 1) (zst L i (.int x)) st) : Z K P pc L (.int x :: st) := by
  obtain ⟨p, e, m, args, below, meth, c, n1, n2, Q, rfl, hx, hb, hml, hown, hts, hK, he, hs, hc1, hc2⟩ := C
  intro H locs ls hS hP hl
  exact lv_istore_n hx hb hd hi hl hn rfl (fun ls hl => k H locs ls hS hP hl)
theorem z_istore (C : zC (cell := cell) l E adr ok eu ev A K cc own R s mL) {i : Nat} {x : Int32} (hd : decode cc pc = .ok (.istore i, 2)) (hn : i < mL) (k : Z K P (pc + 2) (zst L i (.int x)) st) : Z K P pc L (.int x :: st) := by
  obtain ⟨p, e, m, args, below, meth, c, n1, n2, Q, rfl, hx, hb, hml, hown, hts, hK, he, hs, hc1, hc2⟩ := C
  intro H locs ls hS hP hl
  exact lv_istore hx hb hd hl hn rfl (fun ls hl => k H locs ls hS hP hl)
theorem z_lload_n (C : zC (cell := cell) l E adr ok eu ev A K cc own R s mL) {k : Fin 4} {x : Int64} (q : Nat) (hd : decode cc pc = .ok (.lload_n k, 1)) (hq : L[q]? = some ((k : Nat), .long x)) (k : Z K P (pc + 1) L (.long x :: st)) : Z K P pc L (st) := by
  obtain ⟨p, e, m, args, below, meth, c, n1, n2, Q, rfl, hx, hb, hml, hown, hts, hK, he, hs, hc1, hc2⟩ := C
  intro H locs ls hS hP hl
  exact lv_lload_n hx hb hd rfl (lv_at hl q hq) (k H locs ls hS hP hl)
theorem z_lload (C : zC (cell := cell) l E adr ok eu ev A K cc own R s mL) {i : Nat} {x : Int64} (q : Nat) (hd : decode cc pc = .ok (.lload i, 2)) (hq : L[q]? = some (i, .long x)) (k : Z K P (pc + 2) L (.long x :: st)) : Z K P pc L (st) := by
  obtain ⟨p, e, m, args, below, meth, c, n1, n2, Q, rfl, hx, hb, hml, hown, hts, hK, he, hs, hc1, hc2⟩ := C
  intro H locs ls hS hP hl
  exact lv_lload hx hb hd (lv_at hl q hq) (k H locs ls hS hP hl)
theorem z_lstore_n (C : zC (cell := cell) l E adr ok eu ev A K cc own R s mL) {k : Fin 4} {i : Nat} {x : Int64} (hd : decode cc pc = .ok (.lstore_n k, 1)) (hi : (k : Nat) = i) (hn : i + 1 < mL) (k : Z K P (pc + 1) (zst2 L i (.long x)) st) : Z K P pc L (.long x :: st) := by
  obtain ⟨p, e, m, args, below, meth, c, n1, n2, Q, rfl, hx, hb, hml, hown, hts, hK, he, hs, hc1, hc2⟩ := C
  intro H locs ls hS hP hl
  exact lv_lstore_n hx hb hd hi hl hn rfl (fun ls hl => k H locs ls hS hP hl)
theorem z_lstore (C : zC (cell := cell) l E adr ok eu ev A K cc own R s mL) {i : Nat} {x : Int64} (hd : decode cc pc = .ok (.lstore i, 2)) (hn : i + 1 < mL) (k : Z K P (pc + 2) (zst2 L i (.long x)) st) : Z K P pc L (.long x :: st) := by
  obtain ⟨p, e, m, args, below, meth, c, n1, n2, Q, rfl, hx, hb, hml, hown, hts, hK, he, hs, hc1, hc2⟩ := C
  intro H locs ls hS hP hl
  exact lv_lstore hx hb hd hl hn rfl (fun ls hl => k H locs ls hS hP hl)
theorem z_aload_n (C : zC (cell := cell) l E adr ok eu ev A K cc own R s mL) {k : Fin 4} {x : Nat} (q : Nat) (hd : decode cc pc = .ok (.aload_n k, 1)) (hq : L[q]? = some ((k : Nat), .ref x)) (k : Z K P (pc + 1) L (.ref x :: st)) : Z K P pc L (st) := by
  obtain ⟨p, e, m, args, below, meth, c, n1, n2, Q, rfl, hx, hb, hml, hown, hts, hK, he, hs, hc1, hc2⟩ := C
  intro H locs ls hS hP hl
  exact lv_aload_n hx hb hd rfl (lv_at hl q hq) (k H locs ls hS hP hl)
theorem z_aload (C : zC (cell := cell) l E adr ok eu ev A K cc own R s mL) {i : Nat} {x : Nat} (q : Nat) (hd : decode cc pc = .ok (.aload i, 2)) (hq : L[q]? = some (i, .ref x)) (k : Z K P (pc + 2) L (.ref x :: st)) : Z K P pc L (st) := by
  obtain ⟨p, e, m, args, below, meth, c, n1, n2, Q, rfl, hx, hb, hml, hown, hts, hK, he, hs, hc1, hc2⟩ := C
  intro H locs ls hS hP hl
  exact lv_aload hx hb hd (lv_at hl q hq) (k H locs ls hS hP hl)
theorem z_astore_n (C : zC (cell := cell) l E adr ok eu ev A K cc own R s mL) {k : Fin 4} {i : Nat} {x : Nat} (hd : decode cc pc = .ok (.astore_n k, 1)) (hi : (k : Nat) = i) (hn : i < mL) (k : Z K P (pc + 1) (zst L i (.ref x)) st) : Z K P pc L (.ref x :: st) := by
  obtain ⟨p, e, m, args, below, meth, c, n1, n2, Q, rfl, hx, hb, hml, hown, hts, hK, he, hs, hc1, hc2⟩ := C
  intro H locs ls hS hP hl
  exact lv_astore_n hx hb hd hi hl hn rfl (fun ls hl => k H locs ls hS hP hl)
theorem z_astore (C : zC (cell := cell) l E adr ok eu ev A K cc own R s mL) {i : Nat} {x : Nat} (hd : decode cc pc = .ok (.astore i, 2)) (hn : i < mL) (k : Z K P (pc + 2) (zst L i (.ref x)) st) : Z K P pc L (.ref x :: st) := by
  obtain ⟨p, e, m, args, below, meth, c, n1, n2, Q, rfl, hx, hb, hml, hown, hts, hK, he, hs, hc1, hc2⟩ := C
  intro H locs ls hS hP hl
  exact lv_astore hx hb hd hl hn rfl (fun ls hl => k H locs ls hS hP hl)
theorem z_iinc (C : zC (cell := cell) l E adr ok eu ev A K cc own R s mL) {i : Nat} {n : Int} {x v : Int32} (q : Nat) (hd : decode cc pc = .ok (.iinc i n, 3)) (hq : L[q]? = some (i, .int x)) (hv : x + Int32.ofInt n = v) (hn : i < mL) (k : Z K P (pc + 3) (zst L i (.int v)) st) : Z K P pc L st := by
  obtain ⟨p, e, m, args, below, meth, c, n1, n2, Q, rfl, hx, hb, hml, hown, hts, hK, he, hs, hc1, hc2⟩ := C
  intro H locs ls hS hP hl
  exact lv_iinc hx hb hd hl hq hv hn rfl (fun ls hl => k H locs ls hS hP hl)
theorem z_iadd (C : zC (cell := cell) l E adr ok eu ev A K cc own R s mL) {x y : Int32} (hd : decode cc pc = .ok (.iadd, 1)) (k : Z K P (pc + 1) L (.int (x + y) :: st)) : Z K P pc L (.int y :: .int x :: st) := by
  obtain ⟨p, e, m, args, below, meth, c, n1, n2, Q, rfl, hx, hb, hml, hown, hts, hK, he, hs, hc1, hc2⟩ := C
  intro H locs ls hS hP hl
  exact lv_iadd hx hb hd (k H locs ls hS hP hl)
theorem z_isub (C : zC (cell := cell) l E adr ok eu ev A K cc own R s mL) {x y : Int32} (hd : decode cc pc = .ok (.isub, 1)) (k : Z K P (pc + 1) L (.int (x - y) :: st)) : Z K P pc L (.int y :: .int x :: st) := by
  obtain ⟨p, e, m, args, below, meth, c, n1, n2, Q, rfl, hx, hb, hml, hown, hts, hK, he, hs, hc1, hc2⟩ := C
  intro H locs ls hS hP hl
  exact lv_isub hx hb hd (k H locs ls hS hP hl)
theorem z_imul (C : zC (cell := cell) l E adr ok eu ev A K cc own R s mL) {x y : Int32} (hd : decode cc pc = .ok (.imul, 1)) (k : Z K P (pc + 1) L (.int (x * y) :: st)) : Z K P pc L (.int y :: .int x :: st) := by
  obtain ⟨p, e, m, args, below, meth, c, n1, n2, Q, rfl, hx, hb, hml, hown, hts, hK, he, hs, hc1, hc2⟩ := C
  intro H locs ls hS hP hl
  exact lv_imul hx hb hd (k H locs ls hS hP hl)
theorem z_iand (C : zC (cell := cell) l E adr ok eu ev A K cc own R s mL) {x y : Int32} (hd : decode cc pc = .ok (.iand, 1)) (k : Z K P (pc + 1) L (.int (x &&& y) :: st)) : Z K P pc L (.int y :: .int x :: st) := by
  obtain ⟨p, e, m, args, below, meth, c, n1, n2, Q, rfl, hx, hb, hml, hown, hts, hK, he, hs, hc1, hc2⟩ := C
  intro H locs ls hS hP hl
  exact lv_iand hx hb hd (k H locs ls hS hP hl)
theorem z_ior (C : zC (cell := cell) l E adr ok eu ev A K cc own R s mL) {x y : Int32} (hd : decode cc pc = .ok (.ior, 1)) (k : Z K P (pc + 1) L (.int (x ||| y) :: st)) : Z K P pc L (.int y :: .int x :: st) := by
  obtain ⟨p, e, m, args, below, meth, c, n1, n2, Q, rfl, hx, hb, hml, hown, hts, hK, he, hs, hc1, hc2⟩ := C
  intro H locs ls hS hP hl
  exact lv_ior hx hb hd (k H locs ls hS hP hl)
theorem z_ixor (C : zC (cell := cell) l E adr ok eu ev A K cc own R s mL) {x y : Int32} (hd : decode cc pc = .ok (.ixor, 1)) (k : Z K P (pc + 1) L (.int (x ^^^ y) :: st)) : Z K P pc L (.int y :: .int x :: st) := by
  obtain ⟨p, e, m, args, below, meth, c, n1, n2, Q, rfl, hx, hb, hml, hown, hts, hK, he, hs, hc1, hc2⟩ := C
  intro H locs ls hS hP hl
  exact lv_ixor hx hb hd (k H locs ls hS hP hl)
theorem z_ishl (C : zC (cell := cell) l E adr ok eu ev A K cc own R s mL) {x y : Int32} (hd : decode cc pc = .ok (.ishl, 1)) (k : Z K P (pc + 1) L (.int (x <<< (y &&& 31)) :: st)) : Z K P pc L (.int y :: .int x :: st) := by
  obtain ⟨p, e, m, args, below, meth, c, n1, n2, Q, rfl, hx, hb, hml, hown, hts, hK, he, hs, hc1, hc2⟩ := C
  intro H locs ls hS hP hl
  exact lv_ishl hx hb hd (k H locs ls hS hP hl)
theorem z_ishr (C : zC (cell := cell) l E adr ok eu ev A K cc own R s mL) {x y : Int32} (hd : decode cc pc = .ok (.ishr, 1)) (k : Z K P (pc + 1) L (.int (x >>> (y &&& 31)) :: st)) : Z K P pc L (.int y :: .int x :: st) := by
  obtain ⟨p, e, m, args, below, meth, c, n1, n2, Q, rfl, hx, hb, hml, hown, hts, hK, he, hs, hc1, hc2⟩ := C
  intro H locs ls hS hP hl
  exact lv_ishr hx hb hd (k H locs ls hS hP hl)
theorem z_idiv (C : zC (cell := cell) l E adr ok eu ev A K cc own R s mL) {x y : Int32} (hd : decode cc pc = .ok (.idiv, 1)) (hne : ¬ y = 0) (k : Z K P (pc + 1) L (.int (x / y) :: st)) : Z K P pc L (.int y :: .int x :: st) := by
  obtain ⟨p, e, m, args, below, meth, c, n1, n2, Q, rfl, hx, hb, hml, hown, hts, hK, he, hs, hc1, hc2⟩ := C
  intro H locs ls hS hP hl
  exact lv_idiv hx hb hd hne (k H locs ls hS hP hl)
theorem z_irem (C : zC (cell := cell) l E adr ok eu ev A K cc own R s mL) {x y : Int32} (hd : decode cc pc = .ok (.irem, 1)) (hne : ¬ y = 0) (k : Z K P (pc + 1) L (.int (x - x / y * y) :: st)) : Z K P pc L (.int y :: .int x :: st) := by
  obtain ⟨p, e, m, args, below, meth, c, n1, n2, Q, rfl, hx, hb, hml, hown, hts, hK, he, hs, hc1, hc2⟩ := C
  intro H locs ls hS hP hl
  exact lv_irem hx hb hd hne (k H locs ls hS hP hl)
theorem z_ladd (C : zC (cell := cell) l E adr ok eu ev A K cc own R s mL) {x y : Int64} (hd : decode cc pc = .ok (.ladd, 1)) (k : Z K P (pc + 1) L (.long (x + y) :: st)) : Z K P pc L (.long y :: .long x :: st) := by
  obtain ⟨p, e, m, args, below, meth, c, n1, n2, Q, rfl, hx, hb, hml, hown, hts, hK, he, hs, hc1, hc2⟩ := C
  intro H locs ls hS hP hl
  exact lv_ladd hx hb hd (k H locs ls hS hP hl)
theorem z_lsub (C : zC (cell := cell) l E adr ok eu ev A K cc own R s mL) {x y : Int64} (hd : decode cc pc = .ok (.lsub, 1)) (k : Z K P (pc + 1) L (.long (x - y) :: st)) : Z K P pc L (.long y :: .long x :: st) := by
  obtain ⟨p, e, m, args, below, meth, c, n1, n2, Q, rfl, hx, hb, hml, hown, hts, hK, he, hs, hc1, hc2⟩ := C
  intro H locs ls hS hP hl
  exact lv_lsub hx hb hd (k H locs ls hS hP hl)
theorem z_lmul (C : zC (cell := cell) l E adr ok eu ev A K cc own R s mL) {x y : Int64} (hd : decode cc pc = .ok (.lmul, 1)) (k : Z K P (pc + 1) L (.long (x * y) :: st)) : Z K P pc L (.long y :: .long x :: st) := by
  obtain ⟨p, e, m, args, below, meth, c, n1, n2, Q, rfl, hx, hb, hml, hown, hts, hK, he, hs, hc1, hc2⟩ := C
  intro H locs ls hS hP hl
  exact lv_lmul hx hb hd (k H locs ls hS hP hl)
theorem z_land (C : zC (cell := cell) l E adr ok eu ev A K cc own R s mL) {x y : Int64} (hd : decode cc pc = .ok (.land, 1)) (k : Z K P (pc + 1) L (.long (x &&& y) :: st)) : Z K P pc L (.long y :: .long x :: st) := by
  obtain ⟨p, e, m, args, below, meth, c, n1, n2, Q, rfl, hx, hb, hml, hown, hts, hK, he, hs, hc1, hc2⟩ := C
  intro H locs ls hS hP hl
  exact lv_land hx hb hd (k H locs ls hS hP hl)
theorem z_lor (C : zC (cell := cell) l E adr ok eu ev A K cc own R s mL) {x y : Int64} (hd : decode cc pc = .ok (.lor, 1)) (k : Z K P (pc + 1) L (.long (x ||| y) :: st)) : Z K P pc L (.long y :: .long x :: st) := by
  obtain ⟨p, e, m, args, below, meth, c, n1, n2, Q, rfl, hx, hb, hml, hown, hts, hK, he, hs, hc1, hc2⟩ := C
  intro H locs ls hS hP hl
  exact lv_lor hx hb hd (k H locs ls hS hP hl)
theorem z_lshl (C : zC (cell := cell) l E adr ok eu ev A K cc own R s mL) {x : Int64} {y : Int32} (hd : decode cc pc = .ok (.lshl, 1)) (k : Z K P (pc + 1) L (.long (x <<< (y.toInt64 &&& 63)) :: st)) : Z K P pc L (.int y :: .long x :: st) := by
  obtain ⟨p, e, m, args, below, meth, c, n1, n2, Q, rfl, hx, hb, hml, hown, hts, hK, he, hs, hc1, hc2⟩ := C
  intro H locs ls hS hP hl
  exact lv_lshl hx hb hd rfl (k H locs ls hS hP hl)
theorem z_iushr (C : zC (cell := cell) l E adr ok eu ev A K cc own R s mL) {x y v : Int32} (hd : decode cc pc = .ok (.iushr, 1)) (hv : (x.toUInt32 >>> (y.toUInt32 &&& Int32.toUInt32 31)).toInt32 = v) (k : Z K P (pc + 1) L (.int v :: st)) : Z K P pc L (.int y :: .int x :: st) := by
  obtain ⟨p, e, m, args, below, meth, c, n1, n2, Q, rfl, hx, hb, hml, hown, hts, hK, he, hs, hc1, hc2⟩ := C
  intro H locs ls hS hP hl
  exact lv_iushr hx hb hd hv (k H locs ls hS hP hl)
theorem z_ineg (C : zC (cell := cell) l E adr ok eu ev A K cc own R s mL) {x : Int32} (hd : decode cc pc = .ok (.ineg, 1)) (k : Z K P (pc + 1) L (.int (-x) :: st)) : Z K P pc L (.int x :: st) := by
  obtain ⟨p, e, m, args, below, meth, c, n1, n2, Q, rfl, hx, hb, hml, hown, hts, hK, he, hs, hc1, hc2⟩ := C
  intro H locs ls hS hP hl
  exact lv_ineg hx hb hd (k H locs ls hS hP hl)
theorem z_i2l (C : zC (cell := cell) l E adr ok eu ev A K cc own R s mL) {x : Int32} (hd : decode cc pc = .ok (.i2l, 1)) (k : Z K P (pc + 1) L (.long x.toInt64 :: st)) : Z K P pc L (.int x :: st) := by
  obtain ⟨p, e, m, args, below, meth, c, n1, n2, Q, rfl, hx, hb, hml, hown, hts, hK, he, hs, hc1, hc2⟩ := C
  intro H locs ls hS hP hl
  exact lv_i2l hx hb hd rfl (k H locs ls hS hP hl)
theorem z_l2i (C : zC (cell := cell) l E adr ok eu ev A K cc own R s mL) {x : Int64} (hd : decode cc pc = .ok (.l2i, 1)) (k : Z K P (pc + 1) L (.int x.toInt32 :: st)) : Z K P pc L (.long x :: st) := by
  obtain ⟨p, e, m, args, below, meth, c, n1, n2, Q, rfl, hx, hb, hml, hown, hts, hK, he, hs, hc1, hc2⟩ := C
  intro H locs ls hS hP hl
  exact lv_l2i hx hb hd rfl (k H locs ls hS hP hl)
theorem z_i2b (C : zC (cell := cell) l E adr ok eu ev A K cc own R s mL) {x : Int32} (hd : decode cc pc = .ok (.i2b, 1)) (k : Z K P (pc + 1) L (.int x.toInt8.toInt32 :: st)) : Z K P pc L (.int x :: st) := by
  obtain ⟨p, e, m, args, below, meth, c, n1, n2, Q, rfl, hx, hb, hml, hown, hts, hK, he, hs, hc1, hc2⟩ := C
  intro H locs ls hS hP hl
  exact lv_i2b hx hb hd rfl (k H locs ls hS hP hl)
theorem z_i2s (C : zC (cell := cell) l E adr ok eu ev A K cc own R s mL) {x : Int32} (hd : decode cc pc = .ok (.i2s, 1)) (k : Z K P (pc + 1) L (.int x.toInt16.toInt32 :: st)) : Z K P pc L (.int x :: st) := by
  obtain ⟨p, e, m, args, below, meth, c, n1, n2, Q, rfl, hx, hb, hml, hown, hts, hK, he, hs, hc1, hc2⟩ := C
  intro H locs ls hS hP hl
  exact lv_i2s hx hb hd rfl (k H locs ls hS hP hl)
theorem z_lcmp (C : zC (cell := cell) l E adr ok eu ev A K cc own R s mL) {x y : Int64} (hd : decode cc pc = .ok (.lcmp, 1)) (k : Z K P (pc + 1) L (.int (lg_cmp x y) :: st)) : Z K P pc L (.long y :: .long x :: st) := by
  obtain ⟨p, e, m, args, below, meth, c, n1, n2, Q, rfl, hx, hb, hml, hown, hts, hK, he, hs, hc1, hc2⟩ := C
  intro H locs ls hS hP hl
  exact W.lcmp hx hb hd (k H locs ls hS hP hl)
theorem z_dup (C : zC (cell := cell) l E adr ok eu ev A K cc own R s mL) {a : Value} (hd : decode cc pc = .ok (.dup, 1)) (ha : a.category = 1) (k : Z K P (pc + 1) L (a :: a :: st)) : Z K P pc L (a :: st) := by
  obtain ⟨p, e, m, args, below, meth, c, n1, n2, Q, rfl, hx, hb, hml, hown, hts, hK, he, hs, hc1, hc2⟩ := C
  intro H locs ls hS hP hl
  exact lv_dup hx hb hd ha (k H locs ls hS hP hl)
theorem z_pop (C : zC (cell := cell) l E adr ok eu ev A K cc own R s mL) {a : Value} (hd : decode cc pc = .ok (.pop, 1)) (ha : a.category = 1) (k : Z K P (pc + 1) L (st)) : Z K P pc L (a :: st) := by
  obtain ⟨p, e, m, args, below, meth, c, n1, n2, Q, rfl, hx, hb, hml, hown, hts, hK, he, hs, hc1, hc2⟩ := C
  intro H locs ls hS hP hl
  exact lv_pop hx hb hd ha (k H locs ls hS hP hl)
theorem z_dup_x1 (C : zC (cell := cell) l E adr ok eu ev A K cc own R s mL) {a b : Value} (hd : decode cc pc = .ok (.dup_x1, 1)) (ha : a.category = 1) (hb2 : b.category = 1) (k : Z K P (pc + 1) L (a :: b :: a :: st)) : Z K P pc L (a :: b :: st) := by
  obtain ⟨p, e, m, args, below, meth, c, n1, n2, Q, rfl, hx, hb, hml, hown, hts, hK, he, hs, hc1, hc2⟩ := C
  intro H locs ls hS hP hl
  exact lv_dup_x1 hx hb hd ha hb2 (k H locs ls hS hP hl)
theorem z_dup2 (C : zC (cell := cell) l E adr ok eu ev A K cc own R s mL) {a b : Value} (hd : decode cc pc = .ok (.dup2, 1)) (ha : a.category = 1) (hb2 : b.category = 1) (k : Z K P (pc + 1) L (a :: b :: a :: b :: st)) : Z K P pc L (a :: b :: st) := by
  obtain ⟨p, e, m, args, below, meth, c, n1, n2, Q, rfl, hx, hb, hml, hown, hts, hK, he, hs, hc1, hc2⟩ := C
  intro H locs ls hS hP hl
  exact lv_dup2_11 hx hb hd ha hb2 (k H locs ls hS hP hl)
theorem z_ldc2 (C : zC (cell := cell) l E adr ok eu ev A K cc own R s mL) {i : Nat} {v : Int64} (hd : decode cc pc = .ok (.ldc2_w i, 3)) (hw : Jvm.Cond.constantLong own i v ∈ zTB) (k : Z K P (pc + 3) L (.long v :: st)) : Z K P pc L (st) := by
  obtain ⟨p, e, m, args, below, meth, c, n1, n2, Q, rfl, hx, hb, hml, hown, hts, hK, he, hs, hc1, hc2⟩ := C
  intro H locs ls hS hP hl
  exact lv_ldc2 hx hb hown (hts _ hw) hd (k H locs ls hS hP hl)
theorem z_ldc (C : zC (cell := cell) l E adr ok eu ev A K cc own R s mL) {i : Nat} {v : Int32} (hd : decode cc pc = .ok (.ldc i, 2)) (hw : Jvm.Cond.constant own i v ∈ zTB) (k : Z K P (pc + 2) L (.int v :: st)) : Z K P pc L (st) := by
  obtain ⟨p, e, m, args, below, meth, c, n1, n2, Q, rfl, hx, hb, hml, hown, hts, hK, he, hs, hc1, hc2⟩ := C
  intro H locs ls hS hP hl
  exact lv_ldc hx hb hown (hts _ hw) hd (k H locs ls hS hP hl)
theorem z_ldcw (C : zC (cell := cell) l E adr ok eu ev A K cc own R s mL) {i : Nat} {v : Int32} (hd : decode cc pc = .ok (.ldc_w i, 3)) (hw : Jvm.Cond.constant own i v ∈ zTB) (k : Z K P (pc + 3) L (.int v :: st)) : Z K P pc L (st) := by
  obtain ⟨p, e, m, args, below, meth, c, n1, n2, Q, rfl, hx, hb, hml, hown, hts, hK, he, hs, hc1, hc2⟩ := C
  intro H locs ls hS hP hl
  exact lv_ldcw hx hb hown (hts _ hw) hd (k H locs ls hS hP hl)
theorem z_goto (C : zC (cell := cell) l E adr ok eu ev A K cc own R s mL) {off : Int} (tgt : Nat) (hd : decode cc pc = .ok (.goto off, 3)) (ht : (pc : Int) + off = (tgt : Int)) (k : Z K P tgt L st) : Z K P pc L st := by
  obtain ⟨p, e, m, args, below, meth, c, n1, n2, Q, rfl, hx, hb, hml, hown, hts, hK, he, hs, hc1, hc2⟩ := C
  intro H locs ls hS hP hl
  exact lv_goto hx hb hd ht (k H locs ls hS hP hl)
theorem z_if_eq (C : zC (cell := cell) l E adr ok eu ev A K cc own R s mL) {x : Int32} {off : Int} (tgt : Nat) (hd : decode cc pc = .ok (.ifCond .eq off, 3)) (ht : (pc : Int) + off = (tgt : Int)) (kt : x = 0 → Z K P tgt L st) (kf : ¬ (x = 0) → Z K P (pc + 3) L st) : Z K P pc L (.int x :: st) := by
  obtain ⟨p, e, m, args, below, meth, c, n1, n2, Q, rfl, hx, hb, hml, hown, hts, hK, he, hs, hc1, hc2⟩ := C
  intro H locs ls hS hP hl
  exact lv_if_eq hx hb hd ht (fun z => kt z H locs ls hS hP hl) (fun z => kf z H locs ls hS hP hl)
theorem z_icmp_eq (C : zC (cell := cell) l E adr ok eu ev A K cc own R s mL) {x y : Int32} {off : Int} (tgt : Nat) (hd : decode cc pc = .ok (.if_icmp .eq off, 3)) (ht : (pc : Int) + off = (tgt : Int)) (kt : x = y → Z K P tgt L st) (kf : ¬ (x = y) → Z K P (pc + 3) L st) : Z K P pc L (.int y :: .int x :: st) := by
  obtain ⟨p, e, m, args, below, meth, c, n1, n2, Q, rfl, hx, hb, hml, hown, hts, hK, he, hs, hc1, hc2⟩ := C
  intro H locs ls hS hP hl
  exact lv_icmp_eq hx hb hd ht (fun z => kt z H locs ls hS hP hl) (fun z => kf z H locs ls hS hP hl)
theorem z_if_ne (C : zC (cell := cell) l E adr ok eu ev A K cc own R s mL) {x : Int32} {off : Int} (tgt : Nat) (hd : decode cc pc = .ok (.ifCond .ne off, 3)) (ht : (pc : Int) + off = (tgt : Int)) (kt : ¬ x = 0 → Z K P tgt L st) (kf : x = 0 → Z K P (pc + 3) L st) : Z K P pc L (.int x :: st) := by
  obtain ⟨p, e, m, args, below, meth, c, n1, n2, Q, rfl, hx, hb, hml, hown, hts, hK, he, hs, hc1, hc2⟩ := C
  intro H locs ls hS hP hl
  exact lv_if_ne hx hb hd ht (fun z => kt z H locs ls hS hP hl) (fun z => kf z H locs ls hS hP hl)
theorem z_icmp_ne (C : zC (cell := cell) l E adr ok eu ev A K cc own R s mL) {x y : Int32} {off : Int} (tgt : Nat) (hd : decode cc pc = .ok (.if_icmp .ne off, 3)) (ht : (pc : Int) + off = (tgt : Int)) (kt : ¬ x = y → Z K P tgt L st) (kf : x = y → Z K P (pc + 3) L st) : Z K P pc L (.int y :: .int x :: st) := by
  obtain ⟨p, e, m, args, below, meth, c, n1, n2, Q, rfl, hx, hb, hml, hown, hts, hK, he, hs, hc1, hc2⟩ := C
  intro H locs ls hS hP hl
  exact lv_icmp_ne hx hb hd ht (fun z => kt z H locs ls hS hP hl) (fun z => kf z H locs ls hS hP hl)
theorem z_if_lt (C : zC (cell := cell) l E adr ok eu ev A K cc own R s mL) {x : Int32} {off : Int} (tgt : Nat) (hd : decode cc pc = .ok (.ifCond .lt off, 3)) (ht : (pc : Int) + off = (tgt : Int)) (kt : x < 0 → Z K P tgt L st) (kf : ¬ (x < 0) → Z K P (pc + 3) L st) : Z K P pc L (.int x :: st) := by
  obtain ⟨p, e, m, args, below, meth, c, n1, n2, Q, rfl, hx, hb, hml, hown, hts, hK, he, hs, hc1, hc2⟩ := C
  intro H locs ls hS hP hl
  exact lv_if_lt hx hb hd ht (fun z => kt z H locs ls hS hP hl) (fun z => kf z H locs ls hS hP hl)
theorem z_icmp_lt (C : zC (cell := cell) l E adr ok eu ev A K cc own R s mL) {x y : Int32} {off : Int} (tgt : Nat) (hd : decode cc pc = .ok (.if_icmp .lt off, 3)) (ht : (pc : Int) + off = (tgt : Int)) (kt : x < y → Z K P tgt L st) (kf : ¬ (x < y) → Z K P (pc + 3) L st) : Z K P pc L (.int y :: .int x :: st) := by
  obtain ⟨p, e, m, args, below, meth, c, n1, n2, Q, rfl, hx, hb, hml, hown, hts, hK, he, hs, hc1, hc2⟩ := C
  intro H locs ls hS hP hl
  exact lv_icmp_lt hx hb hd ht (fun z => kt z H locs ls hS hP hl) (fun z => kf z H locs ls hS hP hl)
theorem z_if_ge (C : zC (cell := cell) l E adr ok eu ev A K cc own R s mL) {x : Int32} {off : Int} (tgt : Nat) (hd : decode cc pc = .ok (.ifCond .ge off, 3)) (ht : (pc : Int) + off = (tgt : Int)) (kt : 0 ≤ x → Z K P tgt L st) (kf : ¬ (0 ≤ x) → Z K P (pc + 3) L st) : Z K P pc L (.int x :: st) := by
  obtain ⟨p, e, m, args, below, meth, c, n1, n2, Q, rfl, hx, hb, hml, hown, hts, hK, he, hs, hc1, hc2⟩ := C
  intro H locs ls hS hP hl
  exact lv_if_ge hx hb hd ht (fun z => kt z H locs ls hS hP hl) (fun z => kf z H locs ls hS hP hl)
theorem z_icmp_ge (C : zC (cell := cell) l E adr ok eu ev A K cc own R s mL) {x y : Int32} {off : Int} (tgt : Nat) (hd : decode cc pc = .ok (.if_icmp .ge off, 3)) (ht : (pc : Int) + off = (tgt : Int)) (kt : y ≤ x → Z K P tgt L st) (kf : ¬ (y ≤ x) → Z K P (pc + 3) L st) : Z K P pc L (.int y :: .int x :: st) := by
  obtain ⟨p, e, m, args, below, meth, c, n1, n2, Q, rfl, hx, hb, hml, hown, hts, hK, he, hs, hc1, hc2⟩ := C
  intro H locs ls hS hP hl
  exact lv_icmp_ge hx hb hd ht (fun z => kt z H locs ls hS hP hl) (fun z => kf z H locs ls hS hP hl)
theorem z_if_gt (C : zC (cell := cell) l E adr ok eu ev A K cc own R s mL) {x : Int32} {off : Int} (tgt : Nat) (hd : decode cc pc = .ok (.ifCond .gt off, 3)) (ht : (pc : Int) + off = (tgt : Int)) (kt : 0 < x → Z K P tgt L st) (kf : ¬ (0 < x) → Z K P (pc + 3) L st) : Z K P pc L (.int x :: st) := by
  obtain ⟨p, e, m, args, below, meth, c, n1, n2, Q, rfl, hx, hb, hml, hown, hts, hK, he, hs, hc1, hc2⟩ := C
  intro H locs ls hS hP hl
  exact lv_if_gt hx hb hd ht (fun z => kt z H locs ls hS hP hl) (fun z => kf z H locs ls hS hP hl)
theorem z_icmp_gt (C : zC (cell := cell) l E adr ok eu ev A K cc own R s mL) {x y : Int32} {off : Int} (tgt : Nat) (hd : decode cc pc = .ok (.if_icmp .gt off, 3)) (ht : (pc : Int) + off = (tgt : Int)) (kt : y < x → Z K P tgt L st) (kf : ¬ (y < x) → Z K P (pc + 3) L st) : Z K P pc L (.int y :: .int x :: st) := by
  obtain ⟨p, e, m, args, below, meth, c, n1, n2, Q, rfl, hx, hb, hml, hown, hts, hK, he, hs, hc1, hc2⟩ := C
  intro H locs ls hS hP hl
  exact lv_icmp_gt hx hb hd ht (fun z => kt z H locs ls hS hP hl) (fun z => kf z H locs ls hS hP hl)
theorem z_if_le (C : zC (cell := cell) l E adr ok eu ev A K cc own R s mL) {x : Int32} {off : Int} (tgt : Nat) (hd : decode cc pc = .ok (.ifCond .le off, 3)) (ht : (pc : Int) + off = (tgt : Int)) (kt : x ≤ 0 → Z K P tgt L st) (kf : ¬ (x ≤ 0) → Z K P (pc + 3) L st) : Z K P pc L (.int x :: st) := by
  obtain ⟨p, e, m, args, below, meth, c, n1, n2, Q, rfl, hx, hb, hml, hown, hts, hK, he, hs, hc1, hc2⟩ := C
  intro H locs ls hS hP hl
  exact lv_if_le hx hb hd ht (fun z => kt z H locs ls hS hP hl) (fun z => kf z H locs ls hS hP hl)
theorem z_icmp_le (C : zC (cell := cell) l E adr ok eu ev A K cc own R s mL) {x y : Int32} {off : Int} (tgt : Nat) (hd : decode cc pc = .ok (.if_icmp .le off, 3)) (ht : (pc : Int) + off = (tgt : Int)) (kt : x ≤ y → Z K P tgt L st) (kf : ¬ (x ≤ y) → Z K P (pc + 3) L st) : Z K P pc L (.int y :: .int x :: st) := by
  obtain ⟨p, e, m, args, below, meth, c, n1, n2, Q, rfl, hx, hb, hml, hown, hts, hK, he, hs, hc1, hc2⟩ := C
  intro H locs ls hS hP hl
  exact lv_icmp_le hx hb hd ht (fun z => kt z H locs ls hS hP hl) (fun z => kf z H locs ls hS hP hl)
theorem z_tabIn (C : zC (cell := cell) l E adr ok eu ev A K cc own R s mL) {dflt lo hi : Int} {offs : Array Int} {len : Nat} {x : Int32} (v : Int32) (off : Int) (tgt : Nat) (hx2 : x = v) (hd : decode cc pc = .ok (.tableswitch dflt lo hi offs, len)) (h : (¬ v.toInt < lo ∧ ¬ hi < v.toInt) ∧ offs[(v.toInt - lo).toNat]? = some off) (ht : (pc : Int) + off = (tgt : Int)) (k : Z K P tgt L st) : Z K P pc L (.int x :: st) := by
  subst hx2
  obtain ⟨p, e, m, args, below, meth, c, n1, n2, Q, rfl, hx, hb, hml, hown, hts, hK, he, hs, hc1, hc2⟩ := C
  intro H locs ls hS hP hl
  exact lv_tableIn hx hb hd h.1.1 h.1.2 h.2 ht (k H locs ls hS hP hl)
theorem z_tabOut (C : zC (cell := cell) l E adr ok eu ev A K cc own R s mL) {dflt lo hi : Int} {offs : Array Int} {len : Nat} {x : Int32} (tgt : Nat) (h : x.toInt < lo ∨ hi < x.toInt) (hd : decode cc pc = .ok (.tableswitch dflt lo hi offs, len)) (ht : (pc : Int) + dflt = (tgt : Int)) (k : Z K P tgt L st) : Z K P pc L (.int x :: st) := by
  obtain ⟨p, e, m, args, below, meth, c, n1, n2, Q, rfl, hx, hb, hml, hown, hts, hK, he, hs, hc1, hc2⟩ := C
  intro H locs ls hS hP hl
  exact lv_tableOut hx hb hd h ht (k H locs ls hS hP hl)
theorem z_lookup (C : zC (cell := cell) l E adr ok eu ev A K cc own R s mL) {dflt : Int} {ps : Array (Int × Int)} {len : Nat} {x : Int32} (off : Int) (tgt : Nat) (hd : decode cc pc = .ok (.lookupswitch dflt ps, len)) (hp : (ps.toList.zip (ps.toList.drop 1)).all (fun (a, next) => a.1 < next.1) = true) (ho : Op.lookupswitch.offset ps.toList dflt x.toInt = off) (ht : (pc : Int) + off = (tgt : Int)) (k : Z K P tgt L st) : Z K P pc L (.int x :: st) := by
  obtain ⟨p, e, m, args, below, meth, c, n1, n2, Q, rfl, hx, hb, hml, hown, hts, hK, he, hs, hc1, hc2⟩ := C
  intro H locs ls hS hP hl
  exact lv_lookup hx hb hd hp ho ht (k H locs ls hS hP hl)
theorem z_case {x : Int32} (v : Int32) (a : x = v → Z K P pc L (.int x :: st)) (b : ¬ x = v → Z K P pc L (.int x :: st)) : Z K P pc L (.int x :: st) := (Classical.em (x = v)).elim a b
theorem z_eq {P2 : Heap → Prop} {pc2 : Nat} {L2 : List (Nat × Value)} {st2 : List Value} (hP : P = P2) (hpc : pc = pc2) (hL : L = L2) (hst : st = st2) (k : Z K P2 pc2 L2 st2) : Z K P pc L st := by subst hP; subst hpc; subst hL; subst hst; exact k
/-- fewer locals, by their places -/
theorem z_pick (ks : List Nat) {L2 : List (Nat × Value)} (h : lv_pick L ks = L2) (k : Z K P pc L2 st) : Z K P pc L st := fun H locs ls hS hP hl => k H locs ls hS hP (lv_sub hl ks h)
theorem z_mono {P2 : Heap → Prop} (h : ∀ H, P H → P2 H) (k : Z K P2 pc L st) : Z K P pc L st := fun H locs ls hS hP hl => k H locs ls hS (h H hP) hl
/-- the value on top, under another name -/
theorem z_top {x : Int32} (y : Int32) (h : x = y) (k : Z K P pc L (.int y :: st)) : Z K P pc L (.int x :: st) := by subst h; exact k
theorem z_top2 {a : Value} {x : Int32} (y : Int32) (h : x = y) (k : Z K P pc L (a :: .int y :: st)) : Z K P pc L (a :: .int x :: st) := by subst h; exact k
theorem z_topl {x : Int64} (y : Int64) (h : x = y) (k : Z K P pc L (.long y :: st)) : Z K P pc L (.long x :: st) := by subst h; exact k
theorem z_mmin (C : zC (cell := cell) l E adr ok eu ev A K cc own R s mL) {i : Nat} {x y : Int32} (hd : decode cc pc = .ok (.invokestatic i, 3)) (hw : Cond.methodLink own i Lib.Math.min.name ∈ zTB ∧ Cond.static Lib.Math.min.name ∈ zTB ∧ Cond.initialized "java/lang/Math" ∈ zTB ∧ Cond.code Lib.Math.min.name Lib.Math.min.code 2 (some .int) ∈ zTB) (hR : 1 ≤ R.frames ∧ (st.map fun v => v.category).sum + 13 ≤ R.locals) (k : Z K P (pc + 3) L (.int (if y < x then y else x) :: st)) : Z K P pc L (.int y :: .int x :: st) := by
  obtain ⟨p, e, m, args, below, meth, c, n1, n2, Q, rfl, hx, hb, hml, hown, hts, hK, he, hs, hc1, hc2⟩ := C
  intro H locs ls hS hP hl
  exact va_mmin hx hb (hml.trans hl.1.symm) hown (hts _ hw.1) (hts _ hw.2.1) (hts _ hw.2.2.1) (hts _ hw.2.2.2) hR.1 hR.2 hc1 hc2 hd (k H locs ls hS hP hl)
theorem z_mmax (C : zC (cell := cell) l E adr ok eu ev A K cc own R s mL) {i : Nat} {x y : Int32} (hd : decode cc pc = .ok (.invokestatic i, 3)) (hw : Cond.methodLink own i Lib.Math.max.name ∈ zTB ∧ Cond.static Lib.Math.max.name ∈ zTB ∧ Cond.initialized "java/lang/Math" ∈ zTB ∧ Cond.code Lib.Math.max.name Lib.Math.max.code 2 (some .int) ∈ zTB) (hR : 1 ≤ R.frames ∧ (st.map fun v => v.category).sum + 13 ≤ R.locals) (k : Z K P (pc + 3) L (.int (if x < y then y else x) :: st)) : Z K P pc L (.int y :: .int x :: st) := by
  obtain ⟨p, e, m, args, below, meth, c, n1, n2, Q, rfl, hx, hb, hml, hown, hts, hK, he, hs, hc1, hc2⟩ := C
  intro H locs ls hS hP hl
  exact va_mmax hx hb (hml.trans hl.1.symm) hown (hts _ hw.1) (hts _ hw.2.1) (hts _ hw.2.2.1) (hts _ hw.2.2.2) hR.1 hR.2 hc1 hc2 hd (k H locs ls hS hP hl)
theorem z_mmin_long (C : zC (cell := cell) l E adr ok eu ev A K cc own R s mL) {i : Nat} {x y : Int64} (hd : decode cc pc = .ok (.invokestatic i, 3)) (hw : Cond.methodLink own i Lib.MathLoose.min_long.x ∈ zTB ∧ Cond.static Lib.MathLoose.min_long.x ∈ zTB ∧ Cond.initialized "java/lang/Math" ∈ zTB ∧ Cond.code Lib.MathLoose.min_long.x Lib.MathLoose.min_long.code 4 (some .long) ∈ zTB) (hR : 1 ≤ R.frames ∧ (st.map fun v => v.category).sum + 15 ≤ R.locals) (k : Z K P (pc + 3) L (.long (if y < x then y else x) :: st)) : Z K P pc L (.long y :: .long x :: st) := by
  obtain ⟨p, e, m, args, below, meth, c, n1, n2, Q, rfl, hx, hb, hml, hown, hts, hK, he, hs, hc1, hc2⟩ := C
  intro H locs ls hS hP hl
  exact va_mmin_long hx hb (hml.trans hl.1.symm) hown (hts _ hw.1) (hts _ hw.2.1) (hts _ hw.2.2.1) (hts _ hw.2.2.2) hR.1 hR.2 hc1 hc2 hd (k H locs ls hS hP hl)
theorem z_mmax_long (C : zC (cell := cell) l E adr ok eu ev A K cc own R s mL) {i : Nat} {x y : Int64} (hd : decode cc pc = .ok (.invokestatic i, 3)) (hw : Cond.methodLink own i Lib.MathLoose.max_long.x ∈ zTB ∧ Cond.static Lib.MathLoose.max_long.x ∈ zTB ∧ Cond.initialized "java/lang/Math" ∈ zTB ∧ Cond.code Lib.MathLoose.max_long.x Lib.MathLoose.max_long.code 4 (some .long) ∈ zTB) (hR : 1 ≤ R.frames ∧ (st.map fun v => v.category).sum + 15 ≤ R.locals) (k : Z K P (pc + 3) L (.long (if y < x then x else y) :: st)) : Z K P pc L (.long y :: .long x :: st) := by
  obtain ⟨p, e, m, args, below, meth, c, n1, n2, Q, rfl, hx, hb, hml, hown, hts, hK, he, hs, hc1, hc2⟩ := C
  intro H locs ls hS hP hl
  exact va_mmax_long hx hb (hml.trans hl.1.symm) hown (hts _ hw.1) (hts _ hw.2.1) (hts _ hw.2.2.1) (hts _ hw.2.2.2) hR.1 hR.2 hc1 hc2 hd (k H locs ls hS hP hl)
end ZA
