/-! what constructors make: the cells ws, from the address a to the heap's end -/
def gP (E : zE) (a : Nat) (ws : List va_E) (H : Heap) : Prop := H.size = a + ws.length ∧ ∀ (i : Nat) (e : va_E), ws[i]? = some e → va_at E.1 zcl (a + i, e) H
def gA (a : Nat) : Nat → Prop := fun q => a ≤ q
def gRM (d mc ms : Nat) : Room := { frames := d, cells := mc, slots := ms, locals := 40 * d }
/-- what the tables say of arrays of the class's own objects, and of the constructors of nest mates -/
def gU (U : State) : Prop := (va_AO RX4 U ∧ va_AO RX0 U ∧ va_AO RX3 U) ∧ va_Nw (.methodLinkNest RX1 33 yX4_init RX6) U ∧ va_Nw (.methodLinkNest RX1 34 yX0_init RX6) U ∧ va_Nw (.methodLinkNest RX6 34 yX2_init RX6) U ∧ va_Nw (.methodLinkNest RX6 41 yX5_init RX6) U ∧ va_Nw (.methodLinkNest RX6 46 yX3_init RX6) U
theorem gU.warm {s U : State} (hW : s.WarmedH U.vm) (h : gU s) : gU U := ⟨⟨h.1.1.moved hW.alike, h.1.2.1.moved hW.alike, h.1.2.2.moved hW.alike⟩, va_Nw.warmM hW h.2.1, va_Nw.warmM hW h.2.2.1, va_Nw.warmM hW h.2.2.2.1, va_Nw.warmM hW h.2.2.2.2.1, va_Nw.warmM hW h.2.2.2.2.2⟩
theorem gU.same {u U : State} (hv : u.vm = U.vm) (h : gU u) : gU U := by
  have hA : u.vm.Alike U.vm := by rw [hv]; exact Vm.Alike.refl _
  exact ⟨⟨h.1.1.moved hA, h.1.2.1.moved hA, h.1.2.2.moved hA⟩, va_Nw.same rfl hv h.2.1, va_Nw.same rfl hv h.2.2.1, va_Nw.same rfl hv h.2.2.2.1, va_Nw.same rfl hv h.2.2.2.2.1, va_Nw.same rfl hv h.2.2.2.2.2⟩
def gQ (E : zE) (a : Nat) (ws : List va_E) : Array Value → State → Outcome → State → Prop := fun _ st oc t => (oc = .returned none ∧ gP E a ws t.heap) ∧ va_F (gA a) st t
/-- a constructor's contract: the object at a is the heap's last cell; behind it there are the cells ws' -/
def gMet (l : Launch) (E : zE) (y : MethodName) (cc : ByteArray) (mL d mc ms a : Nat) (e0 : va_E) (ws' : List va_E) : Prop :=
  Met l y (Cond.code y cc mL none :: zTB) (gRM d mc ms) (va_Pc [.ref a] (fun U => (va_K E.1 zcl (zT E) U ∧ gU U) ∧ gP E a [e0] U.heap)) (gQ E a ws') mc ms (gA a)
def gC (l : Launch) (E : zE) (Kf : Nat → Nat → zK) (cc : ByteArray) (own : String) (R : Room) (s : State) (mL a : Nat) : Prop :=
  ∃ (p : Program) (e : Env) (m : MethodId) (args : Array Value) (below : List Frame) (meth : Method) (c : Code) (Q : State → Prop),
    Kf = (fun n1 n2 => ((fun H locs g => W p l e R s m args below meth c H locs n1 n2 Q g), m, (fun H locs => va_S (gA a) s.heap H locs), mL)) ∧ p.tables.exec = Jvm.exec ∧ c.code = cc ∧ c.maxLocals = mL ∧ s.vm.findClass own = some m.cls ∧ (∀ w ∈ zTB, w.before args s = true) ∧ va_K E.1 zcl (zT E) s ∧ gU s ∧ a ≤ s.heap.size
def gR (l : Launch) (E : zE) (Kf : Nat → Nat → zK) (cc : ByteArray) (own : String) (d mc ms : Nat) (s : State) (mL a : Nat) (ws' : List va_E) : Prop :=
  ∃ (p : Program) (e : Env) (m : MethodId) (args : Array Value) (below : List Frame) (meth : Method) (c : Code),
    Kf = (fun n1 n2 => ((fun H locs g => W p l e (gRM d mc ms) s m args below meth c H locs n1 n2 (MQ below (gQ E a ws') args s mc ms (gA a)) g), m, (fun H locs => va_S (gA a) s.heap H locs), mL)) ∧ p.tables.exec = Jvm.exec ∧ c.code = cc ∧ c.maxLocals = mL ∧ meth.sig.returnType = none ∧ meth.locks = false ∧ meth.name = "<init>" ∧ s.vm.findClass own = some m.cls ∧ (∀ w ∈ zTB, w.before args s = true) ∧ va_K E.1 zcl (zT E) s ∧ gU s ∧ a ≤ s.heap.size
theorem gP.push {E : zE} {a : Nat} {ws : List va_E} {H H1 : Heap} (h : gP E a ws H) (hz : H1.size = a + ws.length + 1) (ho : ∀ q : Nat, q < a + ws.length → H1[q]? = H[q]?) {e : va_E} (he : va_at E.1 zcl (a + ws.length, e) H1) : gP E a (ws ++ [e]) H1 := by
  refine ⟨by rw [hz, List.length_append, List.length_singleton]; omega, fun i x hx => ?_⟩
  rcases Nat.lt_or_ge i ws.length with hi | hi
  · rw [List.getElem?_append_left hi] at hx
    exact (h.2 i x hx).kept (ho (a + i) (by omega))
  · rw [List.getElem?_append_right hi] at hx
    have hz : i - ws.length < 1 := (List.getElem?_eq_some_iff.mp hx).1
    have hi2 : i = ws.length := by omega
    subst hi2
    rw [Nat.sub_self] at hx
    cases hx
    exact he
theorem gP.set {E : zE} {a j : Nat} {ws : List va_E} {H H1 : Heap} {e0 e : va_E} (h : gP E a ws H) (hj : ws[j]? = some e0) (hz : H1.size = H.size) (oq : ∀ q : Nat, q ≠ a + j → H1[q]? = H[q]?) (he : va_at E.1 zcl (a + j, e) H1) : gP E a (ws.set j e) H1 := by
  have hlt := (List.getElem?_eq_some_iff.mp hj).1
  refine ⟨by rw [hz, h.1, List.length_set], fun i x hx => ?_⟩
  by_cases hij : i = j
  · subst hij
    rw [List.getElem?_set_self hlt] at hx
    cases hx
    exact he
  · rw [List.getElem?_set_ne (Ne.symm hij)] at hx
    exact (h.2 i x hx).kept (oq (a + i) (by omega))
theorem arrV_cg {cA : ClassId} {n : Nat} {g g' : Nat → Value} (h : ∀ i, i < n → g i = g' i) : arrV cA n g = arrV cA n g' := by
  unfold arrV
  have e : (fun (j : Fin n) => g j.val) = (fun (j : Fin n) => g' j.val) := funext fun j => h j.1 j.2
  rw [e]
/-- an array's contents, said otherwise -/
theorem gP.eqi {E : zE} {a j n : Nat} {cA : ClassId} {ws ws' : List va_E} {H : Heap} {f f' : Nat → Int32} (hj : ws[j]? = some (.inl (cA, n, .inl f))) (hf : ∀ i, i < n → f i = f' i) (hws : ws.set j (.inl (cA, n, .inl f')) = ws') (h : gP E a ws H) : gP E a ws' H := by
  subst hws
  refine h.set hj rfl (fun _ _ => rfl) ?_
  have h1 : H[a + j]? = some (vp_cell cA (n, .inl f)) := h.2 j _ hj
  show H[a + j]? = some (vp_cell cA (n, .inl f'))
  rw [h1, vp_cell_i, vp_cell_i, arrV_cg (fun i hi => by rw [hf i hi])]
theorem gP.eqq {E : zE} {a j n : Nat} {cA : ClassId} {ws ws' : List va_E} {H : Heap} {f f' : Nat → Option Nat} (hj : ws[j]? = some (.inl (cA, n, .inr (.inr (.inr (.inr f)))))) (hf : ∀ i, i < n → f i = f' i) (hws : ws.set j (.inl (cA, n, .inr (.inr (.inr (.inr f'))))) = ws') (h : gP E a ws H) : gP E a ws' H := by
  subst hws
  refine h.set hj rfl (fun _ _ => rfl) ?_
  have h1 : H[a + j]? = some (vp_cell cA (n, .inr (.inr (.inr (.inr f))))) := h.2 j _ hj
  show H[a + j]? = some (vp_cell cA (n, .inr (.inr (.inr (.inr f')))))
  rw [h1, vp_cell_q, vp_cell_q, arrV_cg (fun i hi => by rw [hf i hi])]
theorem gwAI : Cond.arrayClass FieldType.int ∈ zTB := zi 71 (by decide +kernel) (by decide +kernel)
theorem gwAL : Cond.arrayClass FieldType.long ∈ zTB := zi 228 (by decide +kernel) (by decide +kernel)
theorem gwOi : Cond.instanceMethod Lib.objectInit ∈ zTB := zi 23 (by decide +kernel) (by decide +kernel)
theorem gwOc : Cond.code Lib.objectInit ⟨#[0xb1]⟩ 1 none ∈ zTB := zi 24 (by decide +kernel) (by decide +kernel)
section ZG
variable {l : Launch} {E : zE} {Kf : Nat → Nat → zK} {cc : ByteArray} {own : String} {R : Room} {s : State} {mL a : Nat} {d mc ms : Nat} {wsE : List va_E}
variable {pc : Nat} {L : List (Nat × Value)} {st : List Value} {ws ws' : List va_E} {n1 n2 r1 r2 q : Nat}
theorem gR.c (h : gR l E Kf cc own d mc ms s mL a wsE) : gC l E Kf cc own (gRM d mc ms) s mL a := by
  obtain ⟨p, e, m, args, below, meth, c, rfl, h1, h2, h3, h4, h5, h6, h7, h8, h9, h10, h11⟩ := h
  exact ⟨p, e, m, args, below, meth, c, _, rfl, h1, h2, h3, h7, h8, h9, h10, h11⟩
theorem gC.z (C : gC l E Kf cc own R s mL a) {n1 n2 : Nat} (h1 : n1 ≤ R.cells) (h2 : n2 ≤ R.slots) : zC (σ := Unit) (cell := fun _ _ => .inr (0, [])) l E (fun _ => 0) (fun _ => False) (fun _ => True) (fun _ _ => True) (gA a) (Kf n1 n2) cc own R s mL := by
  obtain ⟨p, e, m, args, below, meth, c, Q, rfl, hx, hb, hml, hown, hts, hK, hu, ha⟩ := C
  exact ⟨p, e, m, args, below, meth, c, n1, n2, Q, rfl, hx, hb, hml, hown, hts, hK, trivial, ⟨fun _ _ h => h.elim, fun _ h => h.elim, fun _ _ _ _ _ => trivial, fun _ _ _ _ _ _ => trivial, fun _ _ _ _ => trivial, fun _ _ _ _ => trivial⟩, h1, h2⟩
theorem gMet.mk {y : MethodName} {e0 : va_E} (hy : plainName y.cls = true) (hn : y.name = "<init>") (hl : 1 ≤ mL) (body : ∀ (Kf : Nat → Nat → zK) (s : State), gR l E Kf cc y.cls d mc ms s mL a wsE → Z (Kf 0 0) (gP E a [e0]) 0 [(0, .ref a)] []) : gMet l E y cc mL d mc ms a e0 wsE := by
  refine Met.ofW (cc := cc) (maxL := mL) (ret := none) hy rfl ?_
  intro p e s m args below meth c s₁ B hml hv
  obtain ⟨rfl, hP⟩ := hv
  have hts := atoms_spec (ws := Cond.code y cc mL none :: zTB) B.pre
  have hown : s.vm.findClass y.cls = some m.cls := findClass_of_methodNamed B.named
  have hin : meth.name = "<init>" := (name_of_methodNamed B.named B.method).1.trans hn
  have hZ := body _ s ⟨p, e, m, _, below, meth, c, rfl, B.exec, B.bytes, hml, B.returns, B.notSynchronized, hin, hown, fun w hw => hts w (List.mem_cons_of_mem _ hw), hP.1.1, hP.1.2, by rw [hP.2.1]; omega⟩
  have hl2 := lv_entry [.ref a] (n := mL) hl
  rw [lg_entry_eq]
  exact hZ s.heap [] _ va_S.rf hP.2 hl2
theorem g_obj (C : gC l E Kf cc own R s mL a) {i : Nat} (hlink : Cond.methodLink own i Lib.objectInit ∈ zTB) (hroom : (st.map fun v => v.category).sum ≤ 8) (hR : 1 ≤ R.frames ∧ 20 ≤ R.locals) {P : Heap → Prop} (hd : decode cc pc = .ok (.invokespecial i, 3)) (kk : Z (Kf n1 n2) P (pc + 3) L st) : Z (Kf n1 n2) P pc L (.ref q :: st) := by
  obtain ⟨p, e, m, args, below, meth, c, Q, rfl, hx, hb, hml, hown, hts, hK, hu, ha⟩ := C
  intro H locs ls hS hP hl
  exact W.objInit hx hb hown (hts _ hlink) (hts _ gwOi) (hts _ gwOc) rfl (hl.1.trans hml.symm) rfl hd hR.1 (Nat.le_trans (Nat.add_le_add_right (lv_room hroom) 12) hR.2) (kk H locs ls hS hP hl)
theorem g_new (C : gC l E Kf cc own R s mL a) {ci index N : Nat} {C0 : String} {T : u_T} {fs : List Value} (ty : Nat → FieldType) (hin : ∀ w ∈ u_ws C0 T N, w ∈ zTB) (hty : ∀ k, k < N → parseFieldDescriptor (T k).2.2.1 = some (ty k)) (hcl : zcl[ci]? = some (C0, T, N)) (hw : Cond.classLink own index C0 ∈ zTB ∧ Cond.instantiable C0 N ∈ zTB ∧ Cond.initialized C0 ∈ zTB) (hfs : ∀ j, j < N → defaultValue (ty j) = vp_V fs j) (e1 : n1 + 1 = r1) (e2 : n2 + N = r2) (h1 : r1 ≤ R.cells) (h2 : r2 ≤ R.slots) (hq : a + ws.length = q) (hd : decode cc pc = .ok (.new index, 3))
    (kk : Z (Kf r1 r2) (gP E a (ws ++ [.inr (ci, fs)])) (pc + 3) L (.ref q :: st)) : Z (Kf n1 n2) (gP E a ws) pc L st := by
  subst e1; subst e2; subst hq
  obtain ⟨p, e, m, args, below, meth, c, Q, rfl, hx, hb, hml, hown, hts, hK, hu, ha⟩ := C
  intro H locs ls hS hP hl
  have hS : va_S (gA a) s.heap H locs := hS
  have hS1 := hS.1
  have hP1 := hP.1
  have hKn := hK.1 ci _ hcl
  refine W.newcK hx hb hown (hts _ hw.1) (hts _ hw.2.1) (hts _ hw.2.2) rfl hd h1 h2 hKn.2.1 hP.1 fun H1 kC hkC f1 z1 o1 => ?_
  refine kk H1 locs ls (show va_S (gA a) s.heap H1 locs from ⟨by omega, fun x g1 g2 => (o1 x (by omega)).trans (hS.2.1 x g1 g2), hS.2.2⟩) (hP.push z1 o1 ?_) hl
  exact ⟨_, hcl, (u_born ty hts hin hKn hkC f1 hty).to hfs⟩
theorem g_newi (C : gC l E Kf cc own R s mL a) {N : Nat} {n : Int32} (hn : ¬ n < 0) (hN : n.toNatClampNeg = N) (hbytes : N * 4 ≤ 536870912) (e1 : n1 + 1 = r1) (e2 : n2 + N = r2) (h1 : r1 ≤ R.cells) (h2 : r2 ≤ R.slots) (hq : a + ws.length = q) (hd : decode cc pc = .ok (.newarray .int, 2))
    (kk : Z (Kf r1 r2) (gP E a (ws ++ [.inl (E.2.1 0, N, .inl (fun _ => 0))])) (pc + 2) L (.ref q :: st)) : Z (Kf n1 n2) (gP E a ws) pc L (.int n :: st) := by
  subst e1; subst e2; subst hq
  obtain ⟨p, e, m, args, below, meth, c, Q, rfl, hx, hb, hml, hown, hts, hK, hu, ha⟩ := C
  intro H locs ls hS hP hl
  have hS : va_S (gA a) s.heap H locs := hS
  have hS1 := hS.1
  have hP1 := hP.1
  have hA : (Cond.arrayClass (newarray.typeOf ArrayType.int)).before args s = true := hts _ gwAI
  refine va_newaK hx hb hA rfl hd rfl hn hN hbytes h1 h2 hP.1 fun H1 cA f1 z1 o1 hAr hNm => ?_
  have hc2 : s.vm.findClass ("[" ++ (newarray.typeOf ArrayType.int).toString) = some (E.2.1 0) := (hK.2 0 _ rfl).2
  have hcA : cA = E.2.1 0 := Option.some.inj (hNm.symm.trans hc2)
  subst hcA
  exact kk H1 locs ls (show va_S (gA a) s.heap H1 locs from ⟨by omega, fun x g1 g2 => (o1 x (by omega)).trans (hS.2.1 x g1 g2), hS.2.2⟩) (hP.push z1 o1 f1) hl
theorem g_newl (C : gC l E Kf cc own R s mL a) {N : Nat} {n : Int32} (hn : ¬ n < 0) (hN : n.toNatClampNeg = N) (hbytes : N * 8 ≤ 536870912) (e1 : n1 + 1 = r1) (e2 : n2 + N = r2) (h1 : r1 ≤ R.cells) (h2 : r2 ≤ R.slots) (hq : a + ws.length = q) (hd : decode cc pc = .ok (.newarray .long, 2))
    (kk : Z (Kf r1 r2) (gP E a (ws ++ [.inl (E.2.1 1, N, .inr (.inl (fun _ => 0)))])) (pc + 2) L (.ref q :: st)) : Z (Kf n1 n2) (gP E a ws) pc L (.int n :: st) := by
  subst e1; subst e2; subst hq
  obtain ⟨p, e, m, args, below, meth, c, Q, rfl, hx, hb, hml, hown, hts, hK, hu, ha⟩ := C
  intro H locs ls hS hP hl
  have hS : va_S (gA a) s.heap H locs := hS
  have hS1 := hS.1
  have hP1 := hP.1
  have hA : (Cond.arrayClass (newarray.typeOf ArrayType.long)).before args s = true := hts _ gwAL
  refine va_newaK hx hb hA rfl hd rfl hn hN hbytes h1 h2 hP.1 fun H1 cA f1 z1 o1 hAr hNm => ?_
  have hc2 : s.vm.findClass ("[" ++ (newarray.typeOf ArrayType.long).toString) = some (E.2.1 1) := (hK.2 1 _ rfl).2
  have hcA : cA = E.2.1 1 := Option.some.inj (hNm.symm.trans hc2)
  subst hcA
  exact kk H1 locs ls (show va_S (gA a) s.heap H1 locs from ⟨by omega, fun x g1 g2 => (o1 x (by omega)).trans (hS.2.1 x g1 g2), hS.2.2⟩) (hP.push z1 o1 f1) hl
theorem g_newq (C : gC l E Kf cc own R s mL a) {N index : Nat} {n : Int32} {C0 : String} (t : Nat) {cA0 : ClassId} (ht : (zT E)[t]? = some (cA0, .object C0)) (hAO : ∀ u, gU u → va_AO C0 u) (hlink : Cond.classLink own index C0 ∈ zTB) (hn : ¬ n < 0) (hN : n.toNatClampNeg = N) (hbytes : N * 4 ≤ 536870912) (e1 : n1 + 1 = r1) (e2 : n2 + N = r2) (h1 : r1 ≤ R.cells) (h2 : r2 ≤ R.slots) (hq : a + ws.length = q) (hd : decode cc pc = .ok (.anewarray index, 3))
    (kk : Z (Kf r1 r2) (gP E a (ws ++ [.inl (cA0, N, .inr (.inr (.inr (.inr (fun _ => none)))))])) (pc + 3) L (.ref q :: st)) : Z (Kf n1 n2) (gP E a ws) pc L (.int n :: st) := by
  subst e1; subst e2; subst hq; subst hN
  obtain ⟨p, e, m, args, below, meth, c, Q, rfl, hx, hb, hml, hown, hts, hK, hu, ha⟩ := C
  intro H locs ls hS hP hl
  have hS : va_S (gA a) s.heap H locs := hS
  have hS1 := hS.1
  have hP1 := hP.1
  refine W.anew hx hb hown (hts _ hlink) (va_AO.use (hAO s hu)) rfl hd rfl hn hbytes h1 h2 fun cA kA comp f1 f2 f3 f4 => ?_
  obtain ⟨kB, compB, g1, g2, g3, g4⟩ := (hK.2 t _ ht).2
  have hcA : cA = cA0 := Option.some.inj (f1.symm.trans g4)
  generalize hH1 : H.push ({ cls := cA, slots := Array.replicate n.toNatClampNeg .null, vm := .none } : Cell) = H1
  have z1 : H1.size = a + ws.length + 1 := by rw [← hH1, Array.size_push, hP1]
  have f5 : H1[a + ws.length]? = some (arrV cA n.toNatClampNeg (fun _ => .null)) := by rw [← hP1, ← hH1, Array.getElem?_push_size, ← arrV_new]
  have o1 : ∀ q : Nat, q < a + ws.length → H1[q]? = H[q]? := fun q hq => by rw [← hH1, Array.getElem?_push, if_neg (by omega)]
  have kk2 := kk H1 locs ls (show va_S (gA a) s.heap H1 locs from ⟨by omega, fun x g1 g2 => (o1 x (by omega)).trans (hS.2.1 x g1 g2), hS.2.2⟩) (hP.push z1 o1 (by rw [hcA] at f5; exact f5)) hl
  rw [← hP1] at kk2
  exact kk2
theorem g_get (C : gC l E Kf cc own R s mL a) {j ci k N i : Nat} {fs : List Value} {C0 : String} {T : u_T} {v : Value} (hj : ws[j]? = some (.inr (ci, fs))) (hq : a + j = q) (hin : ∀ w ∈ u_ws C0 T N, w ∈ zTB) (hcl : zcl[ci]? = some (C0, T, N)) (hk : k < N) (hlink : Cond.fieldLink own i (T k).1 (T k).2.1 (T k).2.2.1 ∈ zTB) (hv : fs[k]? = some v) (hd : decode cc pc = .ok (.getfield i, 3))
    (kk : Z (Kf n1 n2) (gP E a ws) (pc + 3) L (v :: st)) : Z (Kf n1 n2) (gP E a ws) pc L (.ref q :: st) := by
  subst hq
  obtain ⟨p, e, m, args, below, meth, c, Q, rfl, hx, hb, hml, hown, hts, hK, hu, ha⟩ := C
  intro H locs ls hS hP hl
  exact va_get hx hb hts hin hown hK (va1 (hP.2 j _ hj)) 0 rfl hcl k hk (hts _ hlink) (fun _ h => h) hv hd (kk H locs ls hS hP hl)
theorem g_put (C : gC l E Kf cc own R s mL a) {j ci k N i : Nat} {fs : List Value} {C0 : String} {T : u_T} {v : Value} (hj : ws[j]? = some (.inr (ci, fs))) (hq : a + j = q) (hin : ∀ w ∈ u_ws C0 T N, w ∈ zTB) (ty0 : Nat → FieldType) (hty : ∀ k, k < N → parseFieldDescriptor (T k).2.2.1 = some (ty0 k)) (hnm : ∀ a, a < N → ∀ b, b < N → a ≠ b → (T a).2.1 ≠ (T b).2.1) (hcl : zcl[ci]? = some (C0, T, N)) (hk : k < N) (hlink : Cond.fieldLink own i (T k).1 (T k).2.1 (T k).2.2.1 ∈ zTB) (hfin : (T k).2.2.2 = false) {ty : FieldType} (hde : parseFieldDescriptor (T k).2.2.1 = some ty) (hn : narrow ty v = v) (hfit : fits ty v = true) (hlen : k < fs.length) (hws : ws.set j (.inr (ci, fs.set k v)) = ws') (hd : decode cc pc = .ok (.putfield i, 3))
    (kk : Z (Kf n1 n2) (gP E a ws') (pc + 3) L st) : Z (Kf n1 n2) (gP E a ws) pc L (v :: .ref q :: st) := by
  subst hq; subst hws
  obtain ⟨p, e, m, args, below, meth, c, Q, rfl, hx, hb, hml, hown, hts, hK, hu, ha⟩ := C
  intro H locs ls hS hP hl
  have hS : va_S (gA a) s.heap H locs := hS
  have hap := va_apart (own := own) hts hin ty0 hty hnm hK hcl
  obtain ⟨r, h1, cel, q1, q2, q3, q4⟩ := hP.2 j _ hj
  have hr : r = (C0, T, N) := Option.some.inj (h1.symm.trans hcl)
  subst hr
  obtain ⟨hSl, hfc, kC, hkC, hkind⟩ := hK.1 ci _ hcl
  obtain ⟨cf, kf, fi, f, hi, hsl⟩ := hSl k hk
  have hlay := hts _ (hin _ (u_in_lay hk))
  unfold u_lay at hlay
  rw [if_neg (by rw [hfin]; decide)] at hlay
  have hst := (u_facts hfc hkC (u_lays hts hin hk) hi).1
  have h6 := u_store hfc hkC hkind hlay hi hde hn hfit
  refine W.putK hx hb (f := f) ⟨hown, hts _ hlink, ⟨_, _, _, hi⟩, hst⟩ (by rw [q2]; exact h6) q1 q3 (by rw [hsl]; exact k2_hasslot (q4 k hk)) rfl rfl hd fun H' e1 e2 e3 => ?_
  rw [hsl] at e1 ⊢
  refine kk H' _ ls (hS.put e2 e3 (show a ≤ a + j by omega)) (hP.set hj e2 e3 ?_) hl
  exact ⟨_, hcl, t_OB.to (V := updV (vp_V fs) k v) ⟨_, e1, q2, q3, t_set q4 hap hk v⟩ (fun j _ => vp_updV_set hlen v j)⟩
theorem g_putF (C : gR l E Kf cc own d mc ms s mL a wsE) {j ci k N i : Nat} {fs : List Value} {C0 : String} {T : u_T} {v : Value} (hj : ws[j]? = some (.inr (ci, fs))) (hq : a + j = q) (hin : ∀ w ∈ u_ws C0 T N, w ∈ zTB) (ty0 : Nat → FieldType) (hty : ∀ k, k < N → parseFieldDescriptor (T k).2.2.1 = some (ty0 k)) (hnm : ∀ a, a < N → ∀ b, b < N → a ≠ b → (T a).2.1 ≠ (T b).2.1) (hcl : zcl[ci]? = some (C0, T, N)) (hk : k < N) (hlink : Cond.fieldLink own i (T k).1 (T k).2.1 (T k).2.2.1 ∈ zTB) (hfin : (T k).2.2.2 = true) (hdecl : (T k).1 = own) {ty : FieldType} (hde : parseFieldDescriptor (T k).2.2.1 = some ty) (hn : narrow ty v = v) (hfit : fits ty v = true) (hlen : k < fs.length) (hws : ws.set j (.inr (ci, fs.set k v)) = ws') (hd : decode cc pc = .ok (.putfield i, 3))
    (kk : Z (Kf n1 n2) (gP E a ws') (pc + 3) L st) : Z (Kf n1 n2) (gP E a ws) pc L (v :: .ref q :: st) := by
  subst hq; subst hws
  obtain ⟨p, e, m, args, below, meth, c, rfl, hx, hb, hml, hrt, hlo, hnm2, hown, hts, hK, hu, ha⟩ := C
  intro H locs ls hS hP hl
  have hS : va_S (gA a) s.heap H locs := hS
  have hap := va_apart (own := own) hts hin ty0 hty hnm hK hcl
  obtain ⟨r, h1, cel, q1, q2, q3, q4⟩ := hP.2 j _ hj
  have hr : r = (C0, T, N) := Option.some.inj (h1.symm.trans hcl)
  subst hr
  obtain ⟨hSl, hfc, kC, hkC, hkind⟩ := hK.1 ci _ hcl
  obtain ⟨cf, kf, fi, f, hi, hsl⟩ := hSl k hk
  have hlay := hts _ (hin _ (u_in_lay hk))
  unfold u_lay at hlay
  rw [if_pos hfin] at hlay
  have hst := (u_facts hfc hkC (u_lays hts hin hk) hi).1
  have hcf : m.cls = cf := by
    obtain ⟨_, _, c', _, _, _, -, -, hf', -, -, -, hown2, -⟩ := Cond.laysFinal_spec hlay
    have e1 : c' = cf := by have := hi.symm.trans hf'; simp at this; exact this.1.symm
    rw [hdecl] at hown2
    rw [← e1]; exact Option.some.inj (hown.symm.trans hown2)
  have h6 := u_fits hfc hkC hkind (Or.inr hlay) hi hde hn hfit
  refine W.putFinK hx hb hown (hts _ hlink) hi hst hcf hnm2 (by rw [q2]; exact h6) q1 q3 (by rw [hsl]; exact k2_hasslot (q4 k hk)) rfl rfl hd fun H' e1 e2 e3 => ?_
  rw [hsl] at e1 ⊢
  refine kk H' _ ls (hS.put e2 e3 (show a ≤ a + j by omega)) (hP.set hj e2 e3 ?_) hl
  exact ⟨_, hcl, t_OB.to (V := updV (vp_V fs) k v) ⟨_, e1, q2, q3, t_set q4 hap hk v⟩ (fun j _ => vp_updV_set hlen v j)⟩
/-- a store into the array of ints that was made last -/
theorem g_iast (C : gC l E Kf cc own R s mL a) {n : Nat} {f : Nat → Int32} {x v : Int32} (j : Nat) (hq : a + ws.length = q) (hx2 : x = nI j) (hlt : j < n) (hn : n < 2 ^ 31) (hd : decode cc pc = .ok (.iastore, 1))
    (kk : Z (Kf n1 n2) (gP E a (ws ++ [.inl (E.2.1 0, n, .inl (upd f j v))])) (pc + 1) L st) : Z (Kf n1 n2) (gP E a (ws ++ [.inl (E.2.1 0, n, .inl f)])) pc L (.int v :: .int x :: .ref q :: st) := by
  subst hq; subst hx2
  obtain ⟨p, e, m, args, below, meth, c, Q, rfl, hx, hb, hml, hown, hts, hK, hu, ha⟩ := C
  intro H locs ls hS hP hl
  have hS : va_S (gA a) s.heap H locs := hS
  have hcl := nI_clamp (Nat.lt_trans hlt hn)
  have hj : (ws ++ [(.inl (E.2.1 0, n, .inl f) : va_E)])[ws.length]? = some (.inl (E.2.1 0, n, .inl f)) := by simp
  have hc0 : H[a + ws.length]? = some (vp_cell (E.2.1 0) (n, .inl f)) := hP.2 _ _ hj
  refine W.iast hx hb hc0 ((hK.2 0 _ rfl).1 n (fun j => .int (f j))) (fun q => by cases q) (by show ¬ (nI j < 0 ∨ (arrV _ _ _).slots.size ≤ _); rw [arrV_size]; exact vp_in_nI hlt hn) rfl rfl hd fun H1 e1 z oq => ?_
  have h5 : gP E a ((ws ++ [(.inl (E.2.1 0, n, .inl f) : va_E)]).set ws.length (.inl (E.2.1 0, n, .inl (upd f j v)))) H1 := by
    refine hP.set hj z oq ?_
    show H1[a + ws.length]? = some (vp_cell _ _)
    rw [e1, vp_cell_i, vp_cell_i, arrV_store, hcl]
    congr 2
    funext q
    by_cases hq : q = j
    · subst hq
      simp [updV, upd]
    · simp [updV, upd, hq]
  rw [List.set_append_right _ _ (Nat.le_refl _), Nat.sub_self] at h5
  exact kk H1 _ ls (hS.put z oq (show a ≤ a + ws.length by omega)) h5 hl
/-- a store into an array of objects -/
theorem g_aast (C : gC l E Kf cc own R s mL a) {n jq jv ci v : Nat} {cA : ClassId} {r : vw_C} {f : Nat → Option Nat} {vs : List Value} {x : Int32} (t j : Nat) (hj : ws[jq]? = some (.inl (cA, n, .inr (.inr (.inr (.inr f)))))) (hq : a + jq = q) (ht : (zT E)[t]? = some (cA, .object r.1)) (hv : ws[jv]? = some (.inr (ci, vs))) (hv2 : a + jv = v) (hc : zcl[ci]? = some r) (hx2 : x = nI j) (hlt : j < n) (hn : n < 2 ^ 31) (hws : ws.set jq (.inl (cA, n, .inr (.inr (.inr (.inr (va_up f j (some v))))))) = ws') (hd : decode cc pc = .ok (.aastore, 1))
    (kk : Z (Kf n1 n2) (gP E a ws') (pc + 1) L st) : Z (Kf n1 n2) (gP E a ws) pc L (.ref v :: .int x :: .ref q :: st) := by
  subst hq; subst hx2; subst hws; subst hv2
  obtain ⟨p, e, m, args, below, meth, c, Q, rfl, hx, hb, hml, hown, hts, hK, hu, ha⟩ := C
  intro H locs ls hS hP hl
  have hS : va_S (gA a) s.heap H locs := hS
  have hclj := nI_clamp (Nat.lt_trans hlt hn)
  have hin := vp_in_nI hlt hn
  have h0 : ¬ nI j < 0 := fun q => hin (Or.inl q)
  obtain ⟨r', hr', cellV, g1, g2, g3, -⟩ := hP.2 jv _ hv
  have hcls := (hK.1 ci r hc).2
  obtain ⟨kA, comp, k1, k2, k3, -⟩ := (hK.2 t _ ht).2
  have hcomp : comp = E.1.1 ci := Option.some.inj (k3.symm.trans hcls.1)
  subst hcomp
  obtain ⟨kC, hkC, -⟩ := hcls.2
  have hc0 : H[a + jq]? = some (vp_cell cA (n, .inr (.inr (.inr (.inr f))))) := hP.2 jq _ hj
  refine W.aast hx hb hc0 (fun q h => by cases h) (fun h => by cases h) k1 k2 rfl hkC ⟨h0, by show _ < (arrV _ _ _).slots.size; rw [arrV_size, hclj]; exact hlt⟩ g1 (fun q h => by rw [g3] at h; cases h) (by rw [g2]; exact hkC) (by rw [g2]; exact va_assign hcls) rfl rfl hd fun H1 e1 z oq => ?_
  refine kk H1 _ ls (hS.put z oq (show a ≤ a + jq by omega)) (hP.set hj z oq ?_) hl
  show H1[a + jq]? = some (vp_cell _ _)
  rw [e1, vp_cell_q, vp_cell_q, arrV_store, hclj]
  congr 2
  funext q
  by_cases hq : q = j
  · subst hq
    simp [updV, va_up, va_rf]
  · simp [updV, va_up, hq]
theorem gP.join {ws fin : List va_E} {e0 : va_E} {H H1 : Heap} (h : gP E a (ws ++ [e0]) H) (hq : a + ws.length = q) (h2 : gP E q fin H1) (hk : ∀ x : Nat, x < H.size → ¬ gA q x → H1[x]? = H[x]?) : gP E a (ws ++ fin) H1 := by
  have hz := h.1
  rw [List.length_append, List.length_singleton] at hz
  have hz2 := h2.1
  refine ⟨by rw [List.length_append]; omega, fun i x hx => ?_⟩
  rcases Nat.lt_or_ge i ws.length with hi | hi
  · rw [List.getElem?_append_left hi] at hx
    refine (h.2 i x (by rw [List.getElem?_append_left hi]; exact hx)).kept (hk (a + i) (by omega) ?_)
    show ¬ q ≤ a + i
    omega
  · rw [List.getElem?_append_right hi] at hx
    have h3 := h2.2 _ x hx
    rw [show q + (i - ws.length) = a + i by omega] at h3
    exact h3
theorem gP.one {ws : List va_E} {e0 : va_E} {H : Heap} (h : gP E a (ws ++ [e0]) H) (hq : a + ws.length = q) : gP E q [e0] H := by
  have hz := h.1
  rw [List.length_append, List.length_singleton] at hz
  refine ⟨by rw [List.length_singleton]; omega, fun i x hx => ?_⟩
  have hi : i < 1 := (List.getElem?_eq_some_iff.mp hx).1
  have hi0 : i = 0 := by omega
  subst hi0
  cases hx
  have h1 := h.2 ws.length e0 (by simp)
  rw [hq] at h1
  exact h1
theorem g_blind {e0 : va_E} : FrameBlind (va_Pc [.ref q] (fun U => (va_K E.1 zcl (zT E) U ∧ gU U) ∧ gP E q [e0] U.heap)) := fun a U g mk h => ⟨h.1, ⟨va_K.moved (u := U) (U := U.calling g mk a) (Vm.Alike.refl U.vm) h.2.1.1, gU.same (u := U) (U := U.calling g mk a) rfl h.2.1.2⟩, h.2.2⟩
theorem g_run {p : Program} {e : Env} {m : MethodId} {args aa : Array Value} {below : List Frame} {meth : Method} {c : Code} {Q : State → Prop} {H : Heap} {locs : List Loc} {ls : Array Slot} {st0 : List Value} {e0 : va_E} {fin : List va_E} {mc ms : Nat} (hS : va_S (gA a) s.heap H locs) (hl : lv_has ls mL L) (hP : gP E a (ws ++ [e0]) H) (hq : a + ws.length = q) (ha : a ≤ s.heap.size)
    (hr : va_Run p l e R s m args below meth c H locs n1 n2 mc ms (F0 m pc ls st0) st (gQ E q fin aa) (gA q))
    (kk : Z ((fun H locs g => W p l e R s m args below meth c H locs (n1 + mc) (n2 + ms) Q g), m, (fun H locs => va_S (gA a) s.heap H locs), mL) (gP E a (ws ++ fin)) (pc + 3) L st) : W p l e R s m args below meth c H locs n1 n2 Q (F0 m pc ls st0) := by
  intro T hT X
  obtain ⟨v, st₀, t, T', L', h0, X', hL, e1, e2, ⟨⟨hv, hb⟩, hz, hk⟩, stp⟩ := hr T hT X
  cases hv
  rw [h0] at hz hk
  have hS1 := hS.1
  have hS' : va_S (gA a) s.heap T'.heap (locs ++ L') := ⟨Nat.le_trans hS.1 (by rw [e1]; exact hz), fun x h1 h2 => by
      rw [e1, hk x (by omega) (fun z => h2 (by have z2 : q ≤ x := z; show a ≤ x; omega))]; exact hS.2.1 x h1 h2, fun x hx => by
      rcases List.mem_append.mp hx with h | h
      · exact hS.2.2 x h
      · have h3 : q ≤ x.base := hL x h
        show a ≤ x.base
        omega⟩
  have hP' : gP E a (ws ++ fin) T'.heap := by rw [e1]; exact hP.join hq hb hk
  obtain ⟨t2, a1, b1⟩ := kk T'.heap (locs ++ L') ls hS' hP' hl T' rfl X'
  exact ⟨t2, stp t2 a1, b1⟩
theorem g_goodI {y : MethodName} {c2 : ByteArray} {m2 : Nat} (h : Cond.code y c2 m2 none ∈ zTB) : GoodIn zTB (Cond.code y c2 m2 none :: zTB) := by
  intro w hw
  rcases List.mem_cons.mp hw with rfl | hw
  · exact zgood h
  · exact zgood hw
/-- a constructor's call -/
theorem g_init (C : gC l E Kf cc own R s mL a) {i m2 d2 mc ms : Nat} {y : MethodName} {c2 : ByteArray} {e0 : va_E} {fin : List va_E} (hM : gMet l E y c2 m2 d2 mc ms q e0 fin) (hq : a + ws.length = q) (hw : Cond.methodLink own i y ∈ zTB ∧ Cond.instanceMethod y ∈ zTB ∧ Cond.initialized y.cls ∈ zTB ∧ Cond.code y c2 m2 none ∈ zTB) (hy : y.name = "<init>") (hpl : zPl y 0) (hR : d2 + 1 ≤ R.frames ∧ 8 + (m2 + 11) + 40 * d2 ≤ R.locals) (hroom : (st.map fun v => v.category).sum ≤ 8) (e1 : n1 + mc = r1) (e2 : n2 + ms = r2) (h1 : r1 ≤ R.cells) (h2 : r2 ≤ R.slots) (hws : ws ++ fin = ws') (hd : decode cc pc = .ok (.invokespecial i, 3))
    (kk : Z (Kf r1 r2) (gP E a ws') (pc + 3) L st) : Z (Kf n1 n2) (gP E a (ws ++ [e0])) pc L (.ref q :: st) := by
  subst e1; subst e2; subst hws
  obtain ⟨p, e, m, args, below, meth, c, Q, rfl, hx, hb, hml, hown, hts, hK, hu, ha⟩ := C
  intro H locs ls hS hP hl
  exact g_run hS hl hP hq ha (va_runI (As := []) (rest := st) ⟨hx, hb, hml, hown, hts⟩ hM (cwI 0 hts (g_goodI hw.2.2.2) rfl rfl rfl (hts _ hw.2.2.1) (hts _ hw.1) (hts _ hw.2.1) hy hpl hR) ⟨g_blind, fun U hU hW => ⟨rfl, ⟨va_K.moved hW.alike hK, gU.warm hW hu⟩, by rw [hU]; exact hP.one hq⟩⟩ rfl rfl hl.1 rfl (lv_room hroom) hd ⟨h1, h2⟩) kk
/-- a nest mate's -/
theorem g_initN (C : gC l E Kf cc own R s mL a) {i m2 d2 mc ms : Nat} {y : MethodName} {host : String} {c2 : ByteArray} {e0 : va_E} {fin : List va_E} (hM : gMet l E y c2 m2 d2 mc ms q e0 fin) (hq : a + ws.length = q) (hlink : ∀ u, gU u → va_Nw (.methodLinkNest own i y host) u) (hw : Cond.instanceMethod y ∈ zTB ∧ Cond.initialized y.cls ∈ zTB ∧ Cond.code y c2 m2 none ∈ zTB) (hy : y.name = "<init>") (hpl : zPl y 0) (hR : d2 + 1 ≤ R.frames ∧ 8 + (m2 + 11) + 40 * d2 ≤ R.locals) (hroom : (st.map fun v => v.category).sum ≤ 8) (e1 : n1 + mc = r1) (e2 : n2 + ms = r2) (h1 : r1 ≤ R.cells) (h2 : r2 ≤ R.slots) (hws : ws ++ fin = ws') (hd : decode cc pc = .ok (.invokespecial i, 3))
    (kk : Z (Kf r1 r2) (gP E a ws') (pc + 3) L st) : Z (Kf n1 n2) (gP E a (ws ++ [e0])) pc L (.ref q :: st) := by
  subst e1; subst e2; subst hws
  obtain ⟨p, e, m, args, below, meth, c, Q, rfl, hx, hb, hml, hown, hts, hK, hu, ha⟩ := C
  intro H locs ls hS hP hl
  exact g_run hS hl hP hq ha (va_runIN (As := []) (rest := st) ⟨hx, hb, hml, hown, hts⟩ hM ⟨va_cnB 0 hts (g_goodI hw.2.2) rfl rfl rfl (hlink s hu) (hts _ hw.2.1) hpl hR, hy, hts _ hw.1⟩ ⟨g_blind, fun U hU hW => ⟨rfl, ⟨va_K.moved hW.alike hK, gU.warm hW hu⟩, by rw [hU]; exact hP.one hq⟩⟩ rfl rfl hl.1 rfl (lv_room hroom) hd ⟨h1, h2⟩) kk
theorem g_vret (C : gR l E Kf cc own d mc ms s mL a wsE) (hd : decode cc pc = .ok (.return_, 1)) : Z (Kf mc ms) (gP E a wsE) pc L [] := by
  obtain ⟨p, e, m, args, below, meth, c, rfl, hx, hb, hml, hrt, hlo, hnm2, hown, hts, hK, hu, ha⟩ := C
  intro H locs ls hS hP hl
  have hS : va_S (gA a) s.heap H locs := hS
  exact W.vret hx hb hrt (fun t ht hW => ⟨⟨rfl, by rw [ht]; exact hP⟩, hS.F ht⟩) hS.2.2 hd hlo
end ZG
