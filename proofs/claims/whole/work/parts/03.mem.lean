/-! memory, calls and ends, over the cells of a system -/
section ZM
variable {σ : Type} {l : Launch} {E : zE} {adr : zKey → Nat} {cell : σ → zKey → va_E} {ok : zKey → Prop} {eu : State → Prop} {ev : State → Heap → Prop} {A : Nat → Prop} {K : zK} {cc : ByteArray} {own : String} {R : Room} {s : State} {mL : Nat} {d : Nat} {ret : Option FieldType} {post : Option Value → σ → Prop} {F : σ}
variable {pc : Nat} {L : List (Nat × Value)} {st : List Value}
theorem va1 {D : va_G} {cl : List vw_C} {a : Nat} {e : va_E} {H : Heap} (h : va_at D cl (a, e) H) : va_P D cl [(a, e)] H := by
  intro k q hq
  match k, hq with
  | 0, hq => cases hq; exact h
  | k + 1, hq => simp at hq
theorem zPP.upd (hs : zSy adr ok eu ev A) {key : zKey} (hok : ok key) {F' : σ} {H H1 : Heap} (h : zPP E adr cell ok ev F s H) (hsz : H1.size = H.size) (oq : ∀ q : Nat, q ≠ adr key → H1[q]? = H[q]?) (hc : va_at E.1 zcl (adr key, cell F' key) H1) (hoth : ∀ k, ok k → k ≠ key → cell F' k = cell F k) : zPP E adr cell ok ev F' s H1 := by
  refine ⟨hs.2.2.2.1 s H H1 h.1 (by omega) (fun q _ hq => oq q (fun e => hq (e ▸ hs.2.1 key hok))), fun k hk => ?_⟩
  by_cases hne : k = key
  · subst hne; exact hc
  · rw [hoth k hk hne]
    exact (h.2 k hk).kept (oq _ (fun e => hne (hs.1 _ _ hk hok e)))
theorem zPP.go (hs : zSy adr ok eu ev A) {U : State} {H : Heap} (hK : va_K E.1 zcl (zT E) s) (he : eu s) (h : zPP E adr cell ok ev F s H) (hU : U.heap = H) (hW : s.WarmedH U.vm) : zPre E eu U ∧ zPP E adr cell ok ev F U U.heap := ⟨⟨va_K.moved hW.alike hK, hs.2.2.2.2.1 s U hW he⟩, by rw [hU]; exact zPP.moved hs hW.alike h⟩
theorem z_getf (C : zC (cell := cell) l E adr ok eu ev A K cc own R s mL) {key : zKey} {ci k N i : Nat} {fs : List Value} {C0 : String} {T : u_T} {v : Value} (hok : ok key) (hcell : cell F key = .inr (ci, fs)) (hin : ∀ w ∈ u_ws C0 T N, w ∈ zTB) (hcl : zcl[ci]? = some (C0, T, N)) (hk : k < N) (hlink : Cond.fieldLink own i (T k).1 (T k).2.1 (T k).2.2.1 ∈ zTB) (hv : fs[k]? = some v) (hd : decode cc pc = .ok (.getfield i, 3))
    (kk : Z K (zPP E adr cell ok ev F s) (pc + 3) L (v :: st)) : Z K (zPP E adr cell ok ev F s) pc L (.ref (adr key) :: st) := by
  obtain ⟨p, e, m, args, below, meth, c, n1, n2, Q, rfl, hx, hb, hml, hown, hts, hK, he, hs, hc1, hc2⟩ := C
  intro H locs ls hS hP hl
  have h1 := va1 (hcell ▸ hP.2 key hok)
  exact va_get hx hb hts hin hown hK h1 0 rfl hcl k hk (hts _ hlink) (fun _ h => h) hv hd (kk H locs ls hS hP hl)
theorem z_putf (C : zC (cell := cell) l E adr ok eu ev A K cc own R s mL) {key : zKey} {ci k N i : Nat} {fs : List Value} {C0 : String} {T : u_T} {v : Value} (F' : σ) (hok : ok key) (hcell : cell F key = .inr (ci, fs)) (hcell' : cell F' key = .inr (ci, fs.set k v)) (hoth : ∀ k, ok k → k ≠ key → cell F' k = cell F k) (hin : ∀ w ∈ u_ws C0 T N, w ∈ zTB) (ty0 : Nat → FieldType) (hty : ∀ k, k < N → parseFieldDescriptor (T k).2.2.1 = some (ty0 k)) (hnm : ∀ a, a < N → ∀ b, b < N → a ≠ b → (T a).2.1 ≠ (T b).2.1) (hcl : zcl[ci]? = some (C0, T, N)) (hk : k < N) (hlink : Cond.fieldLink own i (T k).1 (T k).2.1 (T k).2.2.1 ∈ zTB) (hfin : (T k).2.2.2 = false) {ty : FieldType} (hde : parseFieldDescriptor (T k).2.2.1 = some ty) (hn : narrow ty v = v) (hfit : fits ty v = true) (hlen : k < fs.length) (hd : decode cc pc = .ok (.putfield i, 3))
    (kk : Z K (zPP E adr cell ok ev F' s) (pc + 3) L st) : Z K (zPP E adr cell ok ev F s) pc L (v :: .ref (adr key) :: st) := by
  obtain ⟨p, e, m, args, below, meth, c, n1, n2, Q, rfl, hx, hb, hml, hown, hts, hK, he, hs, hc1, hc2⟩ := C
  intro H locs ls hS hP hl
  have hap := va_apart (own := own) hts hin ty0 hty hnm hK hcl
  obtain ⟨r, h1, cel, q1, q2, q3, q4⟩ := hcell ▸ hP.2 key hok
  have hr : r = (C0, T, N) := Option.some.inj (h1.symm.trans hcl)
  subst hr
  obtain ⟨hSl, hfc, kC, hkC, hkind⟩ := hK.1 ci _ hcl
  obtain ⟨cf, kf, fi, f, hi, hsl⟩ := hSl k hk
  have hlay := hts _ (hin _ (u_in_lay hk))
  unfold u_lay at hlay
  rw [if_neg (by rw [hfin]; decide)] at hlay
  have hst := (u_facts hfc hkC (u_lays hts hin hk) hi).1
  have h6 := u_store hfc hkC hkind hlay hi hde hn hfit
  refine W.putK hx hb (f := f) ⟨hown, hts _ hlink, ⟨_, _, _, hi⟩, hst⟩ (by rw [q2]; exact h6) q1 q3 (by rw [hsl]; exact k2_hasslot (q4 k hk)) rfl rfl hd fun H' e1 e2 e3 => ?_
  rw [hsl] at e1 ⊢
  refine kk H' _ ls (hS.put e2 e3 (hs.2.1 key hok)) (zPP.upd hs hok hP e2 e3 ?_ hoth) hl
  rw [hcell']
  exact ⟨_, hcl, t_OB.to (V := updV (vp_V fs) k v) ⟨_, e1, q2, q3, t_set q4 hap hk v⟩ (fun j _ => vp_updV_set hlen v j)⟩

theorem z_iald (C : zC (cell := cell) l E adr ok eu ev A K cc own R s mL) {key : zKey} {n : Nat} {f : Nat → Int32} {x : Int32} (j : Nat) (hok : ok key) (hcell : cell F key = .inl (E.2.1 0, n, .inl f)) (hx2 : x = nI j) (hlt : j < n) (hn : n < 2 ^ 31) (hd : decode cc pc = .ok (.iaload, 1))
    (kk : Z K (zPP E adr cell ok ev F s) (pc + 1) L (.int (f j) :: st)) : Z K (zPP E adr cell ok ev F s) pc L (.int x :: .ref (adr key) :: st) := by
  obtain ⟨p, e, m, args, below, meth, c, n1, n2, Q, rfl, hx, hb, hml, hown, hts, hK, he, hs, hc1, hc2⟩ := C
  intro H locs ls hS hP hl
  have h1 := va1 (hcell ▸ hP.2 key hok)
  subst hx2
  refine va_iald hx hb hK h1 0 0 rfl rfl (vp_in_nI hlt hn) hd ?_
  rw [nI_clamp (Nat.lt_trans hlt hn)]
  exact kk H locs ls hS hP hl
theorem z_lald (C : zC (cell := cell) l E adr ok eu ev A K cc own R s mL) {key : zKey} {n : Nat} {f : Nat → Int64} {x : Int32} (j : Nat) (hok : ok key) (hcell : cell F key = .inl (E.2.1 1, n, .inr (.inl f))) (hx2 : x = nI j) (hlt : j < n) (hn : n < 2 ^ 31) (hd : decode cc pc = .ok (.laload, 1))
    (kk : Z K (zPP E adr cell ok ev F s) (pc + 1) L (.long (f j) :: st)) : Z K (zPP E adr cell ok ev F s) pc L (.int x :: .ref (adr key) :: st) := by
  obtain ⟨p, e, m, args, below, meth, c, n1, n2, Q, rfl, hx, hb, hml, hown, hts, hK, he, hs, hc1, hc2⟩ := C
  intro H locs ls hS hP hl
  have h1 := va1 (hcell ▸ hP.2 key hok)
  subst hx2
  refine va_lald hx hb hK h1 0 1 rfl rfl (vp_in_nI hlt hn) hd ?_
  rw [nI_clamp (Nat.lt_trans hlt hn)]
  exact kk H locs ls hS hP hl
theorem z_iast (C : zC (cell := cell) l E adr ok eu ev A K cc own R s mL) {key : zKey} {n : Nat} {f : Nat → Int32} {x : Int32} {v : Int32} (F' : σ) (j : Nat) (hok : ok key) (hcell : cell F key = .inl (E.2.1 0, n, .inl f)) (hcell' : cell F' key = .inl (E.2.1 0, n, .inl (upd f j v))) (hoth : ∀ k, ok k → k ≠ key → cell F' k = cell F k) (hx2 : x = nI j) (hlt : j < n) (hn : n < 2 ^ 31) (hd : decode cc pc = .ok (.iastore, 1))
    (kk : Z K (zPP E adr cell ok ev F' s) (pc + 1) L st) : Z K (zPP E adr cell ok ev F s) pc L (.int v :: .int x :: .ref (adr key) :: st) := by
  obtain ⟨p, e, m, args, below, meth, c, n1, n2, Q, rfl, hx, hb, hml, hown, hts, hK, he, hs, hc1, hc2⟩ := C
  intro H locs ls hS hP hl
  subst hx2
  have hcl := nI_clamp (Nat.lt_trans hlt hn)
  have hc0 := hcell ▸ hP.2 key hok
  refine W.iast hx hb hc0 ((hK.2 0 _ rfl).1 n (fun j => .int (f j))) (fun q => by cases q) (by show ¬ (nI j < 0 ∨ (arrV _ _ _).slots.size ≤ _); rw [arrV_size]; exact vp_in_nI hlt hn) rfl rfl hd fun H1 e1 z oq => ?_
  refine kk H1 _ ls (hS.put z oq (hs.2.1 key hok)) (zPP.upd hs hok hP z oq ?_ hoth) hl
  rw [hcell']
  show H1[adr key]? = some (vp_cell _ _)
  rw [e1, vp_cell_i, vp_cell_i, arrV_store, hcl]
  congr 2
  funext q
  by_cases hq : q = j
  · subst hq
    simp [updV, upd]
  · simp [updV, upd, hq]
theorem z_last (C : zC (cell := cell) l E adr ok eu ev A K cc own R s mL) {key : zKey} {n : Nat} {f : Nat → Int64} {x : Int32} {v : Int64} (F' : σ) (j : Nat) (hok : ok key) (hcell : cell F key = .inl (E.2.1 1, n, .inr (.inl f))) (hcell' : cell F' key = .inl (E.2.1 1, n, .inr (.inl (vp_updL f j v)))) (hoth : ∀ k, ok k → k ≠ key → cell F' k = cell F k) (hx2 : x = nI j) (hlt : j < n) (hn : n < 2 ^ 31) (hd : decode cc pc = .ok (.lastore, 1))
    (kk : Z K (zPP E adr cell ok ev F' s) (pc + 1) L st) : Z K (zPP E adr cell ok ev F s) pc L (.long v :: .int x :: .ref (adr key) :: st) := by
  obtain ⟨p, e, m, args, below, meth, c, n1, n2, Q, rfl, hx, hb, hml, hown, hts, hK, he, hs, hc1, hc2⟩ := C
  intro H locs ls hS hP hl
  subst hx2
  have hcl := nI_clamp (Nat.lt_trans hlt hn)
  have hc0 := hcell ▸ hP.2 key hok
  refine W.last hx hb hc0 ((hK.2 1 _ rfl).1 n (fun j => .long (f j))) (fun q => by cases q) (by show ¬ (nI j < 0 ∨ (arrV _ _ _).slots.size ≤ _); rw [arrV_size]; exact vp_in_nI hlt hn) rfl rfl hd fun H1 e1 z oq => ?_
  refine kk H1 _ ls (hS.put z oq (hs.2.1 key hok)) (zPP.upd hs hok hP z oq ?_ hoth) hl
  rw [hcell']
  show H1[adr key]? = some (vp_cell _ _)
  rw [e1, vp_cell_l, vp_cell_l, arrV_store, hcl]
  congr 2
  funext q
  by_cases hq : q = j
  · subst hq
    simp [updV, vp_updL]
  · simp [updV, vp_updL, hq]
theorem z_aald (C : zC (cell := cell) l E adr ok eu ev A K cc own R s mL) {key : zKey} {n : Nat} {f : Nat → Option Nat} {x : Int32} {b : Nat} (t : Nat) {cA : ClassId} {C0 : String} (j : Nat) (hok : ok key) (hcell : cell F key = .inl (cA, n, .inr (.inr (.inr (.inr f))))) (ht : (zT E)[t]? = some (cA, .object C0)) (hx2 : x = nI j) (hlt : j < n) (hn : n < 2 ^ 31) (hb2 : f j = some b) (hd : decode cc pc = .ok (.aaload, 1))
    (kk : Z K (zPP E adr cell ok ev F s) (pc + 1) L (.ref b :: st)) : Z K (zPP E adr cell ok ev F s) pc L (.int x :: .ref (adr key) :: st) := by
  obtain ⟨p, e, m, args, below, meth, c, n1, n2, Q, rfl, hx, hb, hml, hown, hts, hK, he, hs, hc1, hc2⟩ := C
  intro H locs ls hS hP hl
  have h1 := va1 (hcell ▸ hP.2 key hok)
  subst hx2
  refine va_aldq hx hb hK h1 0 t rfl ht (vp_in_nI hlt hn) hd ?_
  rw [nI_clamp (Nat.lt_trans hlt hn), hb2]
  exact kk H locs ls hS hP hl
theorem z_alen (C : zC (cell := cell) l E adr ok eu ev A K cc own R s mL) {key : zKey} {cA : ClassId} {x : vp_A} {ty : FieldType} {v : Int32} (t : Nat) (hok : ok key) (hcell : cell F key = .inl (cA, x)) (ht : (zT E)[t]? = some (cA, ty)) (hv : Int32.ofNat x.1 = v) (hd : decode cc pc = .ok (.arraylength, 1))
    (kk : Z K (zPP E adr cell ok ev F s) (pc + 1) L (.int v :: st)) : Z K (zPP E adr cell ok ev F s) pc L (.ref (adr key) :: st) := by
  obtain ⟨p, e, m, args, below, meth, c, n1, n2, Q, rfl, hx, hb, hml, hown, hts, hK, he, hs, hc1, hc2⟩ := C
  intro H locs ls hS hP hl
  have h1 := va1 (hcell ▸ hP.2 key hok)
  exact va_alen hx hb hK h1 0 t rfl ht hv hd (kk H locs ls hS hP hl)
/-- a static array of ints that nobody writes -/
theorem z_tald (C : zC (cell := cell) l E adr ok eu ev A K cc own R s mL) {t N : Nat} {f : Nat → Value} {B : Nat → Prop} {x : Int32} {v : Value} (j : Nat) (hT : ∀ H, zPP E adr cell ok ev F s H → va_T .int t N f B s H) (hx2 : x = nI j) (hlt : j < N) (hn : N < 2 ^ 31) (hv : f j = v) (hd : decode cc pc = .ok (.iaload, 1))
    (kk : Z K (zPP E adr cell ok ev F s) (pc + 1) L (v :: st)) : Z K (zPP E adr cell ok ev F s) pc L (.int x :: .ref t :: st) := by
  obtain ⟨p, e, m, args, below, meth, c, n1, n2, Q, rfl, hx, hb, hml, hown, hts, hK, he, hs, hc1, hc2⟩ := C
  intro H locs ls hS hP hl
  obtain ⟨cel, h1, h2, h3, h4, h5, h6, h7⟩ := hT H hP
  subst hx2
  have hcl := nI_clamp (Nat.lt_trans hlt hn)
  have hi : ¬ (nI j < 0 ∨ cel.slots.size ≤ (nI j).toNatClampNeg) := by
    intro q
    rcases q with q | q
    · exact vp_in_nI hlt hn (Or.inl q)
    · omega
  exact W.iald (v := v) hx hb h1 h2 h3 hi (by rw [hcl, h6 _ hlt, hv]) rfl rfl hd (kk H locs ls hS hP hl)
theorem z_gets (C : zC (cell := cell) l E adr ok eu ev A K cc own R s mL) {C0 n dd : String} {i : Nat} {v : Value} {B : Nat → Prop} (hZ : ∀ H, zPP E adr cell ok ev F s H → va_Z C0 n dd v B s H) (hlink : Cond.fieldLink own i C0 n dd ∈ zTB) (hd : decode cc pc = .ok (.getstatic i, 3))
    (kk : Z K (zPP E adr cell ok ev F s) (pc + 3) L (v :: st)) : Z K (zPP E adr cell ok ev F s) pc L st := by
  obtain ⟨p, e, m, args, below, meth, c, n1, n2, Q, rfl, hx, hb, hml, hown, hts, hK, he, hs, hc1, hc2⟩ := C
  intro H locs ls hS hP hl
  obtain ⟨cf, kf, fi, f, a, cel, h1, h2, h3, h4, h5, h6, h7, h8⟩ := hZ H hP
  exact W.gets hx hb hown (hts _ hlink) h1 h2 h3 h4 h5 (fun e => by rw [e] at h6; cases h6) h7 rfl hd (kk H locs ls hS hP hl)
theorem z_getsN (C : zC (cell := cell) l E adr ok eu ev A K cc own R s mL) {C0 n dd host : String} {i : Nat} {v : Value} {B : Nat → Prop} (hZ : ∀ H, zPP E adr cell ok ev F s H → va_Z C0 n dd v B s H) (hlink : ∀ u, eu u → va_Nw (.fieldLinkNest own i C0 n dd host) u) (hd : decode cc pc = .ok (.getstatic i, 3))
    (kk : Z K (zPP E adr cell ok ev F s) (pc + 3) L (v :: st)) : Z K (zPP E adr cell ok ev F s) pc L st := by
  obtain ⟨p, e, m, args, below, meth, c, n1, n2, Q, rfl, hx, hb, hml, hown, hts, hK, he, hs, hc1, hc2⟩ := C
  intro H locs ls hS hP hl
  obtain ⟨cf, kf, fi, f, a, cel, h1, h2, h3, h4, h5, h6, h7, h8⟩ := hZ H hP
  exact va_WgetsN hx hb hown ((hlink s he).use rfl) h1 h2 h3 h4 h5 (fun e => by rw [e] at h6; cases h6) h7 rfl hd (kk H locs ls hS hP hl)

theorem z_ldcS (C : zC (cell := cell) l E adr ok eu ev A K cc own R s mL) {P : Heap → Prop} {tx : String} {i q : Nat} (hZ : ∀ u, eu u → vk_R own i tx q u) (hd : decode cc pc = .ok (.ldc i, 2)) (kk : Z K P (pc + 2) L (.ref q :: st)) : Z K P pc L st := by
  obtain ⟨p, e, m, args, below, meth, c, n1, n2, Q, rfl, hx, hb, hml, hown, hts, hK, he, hs, hc1, hc2⟩ := C
  intro H locs ls hS hP hl
  exact va_ldcS hx hb hown (hZ s he) hd (kk H locs ls hS hP hl)
-- calls
def zPl (y : MethodName) (n : Nat) : Prop := y.cls ≠ "java/lang/invoke/MethodHandle" ∧ y.cls ≠ "java/lang/invoke/VarHandle" ∧ (parseMethodDescriptor y.desc).map (fun d => d.parameters.length) = some n
def zLV (own : String) (i : Nat) (y : MethodName) (cc : ByteArray) (mL : Nat) (ret : Option FieldType) (n : Nat) : Prop := (Cond.methodLink own i y ∈ zTB ∧ Cond.instanceMethod y ∈ zTB ∧ Cond.selects y.cls y y ∈ zTB ∧ Cond.initialized y.cls ∈ zTB ∧ Cond.code y cc mL ret ∈ zTB) ∧ zPl y n
def zLS (own : String) (i : Nat) (y : MethodName) (cc : ByteArray) (mL : Nat) (ret : Option FieldType) (n : Nat) : Prop := (Cond.methodLink own i y ∈ zTB ∧ Cond.static y ∈ zTB ∧ Cond.initialized y.cls ∈ zTB ∧ Cond.code y cc mL ret ∈ zTB) ∧ zPl y n
theorem zgood {w : Cond} (h : w ∈ zTB) : w ∈ zTB ∧ ((w.onTables && w.keeps) = true ∨ ∃ ty, w = .arrayClass ty) := zTB_self w h
theorem zLV.good {i n : Nat} {y : MethodName} {c2 : ByteArray} {m2 : Nat} {r2 : Option FieldType} (h : zLV own i y c2 m2 r2 n) : GoodIn zTB (wsV own i y.cls y (Cond.code y c2 m2 r2 :: zTB)) := by
  intro w hw
  simp only [wsV, List.cons_append, List.nil_append, List.mem_cons] at hw
  rcases hw with rfl | rfl | rfl | rfl | rfl | hw
  · exact zgood h.1.1
  · exact zgood h.1.2.1
  · exact zgood h.1.2.2.1
  · exact zgood h.1.2.2.2.1
  · exact zgood h.1.2.2.2.2
  · exact zgood hw
theorem zLS.good {i n : Nat} {y : MethodName} {c2 : ByteArray} {m2 : Nat} {r2 : Option FieldType} (h : zLS own i y c2 m2 r2 n) : GoodIn zTB (va_wsS own i y (Cond.code y c2 m2 r2 :: zTB)) := by
  intro w hw
  simp only [va_wsS, List.cons_append, List.nil_append, List.mem_cons] at hw
  rcases hw with rfl | rfl | rfl | rfl | hw
  · exact zgood h.1.1
  · exact zgood h.1.2.1
  · exact zgood h.1.2.2.1
  · exact zgood h.1.2.2.2
  · exact zgood hw
theorem z_run {p : Program} {e : Env} {m : MethodId} {args a : Array Value} {below : List Frame} {meth : Method} {c : Code} {n1 n2 : Nat} {Q : State → Prop} {H : Heap} {locs : List Loc} {ls : Array Slot} {st0 : List Value} {post2 : Option Value → σ → Prop} (hs : zSy adr ok eu ev A) (hS : va_S A s.heap H locs) (hl : lv_has ls mL L)
    (hr : va_Run p l e R s m args below meth c H locs n1 n2 0 0 (F0 m pc ls st0) st (zQ A (fun v t => ∃ F', post2 v F' ∧ zPP E adr cell ok ev F' t t.heap) a) A)
    (kk : ∀ v F', post2 v F' → Z ((fun H locs g => W p l e R s m args below meth c H locs n1 n2 Q g), m, (fun H locs => va_S A s.heap H locs), mL) (zPP E adr cell ok ev F' s) (pc + 3) L (v.toList ++ st)) : W p l e R s m args below meth c H locs n1 n2 Q (F0 m pc ls st0) := by
  intro T hT X
  obtain ⟨v, st₀, t, T', L', h0, X', hL, e1, e2, ⟨⟨v', hv, F', hp, hb⟩, hz, hk⟩, stp⟩ := hr T hT X
  cases hv
  rw [h0] at hz hk
  have hvm : s.vm.Alike t.vm := by rw [← e2]; exact X'.warmed.alike
  have hS' : va_S A s.heap T'.heap (locs ++ L') := ⟨Nat.le_trans hS.1 (by rw [e1]; exact hz), fun q h1 h2 => by rw [e1, hk q (Nat.lt_of_lt_of_le h1 hS.1) h2]; exact hS.2.1 q h1 h2, fun q hq => by
      rcases List.mem_append.mp hq with h | h
      · exact hS.2.2 q h
      · exact hL q h⟩
  have hP' : zPP E adr cell ok ev F' s T'.heap := by rw [e1]; exact zPP.moved hs hvm.symm hb
  obtain ⟨t2, a1, b1⟩ := kk v F' hp T'.heap (locs ++ L') ls hS' hP' hl T' rfl X'
  exact ⟨t2, stp t2 a1, b1⟩

theorem z_callV0 (C : zC (cell := cell) l E adr ok eu ev A K cc own R s mL) {key : zKey} {ci i N m2 d2 : Nat} {fs : List Value} {T : u_T} {y : MethodName} {c2 : ByteArray} {r2 : Option FieldType} {post2 : Option Value → σ → Prop} (hM : zMet l E adr cell ok eu ev A y c2 m2 r2 d2 (.ref (adr key) :: []) F post2) (hok : ok key) (hcell : cell F key = .inr (ci, fs)) (hcl : zcl[ci]? = some (y.cls, T, N)) (hw : zLV own i y c2 m2 r2 0) (hR : d2 + 1 ≤ R.frames ∧ 8 + (m2 + 11) + 40 * d2 ≤ R.locals) (hroom : (st.map fun v => v.category).sum ≤ 8) (hd : decode cc pc = .ok (.invokevirtual i, 3))
    (kk : ∀ v F', post2 v F' → Z K (zPP E adr cell ok ev F' s) (pc + 3) L (v.toList ++ st)) : Z K (zPP E adr cell ok ev F s) pc L (.ref (adr key) :: st) := by
  obtain ⟨p, e, m, args, below, meth, c, n1, n2, Q, rfl, hx, hb, hml, hown, hts, hK, he, hs, hc1, hc2⟩ := C
  intro H locs ls hS hP hl
  have h1 := va1 (hcell ▸ hP.2 key hok)
  refine z_run hs hS hl (va_runV (As := []) (rest := st) ⟨hx, hb, hml, hown, hts⟩ hM (cwV 0 hts hw.good rfl rfl rfl ⟨rfl, hw.2⟩ hR) ⟨zPP.blind hs, va_recv hK h1 hcl (q0 := 0) rfl, fun U hU hW => ⟨rfl, zPP.go hs hK he hP hU hW⟩⟩ rfl rfl hl.1 rfl (lv_room hroom) hd ⟨hc1, hc2⟩) kk
theorem z_callS0 (C : zC (cell := cell) l E adr ok eu ev A K cc own R s mL) {i m2 d2 : Nat} {y : MethodName} {c2 : ByteArray} {r2 : Option FieldType} {post2 : Option Value → σ → Prop} (hM : zMet l E adr cell ok eu ev A y c2 m2 r2 d2 [] F post2) (hw : zLS own i y c2 m2 r2 0) (hR : d2 + 1 ≤ R.frames ∧ 8 + (m2 + 11) + 40 * d2 ≤ R.locals) (hroom : (st.map fun v => v.category).sum ≤ 8) (hd : decode cc pc = .ok (.invokestatic i, 3))
    (kk : ∀ v F', post2 v F' → Z K (zPP E adr cell ok ev F' s) (pc + 3) L (v.toList ++ st)) : Z K (zPP E adr cell ok ev F s) pc L (st) := by
  obtain ⟨p, e, m, args, below, meth, c, n1, n2, Q, rfl, hx, hb, hml, hown, hts, hK, he, hs, hc1, hc2⟩ := C
  intro H locs ls hS hP hl
  refine z_run hs hS hl (va_runS (As := []) (rest := st) ⟨hx, hb, hml, hown, hts⟩ hM (va_cwS 0 hts hw.good rfl rfl rfl hw.2 hR) ⟨zPP.blind hs, fun U hU hW => ⟨rfl, zPP.go hs hK he hP hU hW⟩⟩ rfl rfl hl.1 rfl (lv_room hroom) hd ⟨hc1, hc2⟩) kk
theorem z_callV1 (C : zC (cell := cell) l E adr ok eu ev A K cc own R s mL) {key : zKey} {ci i N m2 d2 : Nat} {fs : List Value} {T : u_T} {y : MethodName} {c2 : ByteArray} {r2 : Option FieldType} {post2 : Option Value → σ → Prop} {a1 : Value} (hM : zMet l E adr cell ok eu ev A y c2 m2 r2 d2 (.ref (adr key) :: [a1]) F post2) (hok : ok key) (hcell : cell F key = .inr (ci, fs)) (hcl : zcl[ci]? = some (y.cls, T, N)) (hw : zLV own i y c2 m2 r2 1) (hR : d2 + 1 ≤ R.frames ∧ 8 + (m2 + 11) + 40 * d2 ≤ R.locals) (hroom : (st.map fun v => v.category).sum ≤ 8) (hd : decode cc pc = .ok (.invokevirtual i, 3))
    (kk : ∀ v F', post2 v F' → Z K (zPP E adr cell ok ev F' s) (pc + 3) L (v.toList ++ st)) : Z K (zPP E adr cell ok ev F s) pc L (a1 :: .ref (adr key) :: st) := by
  obtain ⟨p, e, m, args, below, meth, c, n1, n2, Q, rfl, hx, hb, hml, hown, hts, hK, he, hs, hc1, hc2⟩ := C
  intro H locs ls hS hP hl
  have h1 := va1 (hcell ▸ hP.2 key hok)
  refine z_run hs hS hl (va_runV (As := [a1]) (rest := st) ⟨hx, hb, hml, hown, hts⟩ hM (cwV 1 hts hw.good rfl rfl rfl ⟨rfl, hw.2⟩ hR) ⟨zPP.blind hs, va_recv hK h1 hcl (q0 := 0) rfl, fun U hU hW => ⟨rfl, zPP.go hs hK he hP hU hW⟩⟩ rfl rfl hl.1 rfl (lv_room hroom) hd ⟨hc1, hc2⟩) kk
theorem z_callS1 (C : zC (cell := cell) l E adr ok eu ev A K cc own R s mL) {i m2 d2 : Nat} {y : MethodName} {c2 : ByteArray} {r2 : Option FieldType} {post2 : Option Value → σ → Prop} {a1 : Value} (hM : zMet l E adr cell ok eu ev A y c2 m2 r2 d2 [a1] F post2) (hw : zLS own i y c2 m2 r2 1) (hR : d2 + 1 ≤ R.frames ∧ 8 + (m2 + 11) + 40 * d2 ≤ R.locals) (hroom : (st.map fun v => v.category).sum ≤ 8) (hd : decode cc pc = .ok (.invokestatic i, 3))
    (kk : ∀ v F', post2 v F' → Z K (zPP E adr cell ok ev F' s) (pc + 3) L (v.toList ++ st)) : Z K (zPP E adr cell ok ev F s) pc L (a1 :: st) := by
  obtain ⟨p, e, m, args, below, meth, c, n1, n2, Q, rfl, hx, hb, hml, hown, hts, hK, he, hs, hc1, hc2⟩ := C
  intro H locs ls hS hP hl
  refine z_run hs hS hl (va_runS (As := [a1]) (rest := st) ⟨hx, hb, hml, hown, hts⟩ hM (va_cwS 1 hts hw.good rfl rfl rfl hw.2 hR) ⟨zPP.blind hs, fun U hU hW => ⟨rfl, zPP.go hs hK he hP hU hW⟩⟩ rfl rfl hl.1 rfl (lv_room hroom) hd ⟨hc1, hc2⟩) kk
theorem z_callV2 (C : zC (cell := cell) l E adr ok eu ev A K cc own R s mL) {key : zKey} {ci i N m2 d2 : Nat} {fs : List Value} {T : u_T} {y : MethodName} {c2 : ByteArray} {r2 : Option FieldType} {post2 : Option Value → σ → Prop} {a1 a2 : Value} (hM : zMet l E adr cell ok eu ev A y c2 m2 r2 d2 (.ref (adr key) :: [a1, a2]) F post2) (hok : ok key) (hcell : cell F key = .inr (ci, fs)) (hcl : zcl[ci]? = some (y.cls, T, N)) (hw : zLV own i y c2 m2 r2 2) (hR : d2 + 1 ≤ R.frames ∧ 8 + (m2 + 11) + 40 * d2 ≤ R.locals) (hroom : (st.map fun v => v.category).sum ≤ 8) (hd : decode cc pc = .ok (.invokevirtual i, 3))
    (kk : ∀ v F', post2 v F' → Z K (zPP E adr cell ok ev F' s) (pc + 3) L (v.toList ++ st)) : Z K (zPP E adr cell ok ev F s) pc L (a2 :: a1 :: .ref (adr key) :: st) := by
  obtain ⟨p, e, m, args, below, meth, c, n1, n2, Q, rfl, hx, hb, hml, hown, hts, hK, he, hs, hc1, hc2⟩ := C
  intro H locs ls hS hP hl
  have h1 := va1 (hcell ▸ hP.2 key hok)
  refine z_run hs hS hl (va_runV (As := [a1, a2]) (rest := st) ⟨hx, hb, hml, hown, hts⟩ hM (cwV 2 hts hw.good rfl rfl rfl ⟨rfl, hw.2⟩ hR) ⟨zPP.blind hs, va_recv hK h1 hcl (q0 := 0) rfl, fun U hU hW => ⟨rfl, zPP.go hs hK he hP hU hW⟩⟩ rfl rfl hl.1 rfl (lv_room hroom) hd ⟨hc1, hc2⟩) kk
theorem z_callS2 (C : zC (cell := cell) l E adr ok eu ev A K cc own R s mL) {i m2 d2 : Nat} {y : MethodName} {c2 : ByteArray} {r2 : Option FieldType} {post2 : Option Value → σ → Prop} {a1 a2 : Value} (hM : zMet l E adr cell ok eu ev A y c2 m2 r2 d2 [a1, a2] F post2) (hw : zLS own i y c2 m2 r2 2) (hR : d2 + 1 ≤ R.frames ∧ 8 + (m2 + 11) + 40 * d2 ≤ R.locals) (hroom : (st.map fun v => v.category).sum ≤ 8) (hd : decode cc pc = .ok (.invokestatic i, 3))
    (kk : ∀ v F', post2 v F' → Z K (zPP E adr cell ok ev F' s) (pc + 3) L (v.toList ++ st)) : Z K (zPP E adr cell ok ev F s) pc L (a2 :: a1 :: st) := by
  obtain ⟨p, e, m, args, below, meth, c, n1, n2, Q, rfl, hx, hb, hml, hown, hts, hK, he, hs, hc1, hc2⟩ := C
  intro H locs ls hS hP hl
  refine z_run hs hS hl (va_runS (As := [a1, a2]) (rest := st) ⟨hx, hb, hml, hown, hts⟩ hM (va_cwS 2 hts hw.good rfl rfl rfl hw.2 hR) ⟨zPP.blind hs, fun U hU hW => ⟨rfl, zPP.go hs hK he hP hU hW⟩⟩ rfl rfl hl.1 rfl (lv_room hroom) hd ⟨hc1, hc2⟩) kk
theorem z_callV3 (C : zC (cell := cell) l E adr ok eu ev A K cc own R s mL) {key : zKey} {ci i N m2 d2 : Nat} {fs : List Value} {T : u_T} {y : MethodName} {c2 : ByteArray} {r2 : Option FieldType} {post2 : Option Value → σ → Prop} {a1 a2 a3 : Value} (hM : zMet l E adr cell ok eu ev A y c2 m2 r2 d2 (.ref (adr key) :: [a1, a2, a3]) F post2) (hok : ok key) (hcell : cell F key = .inr (ci, fs)) (hcl : zcl[ci]? = some (y.cls, T, N)) (hw : zLV own i y c2 m2 r2 3) (hR : d2 + 1 ≤ R.frames ∧ 8 + (m2 + 11) + 40 * d2 ≤ R.locals) (hroom : (st.map fun v => v.category).sum ≤ 8) (hd : decode cc pc = .ok (.invokevirtual i, 3))
    (kk : ∀ v F', post2 v F' → Z K (zPP E adr cell ok ev F' s) (pc + 3) L (v.toList ++ st)) : Z K (zPP E adr cell ok ev F s) pc L (a3 :: a2 :: a1 :: .ref (adr key) :: st) := by
  obtain ⟨p, e, m, args, below, meth, c, n1, n2, Q, rfl, hx, hb, hml, hown, hts, hK, he, hs, hc1, hc2⟩ := C
  intro H locs ls hS hP hl
  have h1 := va1 (hcell ▸ hP.2 key hok)
  refine z_run hs hS hl (va_runV (As := [a1, a2, a3]) (rest := st) ⟨hx, hb, hml, hown, hts⟩ hM (cwV 3 hts hw.good rfl rfl rfl ⟨rfl, hw.2⟩ hR) ⟨zPP.blind hs, va_recv hK h1 hcl (q0 := 0) rfl, fun U hU hW => ⟨rfl, zPP.go hs hK he hP hU hW⟩⟩ rfl rfl hl.1 rfl (lv_room hroom) hd ⟨hc1, hc2⟩) kk
theorem z_callS3 (C : zC (cell := cell) l E adr ok eu ev A K cc own R s mL) {i m2 d2 : Nat} {y : MethodName} {c2 : ByteArray} {r2 : Option FieldType} {post2 : Option Value → σ → Prop} {a1 a2 a3 : Value} (hM : zMet l E adr cell ok eu ev A y c2 m2 r2 d2 [a1, a2, a3] F post2) (hw : zLS own i y c2 m2 r2 3) (hR : d2 + 1 ≤ R.frames ∧ 8 + (m2 + 11) + 40 * d2 ≤ R.locals) (hroom : (st.map fun v => v.category).sum ≤ 8) (hd : decode cc pc = .ok (.invokestatic i, 3))
    (kk : ∀ v F', post2 v F' → Z K (zPP E adr cell ok ev F' s) (pc + 3) L (v.toList ++ st)) : Z K (zPP E adr cell ok ev F s) pc L (a3 :: a2 :: a1 :: st) := by
  obtain ⟨p, e, m, args, below, meth, c, n1, n2, Q, rfl, hx, hb, hml, hown, hts, hK, he, hs, hc1, hc2⟩ := C
  intro H locs ls hS hP hl
  refine z_run hs hS hl (va_runS (As := [a1, a2, a3]) (rest := st) ⟨hx, hb, hml, hown, hts⟩ hM (va_cwS 3 hts hw.good rfl rfl rfl hw.2 hR) ⟨zPP.blind hs, fun U hU hW => ⟨rfl, zPP.go hs hK he hP hU hW⟩⟩ rfl rfl hl.1 rfl (lv_room hroom) hd ⟨hc1, hc2⟩) kk
theorem z_callV4 (C : zC (cell := cell) l E adr ok eu ev A K cc own R s mL) {key : zKey} {ci i N m2 d2 : Nat} {fs : List Value} {T : u_T} {y : MethodName} {c2 : ByteArray} {r2 : Option FieldType} {post2 : Option Value → σ → Prop} {a1 a2 a3 a4 : Value} (hM : zMet l E adr cell ok eu ev A y c2 m2 r2 d2 (.ref (adr key) :: [a1, a2, a3, a4]) F post2) (hok : ok key) (hcell : cell F key = .inr (ci, fs)) (hcl : zcl[ci]? = some (y.cls, T, N)) (hw : zLV own i y c2 m2 r2 4) (hR : d2 + 1 ≤ R.frames ∧ 8 + (m2 + 11) + 40 * d2 ≤ R.locals) (hroom : (st.map fun v => v.category).sum ≤ 8) (hd : decode cc pc = .ok (.invokevirtual i, 3))
    (kk : ∀ v F', post2 v F' → Z K (zPP E adr cell ok ev F' s) (pc + 3) L (v.toList ++ st)) : Z K (zPP E adr cell ok ev F s) pc L (a4 :: a3 :: a2 :: a1 :: .ref (adr key) :: st) := by
  obtain ⟨p, e, m, args, below, meth, c, n1, n2, Q, rfl, hx, hb, hml, hown, hts, hK, he, hs, hc1, hc2⟩ := C
  intro H locs ls hS hP hl
  have h1 := va1 (hcell ▸ hP.2 key hok)
  refine z_run hs hS hl (va_runV (As := [a1, a2, a3, a4]) (rest := st) ⟨hx, hb, hml, hown, hts⟩ hM (cwV 4 hts hw.good rfl rfl rfl ⟨rfl, hw.2⟩ hR) ⟨zPP.blind hs, va_recv hK h1 hcl (q0 := 0) rfl, fun U hU hW => ⟨rfl, zPP.go hs hK he hP hU hW⟩⟩ rfl rfl hl.1 rfl (lv_room hroom) hd ⟨hc1, hc2⟩) kk
theorem z_callS4 (C : zC (cell := cell) l E adr ok eu ev A K cc own R s mL) {i m2 d2 : Nat} {y : MethodName} {c2 : ByteArray} {r2 : Option FieldType} {post2 : Option Value → σ → Prop} {a1 a2 a3 a4 : Value} (hM : zMet l E adr cell ok eu ev A y c2 m2 r2 d2 [a1, a2, a3, a4] F post2) (hw : zLS own i y c2 m2 r2 4) (hR : d2 + 1 ≤ R.frames ∧ 8 + (m2 + 11) + 40 * d2 ≤ R.locals) (hroom : (st.map fun v => v.category).sum ≤ 8) (hd : decode cc pc = .ok (.invokestatic i, 3))
    (kk : ∀ v F', post2 v F' → Z K (zPP E adr cell ok ev F' s) (pc + 3) L (v.toList ++ st)) : Z K (zPP E adr cell ok ev F s) pc L (a4 :: a3 :: a2 :: a1 :: st) := by
  obtain ⟨p, e, m, args, below, meth, c, n1, n2, Q, rfl, hx, hb, hml, hown, hts, hK, he, hs, hc1, hc2⟩ := C
  intro H locs ls hS hP hl
  refine z_run hs hS hl (va_runS (As := [a1, a2, a3, a4]) (rest := st) ⟨hx, hb, hml, hown, hts⟩ hM (va_cwS 4 hts hw.good rfl rfl rfl hw.2 hR) ⟨zPP.blind hs, fun U hU hW => ⟨rfl, zPP.go hs hK he hP hU hW⟩⟩ rfl rfl hl.1 rfl (lv_room hroom) hd ⟨hc1, hc2⟩) kk
theorem z_callV5 (C : zC (cell := cell) l E adr ok eu ev A K cc own R s mL) {key : zKey} {ci i N m2 d2 : Nat} {fs : List Value} {T : u_T} {y : MethodName} {c2 : ByteArray} {r2 : Option FieldType} {post2 : Option Value → σ → Prop} {a1 a2 a3 a4 a5 : Value} (hM : zMet l E adr cell ok eu ev A y c2 m2 r2 d2 (.ref (adr key) :: [a1, a2, a3, a4, a5]) F post2) (hok : ok key) (hcell : cell F key = .inr (ci, fs)) (hcl : zcl[ci]? = some (y.cls, T, N)) (hw : zLV own i y c2 m2 r2 5) (hR : d2 + 1 ≤ R.frames ∧ 8 + (m2 + 11) + 40 * d2 ≤ R.locals) (hroom : (st.map fun v => v.category).sum ≤ 8) (hd : decode cc pc = .ok (.invokevirtual i, 3))
    (kk : ∀ v F', post2 v F' → Z K (zPP E adr cell ok ev F' s) (pc + 3) L (v.toList ++ st)) : Z K (zPP E adr cell ok ev F s) pc L (a5 :: a4 :: a3 :: a2 :: a1 :: .ref (adr key) :: st) := by
  obtain ⟨p, e, m, args, below, meth, c, n1, n2, Q, rfl, hx, hb, hml, hown, hts, hK, he, hs, hc1, hc2⟩ := C
  intro H locs ls hS hP hl
  have h1 := va1 (hcell ▸ hP.2 key hok)
  refine z_run hs hS hl (va_runV (As := [a1, a2, a3, a4, a5]) (rest := st) ⟨hx, hb, hml, hown, hts⟩ hM (cwV 5 hts hw.good rfl rfl rfl ⟨rfl, hw.2⟩ hR) ⟨zPP.blind hs, va_recv hK h1 hcl (q0 := 0) rfl, fun U hU hW => ⟨rfl, zPP.go hs hK he hP hU hW⟩⟩ rfl rfl hl.1 rfl (lv_room hroom) hd ⟨hc1, hc2⟩) kk
theorem z_callS5 (C : zC (cell := cell) l E adr ok eu ev A K cc own R s mL) {i m2 d2 : Nat} {y : MethodName} {c2 : ByteArray} {r2 : Option FieldType} {post2 : Option Value → σ → Prop} {a1 a2 a3 a4 a5 : Value} (hM : zMet l E adr cell ok eu ev A y c2 m2 r2 d2 [a1, a2, a3, a4, a5] F post2) (hw : zLS own i y c2 m2 r2 5) (hR : d2 + 1 ≤ R.frames ∧ 8 + (m2 + 11) + 40 * d2 ≤ R.locals) (hroom : (st.map fun v => v.category).sum ≤ 8) (hd : decode cc pc = .ok (.invokestatic i, 3))
    (kk : ∀ v F', post2 v F' → Z K (zPP E adr cell ok ev F' s) (pc + 3) L (v.toList ++ st)) : Z K (zPP E adr cell ok ev F s) pc L (a5 :: a4 :: a3 :: a2 :: a1 :: st) := by
  obtain ⟨p, e, m, args, below, meth, c, n1, n2, Q, rfl, hx, hb, hml, hown, hts, hK, he, hs, hc1, hc2⟩ := C
  intro H locs ls hS hP hl
  refine z_run hs hS hl (va_runS (As := [a1, a2, a3, a4, a5]) (rest := st) ⟨hx, hb, hml, hown, hts⟩ hM (va_cwS 5 hts hw.good rfl rfl rfl hw.2 hR) ⟨zPP.blind hs, fun U hU hW => ⟨rfl, zPP.go hs hK he hP hU hW⟩⟩ rfl rfl hl.1 rfl (lv_room hroom) hd ⟨hc1, hc2⟩) kk
theorem z_callSN1 (C : zC (cell := cell) l E adr ok eu ev A K cc own R s mL) {i m2 d2 : Nat} {y : MethodName} {host : String} {c2 : ByteArray} {r2 : Option FieldType} {post2 : Option Value → σ → Prop} {a1 : Value} (hM : zMet l E adr cell ok eu ev A y c2 m2 r2 d2 [a1] F post2) (hlink : ∀ u, eu u → va_Nw (.methodLinkNest own i y host) u) (hw : (Cond.static y ∈ zTB ∧ Cond.initialized y.cls ∈ zTB ∧ Cond.code y c2 m2 r2 ∈ zTB) ∧ zPl y 1) (hR : d2 + 1 ≤ R.frames ∧ 8 + (m2 + 11) + 40 * d2 ≤ R.locals) (hroom : (st.map fun v => v.category).sum ≤ 8) (hd : decode cc pc = .ok (.invokestatic i, 3))
    (kk : ∀ v F', post2 v F' → Z K (zPP E adr cell ok ev F' s) (pc + 3) L (v.toList ++ st)) : Z K (zPP E adr cell ok ev F s) pc L (a1 :: st) := by
  obtain ⟨p, e, m, args, below, meth, c, n1, n2, Q, rfl, hx, hb, hml, hown, hts, hK, he, hs, hc1, hc2⟩ := C
  intro H locs ls hS hP hl
  have hG : GoodIn zTB (Cond.code y c2 m2 r2 :: zTB) := by
    intro w h
    rcases List.mem_cons.mp h with rfl | h
    · exact zgood hw.1.2.2
    · exact zgood h
  refine z_run hs hS hl (va_runSN (As := [a1]) (rest := st) ⟨hx, hb, hml, hown, hts⟩ hM ⟨va_cnB 1 hts hG rfl rfl rfl (hlink s he) (hts _ hw.1.2.1) hw.2 hR, hts _ hw.1.1, trivial⟩ ⟨zPP.blind hs, fun U hU hW => ⟨rfl, zPP.go hs hK he hP hU hW⟩⟩ rfl rfl hl.1 rfl (lv_room hroom) hd ⟨hc1, hc2⟩) kk
-- ends
theorem z_iret (C : zR (cell := cell) l E adr ok eu ev A K cc own d s mL (some .int) post) {v : Int32} (hd : decode cc pc = .ok (.ireturn, 1)) (h : post (some (.int v)) F) : Z K (zPP E adr cell ok ev F s) pc L [.int v] := by
  obtain ⟨p, e, m, args, below, meth, c, rfl, hx, hb, hml, hr, hlo, hown, hts, hK, he, hs⟩ := C
  intro H locs ls hS hP hl
  exact W.iret hx hb hr (fun t ht hW => ⟨⟨_, rfl, F, h, by rw [ht]; exact zPP.moved hs hW.alike hP⟩, hS.F ht⟩) hS.2.2 hd hlo
theorem z_zret (C : zR (cell := cell) l E adr ok eu ev A K cc own d s mL (some .boolean) post) {v : Int32} (hn : narrow .boolean (.int v) = .int v) (hd : decode cc pc = .ok (.ireturn, 1)) (h : post (some (.int v)) F) : Z K (zPP E adr cell ok ev F s) pc L [.int v] := by
  obtain ⟨p, e, m, args, below, meth, c, rfl, hx, hb, hml, hr, hlo, hown, hts, hK, he, hs⟩ := C
  intro H locs ls hS hP hl
  exact W.zret hx hb hr hn (fun t ht hW => ⟨⟨_, rfl, F, h, by rw [ht]; exact zPP.moved hs hW.alike hP⟩, hS.F ht⟩) hS.2.2 hd hlo
theorem z_lret (C : zR (cell := cell) l E adr ok eu ev A K cc own d s mL (some .long) post) {v : Int64} (hd : decode cc pc = .ok (.lreturn, 1)) (h : post (some (.long v)) F) : Z K (zPP E adr cell ok ev F s) pc L [.long v] := by
  obtain ⟨p, e, m, args, below, meth, c, rfl, hx, hb, hml, hr, hlo, hown, hts, hK, he, hs⟩ := C
  intro H locs ls hS hP hl
  exact W.lret hx hb hr (fun t ht hW => ⟨⟨_, rfl, F, h, by rw [ht]; exact zPP.moved hs hW.alike hP⟩, hS.F ht⟩) hS.2.2 hd hlo
theorem z_vret (C : zR (cell := cell) l E adr ok eu ev A K cc own d s mL none post) (hd : decode cc pc = .ok (.return_, 1)) (h : post none F) : Z K (zPP E adr cell ok ev F s) pc L [] := by
  obtain ⟨p, e, m, args, below, meth, c, rfl, hx, hb, hml, hr, hlo, hown, hts, hK, he, hs⟩ := C
  intro H locs ls hS hP hl
  exact W.vret hx hb hr (fun t ht hW => ⟨⟨_, rfl, F, h, by rw [ht]; exact zPP.moved hs hW.alike hP⟩, hS.F ht⟩) hS.2.2 hd hlo
end ZM
