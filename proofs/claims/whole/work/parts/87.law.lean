/-! THE CLAIM OUT OF ONE WALK OF THE LAW'S BODY. Your part is whole_start (and what it stands on); all else here is the same for every law, but numbers. -/
def R_law : String := "PaidInLeavesLaw"
def lw_P (b : Addr) (xs : List Int32) (args : Array Value) (s : State) : Prop := args = #[.ref b] ∧ s.IntsAt b xs ∧ xs.length ≤ 3072 ∧ (Jvm.Cond.and given_1 narrow_1).before args s = true
def lw_Q (_ : Array Value) (s : State) (o : Outcome) (t : State) : Prop := o = .returned (some (.int 1)) ∧ Framed s o t [] 600000 7302250
def lw_Z (below : List Frame) (a : Array Value) (s : State) : State → Prop := fun t => ∃ o, t.status = .running ∧ Ended t below o ∧ lw_Q a s o t
/-- the law's own end, with 1 on the stack, nothing written that was there before, its room as the claim has it -/
theorem lw_ret {p : Program} {l : Launch} {e : Env} {s : State} {m : MethodId} {below : List Frame} {meth : Method} {c : Code} {b : Nat} (hx : p.tables.exec = Jvm.exec) (hb : c.code = code) (hr : meth.sig.returnType = ret) (hlocks : meth.locks = false) {pc : Nat} {H : Heap} {ls : Array Slot} (hdg : decode code pc = .ok (.ireturn, 1)) : W p l e room_1 s m #[Value.ref b] below meth c H [] 600000 7302250 (lw_Z below #[Value.ref b] s) (F0 m pc ls [.int 1]) := by
  intro T hT X
  obtain ⟨fs, hret, hrun, hended, hW, hframe⟩ := X.leave (v := some (.int 1)) (hlocks := hlocks) (fun h => by rw [hr] at h; cases h)
  have hmeth' : T.vm.method? m = some meth := X.method'
  refine ⟨T.setFrames fs, ?_, .returned (some (.int 1)), hrun, hended, rfl, ⟨_, rfl⟩, hW, hframe⟩
  jvm_step X.here [X.here.top, hx, hb, hdg, hmeth', hr, ret, narrow_b1]
  (try refine ⟨rfl, ?_⟩); (try refine ⟨rfl, ?_⟩)
  first | (intro acts; rw [hret _ acts rfl rfl rfl]) | rw [hret _ _ rfl rfl rfl]
  exact Steps.refl _
/-- what holds at the law's entry: the machine, the code, the tables' words (any of lw_tbl by 'hts w (by decide +kernel)'), the script of L ints xs at the cell b, what the Statement gives of the start (any of its parts by flat_of_before) -/
def lw_At (p : Program) (s : State) (m : MethodId) (meth : Method) (c : Code) (b L : Nat) (xs : Nat → Int32) : Prop :=
  p.tables.exec = Jvm.exec ∧ c.code = code ∧ meth.sig.returnType = ret ∧ c.maxLocals = 4 ∧ s.vm.findClass R_law = some m.cls ∧ (∀ w ∈ lw_tbl, w.before #[Value.ref b] s = true) ∧ va_X b L xs s s.heap ∧ b < s.heap.size ∧ meth.locks = false ∧ (Jvm.Cond.and given_1 narrow_1).before #[Value.ref b] s = true
theorem xfin_q {E : zE} {a : Nat} : a + (xfin E).length = a + 83 := by rw [xfin_len]
set_option maxRecDepth 100000 in
set_option maxHeartbeats 4000000 in
/-- from the law's entry to its loop: both objects are made -/
theorem law_made {l : Launch} {E : zE} {Kf : Nat → Nat → zK} {s : State} {b : Nat} (Cc : gC l E Kf cL_law RL room_1 s 4 E.2.2.1) (hend : Z (Kf 114 3861) (gP E E.2.2.1 (xfin E ++ mfin (E2 E))) 18 [(0, .ref b), (1, .ref (adrC E (0, 0, 0))), (2, .ref (adrC E (100, 0, 0))), (3, .int (nI (6 * 0)))] []) : Z (Kf 0 0) (gP E E.2.2.1 []) 0 [(0, .ref b)] [] := by
  have e1 : adrC E (0, 0, 0) = E.2.2.1 := adrC_x
  have e2 : adrC E (100, 0, 0) = E.2.2.1 + 83 := adrC_m
  have e3 : nI (6 * 0) = 0 := by decide
  rw [e1, e2, e3] at hend
  refine g_new Cc (ci := 6) (N := 8) (T := TX6) (fs := zdX6) (r1 := 1) (r2 := 8) (q := E.2.2.1) tyX6 wi_X6 tyX6_ok rfl gw_L_7 dfX6 rfl rfl (Nat.le_of_ble_eq_true rfl) (Nat.le_of_ble_eq_true rfl) rfl dL_law_0 ?_
  have D := Cc.z (n1 := 1) (n2 := 8) (Nat.le_of_ble_eq_true rfl) (Nat.le_of_ble_eq_true rfl)
  refine z_dup D dL_law_3 rfl ?_
  refine g_init Cc (r1 := 83) (r2 := 1919) (ws' := xfin E) (c_X6_init l E) rfl ⟨kl_L_9, kn_X6_init, ki_X6, kc_X6_init⟩ rfl kp_X6_init ⟨(Nat.le_of_ble_eq_true rfl), (Nat.le_of_ble_eq_true rfl)⟩ (Nat.le_of_ble_eq_true rfl) rfl rfl (Nat.le_of_ble_eq_true rfl) (Nat.le_of_ble_eq_true rfl) rfl dL_law_4 ?_
  have D := Cc.z (n1 := 83) (n2 := 1919) (Nat.le_of_ble_eq_true rfl) (Nat.le_of_ble_eq_true rfl)
  refine z_astore_n D dL_law_7 rfl (by decide) ?_
  refine z_pick [1, 0] (L2 := [(0, .ref b), (1, .ref E.2.2.1)]) rfl ?_
  refine g_new Cc (ci := 7) (N := 48) (T := TX7) (fs := zdX7) (r1 := 84) (r2 := 1967) (q := E.2.2.1 + 83) tyX7 wi_X7 tyX7_ok rfl gw_L_10 dfX7 rfl rfl (Nat.le_of_ble_eq_true rfl) (Nat.le_of_ble_eq_true rfl) xfin_q dL_law_8 ?_
  have D := Cc.z (n1 := 84) (n2 := 1967) (Nat.le_of_ble_eq_true rfl) (Nat.le_of_ble_eq_true rfl)
  refine z_dup D dL_law_11 rfl ?_
  refine g_init Cc (r1 := 114) (r2 := 3861) (ws' := xfin E ++ mfin (E2 E)) (gMet.e2 (c_X7_init l (E2 E))) xfin_q ⟨kl_L_12, kn_X7_init, ki_X7, kc_X7_init⟩ rfl kp_X7_init ⟨(Nat.le_of_ble_eq_true rfl), (Nat.le_of_ble_eq_true rfl)⟩ (Nat.le_of_ble_eq_true rfl) rfl rfl (Nat.le_of_ble_eq_true rfl) (Nat.le_of_ble_eq_true rfl) rfl dL_law_12 ?_
  have D := Cc.z (n1 := 114) (n2 := 3861) (Nat.le_of_ble_eq_true rfl) (Nat.le_of_ble_eq_true rfl)
  refine z_astore_n D dL_law_15 rfl (by decide) ?_
  refine z_pick [1, 2, 0] (L2 := [(0, .ref b), (1, .ref E.2.2.1), (2, .ref (E.2.2.1 + 83))]) rfl ?_
  refine z_iconst D (v := 0) dL_law_16 rfl ?_
  refine z_istore_n D dL_law_17 rfl (by decide) ?_
  refine z_pick [1, 2, 3, 0] (L2 := [(0, .ref b), (1, .ref E.2.2.1), (2, .ref (E.2.2.1 + 83)), (3, .int 0)]) rfl ?_
  exact hend
set_option maxRecDepth 100000 in
set_option maxHeartbeats 4000000 in
/-- the law, from its entry -/
theorem whole_start {p : Program} {e : Env} {s : State} {m : MethodId} {below : List Frame} {meth : Method} {c : Code} (l : Launch) (hflags : l.flags = flags0) {b L : Nat} {xs : Nat → Int32} (hL : L ≤ 3072) (C0 : lw_At p s m meth c b L xs) : W p l e room_1 s m #[Value.ref b] below meth c s.heap [] 0 0 (lw_Z below #[Value.ref b] s) (entryFrame m ([Value.ref b] : List Value).toArray 4) := by
  obtain ⟨hx, hb, hr, hml, hown, hts, hX, hbl, hlocks, hgv⟩ := C0
  have hs := flat_of_before _ hgv
  have hU : gU s := sv_U hts
  obtain ⟨D, DA, hK⟩ := sv_K hts hU
  obtain ⟨a4, hev, heu⟩ := sv_ev hs hts D DA
  have htz : ∀ w ∈ zTB, w.before #[Value.ref b] s = true := fun w hw => hts w (zTB_good w hw).1
  have hscr : va_T .int b L (fun j => .int (xs j)) (fun q : Nat => s.heap.size ≤ q) s s.heap := by
    obtain ⟨scr, x1, x2, x3, x4, x5⟩ := hX
    exact ⟨scr, x1, x2, x3, by rw [x4]; exact Nat.le_refl _, by rw [x4], x5, Nat.not_le.mpr hbl⟩
  obtain ⟨E, hE⟩ : ∃ E : zE, E = (D, DA, s.heap.size, a4) := ⟨_, rfl⟩
  rw [← hE] at hev heu
  have hE1 : E.2.2.1 = s.heap.size := by rw [hE]
  have hKE : va_K E.1 zcl (zT E) s := by rw [hE]; exact hK
  have hev0 : evC b L xs E s s.heap := by
    refine ⟨hev, ?_⟩
    have e : xB E = (fun q : Nat => s.heap.size ≤ q) := by rw [← hE1]; rfl
    rw [e]
    exact hscr
  obtain ⟨Kf, hKf⟩ : ∃ Kf : Nat → Nat → zK, Kf = (fun n1 n2 => ((fun H locs g => W p l e room_1 s m #[Value.ref b] below meth c H locs n1 n2 (lw_Z below #[Value.ref b] s) g), m, (fun H locs => va_S (gA E.2.2.1) s.heap H locs), 4)) := ⟨_, rfl⟩
  have Cc : gC l E Kf cL_law RL room_1 s 4 E.2.2.1 := ⟨p, e, m, _, below, meth, c, _, hKf, hx, hb, hml, hown, htz, hKE, hU, by rw [hE1]; exact Nat.le_refl _⟩
  have C : zC (cell := cellC E) l E (adrC E) okC (xeu E) (evC b L xs E) (AC E) (Kf 114 3861) cL_law RL room_1 s 4 := ⟨p, e, m, _, below, meth, c, 114, 3861, _, by rw [hKf]; rfl, hx, hb, hml, hown, htz, hKE, heu, csy b L xs E, (Nat.le_of_ble_eq_true rfl), (Nat.le_of_ble_eq_true rfl)⟩
  have hexit : ∀ (N : Nat) (F : zF) (M : zM) (i : Nat), RR N F M → Z (Kf 114 3861) (zPP E (adrC E) (cellC E) okC (evC b L xs E) (F, M) s) 1680 [(0, .ref b), (1, .ref (adrC E (0, 0, 0))), (2, .ref (adrC E (100, 0, 0))), (3, .int (nI i))] [] := by
    intro N F M i _
    rw [hKf]
    intro H locs ls hS hP hl
    have hS : va_S (gA E.2.2.1) s.heap H locs := hS
    refine lv_iconst (v := 1) hx hb dL_law_1680 (by decide) ?_
    refine va_forget (fun q hq => ?_) (W.widen (k := 600000) (n := 7302250) (Nat.le_of_ble_eq_true rfl) (Nat.le_of_ble_eq_true rfl) (lw_ret hx hb hr hlocks dL_law_1681))
    have h3 : E.2.2.1 ≤ q.base := hS.2.2 q hq
    omega
  have hloop := lw_loop C (by decide) ⟨(Nat.le_of_ble_eq_true rfl), (Nat.le_of_ble_eq_true rfl)⟩ hL hexit 600 0 ini_F ini_M (by omega) (by omega) ini_RR
  have hend : Z (Kf 114 3861) (gP E E.2.2.1 (xfin E ++ mfin (E2 E))) 18 [(0, .ref b), (1, .ref (adrC E (0, 0, 0))), (2, .ref (adrC E (100, 0, 0))), (3, .int (nI (6 * 0)))] [] := by
    intro H locs ls hS hP hl
    have hS2 : va_S (gA E.2.2.1) s.heap H locs := by rw [hKf] at hS; exact hS
    exact hloop H locs ls hS ⟨(csy b L xs E).2.2.2.1 s s.heap H hev0 hS2.1 hS2.2.1, ini_cel hP⟩ hl
  have hgo := law_made Cc hend
  rw [hKf] at hgo
  have hl2 := lv_entry [.ref b] (n := 4) (Nat.le_of_ble_eq_true rfl)
  rw [lg_entry_eq]
  exact hgo s.heap [] _ va_S.rf ⟨hE1.symm, fun i e h => by simp at h⟩ hl2
