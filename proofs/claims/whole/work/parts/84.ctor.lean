/-! the constructors -/
theorem gw_X6_9 : Cond.classLink RX6 9 RX3 ∈ zTB ∧ Cond.instantiable RX3 3 ∈ zTB ∧ Cond.initialized RX3 ∈ zTB := ⟨zi 25 (by decide +kernel) (by decide +kernel), zi 209 (by decide +kernel) (by decide +kernel), ki_X3⟩
theorem gw_X6_19 : Cond.classLink RX6 19 RX1 ∈ zTB ∧ Cond.instantiable RX1 10 ∈ zTB ∧ Cond.initialized RX1 ∈ zTB := ⟨zi 27 (by decide +kernel) (by decide +kernel), zi 28 (by decide +kernel) (by decide +kernel), ki_X1⟩
theorem gw_X1_9 : Cond.classLink RX1 9 RX4 ∈ zTB ∧ Cond.instantiable RX4 7 ∈ zTB ∧ Cond.initialized RX4 ∈ zTB := ⟨zi 33 (by decide +kernel) (by decide +kernel), zi 37 (by decide +kernel) (by decide +kernel), ki_X4⟩
theorem gw_X1_17 : Cond.classLink RX1 17 RX0 ∈ zTB ∧ Cond.instantiable RX0 6 ∈ zTB ∧ Cond.initialized RX0 ∈ zTB := ⟨zi 35 (by decide +kernel) (by decide +kernel), zi 72 (by decide +kernel) (by decide +kernel), ki_X0⟩
theorem gw_X6_32 : Cond.classLink RX6 32 RX2 ∈ zTB ∧ Cond.instantiable RX2 6 ∈ zTB ∧ Cond.initialized RX2 ∈ zTB := ⟨zi 156 (by decide +kernel) (by decide +kernel), zi 157 (by decide +kernel) (by decide +kernel), ki_X2⟩
theorem gw_X2_9 : Cond.classLink RX2 9 RX1 ∈ zTB ∧ Cond.instantiable RX1 10 ∈ zTB ∧ Cond.initialized RX1 ∈ zTB := ⟨zi 162 (by decide +kernel) (by decide +kernel), zi 28 (by decide +kernel) (by decide +kernel), ki_X1⟩
theorem gw_X6_39 : Cond.classLink RX6 39 RX5 ∈ zTB ∧ Cond.instantiable RX5 5 ∈ zTB ∧ Cond.initialized RX5 ∈ zTB := ⟨zi 185 (by decide +kernel) (by decide +kernel), zi 186 (by decide +kernel) (by decide +kernel), ki_X5⟩
theorem gw_L_7 : Cond.classLink RL 7 RX6 ∈ zTB ∧ Cond.instantiable RX6 8 ∈ zTB ∧ Cond.initialized RX6 ∈ zTB := ⟨zi 17 (by decide +kernel) (by decide +kernel), zi 18 (by decide +kernel) (by decide +kernel), ki_X6⟩
theorem gw_L_10 : Cond.classLink RL 10 RX7 ∈ zTB ∧ Cond.instantiable RX7 48 ∈ zTB ∧ Cond.initialized RX7 ∈ zTB := ⟨zi 793 (by decide +kernel) (by decide +kernel), zi 794 (by decide +kernel) (by decide +kernel), ki_X7⟩
theorem go_X6 : Cond.methodLink RX6 1 Lib.objectInit ∈ zTB := zi 22 (by decide +kernel) (by decide +kernel)
theorem go_X1 : Cond.methodLink RX1 3 Lib.objectInit ∈ zTB := zi 32 (by decide +kernel) (by decide +kernel)
theorem go_X4 : Cond.methodLink RX4 3 Lib.objectInit ∈ zTB := zi 41 (by decide +kernel) (by decide +kernel)
theorem go_X0 : Cond.methodLink RX0 3 Lib.objectInit ∈ zTB := zi 76 (by decide +kernel) (by decide +kernel)
theorem go_X2 : Cond.methodLink RX2 3 Lib.objectInit ∈ zTB := zi 161 (by decide +kernel) (by decide +kernel)
theorem go_X5 : Cond.methodLink RX5 3 Lib.objectInit ∈ zTB := zi 190 (by decide +kernel) (by decide +kernel)
theorem go_X3 : Cond.methodLink RX3 3 Lib.objectInit ∈ zTB := zi 213 (by decide +kernel) (by decide +kernel)
theorem go_X7 : Cond.methodLink RX7 1 Lib.objectInit ∈ zTB := zi 798 (by decide +kernel) (by decide +kernel)
abbrev zdX0 : List Value := [.int 0, .int 0, .int 0, .int 0, .int 0, .int 0]
theorem dfX0 : ∀ j, j < 6 → defaultValue (tyX0 j) = vp_V zdX0 j := by
  intro j hj
  rcases (show j = 0 ∨ j = 1 ∨ j = 2 ∨ j = 3 ∨ j = 4 ∨ j = 5 by omega) with rfl | rfl | rfl | rfl | rfl | rfl <;> rfl
abbrev zdX1 : List Value := [.null, .null, .int 0, .int 0, .int 0, .int 0, .int 0, .int 0, .int 0, .int 0]
theorem dfX1 : ∀ j, j < 10 → defaultValue (tyX1 j) = vp_V zdX1 j := by
  intro j hj
  rcases (show j = 0 ∨ j = 1 ∨ j = 2 ∨ j = 3 ∨ j = 4 ∨ j = 5 ∨ j = 6 ∨ j = 7 ∨ j = 8 ∨ j = 9 by omega) with rfl | rfl | rfl | rfl | rfl | rfl | rfl | rfl | rfl | rfl <;> rfl
abbrev zdX2 : List Value := [.null, .null, .int 0, .int 0, .int 0, .int 0]
theorem dfX2 : ∀ j, j < 6 → defaultValue (tyX2 j) = vp_V zdX2 j := by
  intro j hj
  rcases (show j = 0 ∨ j = 1 ∨ j = 2 ∨ j = 3 ∨ j = 4 ∨ j = 5 by omega) with rfl | rfl | rfl | rfl | rfl | rfl <;> rfl
abbrev zdX3 : List Value := [.null, .int 0, .int 0]
theorem dfX3 : ∀ j, j < 3 → defaultValue (tyX3 j) = vp_V zdX3 j := by
  intro j hj
  rcases (show j = 0 ∨ j = 1 ∨ j = 2 by omega) with rfl | rfl | rfl <;> rfl
abbrev zdX4 : List Value := [.int 0, .int 0, .int 0, .int 0, .int 0, .int 0, .int 0]
theorem dfX4 : ∀ j, j < 7 → defaultValue (tyX4 j) = vp_V zdX4 j := by
  intro j hj
  rcases (show j = 0 ∨ j = 1 ∨ j = 2 ∨ j = 3 ∨ j = 4 ∨ j = 5 ∨ j = 6 by omega) with rfl | rfl | rfl | rfl | rfl | rfl | rfl <;> rfl
abbrev zdX5 : List Value := [.null, .int 0, .int 0, .int 0, .int 0]
theorem dfX5 : ∀ j, j < 5 → defaultValue (tyX5 j) = vp_V zdX5 j := by
  intro j hj
  rcases (show j = 0 ∨ j = 1 ∨ j = 2 ∨ j = 3 ∨ j = 4 by omega) with rfl | rfl | rfl | rfl | rfl <;> rfl
abbrev zdX6 : List Value := [.null, .null, .null, .null, .null, .null, .null, .int 0]
theorem dfX6 : ∀ j, j < 8 → defaultValue (tyX6 j) = vp_V zdX6 j := by
  intro j hj
  rcases (show j = 0 ∨ j = 1 ∨ j = 2 ∨ j = 3 ∨ j = 4 ∨ j = 5 ∨ j = 6 ∨ j = 7 by omega) with rfl | rfl | rfl | rfl | rfl | rfl | rfl | rfl <;> rfl
abbrev zdX7 : List Value := [.int 0, .int 0, .int 0, .int 0, .int 0, .int 0, .int 0, .int 0, .int 0, .null, .null, .null, .null, .null, .null, .null, .null, .null, .null, .null, .null, .null, .null, .null, .null, .null, .null, .null, .null, .null, .int 0, .int 0, .int 0, .int 0, .int 0, .null, .null, .null, .null, .int 0, .null, .null, .null, .null, .int 0, .null, .int 0, .int 0]
theorem dfX7 : ∀ j, j < 48 → defaultValue (tyX7 j) = vp_V zdX7 j := by
  intro j hj
  rcases (show j = 0 ∨ j = 1 ∨ j = 2 ∨ j = 3 ∨ j = 4 ∨ j = 5 ∨ j = 6 ∨ j = 7 ∨ j = 8 ∨ j = 9 ∨ j = 10 ∨ j = 11 ∨ j = 12 ∨ j = 13 ∨ j = 14 ∨ j = 15 ∨ j = 16 ∨ j = 17 ∨ j = 18 ∨ j = 19 ∨ j = 20 ∨ j = 21 ∨ j = 22 ∨ j = 23 ∨ j = 24 ∨ j = 25 ∨ j = 26 ∨ j = 27 ∨ j = 28 ∨ j = 29 ∨ j = 30 ∨ j = 31 ∨ j = 32 ∨ j = 33 ∨ j = 34 ∨ j = 35 ∨ j = 36 ∨ j = 37 ∨ j = 38 ∨ j = 39 ∨ j = 40 ∨ j = 41 ∨ j = 42 ∨ j = 43 ∨ j = 44 ∨ j = 45 ∨ j = 46 ∨ j = 47 by omega) with rfl | rfl | rfl | rfl | rfl | rfl | rfl | rfl | rfl | rfl | rfl | rfl | rfl | rfl | rfl | rfl | rfl | rfl | rfl | rfl | rfl | rfl | rfl | rfl | rfl | rfl | rfl | rfl | rfl | rfl | rfl | rfl | rfl | rfl | rfl | rfl | rfl | rfl | rfl | rfl | rfl | rfl | rfl | rfl | rfl | rfl | rfl | rfl <;> rfl
def ini_g : zGc := (fun k => if k = 4 then 5 else if k = 5 then 999 else if k = 7 then 1 else 0, fun _ _ => 0, fun _ k => if k = 5 then -1 else 0)
def ini_F : zF := (fun _ => (ini_g, fun _ => 0, fun _ => 0), fun _ k => if k = 0 then -1 else 0, fun _ _ => 0, fun i => if i = 1 then (fun k => if k = 2 then -1 else 0) else fun _ => 0)
def ini_M : zM := ((ini_g.1, fun _ _ => 0, fun _ _ => 0), fun k => if k = 8 then -1 else 0, fun k => if k = 27 then (fun i => wrd.getD i 0) else if k = 28 then (fun i => nms.getD i 0) else fun _ => 0, fun _ _ => 0)
def mky (i : Nat) : zKey := if i = 0 then (0, 0, 0) else if i = 17 then (2, 25, 0) else if i = 18 then (2, 26, 0) else if i ≤ 21 then (1, i + 8, 0) else if i ≤ 25 then (1, i + 13, 0) else if i ≤ 29 then (1, i + 14, 0) else (1, i + 15, 0)
def gT (E : zE) (gi n : Nat) : List va_E := (List.range n).map (fun j => xcell E ini_F (xgk gi (j + 3)))
def xT (E : zE) (n : Nat) : List va_E := (List.range n).map (fun j => xcell E ini_F (xkey (j + 2)))
def mdT (E : zE) (n : Nat) : List va_E := (List.range n).map (fun j => mcell E ini_M (mky (j + 1)))
def gfin (E : zE) (gi : Nat) : List va_E := (List.range 15).map (fun j => xcell E ini_F (xgk gi j))
def rfin (E : zE) : List va_E := (List.range 17).map (fun j => xcell E ini_F (xkey (j + 48)))
def xfin (E : zE) : List va_E := (List.range 83).map (fun j => xcell E ini_F (xkey j))
def mfin (E : zE) : List va_E := (List.range 31).map (fun j => mcell E ini_M (mky j))
theorem rng1 (f : Nat → va_E) (n : Nat) : (List.range (n + 1)).map f = f 0 :: (List.range n).map (fun i => f (i + 1)) := by
  rw [List.range_succ_eq_map, List.map_cons, List.map_map]; rfl
theorem rng2 (f : Nat → va_E) (n m : Nat) : (List.range (n + m)).map f = (List.range n).map f ++ (List.range m).map (fun i => f (n + i)) := by
  rw [List.range_add, List.map_append, List.map_map]; rfl
theorem gT_len {E : zE} {gi n : Nat} : (gT E gi n).length = n := by unfold gT; simp
theorem xT_len {E : zE} {n : Nat} : (xT E n).length = n := by unfold xT; simp
theorem mdT_len {E : zE} {n : Nat} : (mdT E n).length = n := by unfold mdT; simp
theorem gT_q {E : zE} {gi n a c : Nat} {x y z : va_E} (h : n + 3 = c) : a + (x :: y :: z :: gT E gi n).length = a + c := by
  simp only [List.length_cons, gT_len]; omega
theorem xT_q {E : zE} {n a c : Nat} {x y : va_E} (h : n + 2 = c) : a + (x :: y :: xT E n).length = a + c := by
  simp only [List.length_cons, xT_len]; omega
theorem mdT_q {E : zE} {n a c : Nat} {x : va_E} (h : n + 1 = c) : a + (x :: mdT E n).length = a + c := by
  simp only [List.length_cons, mdT_len]; omega
theorem gT_s {E : zE} {gi n : Nat} {e : va_E} (h : e = xcell E ini_F (xgk gi (n + 3))) : gT E gi n ++ [e] = gT E gi (n + 1) := by
  subst h; unfold gT; rw [List.range_succ, List.map_append]; rfl
theorem xT_s {E : zE} {n : Nat} {e : va_E} (h : e = xcell E ini_F (xkey (n + 2))) : xT E n ++ [e] = xT E (n + 1) := by
  subst h; unfold xT; rw [List.range_succ, List.map_append]; rfl
theorem mdT_s {E : zE} {n : Nat} {e : va_E} (h : e = mcell E ini_M (mky (n + 1))) : mdT E n ++ [e] = mdT E (n + 1) := by
  subst h; unfold mdT; rw [List.range_succ, List.map_append]; rfl
theorem gT_c {E : zE} {gi n m : Nat} {x y z e : va_E} (h : e = xcell E ini_F (xgk gi (n + 3))) (hm : n + 1 = m) : (x :: y :: z :: gT E gi n) ++ [e] = x :: y :: z :: gT E gi m := by
  subst hm; show x :: y :: z :: (gT E gi n ++ [e]) = _; rw [gT_s h]
theorem xT_c {E : zE} {n m : Nat} {x y e : va_E} (h : e = xcell E ini_F (xkey (n + 2))) (hm : n + 1 = m) : (x :: y :: xT E n) ++ [e] = x :: y :: xT E m := by
  subst hm; show x :: y :: (xT E n ++ [e]) = _; rw [xT_s h]
theorem mdT_c {E : zE} {n m : Nat} {x e : va_E} (h : e = mcell E ini_M (mky (n + 1))) (hm : n + 1 = m) : (x :: mdT E n) ++ [e] = x :: mdT E m := by
  subst hm; show x :: (mdT E n ++ [e]) = _; rw [mdT_s h]
theorem xT_cs {E : zE} {n k m : Nat} {x y : va_E} {fin : List va_E} (h : fin = (List.range k).map (fun j => xcell E ini_F (xkey (n + j + 2)))) (hm : n + k = m) : (x :: y :: xT E n) ++ fin = x :: y :: xT E m := by
  subst hm; show x :: y :: (xT E n ++ fin) = _
  rw [h]; unfold xT; rw [rng2]
theorem gfin_x {E : zE} {gi n : Nat} (h : ∀ j, j < 15 → xgk gi j = xkey (n + j + 2)) : gfin E gi = (List.range 15).map (fun j => xcell E ini_F (xkey (n + j + 2))) := by
  unfold gfin; exact List.map_congr_left (fun j hj => by rw [h j (List.mem_range.mp hj)])
theorem rfin_x {E : zE} {n : Nat} (h : ∀ j, j < 17 → xkey (j + 48) = xkey (n + j + 2)) : rfin E = (List.range 17).map (fun j => xcell E ini_F (xkey (n + j + 2))) := by
  unfold rfin; exact List.map_congr_left (fun j hj => by rw [h j (List.mem_range.mp hj)])
theorem gfin_l {E : zE} {gi : Nat} : (gfin E gi).length = 15 := by unfold gfin; simp
theorem gfin_q {E : zE} {gi a : Nat} {x : va_E} : a + 48 + (x :: gfin E gi).length = a + 64 := by
  have h : (x :: gfin E gi).length = 16 := by rw [List.length_cons, gfin_l]
  omega
theorem g_w {E : zE} {K : zK} {a pc : Nat} {L : List (Nat × Value)} {st : List Value} {ws ws' : List va_E} (h : ws = ws') (k : Z K (gP E a ws') pc L st) : Z K (gP E a ws) pc L st := by subst h; exact k
theorem gP.eqiL {E : zE} {a n : Nat} {cA : ClassId} {ws : List va_E} {H : Heap} {f f' : Nat → Int32} (hf : ∀ i, i < n → f i = f' i) (h : gP E a (ws ++ [.inl (cA, n, .inl f)]) H) : gP E a (ws ++ [.inl (cA, n, .inl f')]) H := by
  have hj : (ws ++ [(.inl (cA, n, .inl f) : va_E)])[ws.length]? = some (.inl (cA, n, .inl f)) := by simp
  refine gP.eqi hj hf ?_ h
  rw [List.set_append_right _ _ (Nat.le_refl _), Nat.sub_self]; rfl
set_option maxRecDepth 100000 in
set_option maxHeartbeats 4000000 in
theorem c_X4_init (l : Launch) (E : zE) (a : Nat) : gMet l E yX4_init cX4_init 1 1 0 0 (a) (.inr (4, zdX4)) ([.inr (4, zdX4)]) := by
  refine gMet.mk (by decide +kernel) rfl (by decide) (fun Kf s C => ?_)
  have Cc := C.c
  have D := Cc.z (n1 := 0) (n2 := 0) (Nat.le_of_ble_eq_true rfl) (Nat.le_of_ble_eq_true rfl)
  refine z_aload_n D 0 dX4_init_0 rfl ?_
  refine g_obj Cc go_X4 (Nat.le_of_ble_eq_true rfl) ⟨(Nat.le_of_ble_eq_true rfl), (Nat.le_of_ble_eq_true rfl)⟩ dX4_init_1 ?_
  exact g_vret C dX4_init_4
set_option maxRecDepth 100000 in
set_option maxHeartbeats 4000000 in
theorem c_X0_init (l : Launch) (E : zE) (a : Nat) : gMet l E yX0_init cX0_init 1 1 0 0 (a) (.inr (0, zdX0)) ([.inr (0, [.int 0, .int 0, .int 0, .int 0, .int 0, .int (-1)])]) := by
  refine gMet.mk (by decide +kernel) rfl (by decide) (fun Kf s C => ?_)
  have Cc := C.c
  have D := Cc.z (n1 := 0) (n2 := 0) (Nat.le_of_ble_eq_true rfl) (Nat.le_of_ble_eq_true rfl)
  refine z_aload_n D 0 dX0_init_0 rfl ?_
  refine g_obj Cc go_X0 (Nat.le_of_ble_eq_true rfl) ⟨(Nat.le_of_ble_eq_true rfl), (Nat.le_of_ble_eq_true rfl)⟩ dX0_init_1 ?_
  refine z_aload_n D 0 dX0_init_4 rfl ?_
  refine z_iconst D (v := (-1)) dX0_init_5 rfl ?_
  refine g_put Cc (j := 0) (ci := 0) (N := 6) (k := 5) (T := TX0) (ty := .int) (ws' := [.inr (0, [.int 0, .int 0, .int 0, .int 0, .int 0, .int (-1)])]) rfl rfl wi_X0 tyX0 tyX0_ok nmX0 rfl (by decide) kf_X0_9 rfl (tyX0_ok 5 (by decide)) rfl rfl (Nat.le_of_ble_eq_true rfl) rfl dX0_init_6 ?_
  exact g_vret C dX0_init_9
set_option maxRecDepth 100000 in
set_option maxHeartbeats 4000000 in
theorem c_X3_init (l : Launch) (E : zE) (a : Nat) : gMet l E yX3_init cX3_init 1 1 1 160 (a) (.inr (3, zdX3)) ([.inr (3, [.ref (a + 1), .int (-1), .int 0]), .inl (E.2.1 1, 160, .inr (.inl (fun _ => 0)))]) := by
  refine gMet.mk (by decide +kernel) rfl (by decide) (fun Kf s C => ?_)
  have Cc := C.c
  have D := Cc.z (n1 := 0) (n2 := 0) (Nat.le_of_ble_eq_true rfl) (Nat.le_of_ble_eq_true rfl)
  refine z_aload_n D 0 dX3_init_0 rfl ?_
  refine g_obj Cc go_X3 (Nat.le_of_ble_eq_true rfl) ⟨(Nat.le_of_ble_eq_true rfl), (Nat.le_of_ble_eq_true rfl)⟩ dX3_init_1 ?_
  refine z_aload_n D 0 dX3_init_4 rfl ?_
  refine z_sipush D (v := 160) dX3_init_5 rfl ?_
  refine g_newl Cc (N := 160) (r1 := 1) (r2 := 160) (q := a + 1) (by decide) (by decide) (Nat.le_of_ble_eq_true rfl) rfl rfl (Nat.le_of_ble_eq_true rfl) (Nat.le_of_ble_eq_true rfl) rfl dX3_init_8 ?_
  have D := Cc.z (n1 := 1) (n2 := 160) (Nat.le_of_ble_eq_true rfl) (Nat.le_of_ble_eq_true rfl)
  refine g_putF C (j := 0) (ci := 3) (N := 3) (k := 0) (T := TX3) (ty := .array .long) (ws' := [.inr (3, [.ref (a + 1), .int 0, .int 0]), .inl (E.2.1 1, 160, .inr (.inl (fun _ => 0)))]) rfl rfl wi_X3 tyX3 tyX3_ok nmX3 rfl (by decide) kf_X3_9 rfl rfl (tyX3_ok 0 (by decide)) rfl rfl (Nat.le_of_ble_eq_true rfl) rfl dX3_init_10 ?_
  refine z_aload_n D 0 dX3_init_13 rfl ?_
  refine z_iconst D (v := (-1)) dX3_init_14 rfl ?_
  refine g_put Cc (j := 0) (ci := 3) (N := 3) (k := 1) (T := TX3) (ty := .int) (ws' := [.inr (3, [.ref (a + 1), .int (-1), .int 0]), .inl (E.2.1 1, 160, .inr (.inl (fun _ => 0)))]) rfl rfl wi_X3 tyX3 tyX3_ok nmX3 rfl (by decide) kf_X3_15 rfl (tyX3_ok 1 (by decide)) rfl rfl (Nat.le_of_ble_eq_true rfl) rfl dX3_init_15 ?_
  exact g_vret C dX3_init_18
set_option maxRecDepth 100000 in
set_option maxHeartbeats 4000000 in
theorem c_X5_init (l : Launch) (E : zE) (a : Nat) : gMet l E yX5_init cX5_init 1 1 1 20 (a) (.inr (5, zdX5)) ([.inr (5, [.ref (a + 1), .int 0, .int 0, .int 0, .int 0]), .inl (E.2.1 0, 20, .inl (fun _ => 0))]) := by
  refine gMet.mk (by decide +kernel) rfl (by decide) (fun Kf s C => ?_)
  have Cc := C.c
  have D := Cc.z (n1 := 0) (n2 := 0) (Nat.le_of_ble_eq_true rfl) (Nat.le_of_ble_eq_true rfl)
  refine z_aload_n D 0 dX5_init_0 rfl ?_
  refine g_obj Cc go_X5 (Nat.le_of_ble_eq_true rfl) ⟨(Nat.le_of_ble_eq_true rfl), (Nat.le_of_ble_eq_true rfl)⟩ dX5_init_1 ?_
  refine z_aload_n D 0 dX5_init_4 rfl ?_
  refine z_bipush D (v := 20) dX5_init_5 rfl ?_
  refine g_newi Cc (N := 20) (r1 := 1) (r2 := 20) (q := a + 1) (by decide) (by decide) (Nat.le_of_ble_eq_true rfl) rfl rfl (Nat.le_of_ble_eq_true rfl) (Nat.le_of_ble_eq_true rfl) rfl dX5_init_7 ?_
  have D := Cc.z (n1 := 1) (n2 := 20) (Nat.le_of_ble_eq_true rfl) (Nat.le_of_ble_eq_true rfl)
  refine g_putF C (j := 0) (ci := 5) (N := 5) (k := 0) (T := TX5) (ty := .array .int) (ws' := [.inr (5, [.ref (a + 1), .int 0, .int 0, .int 0, .int 0]), .inl (E.2.1 0, 20, .inl (fun _ => 0))]) rfl rfl wi_X5 tyX5 tyX5_ok nmX5 rfl (by decide) kf_X5_9 rfl rfl (tyX5_ok 0 (by decide)) rfl rfl (Nat.le_of_ble_eq_true rfl) rfl dX5_init_9 ?_
  exact g_vret C dX5_init_12
set_option maxRecDepth 100000 in
set_option maxHeartbeats 4000000 in
theorem c_X1_init (l : Launch) (E : zE) (gi : Nat) : gMet l E yX1_init cX1_init 2 2 14 90 (xga E.2.2.1 gi) (.inr (1, zdX1)) (gfin E gi) := by
  refine gMet.mk (by decide +kernel) rfl (by decide) (fun Kf s C => ?_)
  have Cc := C.c
  have D := Cc.z (n1 := 0) (n2 := 0) (Nat.le_of_ble_eq_true rfl) (Nat.le_of_ble_eq_true rfl)
  refine z_aload_n D 0 dX1_init_0 rfl ?_
  refine g_obj Cc go_X1 (Nat.le_of_ble_eq_true rfl) ⟨(Nat.le_of_ble_eq_true rfl), (Nat.le_of_ble_eq_true rfl)⟩ dX1_init_1 ?_
  refine z_aload_n D 0 dX1_init_4 rfl ?_
  refine z_bipush D (v := 6) dX1_init_5 rfl ?_
  refine g_newq Cc (N := 6) (r1 := 1) (r2 := 6) (q := xga E.2.2.1 gi + 1) 2 rfl (fun _ h => h.1.1) gw_X1_9.1 (by decide) (by decide) (Nat.le_of_ble_eq_true rfl) rfl rfl (Nat.le_of_ble_eq_true rfl) (Nat.le_of_ble_eq_true rfl) rfl dX1_init_7 ?_
  have D := Cc.z (n1 := 1) (n2 := 6) (Nat.le_of_ble_eq_true rfl) (Nat.le_of_ble_eq_true rfl)
  refine g_putF C (j := 0) (ci := 1) (N := 10) (k := 0) (T := TX1) (ty := .array (.object "PaidInLeaves$Shop")) (ws' := [.inr (1, [.ref (xga E.2.2.1 gi + 1), .null, .int 0, .int 0, .int 0, .int 0, .int 0, .int 0, .int 0, .int 0]), .inl (E.2.1 2, 6, .inr (.inr (.inr (.inr (fun _ => none)))))]) rfl rfl wi_X1 tyX1 tyX1_ok nmX1 rfl (by decide) kf_X1_11 rfl rfl (tyX1_ok 0 (by decide)) rfl rfl (Nat.le_of_ble_eq_true rfl) rfl dX1_init_10 ?_
  refine z_aload_n D 0 dX1_init_13 rfl ?_
  refine z_bipush D (v := 6) dX1_init_14 rfl ?_
  refine g_newq Cc (N := 6) (r1 := 2) (r2 := 12) (q := xga E.2.2.1 gi + 2) 3 rfl (fun _ h => h.1.2.1) gw_X1_17.1 (by decide) (by decide) (Nat.le_of_ble_eq_true rfl) rfl rfl (Nat.le_of_ble_eq_true rfl) (Nat.le_of_ble_eq_true rfl) rfl dX1_init_16 ?_
  have D := Cc.z (n1 := 2) (n2 := 12) (Nat.le_of_ble_eq_true rfl) (Nat.le_of_ble_eq_true rfl)
  refine g_putF C (j := 0) (ci := 1) (N := 10) (k := 1) (T := TX1) (ty := .array (.object "PaidInLeaves$Child")) (ws' := .inr (1, [.ref (xga E.2.2.1 gi + 1), .ref (xga E.2.2.1 gi + 2), .int 0, .int 0, .int 0, .int 0, .int 0, .int 0, .int 0, .int 0]) :: .inl (E.2.1 2, 6, .inr (.inr (.inr (.inr (fun _ => none))))) :: .inl (E.2.1 3, 6, .inr (.inr (.inr (.inr (fun _ => none))))) :: gT E gi 0) rfl rfl wi_X1 tyX1 tyX1_ok nmX1 rfl (by decide) kf_X1_19 rfl rfl (tyX1_ok 1 (by decide)) rfl rfl (Nat.le_of_ble_eq_true rfl) rfl dX1_init_19 ?_
  refine z_aload_n D 0 dX1_init_22 rfl ?_
  refine z_iconst D (v := 5) dX1_init_23 rfl ?_
  refine g_put Cc (j := 0) (ci := 1) (N := 10) (k := 6) (T := TX1) (ty := .int) (ws' := .inr (1, [.ref (xga E.2.2.1 gi + 1), .ref (xga E.2.2.1 gi + 2), .int 0, .int 0, .int 0, .int 0, .int 5, .int 0, .int 0, .int 0]) :: .inl (E.2.1 2, 6, .inr (.inr (.inr (.inr (fun _ => none))))) :: .inl (E.2.1 3, 6, .inr (.inr (.inr (.inr (fun _ => none))))) :: gT E gi 0) rfl rfl wi_X1 tyX1 tyX1_ok nmX1 rfl (by decide) kf_X1_23 rfl (tyX1_ok 6 (by decide)) rfl rfl (Nat.le_of_ble_eq_true rfl) rfl dX1_init_24 ?_
  refine z_aload_n D 0 dX1_init_27 rfl ?_
  refine z_sipush D (v := 999) dX1_init_28 rfl ?_
  refine g_put Cc (j := 0) (ci := 1) (N := 10) (k := 7) (T := TX1) (ty := .int) (ws' := .inr (1, [.ref (xga E.2.2.1 gi + 1), .ref (xga E.2.2.1 gi + 2), .int 0, .int 0, .int 0, .int 0, .int 5, .int 999, .int 0, .int 0]) :: .inl (E.2.1 2, 6, .inr (.inr (.inr (.inr (fun _ => none))))) :: .inl (E.2.1 3, 6, .inr (.inr (.inr (.inr (fun _ => none))))) :: gT E gi 0) rfl rfl wi_X1 tyX1 tyX1_ok nmX1 rfl (by decide) kf_X1_27 rfl (tyX1_ok 7 (by decide)) rfl rfl (Nat.le_of_ble_eq_true rfl) rfl dX1_init_31 ?_
  refine z_aload_n D 0 dX1_init_34 rfl ?_
  refine z_iconst D (v := 1) dX1_init_35 rfl ?_
  refine g_put Cc (j := 0) (ci := 1) (N := 10) (k := 9) (T := TX1) (ty := .int) (ws' := .inr (1, [.ref (xga E.2.2.1 gi + 1), .ref (xga E.2.2.1 gi + 2), .int 0, .int 0, .int 0, .int 0, .int 5, .int 999, .int 0, .int 1]) :: .inl (E.2.1 2, 6, .inr (.inr (.inr (.inr (fun _ => none))))) :: .inl (E.2.1 3, 6, .inr (.inr (.inr (.inr (fun _ => none))))) :: gT E gi 0) rfl rfl wi_X1 tyX1 tyX1_ok nmX1 rfl (by decide) kf_X1_30 rfl (tyX1_ok 9 (by decide)) rfl rfl (Nat.le_of_ble_eq_true rfl) rfl dX1_init_36 ?_
  refine z_iconst D (v := 0) dX1_init_39 rfl ?_
  refine z_istore_n D dX1_init_40 rfl (by decide) ?_
  refine z_pick [0, 1] (L2 := [(1, .int 0), (0, .ref (xga E.2.2.1 gi))]) rfl ?_
  refine z_iload_n D 0 dX1_init_41 rfl ?_
  refine z_bipush D (v := 6) dX1_init_42 rfl ?_
  refine z_icmp_ge D 66 dX1_init_44 (by decide) (fun h => absurd h (by decide)) (fun _ => ?_)
  refine z_aload_n D 1 dX1_init_47 rfl ?_
  refine g_get Cc (j := 0) (ci := 1) (N := 10) (k := 0) (T := TX1) (v := .ref (xga E.2.2.1 gi + 1)) rfl rfl wi_X1 rfl (by decide) kf_X1_11 rfl dX1_init_48 ?_
  refine z_iload_n D 0 dX1_init_51 rfl ?_
  refine g_new Cc (ci := 4) (N := 7) (T := TX4) (fs := zdX4) (r1 := 3) (r2 := 19) (q := xga E.2.2.1 gi + 3) tyX4 wi_X4 tyX4_ok rfl gw_X1_9 dfX4 rfl rfl (Nat.le_of_ble_eq_true rfl) (Nat.le_of_ble_eq_true rfl) (gT_q rfl) dX1_init_52 ?_
  have D := Cc.z (n1 := 3) (n2 := 19) (Nat.le_of_ble_eq_true rfl) (Nat.le_of_ble_eq_true rfl)
  refine z_dup D dX1_init_55 rfl ?_
  refine g_initN Cc (r1 := 3) (r2 := 19) (ws' := .inr (1, [.ref (xga E.2.2.1 gi + 1), .ref (xga E.2.2.1 gi + 2), .int 0, .int 0, .int 0, .int 0, .int 5, .int 999, .int 0, .int 1]) :: .inl (E.2.1 2, 6, .inr (.inr (.inr (.inr (fun _ => none))))) :: .inl (E.2.1 3, 6, .inr (.inr (.inr (.inr (fun _ => none))))) :: gT E gi 1) (c_X4_init l E (xga E.2.2.1 gi + 3)) (gT_q rfl) (fun _ h => h.2.1) ⟨kn_X4_init, ki_X4, kc_X4_init⟩ rfl kp_X4_init ⟨(Nat.le_of_ble_eq_true rfl), (Nat.le_of_ble_eq_true rfl)⟩ (Nat.le_of_ble_eq_true rfl) rfl rfl (Nat.le_of_ble_eq_true rfl) (Nat.le_of_ble_eq_true rfl) (gT_c rfl rfl) dX1_init_56 ?_
  have D := Cc.z (n1 := 3) (n2 := 19) (Nat.le_of_ble_eq_true rfl) (Nat.le_of_ble_eq_true rfl)
  refine g_aast Cc (n := 6) (jq := 1) (jv := 3) (ci := 4) (ws' := .inr (1, [.ref (xga E.2.2.1 gi + 1), .ref (xga E.2.2.1 gi + 2), .int 0, .int 0, .int 0, .int 0, .int 5, .int 999, .int 0, .int 1]) :: .inl (E.2.1 2, 6, .inr (.inr (.inr (.inr (va_up (fun _ => none) 0 (some (xga E.2.2.1 gi + 3))))))) :: .inl (E.2.1 3, 6, .inr (.inr (.inr (.inr (fun _ => none))))) :: gT E gi 1) 2 0 rfl rfl rfl rfl rfl rfl (by decide) (by decide) (by decide) rfl dX1_init_59 ?_
  refine z_iinc D (v := 1) 0 dX1_init_60 rfl (by decide) (by decide) ?_
  refine z_pick [0, 1] (L2 := [(1, .int 1), (0, .ref (xga E.2.2.1 gi))]) rfl ?_
  refine z_goto D 41 dX1_init_63 (by decide) ?_
  refine z_iload_n D 0 dX1_init_41 rfl ?_
  refine z_bipush D (v := 6) dX1_init_42 rfl ?_
  refine z_icmp_ge D 66 dX1_init_44 (by decide) (fun h => absurd h (by decide)) (fun _ => ?_)
  refine z_aload_n D 1 dX1_init_47 rfl ?_
  refine g_get Cc (j := 0) (ci := 1) (N := 10) (k := 0) (T := TX1) (v := .ref (xga E.2.2.1 gi + 1)) rfl rfl wi_X1 rfl (by decide) kf_X1_11 rfl dX1_init_48 ?_
  refine z_iload_n D 0 dX1_init_51 rfl ?_
  refine g_new Cc (ci := 4) (N := 7) (T := TX4) (fs := zdX4) (r1 := 4) (r2 := 26) (q := xga E.2.2.1 gi + 4) tyX4 wi_X4 tyX4_ok rfl gw_X1_9 dfX4 rfl rfl (Nat.le_of_ble_eq_true rfl) (Nat.le_of_ble_eq_true rfl) (gT_q rfl) dX1_init_52 ?_
  have D := Cc.z (n1 := 4) (n2 := 26) (Nat.le_of_ble_eq_true rfl) (Nat.le_of_ble_eq_true rfl)
  refine z_dup D dX1_init_55 rfl ?_
  refine g_initN Cc (r1 := 4) (r2 := 26) (ws' := .inr (1, [.ref (xga E.2.2.1 gi + 1), .ref (xga E.2.2.1 gi + 2), .int 0, .int 0, .int 0, .int 0, .int 5, .int 999, .int 0, .int 1]) :: .inl (E.2.1 2, 6, .inr (.inr (.inr (.inr (va_up (fun _ => none) 0 (some (xga E.2.2.1 gi + 3))))))) :: .inl (E.2.1 3, 6, .inr (.inr (.inr (.inr (fun _ => none))))) :: gT E gi 2) (c_X4_init l E (xga E.2.2.1 gi + 4)) (gT_q rfl) (fun _ h => h.2.1) ⟨kn_X4_init, ki_X4, kc_X4_init⟩ rfl kp_X4_init ⟨(Nat.le_of_ble_eq_true rfl), (Nat.le_of_ble_eq_true rfl)⟩ (Nat.le_of_ble_eq_true rfl) rfl rfl (Nat.le_of_ble_eq_true rfl) (Nat.le_of_ble_eq_true rfl) (gT_c rfl rfl) dX1_init_56 ?_
  have D := Cc.z (n1 := 4) (n2 := 26) (Nat.le_of_ble_eq_true rfl) (Nat.le_of_ble_eq_true rfl)
  refine g_aast Cc (n := 6) (jq := 1) (jv := 4) (ci := 4) (ws' := .inr (1, [.ref (xga E.2.2.1 gi + 1), .ref (xga E.2.2.1 gi + 2), .int 0, .int 0, .int 0, .int 0, .int 5, .int 999, .int 0, .int 1]) :: .inl (E.2.1 2, 6, .inr (.inr (.inr (.inr (va_up (va_up (fun _ => none) 0 (some (xga E.2.2.1 gi + 3))) 1 (some (xga E.2.2.1 gi + 4))))))) :: .inl (E.2.1 3, 6, .inr (.inr (.inr (.inr (fun _ => none))))) :: gT E gi 2) 2 1 rfl rfl rfl rfl rfl rfl (by decide) (by decide) (by decide) rfl dX1_init_59 ?_
  refine z_iinc D (v := 2) 0 dX1_init_60 rfl (by decide) (by decide) ?_
  refine z_pick [0, 1] (L2 := [(1, .int 2), (0, .ref (xga E.2.2.1 gi))]) rfl ?_
  refine z_goto D 41 dX1_init_63 (by decide) ?_
  refine z_iload_n D 0 dX1_init_41 rfl ?_
  refine z_bipush D (v := 6) dX1_init_42 rfl ?_
  refine z_icmp_ge D 66 dX1_init_44 (by decide) (fun h => absurd h (by decide)) (fun _ => ?_)
  refine z_aload_n D 1 dX1_init_47 rfl ?_
  refine g_get Cc (j := 0) (ci := 1) (N := 10) (k := 0) (T := TX1) (v := .ref (xga E.2.2.1 gi + 1)) rfl rfl wi_X1 rfl (by decide) kf_X1_11 rfl dX1_init_48 ?_
  refine z_iload_n D 0 dX1_init_51 rfl ?_
  refine g_new Cc (ci := 4) (N := 7) (T := TX4) (fs := zdX4) (r1 := 5) (r2 := 33) (q := xga E.2.2.1 gi + 5) tyX4 wi_X4 tyX4_ok rfl gw_X1_9 dfX4 rfl rfl (Nat.le_of_ble_eq_true rfl) (Nat.le_of_ble_eq_true rfl) (gT_q rfl) dX1_init_52 ?_
  have D := Cc.z (n1 := 5) (n2 := 33) (Nat.le_of_ble_eq_true rfl) (Nat.le_of_ble_eq_true rfl)
  refine z_dup D dX1_init_55 rfl ?_
  refine g_initN Cc (r1 := 5) (r2 := 33) (ws' := .inr (1, [.ref (xga E.2.2.1 gi + 1), .ref (xga E.2.2.1 gi + 2), .int 0, .int 0, .int 0, .int 0, .int 5, .int 999, .int 0, .int 1]) :: .inl (E.2.1 2, 6, .inr (.inr (.inr (.inr (va_up (va_up (fun _ => none) 0 (some (xga E.2.2.1 gi + 3))) 1 (some (xga E.2.2.1 gi + 4))))))) :: .inl (E.2.1 3, 6, .inr (.inr (.inr (.inr (fun _ => none))))) :: gT E gi 3) (c_X4_init l E (xga E.2.2.1 gi + 5)) (gT_q rfl) (fun _ h => h.2.1) ⟨kn_X4_init, ki_X4, kc_X4_init⟩ rfl kp_X4_init ⟨(Nat.le_of_ble_eq_true rfl), (Nat.le_of_ble_eq_true rfl)⟩ (Nat.le_of_ble_eq_true rfl) rfl rfl (Nat.le_of_ble_eq_true rfl) (Nat.le_of_ble_eq_true rfl) (gT_c rfl rfl) dX1_init_56 ?_
  have D := Cc.z (n1 := 5) (n2 := 33) (Nat.le_of_ble_eq_true rfl) (Nat.le_of_ble_eq_true rfl)
  refine g_aast Cc (n := 6) (jq := 1) (jv := 5) (ci := 4) (ws' := .inr (1, [.ref (xga E.2.2.1 gi + 1), .ref (xga E.2.2.1 gi + 2), .int 0, .int 0, .int 0, .int 0, .int 5, .int 999, .int 0, .int 1]) :: .inl (E.2.1 2, 6, .inr (.inr (.inr (.inr (va_up (va_up (va_up (fun _ => none) 0 (some (xga E.2.2.1 gi + 3))) 1 (some (xga E.2.2.1 gi + 4))) 2 (some (xga E.2.2.1 gi + 5))))))) :: .inl (E.2.1 3, 6, .inr (.inr (.inr (.inr (fun _ => none))))) :: gT E gi 3) 2 2 rfl rfl rfl rfl rfl rfl (by decide) (by decide) (by decide) rfl dX1_init_59 ?_
  refine z_iinc D (v := 3) 0 dX1_init_60 rfl (by decide) (by decide) ?_
  refine z_pick [0, 1] (L2 := [(1, .int 3), (0, .ref (xga E.2.2.1 gi))]) rfl ?_
  refine z_goto D 41 dX1_init_63 (by decide) ?_
  refine z_iload_n D 0 dX1_init_41 rfl ?_
  refine z_bipush D (v := 6) dX1_init_42 rfl ?_
  refine z_icmp_ge D 66 dX1_init_44 (by decide) (fun h => absurd h (by decide)) (fun _ => ?_)
  refine z_aload_n D 1 dX1_init_47 rfl ?_
  refine g_get Cc (j := 0) (ci := 1) (N := 10) (k := 0) (T := TX1) (v := .ref (xga E.2.2.1 gi + 1)) rfl rfl wi_X1 rfl (by decide) kf_X1_11 rfl dX1_init_48 ?_
  refine z_iload_n D 0 dX1_init_51 rfl ?_
  refine g_new Cc (ci := 4) (N := 7) (T := TX4) (fs := zdX4) (r1 := 6) (r2 := 40) (q := xga E.2.2.1 gi + 6) tyX4 wi_X4 tyX4_ok rfl gw_X1_9 dfX4 rfl rfl (Nat.le_of_ble_eq_true rfl) (Nat.le_of_ble_eq_true rfl) (gT_q rfl) dX1_init_52 ?_
  have D := Cc.z (n1 := 6) (n2 := 40) (Nat.le_of_ble_eq_true rfl) (Nat.le_of_ble_eq_true rfl)
  refine z_dup D dX1_init_55 rfl ?_
  refine g_initN Cc (r1 := 6) (r2 := 40) (ws' := .inr (1, [.ref (xga E.2.2.1 gi + 1), .ref (xga E.2.2.1 gi + 2), .int 0, .int 0, .int 0, .int 0, .int 5, .int 999, .int 0, .int 1]) :: .inl (E.2.1 2, 6, .inr (.inr (.inr (.inr (va_up (va_up (va_up (fun _ => none) 0 (some (xga E.2.2.1 gi + 3))) 1 (some (xga E.2.2.1 gi + 4))) 2 (some (xga E.2.2.1 gi + 5))))))) :: .inl (E.2.1 3, 6, .inr (.inr (.inr (.inr (fun _ => none))))) :: gT E gi 4) (c_X4_init l E (xga E.2.2.1 gi + 6)) (gT_q rfl) (fun _ h => h.2.1) ⟨kn_X4_init, ki_X4, kc_X4_init⟩ rfl kp_X4_init ⟨(Nat.le_of_ble_eq_true rfl), (Nat.le_of_ble_eq_true rfl)⟩ (Nat.le_of_ble_eq_true rfl) rfl rfl (Nat.le_of_ble_eq_true rfl) (Nat.le_of_ble_eq_true rfl) (gT_c rfl rfl) dX1_init_56 ?_
  have D := Cc.z (n1 := 6) (n2 := 40) (Nat.le_of_ble_eq_true rfl) (Nat.le_of_ble_eq_true rfl)
  refine g_aast Cc (n := 6) (jq := 1) (jv := 6) (ci := 4) (ws' := .inr (1, [.ref (xga E.2.2.1 gi + 1), .ref (xga E.2.2.1 gi + 2), .int 0, .int 0, .int 0, .int 0, .int 5, .int 999, .int 0, .int 1]) :: .inl (E.2.1 2, 6, .inr (.inr (.inr (.inr (va_up (va_up (va_up (va_up (fun _ => none) 0 (some (xga E.2.2.1 gi + 3))) 1 (some (xga E.2.2.1 gi + 4))) 2 (some (xga E.2.2.1 gi + 5))) 3 (some (xga E.2.2.1 gi + 6))))))) :: .inl (E.2.1 3, 6, .inr (.inr (.inr (.inr (fun _ => none))))) :: gT E gi 4) 2 3 rfl rfl rfl rfl rfl rfl (by decide) (by decide) (by decide) rfl dX1_init_59 ?_
  refine z_iinc D (v := 4) 0 dX1_init_60 rfl (by decide) (by decide) ?_
  refine z_pick [0, 1] (L2 := [(1, .int 4), (0, .ref (xga E.2.2.1 gi))]) rfl ?_
  refine z_goto D 41 dX1_init_63 (by decide) ?_
  refine z_iload_n D 0 dX1_init_41 rfl ?_
  refine z_bipush D (v := 6) dX1_init_42 rfl ?_
  refine z_icmp_ge D 66 dX1_init_44 (by decide) (fun h => absurd h (by decide)) (fun _ => ?_)
  refine z_aload_n D 1 dX1_init_47 rfl ?_
  refine g_get Cc (j := 0) (ci := 1) (N := 10) (k := 0) (T := TX1) (v := .ref (xga E.2.2.1 gi + 1)) rfl rfl wi_X1 rfl (by decide) kf_X1_11 rfl dX1_init_48 ?_
  refine z_iload_n D 0 dX1_init_51 rfl ?_
  refine g_new Cc (ci := 4) (N := 7) (T := TX4) (fs := zdX4) (r1 := 7) (r2 := 47) (q := xga E.2.2.1 gi + 7) tyX4 wi_X4 tyX4_ok rfl gw_X1_9 dfX4 rfl rfl (Nat.le_of_ble_eq_true rfl) (Nat.le_of_ble_eq_true rfl) (gT_q rfl) dX1_init_52 ?_
  have D := Cc.z (n1 := 7) (n2 := 47) (Nat.le_of_ble_eq_true rfl) (Nat.le_of_ble_eq_true rfl)
  refine z_dup D dX1_init_55 rfl ?_
  refine g_initN Cc (r1 := 7) (r2 := 47) (ws' := .inr (1, [.ref (xga E.2.2.1 gi + 1), .ref (xga E.2.2.1 gi + 2), .int 0, .int 0, .int 0, .int 0, .int 5, .int 999, .int 0, .int 1]) :: .inl (E.2.1 2, 6, .inr (.inr (.inr (.inr (va_up (va_up (va_up (va_up (fun _ => none) 0 (some (xga E.2.2.1 gi + 3))) 1 (some (xga E.2.2.1 gi + 4))) 2 (some (xga E.2.2.1 gi + 5))) 3 (some (xga E.2.2.1 gi + 6))))))) :: .inl (E.2.1 3, 6, .inr (.inr (.inr (.inr (fun _ => none))))) :: gT E gi 5) (c_X4_init l E (xga E.2.2.1 gi + 7)) (gT_q rfl) (fun _ h => h.2.1) ⟨kn_X4_init, ki_X4, kc_X4_init⟩ rfl kp_X4_init ⟨(Nat.le_of_ble_eq_true rfl), (Nat.le_of_ble_eq_true rfl)⟩ (Nat.le_of_ble_eq_true rfl) rfl rfl (Nat.le_of_ble_eq_true rfl) (Nat.le_of_ble_eq_true rfl) (gT_c rfl rfl) dX1_init_56 ?_
  have D := Cc.z (n1 := 7) (n2 := 47) (Nat.le_of_ble_eq_true rfl) (Nat.le_of_ble_eq_true rfl)
  refine g_aast Cc (n := 6) (jq := 1) (jv := 7) (ci := 4) (ws' := .inr (1, [.ref (xga E.2.2.1 gi + 1), .ref (xga E.2.2.1 gi + 2), .int 0, .int 0, .int 0, .int 0, .int 5, .int 999, .int 0, .int 1]) :: .inl (E.2.1 2, 6, .inr (.inr (.inr (.inr (va_up (va_up (va_up (va_up (va_up (fun _ => none) 0 (some (xga E.2.2.1 gi + 3))) 1 (some (xga E.2.2.1 gi + 4))) 2 (some (xga E.2.2.1 gi + 5))) 3 (some (xga E.2.2.1 gi + 6))) 4 (some (xga E.2.2.1 gi + 7))))))) :: .inl (E.2.1 3, 6, .inr (.inr (.inr (.inr (fun _ => none))))) :: gT E gi 5) 2 4 rfl rfl rfl rfl rfl rfl (by decide) (by decide) (by decide) rfl dX1_init_59 ?_
  refine z_iinc D (v := 5) 0 dX1_init_60 rfl (by decide) (by decide) ?_
  refine z_pick [0, 1] (L2 := [(1, .int 5), (0, .ref (xga E.2.2.1 gi))]) rfl ?_
  refine z_goto D 41 dX1_init_63 (by decide) ?_
  refine z_iload_n D 0 dX1_init_41 rfl ?_
  refine z_bipush D (v := 6) dX1_init_42 rfl ?_
  refine z_icmp_ge D 66 dX1_init_44 (by decide) (fun h => absurd h (by decide)) (fun _ => ?_)
  refine z_aload_n D 1 dX1_init_47 rfl ?_
  refine g_get Cc (j := 0) (ci := 1) (N := 10) (k := 0) (T := TX1) (v := .ref (xga E.2.2.1 gi + 1)) rfl rfl wi_X1 rfl (by decide) kf_X1_11 rfl dX1_init_48 ?_
  refine z_iload_n D 0 dX1_init_51 rfl ?_
  refine g_new Cc (ci := 4) (N := 7) (T := TX4) (fs := zdX4) (r1 := 8) (r2 := 54) (q := xga E.2.2.1 gi + 8) tyX4 wi_X4 tyX4_ok rfl gw_X1_9 dfX4 rfl rfl (Nat.le_of_ble_eq_true rfl) (Nat.le_of_ble_eq_true rfl) (gT_q rfl) dX1_init_52 ?_
  have D := Cc.z (n1 := 8) (n2 := 54) (Nat.le_of_ble_eq_true rfl) (Nat.le_of_ble_eq_true rfl)
  refine z_dup D dX1_init_55 rfl ?_
  refine g_initN Cc (r1 := 8) (r2 := 54) (ws' := .inr (1, [.ref (xga E.2.2.1 gi + 1), .ref (xga E.2.2.1 gi + 2), .int 0, .int 0, .int 0, .int 0, .int 5, .int 999, .int 0, .int 1]) :: .inl (E.2.1 2, 6, .inr (.inr (.inr (.inr (va_up (va_up (va_up (va_up (va_up (fun _ => none) 0 (some (xga E.2.2.1 gi + 3))) 1 (some (xga E.2.2.1 gi + 4))) 2 (some (xga E.2.2.1 gi + 5))) 3 (some (xga E.2.2.1 gi + 6))) 4 (some (xga E.2.2.1 gi + 7))))))) :: .inl (E.2.1 3, 6, .inr (.inr (.inr (.inr (fun _ => none))))) :: gT E gi 6) (c_X4_init l E (xga E.2.2.1 gi + 8)) (gT_q rfl) (fun _ h => h.2.1) ⟨kn_X4_init, ki_X4, kc_X4_init⟩ rfl kp_X4_init ⟨(Nat.le_of_ble_eq_true rfl), (Nat.le_of_ble_eq_true rfl)⟩ (Nat.le_of_ble_eq_true rfl) rfl rfl (Nat.le_of_ble_eq_true rfl) (Nat.le_of_ble_eq_true rfl) (gT_c rfl rfl) dX1_init_56 ?_
  have D := Cc.z (n1 := 8) (n2 := 54) (Nat.le_of_ble_eq_true rfl) (Nat.le_of_ble_eq_true rfl)
  refine g_aast Cc (n := 6) (jq := 1) (jv := 8) (ci := 4) (ws' := .inr (1, [.ref (xga E.2.2.1 gi + 1), .ref (xga E.2.2.1 gi + 2), .int 0, .int 0, .int 0, .int 0, .int 5, .int 999, .int 0, .int 1]) :: .inl (E.2.1 2, 6, .inr (.inr (.inr (.inr (va_up (va_up (va_up (va_up (va_up (va_up (fun _ => none) 0 (some (xga E.2.2.1 gi + 3))) 1 (some (xga E.2.2.1 gi + 4))) 2 (some (xga E.2.2.1 gi + 5))) 3 (some (xga E.2.2.1 gi + 6))) 4 (some (xga E.2.2.1 gi + 7))) 5 (some (xga E.2.2.1 gi + 8))))))) :: .inl (E.2.1 3, 6, .inr (.inr (.inr (.inr (fun _ => none))))) :: gT E gi 6) 2 5 rfl rfl rfl rfl rfl rfl (by decide) (by decide) (by decide) rfl dX1_init_59 ?_
  refine z_iinc D (v := 6) 0 dX1_init_60 rfl (by decide) (by decide) ?_
  refine z_pick [0, 1] (L2 := [(1, .int 6), (0, .ref (xga E.2.2.1 gi))]) rfl ?_
  refine z_goto D 41 dX1_init_63 (by decide) ?_
  refine z_iload_n D 0 dX1_init_41 rfl ?_
  refine z_bipush D (v := 6) dX1_init_42 rfl ?_
  refine z_icmp_ge D 66 dX1_init_44 (by decide) (fun _ => ?_) (fun h => absurd (by decide) h)
  refine z_iconst D (v := 0) dX1_init_66 rfl ?_
  refine z_istore_n D dX1_init_67 rfl (by decide) ?_
  refine z_pick [0, 1] (L2 := [(1, .int 0), (0, .ref (xga E.2.2.1 gi))]) rfl ?_
  refine z_iload_n D 0 dX1_init_68 rfl ?_
  refine z_bipush D (v := 6) dX1_init_69 rfl ?_
  refine z_icmp_ge D 93 dX1_init_71 (by decide) (fun h => absurd h (by decide)) (fun _ => ?_)
  refine z_aload_n D 1 dX1_init_74 rfl ?_
  refine g_get Cc (j := 0) (ci := 1) (N := 10) (k := 1) (T := TX1) (v := .ref (xga E.2.2.1 gi + 2)) rfl rfl wi_X1 rfl (by decide) kf_X1_19 rfl dX1_init_75 ?_
  refine z_iload_n D 0 dX1_init_78 rfl ?_
  refine g_new Cc (ci := 0) (N := 6) (T := TX0) (fs := zdX0) (r1 := 9) (r2 := 60) (q := xga E.2.2.1 gi + 9) tyX0 wi_X0 tyX0_ok rfl gw_X1_17 dfX0 rfl rfl (Nat.le_of_ble_eq_true rfl) (Nat.le_of_ble_eq_true rfl) (gT_q rfl) dX1_init_79 ?_
  have D := Cc.z (n1 := 9) (n2 := 60) (Nat.le_of_ble_eq_true rfl) (Nat.le_of_ble_eq_true rfl)
  refine z_dup D dX1_init_82 rfl ?_
  refine g_initN Cc (r1 := 9) (r2 := 60) (ws' := .inr (1, [.ref (xga E.2.2.1 gi + 1), .ref (xga E.2.2.1 gi + 2), .int 0, .int 0, .int 0, .int 0, .int 5, .int 999, .int 0, .int 1]) :: .inl (E.2.1 2, 6, .inr (.inr (.inr (.inr (va_up (va_up (va_up (va_up (va_up (va_up (fun _ => none) 0 (some (xga E.2.2.1 gi + 3))) 1 (some (xga E.2.2.1 gi + 4))) 2 (some (xga E.2.2.1 gi + 5))) 3 (some (xga E.2.2.1 gi + 6))) 4 (some (xga E.2.2.1 gi + 7))) 5 (some (xga E.2.2.1 gi + 8))))))) :: .inl (E.2.1 3, 6, .inr (.inr (.inr (.inr (fun _ => none))))) :: gT E gi 7) (c_X0_init l E (xga E.2.2.1 gi + 9)) (gT_q rfl) (fun _ h => h.2.2.1) ⟨kn_X0_init, ki_X0, kc_X0_init⟩ rfl kp_X0_init ⟨(Nat.le_of_ble_eq_true rfl), (Nat.le_of_ble_eq_true rfl)⟩ (Nat.le_of_ble_eq_true rfl) rfl rfl (Nat.le_of_ble_eq_true rfl) (Nat.le_of_ble_eq_true rfl) (gT_c rfl rfl) dX1_init_83 ?_
  have D := Cc.z (n1 := 9) (n2 := 60) (Nat.le_of_ble_eq_true rfl) (Nat.le_of_ble_eq_true rfl)
  refine g_aast Cc (n := 6) (jq := 2) (jv := 9) (ci := 0) (ws' := .inr (1, [.ref (xga E.2.2.1 gi + 1), .ref (xga E.2.2.1 gi + 2), .int 0, .int 0, .int 0, .int 0, .int 5, .int 999, .int 0, .int 1]) :: .inl (E.2.1 2, 6, .inr (.inr (.inr (.inr (va_up (va_up (va_up (va_up (va_up (va_up (fun _ => none) 0 (some (xga E.2.2.1 gi + 3))) 1 (some (xga E.2.2.1 gi + 4))) 2 (some (xga E.2.2.1 gi + 5))) 3 (some (xga E.2.2.1 gi + 6))) 4 (some (xga E.2.2.1 gi + 7))) 5 (some (xga E.2.2.1 gi + 8))))))) :: .inl (E.2.1 3, 6, .inr (.inr (.inr (.inr (va_up (fun _ => none) 0 (some (xga E.2.2.1 gi + 9))))))) :: gT E gi 7) 3 0 rfl rfl rfl rfl rfl rfl (by decide) (by decide) (by decide) rfl dX1_init_86 ?_
  refine z_iinc D (v := 1) 0 dX1_init_87 rfl (by decide) (by decide) ?_
  refine z_pick [0, 1] (L2 := [(1, .int 1), (0, .ref (xga E.2.2.1 gi))]) rfl ?_
  refine z_goto D 68 dX1_init_90 (by decide) ?_
  refine z_iload_n D 0 dX1_init_68 rfl ?_
  refine z_bipush D (v := 6) dX1_init_69 rfl ?_
  refine z_icmp_ge D 93 dX1_init_71 (by decide) (fun h => absurd h (by decide)) (fun _ => ?_)
  refine z_aload_n D 1 dX1_init_74 rfl ?_
  refine g_get Cc (j := 0) (ci := 1) (N := 10) (k := 1) (T := TX1) (v := .ref (xga E.2.2.1 gi + 2)) rfl rfl wi_X1 rfl (by decide) kf_X1_19 rfl dX1_init_75 ?_
  refine z_iload_n D 0 dX1_init_78 rfl ?_
  refine g_new Cc (ci := 0) (N := 6) (T := TX0) (fs := zdX0) (r1 := 10) (r2 := 66) (q := xga E.2.2.1 gi + 10) tyX0 wi_X0 tyX0_ok rfl gw_X1_17 dfX0 rfl rfl (Nat.le_of_ble_eq_true rfl) (Nat.le_of_ble_eq_true rfl) (gT_q rfl) dX1_init_79 ?_
  have D := Cc.z (n1 := 10) (n2 := 66) (Nat.le_of_ble_eq_true rfl) (Nat.le_of_ble_eq_true rfl)
  refine z_dup D dX1_init_82 rfl ?_
  refine g_initN Cc (r1 := 10) (r2 := 66) (ws' := .inr (1, [.ref (xga E.2.2.1 gi + 1), .ref (xga E.2.2.1 gi + 2), .int 0, .int 0, .int 0, .int 0, .int 5, .int 999, .int 0, .int 1]) :: .inl (E.2.1 2, 6, .inr (.inr (.inr (.inr (va_up (va_up (va_up (va_up (va_up (va_up (fun _ => none) 0 (some (xga E.2.2.1 gi + 3))) 1 (some (xga E.2.2.1 gi + 4))) 2 (some (xga E.2.2.1 gi + 5))) 3 (some (xga E.2.2.1 gi + 6))) 4 (some (xga E.2.2.1 gi + 7))) 5 (some (xga E.2.2.1 gi + 8))))))) :: .inl (E.2.1 3, 6, .inr (.inr (.inr (.inr (va_up (fun _ => none) 0 (some (xga E.2.2.1 gi + 9))))))) :: gT E gi 8) (c_X0_init l E (xga E.2.2.1 gi + 10)) (gT_q rfl) (fun _ h => h.2.2.1) ⟨kn_X0_init, ki_X0, kc_X0_init⟩ rfl kp_X0_init ⟨(Nat.le_of_ble_eq_true rfl), (Nat.le_of_ble_eq_true rfl)⟩ (Nat.le_of_ble_eq_true rfl) rfl rfl (Nat.le_of_ble_eq_true rfl) (Nat.le_of_ble_eq_true rfl) (gT_c rfl rfl) dX1_init_83 ?_
  have D := Cc.z (n1 := 10) (n2 := 66) (Nat.le_of_ble_eq_true rfl) (Nat.le_of_ble_eq_true rfl)
  refine g_aast Cc (n := 6) (jq := 2) (jv := 10) (ci := 0) (ws' := .inr (1, [.ref (xga E.2.2.1 gi + 1), .ref (xga E.2.2.1 gi + 2), .int 0, .int 0, .int 0, .int 0, .int 5, .int 999, .int 0, .int 1]) :: .inl (E.2.1 2, 6, .inr (.inr (.inr (.inr (va_up (va_up (va_up (va_up (va_up (va_up (fun _ => none) 0 (some (xga E.2.2.1 gi + 3))) 1 (some (xga E.2.2.1 gi + 4))) 2 (some (xga E.2.2.1 gi + 5))) 3 (some (xga E.2.2.1 gi + 6))) 4 (some (xga E.2.2.1 gi + 7))) 5 (some (xga E.2.2.1 gi + 8))))))) :: .inl (E.2.1 3, 6, .inr (.inr (.inr (.inr (va_up (va_up (fun _ => none) 0 (some (xga E.2.2.1 gi + 9))) 1 (some (xga E.2.2.1 gi + 10))))))) :: gT E gi 8) 3 1 rfl rfl rfl rfl rfl rfl (by decide) (by decide) (by decide) rfl dX1_init_86 ?_
  refine z_iinc D (v := 2) 0 dX1_init_87 rfl (by decide) (by decide) ?_
  refine z_pick [0, 1] (L2 := [(1, .int 2), (0, .ref (xga E.2.2.1 gi))]) rfl ?_
  refine z_goto D 68 dX1_init_90 (by decide) ?_
  refine z_iload_n D 0 dX1_init_68 rfl ?_
  refine z_bipush D (v := 6) dX1_init_69 rfl ?_
  refine z_icmp_ge D 93 dX1_init_71 (by decide) (fun h => absurd h (by decide)) (fun _ => ?_)
  refine z_aload_n D 1 dX1_init_74 rfl ?_
  refine g_get Cc (j := 0) (ci := 1) (N := 10) (k := 1) (T := TX1) (v := .ref (xga E.2.2.1 gi + 2)) rfl rfl wi_X1 rfl (by decide) kf_X1_19 rfl dX1_init_75 ?_
  refine z_iload_n D 0 dX1_init_78 rfl ?_
  refine g_new Cc (ci := 0) (N := 6) (T := TX0) (fs := zdX0) (r1 := 11) (r2 := 72) (q := xga E.2.2.1 gi + 11) tyX0 wi_X0 tyX0_ok rfl gw_X1_17 dfX0 rfl rfl (Nat.le_of_ble_eq_true rfl) (Nat.le_of_ble_eq_true rfl) (gT_q rfl) dX1_init_79 ?_
  have D := Cc.z (n1 := 11) (n2 := 72) (Nat.le_of_ble_eq_true rfl) (Nat.le_of_ble_eq_true rfl)
  refine z_dup D dX1_init_82 rfl ?_
  refine g_initN Cc (r1 := 11) (r2 := 72) (ws' := .inr (1, [.ref (xga E.2.2.1 gi + 1), .ref (xga E.2.2.1 gi + 2), .int 0, .int 0, .int 0, .int 0, .int 5, .int 999, .int 0, .int 1]) :: .inl (E.2.1 2, 6, .inr (.inr (.inr (.inr (va_up (va_up (va_up (va_up (va_up (va_up (fun _ => none) 0 (some (xga E.2.2.1 gi + 3))) 1 (some (xga E.2.2.1 gi + 4))) 2 (some (xga E.2.2.1 gi + 5))) 3 (some (xga E.2.2.1 gi + 6))) 4 (some (xga E.2.2.1 gi + 7))) 5 (some (xga E.2.2.1 gi + 8))))))) :: .inl (E.2.1 3, 6, .inr (.inr (.inr (.inr (va_up (va_up (fun _ => none) 0 (some (xga E.2.2.1 gi + 9))) 1 (some (xga E.2.2.1 gi + 10))))))) :: gT E gi 9) (c_X0_init l E (xga E.2.2.1 gi + 11)) (gT_q rfl) (fun _ h => h.2.2.1) ⟨kn_X0_init, ki_X0, kc_X0_init⟩ rfl kp_X0_init ⟨(Nat.le_of_ble_eq_true rfl), (Nat.le_of_ble_eq_true rfl)⟩ (Nat.le_of_ble_eq_true rfl) rfl rfl (Nat.le_of_ble_eq_true rfl) (Nat.le_of_ble_eq_true rfl) (gT_c rfl rfl) dX1_init_83 ?_
  have D := Cc.z (n1 := 11) (n2 := 72) (Nat.le_of_ble_eq_true rfl) (Nat.le_of_ble_eq_true rfl)
  refine g_aast Cc (n := 6) (jq := 2) (jv := 11) (ci := 0) (ws' := .inr (1, [.ref (xga E.2.2.1 gi + 1), .ref (xga E.2.2.1 gi + 2), .int 0, .int 0, .int 0, .int 0, .int 5, .int 999, .int 0, .int 1]) :: .inl (E.2.1 2, 6, .inr (.inr (.inr (.inr (va_up (va_up (va_up (va_up (va_up (va_up (fun _ => none) 0 (some (xga E.2.2.1 gi + 3))) 1 (some (xga E.2.2.1 gi + 4))) 2 (some (xga E.2.2.1 gi + 5))) 3 (some (xga E.2.2.1 gi + 6))) 4 (some (xga E.2.2.1 gi + 7))) 5 (some (xga E.2.2.1 gi + 8))))))) :: .inl (E.2.1 3, 6, .inr (.inr (.inr (.inr (va_up (va_up (va_up (fun _ => none) 0 (some (xga E.2.2.1 gi + 9))) 1 (some (xga E.2.2.1 gi + 10))) 2 (some (xga E.2.2.1 gi + 11))))))) :: gT E gi 9) 3 2 rfl rfl rfl rfl rfl rfl (by decide) (by decide) (by decide) rfl dX1_init_86 ?_
  refine z_iinc D (v := 3) 0 dX1_init_87 rfl (by decide) (by decide) ?_
  refine z_pick [0, 1] (L2 := [(1, .int 3), (0, .ref (xga E.2.2.1 gi))]) rfl ?_
  refine z_goto D 68 dX1_init_90 (by decide) ?_
  refine z_iload_n D 0 dX1_init_68 rfl ?_
  refine z_bipush D (v := 6) dX1_init_69 rfl ?_
  refine z_icmp_ge D 93 dX1_init_71 (by decide) (fun h => absurd h (by decide)) (fun _ => ?_)
  refine z_aload_n D 1 dX1_init_74 rfl ?_
  refine g_get Cc (j := 0) (ci := 1) (N := 10) (k := 1) (T := TX1) (v := .ref (xga E.2.2.1 gi + 2)) rfl rfl wi_X1 rfl (by decide) kf_X1_19 rfl dX1_init_75 ?_
  refine z_iload_n D 0 dX1_init_78 rfl ?_
  refine g_new Cc (ci := 0) (N := 6) (T := TX0) (fs := zdX0) (r1 := 12) (r2 := 78) (q := xga E.2.2.1 gi + 12) tyX0 wi_X0 tyX0_ok rfl gw_X1_17 dfX0 rfl rfl (Nat.le_of_ble_eq_true rfl) (Nat.le_of_ble_eq_true rfl) (gT_q rfl) dX1_init_79 ?_
  have D := Cc.z (n1 := 12) (n2 := 78) (Nat.le_of_ble_eq_true rfl) (Nat.le_of_ble_eq_true rfl)
  refine z_dup D dX1_init_82 rfl ?_
  refine g_initN Cc (r1 := 12) (r2 := 78) (ws' := .inr (1, [.ref (xga E.2.2.1 gi + 1), .ref (xga E.2.2.1 gi + 2), .int 0, .int 0, .int 0, .int 0, .int 5, .int 999, .int 0, .int 1]) :: .inl (E.2.1 2, 6, .inr (.inr (.inr (.inr (va_up (va_up (va_up (va_up (va_up (va_up (fun _ => none) 0 (some (xga E.2.2.1 gi + 3))) 1 (some (xga E.2.2.1 gi + 4))) 2 (some (xga E.2.2.1 gi + 5))) 3 (some (xga E.2.2.1 gi + 6))) 4 (some (xga E.2.2.1 gi + 7))) 5 (some (xga E.2.2.1 gi + 8))))))) :: .inl (E.2.1 3, 6, .inr (.inr (.inr (.inr (va_up (va_up (va_up (fun _ => none) 0 (some (xga E.2.2.1 gi + 9))) 1 (some (xga E.2.2.1 gi + 10))) 2 (some (xga E.2.2.1 gi + 11))))))) :: gT E gi 10) (c_X0_init l E (xga E.2.2.1 gi + 12)) (gT_q rfl) (fun _ h => h.2.2.1) ⟨kn_X0_init, ki_X0, kc_X0_init⟩ rfl kp_X0_init ⟨(Nat.le_of_ble_eq_true rfl), (Nat.le_of_ble_eq_true rfl)⟩ (Nat.le_of_ble_eq_true rfl) rfl rfl (Nat.le_of_ble_eq_true rfl) (Nat.le_of_ble_eq_true rfl) (gT_c rfl rfl) dX1_init_83 ?_
  have D := Cc.z (n1 := 12) (n2 := 78) (Nat.le_of_ble_eq_true rfl) (Nat.le_of_ble_eq_true rfl)
  refine g_aast Cc (n := 6) (jq := 2) (jv := 12) (ci := 0) (ws' := .inr (1, [.ref (xga E.2.2.1 gi + 1), .ref (xga E.2.2.1 gi + 2), .int 0, .int 0, .int 0, .int 0, .int 5, .int 999, .int 0, .int 1]) :: .inl (E.2.1 2, 6, .inr (.inr (.inr (.inr (va_up (va_up (va_up (va_up (va_up (va_up (fun _ => none) 0 (some (xga E.2.2.1 gi + 3))) 1 (some (xga E.2.2.1 gi + 4))) 2 (some (xga E.2.2.1 gi + 5))) 3 (some (xga E.2.2.1 gi + 6))) 4 (some (xga E.2.2.1 gi + 7))) 5 (some (xga E.2.2.1 gi + 8))))))) :: .inl (E.2.1 3, 6, .inr (.inr (.inr (.inr (va_up (va_up (va_up (va_up (fun _ => none) 0 (some (xga E.2.2.1 gi + 9))) 1 (some (xga E.2.2.1 gi + 10))) 2 (some (xga E.2.2.1 gi + 11))) 3 (some (xga E.2.2.1 gi + 12))))))) :: gT E gi 10) 3 3 rfl rfl rfl rfl rfl rfl (by decide) (by decide) (by decide) rfl dX1_init_86 ?_
  refine z_iinc D (v := 4) 0 dX1_init_87 rfl (by decide) (by decide) ?_
  refine z_pick [0, 1] (L2 := [(1, .int 4), (0, .ref (xga E.2.2.1 gi))]) rfl ?_
  refine z_goto D 68 dX1_init_90 (by decide) ?_
  refine z_iload_n D 0 dX1_init_68 rfl ?_
  refine z_bipush D (v := 6) dX1_init_69 rfl ?_
  refine z_icmp_ge D 93 dX1_init_71 (by decide) (fun h => absurd h (by decide)) (fun _ => ?_)
  refine z_aload_n D 1 dX1_init_74 rfl ?_
  refine g_get Cc (j := 0) (ci := 1) (N := 10) (k := 1) (T := TX1) (v := .ref (xga E.2.2.1 gi + 2)) rfl rfl wi_X1 rfl (by decide) kf_X1_19 rfl dX1_init_75 ?_
  refine z_iload_n D 0 dX1_init_78 rfl ?_
  refine g_new Cc (ci := 0) (N := 6) (T := TX0) (fs := zdX0) (r1 := 13) (r2 := 84) (q := xga E.2.2.1 gi + 13) tyX0 wi_X0 tyX0_ok rfl gw_X1_17 dfX0 rfl rfl (Nat.le_of_ble_eq_true rfl) (Nat.le_of_ble_eq_true rfl) (gT_q rfl) dX1_init_79 ?_
  have D := Cc.z (n1 := 13) (n2 := 84) (Nat.le_of_ble_eq_true rfl) (Nat.le_of_ble_eq_true rfl)
  refine z_dup D dX1_init_82 rfl ?_
  refine g_initN Cc (r1 := 13) (r2 := 84) (ws' := .inr (1, [.ref (xga E.2.2.1 gi + 1), .ref (xga E.2.2.1 gi + 2), .int 0, .int 0, .int 0, .int 0, .int 5, .int 999, .int 0, .int 1]) :: .inl (E.2.1 2, 6, .inr (.inr (.inr (.inr (va_up (va_up (va_up (va_up (va_up (va_up (fun _ => none) 0 (some (xga E.2.2.1 gi + 3))) 1 (some (xga E.2.2.1 gi + 4))) 2 (some (xga E.2.2.1 gi + 5))) 3 (some (xga E.2.2.1 gi + 6))) 4 (some (xga E.2.2.1 gi + 7))) 5 (some (xga E.2.2.1 gi + 8))))))) :: .inl (E.2.1 3, 6, .inr (.inr (.inr (.inr (va_up (va_up (va_up (va_up (fun _ => none) 0 (some (xga E.2.2.1 gi + 9))) 1 (some (xga E.2.2.1 gi + 10))) 2 (some (xga E.2.2.1 gi + 11))) 3 (some (xga E.2.2.1 gi + 12))))))) :: gT E gi 11) (c_X0_init l E (xga E.2.2.1 gi + 13)) (gT_q rfl) (fun _ h => h.2.2.1) ⟨kn_X0_init, ki_X0, kc_X0_init⟩ rfl kp_X0_init ⟨(Nat.le_of_ble_eq_true rfl), (Nat.le_of_ble_eq_true rfl)⟩ (Nat.le_of_ble_eq_true rfl) rfl rfl (Nat.le_of_ble_eq_true rfl) (Nat.le_of_ble_eq_true rfl) (gT_c rfl rfl) dX1_init_83 ?_
  have D := Cc.z (n1 := 13) (n2 := 84) (Nat.le_of_ble_eq_true rfl) (Nat.le_of_ble_eq_true rfl)
  refine g_aast Cc (n := 6) (jq := 2) (jv := 13) (ci := 0) (ws' := .inr (1, [.ref (xga E.2.2.1 gi + 1), .ref (xga E.2.2.1 gi + 2), .int 0, .int 0, .int 0, .int 0, .int 5, .int 999, .int 0, .int 1]) :: .inl (E.2.1 2, 6, .inr (.inr (.inr (.inr (va_up (va_up (va_up (va_up (va_up (va_up (fun _ => none) 0 (some (xga E.2.2.1 gi + 3))) 1 (some (xga E.2.2.1 gi + 4))) 2 (some (xga E.2.2.1 gi + 5))) 3 (some (xga E.2.2.1 gi + 6))) 4 (some (xga E.2.2.1 gi + 7))) 5 (some (xga E.2.2.1 gi + 8))))))) :: .inl (E.2.1 3, 6, .inr (.inr (.inr (.inr (va_up (va_up (va_up (va_up (va_up (fun _ => none) 0 (some (xga E.2.2.1 gi + 9))) 1 (some (xga E.2.2.1 gi + 10))) 2 (some (xga E.2.2.1 gi + 11))) 3 (some (xga E.2.2.1 gi + 12))) 4 (some (xga E.2.2.1 gi + 13))))))) :: gT E gi 11) 3 4 rfl rfl rfl rfl rfl rfl (by decide) (by decide) (by decide) rfl dX1_init_86 ?_
  refine z_iinc D (v := 5) 0 dX1_init_87 rfl (by decide) (by decide) ?_
  refine z_pick [0, 1] (L2 := [(1, .int 5), (0, .ref (xga E.2.2.1 gi))]) rfl ?_
  refine z_goto D 68 dX1_init_90 (by decide) ?_
  refine z_iload_n D 0 dX1_init_68 rfl ?_
  refine z_bipush D (v := 6) dX1_init_69 rfl ?_
  refine z_icmp_ge D 93 dX1_init_71 (by decide) (fun h => absurd h (by decide)) (fun _ => ?_)
  refine z_aload_n D 1 dX1_init_74 rfl ?_
  refine g_get Cc (j := 0) (ci := 1) (N := 10) (k := 1) (T := TX1) (v := .ref (xga E.2.2.1 gi + 2)) rfl rfl wi_X1 rfl (by decide) kf_X1_19 rfl dX1_init_75 ?_
  refine z_iload_n D 0 dX1_init_78 rfl ?_
  refine g_new Cc (ci := 0) (N := 6) (T := TX0) (fs := zdX0) (r1 := 14) (r2 := 90) (q := xga E.2.2.1 gi + 14) tyX0 wi_X0 tyX0_ok rfl gw_X1_17 dfX0 rfl rfl (Nat.le_of_ble_eq_true rfl) (Nat.le_of_ble_eq_true rfl) (gT_q rfl) dX1_init_79 ?_
  have D := Cc.z (n1 := 14) (n2 := 90) (Nat.le_of_ble_eq_true rfl) (Nat.le_of_ble_eq_true rfl)
  refine z_dup D dX1_init_82 rfl ?_
  refine g_initN Cc (r1 := 14) (r2 := 90) (ws' := .inr (1, [.ref (xga E.2.2.1 gi + 1), .ref (xga E.2.2.1 gi + 2), .int 0, .int 0, .int 0, .int 0, .int 5, .int 999, .int 0, .int 1]) :: .inl (E.2.1 2, 6, .inr (.inr (.inr (.inr (va_up (va_up (va_up (va_up (va_up (va_up (fun _ => none) 0 (some (xga E.2.2.1 gi + 3))) 1 (some (xga E.2.2.1 gi + 4))) 2 (some (xga E.2.2.1 gi + 5))) 3 (some (xga E.2.2.1 gi + 6))) 4 (some (xga E.2.2.1 gi + 7))) 5 (some (xga E.2.2.1 gi + 8))))))) :: .inl (E.2.1 3, 6, .inr (.inr (.inr (.inr (va_up (va_up (va_up (va_up (va_up (fun _ => none) 0 (some (xga E.2.2.1 gi + 9))) 1 (some (xga E.2.2.1 gi + 10))) 2 (some (xga E.2.2.1 gi + 11))) 3 (some (xga E.2.2.1 gi + 12))) 4 (some (xga E.2.2.1 gi + 13))))))) :: gT E gi 12) (c_X0_init l E (xga E.2.2.1 gi + 14)) (gT_q rfl) (fun _ h => h.2.2.1) ⟨kn_X0_init, ki_X0, kc_X0_init⟩ rfl kp_X0_init ⟨(Nat.le_of_ble_eq_true rfl), (Nat.le_of_ble_eq_true rfl)⟩ (Nat.le_of_ble_eq_true rfl) rfl rfl (Nat.le_of_ble_eq_true rfl) (Nat.le_of_ble_eq_true rfl) (gT_c rfl rfl) dX1_init_83 ?_
  have D := Cc.z (n1 := 14) (n2 := 90) (Nat.le_of_ble_eq_true rfl) (Nat.le_of_ble_eq_true rfl)
  refine g_aast Cc (n := 6) (jq := 2) (jv := 14) (ci := 0) (ws' := .inr (1, [.ref (xga E.2.2.1 gi + 1), .ref (xga E.2.2.1 gi + 2), .int 0, .int 0, .int 0, .int 0, .int 5, .int 999, .int 0, .int 1]) :: .inl (E.2.1 2, 6, .inr (.inr (.inr (.inr (va_up (va_up (va_up (va_up (va_up (va_up (fun _ => none) 0 (some (xga E.2.2.1 gi + 3))) 1 (some (xga E.2.2.1 gi + 4))) 2 (some (xga E.2.2.1 gi + 5))) 3 (some (xga E.2.2.1 gi + 6))) 4 (some (xga E.2.2.1 gi + 7))) 5 (some (xga E.2.2.1 gi + 8))))))) :: .inl (E.2.1 3, 6, .inr (.inr (.inr (.inr (va_up (va_up (va_up (va_up (va_up (va_up (fun _ => none) 0 (some (xga E.2.2.1 gi + 9))) 1 (some (xga E.2.2.1 gi + 10))) 2 (some (xga E.2.2.1 gi + 11))) 3 (some (xga E.2.2.1 gi + 12))) 4 (some (xga E.2.2.1 gi + 13))) 5 (some (xga E.2.2.1 gi + 14))))))) :: gT E gi 12) 3 5 rfl rfl rfl rfl rfl rfl (by decide) (by decide) (by decide) rfl dX1_init_86 ?_
  refine z_iinc D (v := 6) 0 dX1_init_87 rfl (by decide) (by decide) ?_
  refine z_pick [0, 1] (L2 := [(1, .int 6), (0, .ref (xga E.2.2.1 gi))]) rfl ?_
  refine z_goto D 68 dX1_init_90 (by decide) ?_
  refine z_iload_n D 0 dX1_init_68 rfl ?_
  refine z_bipush D (v := 6) dX1_init_69 rfl ?_
  refine z_icmp_ge D 93 dX1_init_71 (by decide) (fun _ => ?_) (fun h => absurd (by decide) h)
  refine z_mono (fun H hH => gP.eqq (j := 1) (f' := fun j => some (xadr E.2.2.1 (6, gi, j))) rfl (fun i hi => by rcases (show i = 0 ∨ i = 1 ∨ i = 2 ∨ i = 3 ∨ i = 4 ∨ i = 5 by omega) with rfl | rfl | rfl | rfl | rfl | rfl <;> rfl) rfl hH) ?_
  refine z_mono (fun H hH => gP.eqq (j := 2) (f' := fun j => some (xadr E.2.2.1 (7, gi, j))) rfl (fun i hi => by rcases (show i = 0 ∨ i = 1 ∨ i = 2 ∨ i = 3 ∨ i = 4 ∨ i = 5 by omega) with rfl | rfl | rfl | rfl | rfl | rfl <;> rfl) rfl hH) ?_
  refine g_w (ws' := gfin E gi) (by unfold gfin; rw [rng1, rng1, rng1]; rfl) ?_
  exact g_vret C dX1_init_93
theorem gfin_r {E : zE} : (List.range 15).map (fun j => xcell E ini_F (xkey (j + 1 + 48))) = gfin E 3 := by
  unfold gfin
  refine List.map_congr_left (fun j hj => ?_)
  have h : ∀ j, j < 15 → xkey (j + 1 + 48) = xgk 3 j := by decide
  rw [h j (List.mem_range.mp hj)]
set_option maxRecDepth 100000 in
set_option maxHeartbeats 4000000 in
theorem c_X2_init (l : Launch) (E : zE)  : gMet l E yX2_init cX2_init 1 3 16 260 (E.2.2.1 + 48) (.inr (2, zdX2)) (rfin E) := by
  refine gMet.mk (by decide +kernel) rfl (by decide) (fun Kf s C => ?_)
  have Cc := C.c
  have D := Cc.z (n1 := 0) (n2 := 0) (Nat.le_of_ble_eq_true rfl) (Nat.le_of_ble_eq_true rfl)
  refine z_aload_n D 0 dX2_init_0 rfl ?_
  refine g_obj Cc go_X2 (Nat.le_of_ble_eq_true rfl) ⟨(Nat.le_of_ble_eq_true rfl), (Nat.le_of_ble_eq_true rfl)⟩ dX2_init_1 ?_
  refine z_aload_n D 0 dX2_init_4 rfl ?_
  refine g_new Cc (ci := 1) (N := 10) (T := TX1) (fs := zdX1) (r1 := 1) (r2 := 10) (q := E.2.2.1 + 49) tyX1 wi_X1 tyX1_ok rfl gw_X2_9 dfX1 rfl rfl (Nat.le_of_ble_eq_true rfl) (Nat.le_of_ble_eq_true rfl) rfl dX2_init_5 ?_
  have D := Cc.z (n1 := 1) (n2 := 10) (Nat.le_of_ble_eq_true rfl) (Nat.le_of_ble_eq_true rfl)
  refine z_dup D dX2_init_8 rfl ?_
  refine g_init Cc (r1 := 15) (r2 := 100) (ws' := .inr (2, zdX2) :: gfin E 3) (c_X1_init l E 3) rfl ⟨kl_X2_11, kn_X1_init, ki_X1, kc_X1_init⟩ rfl kp_X1_init ⟨(Nat.le_of_ble_eq_true rfl), (Nat.le_of_ble_eq_true rfl)⟩ (Nat.le_of_ble_eq_true rfl) rfl rfl (Nat.le_of_ble_eq_true rfl) (Nat.le_of_ble_eq_true rfl) rfl dX2_init_9 ?_
  have D := Cc.z (n1 := 15) (n2 := 100) (Nat.le_of_ble_eq_true rfl) (Nat.le_of_ble_eq_true rfl)
  refine g_putF C (j := 0) (ci := 2) (N := 6) (k := 0) (T := TX2) (ty := .object "PaidInLeaves$Garden") (ws' := .inr (2, [.ref (E.2.2.1 + 49), .null, .int 0, .int 0, .int 0, .int 0]) :: gfin E 3) rfl rfl wi_X2 tyX2 tyX2_ok nmX2 rfl (by decide) kf_X2_12 rfl rfl (tyX2_ok 0 (by decide)) rfl rfl (Nat.le_of_ble_eq_true rfl) rfl dX2_init_12 ?_
  refine z_aload_n D 0 dX2_init_15 rfl ?_
  refine z_sipush D (v := 160) dX2_init_16 rfl ?_
  refine g_newi Cc (N := 160) (r1 := 16) (r2 := 260) (q := E.2.2.1 + 64) (by decide) (by decide) (Nat.le_of_ble_eq_true rfl) rfl rfl (Nat.le_of_ble_eq_true rfl) (Nat.le_of_ble_eq_true rfl) gfin_q dX2_init_19 ?_
  have D := Cc.z (n1 := 16) (n2 := 260) (Nat.le_of_ble_eq_true rfl) (Nat.le_of_ble_eq_true rfl)
  refine g_putF C (j := 0) (ci := 2) (N := 6) (k := 1) (T := TX2) (ty := .array .int) (ws' := .inr (2, [.ref (E.2.2.1 + 49), .ref (E.2.2.1 + 64), .int 0, .int 0, .int 0, .int 0]) :: (gfin E 3 ++ [.inl (E.2.1 0, 160, .inl (fun _ => 0))])) rfl rfl wi_X2 tyX2 tyX2_ok nmX2 rfl (by decide) kf_X2_18 rfl rfl (tyX2_ok 1 (by decide)) rfl rfl (Nat.le_of_ble_eq_true rfl) rfl dX2_init_21 ?_
  refine z_aload_n D 0 dX2_init_24 rfl ?_
  refine z_iconst D (v := (-1)) dX2_init_25 rfl ?_
  refine g_put Cc (j := 0) (ci := 2) (N := 6) (k := 4) (T := TX2) (ty := .int) (ws' := .inr (2, [.ref (E.2.2.1 + 49), .ref (E.2.2.1 + 64), .int 0, .int 0, .int (-1), .int 0]) :: (gfin E 3 ++ [.inl (E.2.1 0, 160, .inl (fun _ => 0))])) rfl rfl wi_X2 tyX2 tyX2_ok nmX2 rfl (by decide) kf_X2_22 rfl (tyX2_ok 4 (by decide)) rfl rfl (Nat.le_of_ble_eq_true rfl) rfl dX2_init_26 ?_
  refine g_w (ws' := rfin E) (by unfold rfin; rw [rng1, show (16 : Nat) = 15 + 1 from rfl, rng2, gfin_r]; rfl) ?_
  exact g_vret C dX2_init_29
theorem xT_at {E : zE} {n i : Nat} {x y e : va_E} (hi : i < n) (he : xcell E ini_F (xkey (i + 2)) = e) : (x :: y :: xT E n)[i + 2]? = some e := by
  show (xT E n)[i]? = some e
  unfold xT
  rw [List.getElem?_map, List.getElem?_range hi, ← he]; rfl
set_option maxRecDepth 100000 in
set_option maxHeartbeats 4000000 in
theorem c_X6_init (l : Launch) (E : zE)  : gMet l E yX6_init cX6_init 2 4 82 1911 (E.2.2.1) (.inr (6, zdX6)) (xfin E) := by
  refine gMet.mk (by decide +kernel) rfl (by decide) (fun Kf s C => ?_)
  have Cc := C.c
  have D := Cc.z (n1 := 0) (n2 := 0) (Nat.le_of_ble_eq_true rfl) (Nat.le_of_ble_eq_true rfl)
  refine z_aload_n D 0 dX6_init_0 rfl ?_
  refine g_obj Cc go_X6 (Nat.le_of_ble_eq_true rfl) ⟨(Nat.le_of_ble_eq_true rfl), (Nat.le_of_ble_eq_true rfl)⟩ dX6_init_1 ?_
  refine z_aload_n D 0 dX6_init_4 rfl ?_
  refine z_bipush D (v := 8) dX6_init_5 rfl ?_
  refine g_newq Cc (N := 8) (r1 := 1) (r2 := 8) (q := E.2.2.1 + 1) 4 rfl (fun _ h => h.1.2.2) gw_X6_9.1 (by decide) (by decide) (Nat.le_of_ble_eq_true rfl) rfl rfl (Nat.le_of_ble_eq_true rfl) (Nat.le_of_ble_eq_true rfl) rfl dX6_init_7 ?_
  have D := Cc.z (n1 := 1) (n2 := 8) (Nat.le_of_ble_eq_true rfl) (Nat.le_of_ble_eq_true rfl)
  refine g_putF C (j := 0) (ci := 6) (N := 8) (k := 0) (T := TX6) (ty := .array (.object "PaidInLeaves$Shelf")) (ws' := .inr (6, [.ref (E.2.2.1 + 1), .null, .null, .null, .null, .null, .null, .int 0]) :: .inl (E.2.1 4, 8, .inr (.inr (.inr (.inr (fun _ => none))))) :: xT E 0) rfl rfl wi_X6 tyX6 tyX6_ok nmX6 rfl (by decide) kf_X6_11 rfl rfl (tyX6_ok 0 (by decide)) rfl rfl (Nat.le_of_ble_eq_true rfl) rfl dX6_init_10 ?_
  refine z_aload_n D 0 dX6_init_13 rfl ?_
  refine z_bipush D (v := 8) dX6_init_14 rfl ?_
  refine g_newi Cc (N := 8) (r1 := 2) (r2 := 16) (q := E.2.2.1 + 2) (by decide) (by decide) (Nat.le_of_ble_eq_true rfl) rfl rfl (Nat.le_of_ble_eq_true rfl) (Nat.le_of_ble_eq_true rfl) (xT_q rfl) dX6_init_16 ?_
  have D := Cc.z (n1 := 2) (n2 := 16) (Nat.le_of_ble_eq_true rfl) (Nat.le_of_ble_eq_true rfl)
  refine g_w (ws' := .inr (6, [.ref (E.2.2.1 + 1), .null, .null, .null, .null, .null, .null, .int 0]) :: .inl (E.2.1 4, 8, .inr (.inr (.inr (.inr (fun _ => none))))) :: xT E 1) (xT_c rfl rfl) ?_
  refine g_putF C (j := 0) (ci := 6) (N := 8) (k := 1) (T := TX6) (ty := .array .int) (ws' := .inr (6, [.ref (E.2.2.1 + 1), .ref (E.2.2.1 + 2), .null, .null, .null, .null, .null, .int 0]) :: .inl (E.2.1 4, 8, .inr (.inr (.inr (.inr (fun _ => none))))) :: xT E 1) rfl rfl wi_X6 tyX6 tyX6_ok nmX6 rfl (by decide) kf_X6_15 rfl rfl (tyX6_ok 1 (by decide)) rfl rfl (Nat.le_of_ble_eq_true rfl) rfl dX6_init_18 ?_
  refine z_aload_n D 0 dX6_init_21 rfl ?_
  refine g_new Cc (ci := 1) (N := 10) (T := TX1) (fs := zdX1) (r1 := 3) (r2 := 26) (q := E.2.2.1 + 3) tyX1 wi_X1 tyX1_ok rfl gw_X6_19 dfX1 rfl rfl (Nat.le_of_ble_eq_true rfl) (Nat.le_of_ble_eq_true rfl) (xT_q rfl) dX6_init_22 ?_
  have D := Cc.z (n1 := 3) (n2 := 26) (Nat.le_of_ble_eq_true rfl) (Nat.le_of_ble_eq_true rfl)
  refine z_dup D dX6_init_25 rfl ?_
  refine g_init Cc (r1 := 17) (r2 := 116) (ws' := .inr (6, [.ref (E.2.2.1 + 1), .ref (E.2.2.1 + 2), .null, .null, .null, .null, .null, .int 0]) :: .inl (E.2.1 4, 8, .inr (.inr (.inr (.inr (fun _ => none))))) :: xT E 16) (c_X1_init l E 0) (xT_q rfl) ⟨kl_X6_21, kn_X1_init, ki_X1, kc_X1_init⟩ rfl kp_X1_init ⟨(Nat.le_of_ble_eq_true rfl), (Nat.le_of_ble_eq_true rfl)⟩ (Nat.le_of_ble_eq_true rfl) rfl rfl (Nat.le_of_ble_eq_true rfl) (Nat.le_of_ble_eq_true rfl) (xT_cs (gfin_x (by decide)) rfl) dX6_init_26 ?_
  have D := Cc.z (n1 := 17) (n2 := 116) (Nat.le_of_ble_eq_true rfl) (Nat.le_of_ble_eq_true rfl)
  refine g_putF C (j := 0) (ci := 6) (N := 8) (k := 2) (T := TX6) (ty := .object "PaidInLeaves$Garden") (ws' := .inr (6, [.ref (E.2.2.1 + 1), .ref (E.2.2.1 + 2), .ref (E.2.2.1 + 3), .null, .null, .null, .null, .int 0]) :: .inl (E.2.1 4, 8, .inr (.inr (.inr (.inr (fun _ => none))))) :: xT E 16) rfl rfl wi_X6 tyX6 tyX6_ok nmX6 rfl (by decide) kf_X6_22 rfl rfl (tyX6_ok 2 (by decide)) rfl rfl (Nat.le_of_ble_eq_true rfl) rfl dX6_init_29 ?_
  refine z_aload_n D 0 dX6_init_32 rfl ?_
  refine g_new Cc (ci := 1) (N := 10) (T := TX1) (fs := zdX1) (r1 := 18) (r2 := 126) (q := E.2.2.1 + 18) tyX1 wi_X1 tyX1_ok rfl gw_X6_19 dfX1 rfl rfl (Nat.le_of_ble_eq_true rfl) (Nat.le_of_ble_eq_true rfl) (xT_q rfl) dX6_init_33 ?_
  have D := Cc.z (n1 := 18) (n2 := 126) (Nat.le_of_ble_eq_true rfl) (Nat.le_of_ble_eq_true rfl)
  refine z_dup D dX6_init_36 rfl ?_
  refine g_init Cc (r1 := 32) (r2 := 216) (ws' := .inr (6, [.ref (E.2.2.1 + 1), .ref (E.2.2.1 + 2), .ref (E.2.2.1 + 3), .null, .null, .null, .null, .int 0]) :: .inl (E.2.1 4, 8, .inr (.inr (.inr (.inr (fun _ => none))))) :: xT E 31) (c_X1_init l E 1) (xT_q rfl) ⟨kl_X6_21, kn_X1_init, ki_X1, kc_X1_init⟩ rfl kp_X1_init ⟨(Nat.le_of_ble_eq_true rfl), (Nat.le_of_ble_eq_true rfl)⟩ (Nat.le_of_ble_eq_true rfl) rfl rfl (Nat.le_of_ble_eq_true rfl) (Nat.le_of_ble_eq_true rfl) (xT_cs (gfin_x (by decide)) rfl) dX6_init_37 ?_
  have D := Cc.z (n1 := 32) (n2 := 216) (Nat.le_of_ble_eq_true rfl) (Nat.le_of_ble_eq_true rfl)
  refine g_putF C (j := 0) (ci := 6) (N := 8) (k := 3) (T := TX6) (ty := .object "PaidInLeaves$Garden") (ws' := .inr (6, [.ref (E.2.2.1 + 1), .ref (E.2.2.1 + 2), .ref (E.2.2.1 + 3), .ref (E.2.2.1 + 18), .null, .null, .null, .int 0]) :: .inl (E.2.1 4, 8, .inr (.inr (.inr (.inr (fun _ => none))))) :: xT E 31) rfl rfl wi_X6 tyX6 tyX6_ok nmX6 rfl (by decide) kf_X6_26 rfl rfl (tyX6_ok 3 (by decide)) rfl rfl (Nat.le_of_ble_eq_true rfl) rfl dX6_init_40 ?_
  refine z_aload_n D 0 dX6_init_43 rfl ?_
  refine g_new Cc (ci := 1) (N := 10) (T := TX1) (fs := zdX1) (r1 := 33) (r2 := 226) (q := E.2.2.1 + 33) tyX1 wi_X1 tyX1_ok rfl gw_X6_19 dfX1 rfl rfl (Nat.le_of_ble_eq_true rfl) (Nat.le_of_ble_eq_true rfl) (xT_q rfl) dX6_init_44 ?_
  have D := Cc.z (n1 := 33) (n2 := 226) (Nat.le_of_ble_eq_true rfl) (Nat.le_of_ble_eq_true rfl)
  refine z_dup D dX6_init_47 rfl ?_
  refine g_init Cc (r1 := 47) (r2 := 316) (ws' := .inr (6, [.ref (E.2.2.1 + 1), .ref (E.2.2.1 + 2), .ref (E.2.2.1 + 3), .ref (E.2.2.1 + 18), .null, .null, .null, .int 0]) :: .inl (E.2.1 4, 8, .inr (.inr (.inr (.inr (fun _ => none))))) :: xT E 46) (c_X1_init l E 2) (xT_q rfl) ⟨kl_X6_21, kn_X1_init, ki_X1, kc_X1_init⟩ rfl kp_X1_init ⟨(Nat.le_of_ble_eq_true rfl), (Nat.le_of_ble_eq_true rfl)⟩ (Nat.le_of_ble_eq_true rfl) rfl rfl (Nat.le_of_ble_eq_true rfl) (Nat.le_of_ble_eq_true rfl) (xT_cs (gfin_x (by decide)) rfl) dX6_init_48 ?_
  have D := Cc.z (n1 := 47) (n2 := 316) (Nat.le_of_ble_eq_true rfl) (Nat.le_of_ble_eq_true rfl)
  refine g_putF C (j := 0) (ci := 6) (N := 8) (k := 4) (T := TX6) (ty := .object "PaidInLeaves$Garden") (ws' := .inr (6, [.ref (E.2.2.1 + 1), .ref (E.2.2.1 + 2), .ref (E.2.2.1 + 3), .ref (E.2.2.1 + 18), .ref (E.2.2.1 + 33), .null, .null, .int 0]) :: .inl (E.2.1 4, 8, .inr (.inr (.inr (.inr (fun _ => none))))) :: xT E 46) rfl rfl wi_X6 tyX6 tyX6_ok nmX6 rfl (by decide) kf_X6_29 rfl rfl (tyX6_ok 4 (by decide)) rfl rfl (Nat.le_of_ble_eq_true rfl) rfl dX6_init_51 ?_
  refine z_aload_n D 0 dX6_init_54 rfl ?_
  refine g_new Cc (ci := 2) (N := 6) (T := TX2) (fs := zdX2) (r1 := 48) (r2 := 322) (q := E.2.2.1 + 48) tyX2 wi_X2 tyX2_ok rfl gw_X6_32 dfX2 rfl rfl (Nat.le_of_ble_eq_true rfl) (Nat.le_of_ble_eq_true rfl) (xT_q rfl) dX6_init_55 ?_
  have D := Cc.z (n1 := 48) (n2 := 322) (Nat.le_of_ble_eq_true rfl) (Nat.le_of_ble_eq_true rfl)
  refine z_dup D dX6_init_58 rfl ?_
  refine g_initN Cc (r1 := 64) (r2 := 582) (ws' := .inr (6, [.ref (E.2.2.1 + 1), .ref (E.2.2.1 + 2), .ref (E.2.2.1 + 3), .ref (E.2.2.1 + 18), .ref (E.2.2.1 + 33), .null, .null, .int 0]) :: .inl (E.2.1 4, 8, .inr (.inr (.inr (.inr (fun _ => none))))) :: xT E 63) (c_X2_init l E) (xT_q rfl) (fun _ h => h.2.2.2.1) ⟨kn_X2_init, ki_X2, kc_X2_init⟩ rfl kp_X2_init ⟨(Nat.le_of_ble_eq_true rfl), (Nat.le_of_ble_eq_true rfl)⟩ (Nat.le_of_ble_eq_true rfl) rfl rfl (Nat.le_of_ble_eq_true rfl) (Nat.le_of_ble_eq_true rfl) (xT_cs (rfin_x (by decide)) rfl) dX6_init_59 ?_
  have D := Cc.z (n1 := 64) (n2 := 582) (Nat.le_of_ble_eq_true rfl) (Nat.le_of_ble_eq_true rfl)
  refine g_putF C (j := 0) (ci := 6) (N := 8) (k := 5) (T := TX6) (ty := .object "PaidInLeaves$Reader") (ws' := .inr (6, [.ref (E.2.2.1 + 1), .ref (E.2.2.1 + 2), .ref (E.2.2.1 + 3), .ref (E.2.2.1 + 18), .ref (E.2.2.1 + 33), .ref (E.2.2.1 + 48), .null, .int 0]) :: .inl (E.2.1 4, 8, .inr (.inr (.inr (.inr (fun _ => none))))) :: xT E 63) rfl rfl wi_X6 tyX6 tyX6_ok nmX6 rfl (by decide) kf_X6_35 rfl rfl (tyX6_ok 5 (by decide)) rfl rfl (Nat.le_of_ble_eq_true rfl) rfl dX6_init_62 ?_
  refine z_aload_n D 0 dX6_init_65 rfl ?_
  refine g_new Cc (ci := 5) (N := 5) (T := TX5) (fs := zdX5) (r1 := 65) (r2 := 587) (q := E.2.2.1 + 65) tyX5 wi_X5 tyX5_ok rfl gw_X6_39 dfX5 rfl rfl (Nat.le_of_ble_eq_true rfl) (Nat.le_of_ble_eq_true rfl) (xT_q rfl) dX6_init_66 ?_
  have D := Cc.z (n1 := 65) (n2 := 587) (Nat.le_of_ble_eq_true rfl) (Nat.le_of_ble_eq_true rfl)
  refine z_dup D dX6_init_69 rfl ?_
  refine g_initN Cc (r1 := 66) (r2 := 607) (ws' := .inr (6, [.ref (E.2.2.1 + 1), .ref (E.2.2.1 + 2), .ref (E.2.2.1 + 3), .ref (E.2.2.1 + 18), .ref (E.2.2.1 + 33), .ref (E.2.2.1 + 48), .null, .int 0]) :: .inl (E.2.1 4, 8, .inr (.inr (.inr (.inr (fun _ => none))))) :: xT E 65) (c_X5_init l E (E.2.2.1 + 65)) (xT_q rfl) (fun _ h => h.2.2.2.2.1) ⟨kn_X5_init, ki_X5, kc_X5_init⟩ rfl kp_X5_init ⟨(Nat.le_of_ble_eq_true rfl), (Nat.le_of_ble_eq_true rfl)⟩ (Nat.le_of_ble_eq_true rfl) rfl rfl (Nat.le_of_ble_eq_true rfl) (Nat.le_of_ble_eq_true rfl) (xT_cs (k := 2) rfl rfl) dX6_init_70 ?_
  have D := Cc.z (n1 := 66) (n2 := 607) (Nat.le_of_ble_eq_true rfl) (Nat.le_of_ble_eq_true rfl)
  refine g_putF C (j := 0) (ci := 6) (N := 8) (k := 6) (T := TX6) (ty := .object "PaidInLeaves$Stage") (ws' := .inr (6, [.ref (E.2.2.1 + 1), .ref (E.2.2.1 + 2), .ref (E.2.2.1 + 3), .ref (E.2.2.1 + 18), .ref (E.2.2.1 + 33), .ref (E.2.2.1 + 48), .ref (E.2.2.1 + 65), .int 0]) :: .inl (E.2.1 4, 8, .inr (.inr (.inr (.inr (fun _ => none))))) :: xT E 65) rfl rfl wi_X6 tyX6 tyX6_ok nmX6 rfl (by decide) kf_X6_42 rfl rfl (tyX6_ok 6 (by decide)) rfl rfl (Nat.le_of_ble_eq_true rfl) rfl dX6_init_73 ?_
  refine z_iconst D (v := 0) dX6_init_76 rfl ?_
  refine z_istore_n D dX6_init_77 rfl (by decide) ?_
  refine z_pick [0, 1] (L2 := [(1, .int 0), (0, .ref (E.2.2.1))]) rfl ?_
  refine z_iload_n D 0 dX6_init_78 rfl ?_
  refine z_bipush D (v := 8) dX6_init_79 rfl ?_
  refine z_icmp_ge D 103 dX6_init_81 (by decide) (fun h => absurd h (by decide)) (fun _ => ?_)
  refine z_aload_n D 1 dX6_init_84 rfl ?_
  refine g_get Cc (j := 0) (ci := 6) (N := 8) (k := 0) (T := TX6) (v := .ref (E.2.2.1 + 1)) rfl rfl wi_X6 rfl (by decide) kf_X6_11 rfl dX6_init_85 ?_
  refine z_iload_n D 0 dX6_init_88 rfl ?_
  refine g_new Cc (ci := 3) (N := 3) (T := TX3) (fs := zdX3) (r1 := 67) (r2 := 610) (q := E.2.2.1 + 67) tyX3 wi_X3 tyX3_ok rfl gw_X6_9 dfX3 rfl rfl (Nat.le_of_ble_eq_true rfl) (Nat.le_of_ble_eq_true rfl) (xT_q rfl) dX6_init_89 ?_
  have D := Cc.z (n1 := 67) (n2 := 610) (Nat.le_of_ble_eq_true rfl) (Nat.le_of_ble_eq_true rfl)
  refine z_dup D dX6_init_92 rfl ?_
  refine g_initN Cc (r1 := 68) (r2 := 770) (ws' := .inr (6, [.ref (E.2.2.1 + 1), .ref (E.2.2.1 + 2), .ref (E.2.2.1 + 3), .ref (E.2.2.1 + 18), .ref (E.2.2.1 + 33), .ref (E.2.2.1 + 48), .ref (E.2.2.1 + 65), .int 0]) :: .inl (E.2.1 4, 8, .inr (.inr (.inr (.inr (fun _ => none))))) :: xT E 67) (c_X3_init l E (E.2.2.1 + 67)) (xT_q rfl) (fun _ h => h.2.2.2.2.2) ⟨kn_X3_init, ki_X3, kc_X3_init⟩ rfl kp_X3_init ⟨(Nat.le_of_ble_eq_true rfl), (Nat.le_of_ble_eq_true rfl)⟩ (Nat.le_of_ble_eq_true rfl) rfl rfl (Nat.le_of_ble_eq_true rfl) (Nat.le_of_ble_eq_true rfl) (xT_cs (k := 2) rfl rfl) dX6_init_93 ?_
  have D := Cc.z (n1 := 68) (n2 := 770) (Nat.le_of_ble_eq_true rfl) (Nat.le_of_ble_eq_true rfl)
  refine g_aast Cc (n := 8) (jq := 1) (jv := 67) (ci := 3) (ws' := .inr (6, [.ref (E.2.2.1 + 1), .ref (E.2.2.1 + 2), .ref (E.2.2.1 + 3), .ref (E.2.2.1 + 18), .ref (E.2.2.1 + 33), .ref (E.2.2.1 + 48), .ref (E.2.2.1 + 65), .int 0]) :: .inl (E.2.1 4, 8, .inr (.inr (.inr (.inr (va_up (fun _ => none) 0 (some (E.2.2.1 + 67))))))) :: xT E 67) 4 0 rfl rfl rfl (xT_at (by decide) rfl) rfl rfl (by decide) (by decide) (by decide) rfl dX6_init_96 ?_
  refine z_iinc D (v := 1) 0 dX6_init_97 rfl (by decide) (by decide) ?_
  refine z_pick [0, 1] (L2 := [(1, .int 1), (0, .ref (E.2.2.1))]) rfl ?_
  refine z_goto D 78 dX6_init_100 (by decide) ?_
  refine z_iload_n D 0 dX6_init_78 rfl ?_
  refine z_bipush D (v := 8) dX6_init_79 rfl ?_
  refine z_icmp_ge D 103 dX6_init_81 (by decide) (fun h => absurd h (by decide)) (fun _ => ?_)
  refine z_aload_n D 1 dX6_init_84 rfl ?_
  refine g_get Cc (j := 0) (ci := 6) (N := 8) (k := 0) (T := TX6) (v := .ref (E.2.2.1 + 1)) rfl rfl wi_X6 rfl (by decide) kf_X6_11 rfl dX6_init_85 ?_
  refine z_iload_n D 0 dX6_init_88 rfl ?_
  refine g_new Cc (ci := 3) (N := 3) (T := TX3) (fs := zdX3) (r1 := 69) (r2 := 773) (q := E.2.2.1 + 69) tyX3 wi_X3 tyX3_ok rfl gw_X6_9 dfX3 rfl rfl (Nat.le_of_ble_eq_true rfl) (Nat.le_of_ble_eq_true rfl) (xT_q rfl) dX6_init_89 ?_
  have D := Cc.z (n1 := 69) (n2 := 773) (Nat.le_of_ble_eq_true rfl) (Nat.le_of_ble_eq_true rfl)
  refine z_dup D dX6_init_92 rfl ?_
  refine g_initN Cc (r1 := 70) (r2 := 933) (ws' := .inr (6, [.ref (E.2.2.1 + 1), .ref (E.2.2.1 + 2), .ref (E.2.2.1 + 3), .ref (E.2.2.1 + 18), .ref (E.2.2.1 + 33), .ref (E.2.2.1 + 48), .ref (E.2.2.1 + 65), .int 0]) :: .inl (E.2.1 4, 8, .inr (.inr (.inr (.inr (va_up (fun _ => none) 0 (some (E.2.2.1 + 67))))))) :: xT E 69) (c_X3_init l E (E.2.2.1 + 69)) (xT_q rfl) (fun _ h => h.2.2.2.2.2) ⟨kn_X3_init, ki_X3, kc_X3_init⟩ rfl kp_X3_init ⟨(Nat.le_of_ble_eq_true rfl), (Nat.le_of_ble_eq_true rfl)⟩ (Nat.le_of_ble_eq_true rfl) rfl rfl (Nat.le_of_ble_eq_true rfl) (Nat.le_of_ble_eq_true rfl) (xT_cs (k := 2) rfl rfl) dX6_init_93 ?_
  have D := Cc.z (n1 := 70) (n2 := 933) (Nat.le_of_ble_eq_true rfl) (Nat.le_of_ble_eq_true rfl)
  refine g_aast Cc (n := 8) (jq := 1) (jv := 69) (ci := 3) (ws' := .inr (6, [.ref (E.2.2.1 + 1), .ref (E.2.2.1 + 2), .ref (E.2.2.1 + 3), .ref (E.2.2.1 + 18), .ref (E.2.2.1 + 33), .ref (E.2.2.1 + 48), .ref (E.2.2.1 + 65), .int 0]) :: .inl (E.2.1 4, 8, .inr (.inr (.inr (.inr (va_up (va_up (fun _ => none) 0 (some (E.2.2.1 + 67))) 1 (some (E.2.2.1 + 69))))))) :: xT E 69) 4 1 rfl rfl rfl (xT_at (by decide) rfl) rfl rfl (by decide) (by decide) (by decide) rfl dX6_init_96 ?_
  refine z_iinc D (v := 2) 0 dX6_init_97 rfl (by decide) (by decide) ?_
  refine z_pick [0, 1] (L2 := [(1, .int 2), (0, .ref (E.2.2.1))]) rfl ?_
  refine z_goto D 78 dX6_init_100 (by decide) ?_
  refine z_iload_n D 0 dX6_init_78 rfl ?_
  refine z_bipush D (v := 8) dX6_init_79 rfl ?_
  refine z_icmp_ge D 103 dX6_init_81 (by decide) (fun h => absurd h (by decide)) (fun _ => ?_)
  refine z_aload_n D 1 dX6_init_84 rfl ?_
  refine g_get Cc (j := 0) (ci := 6) (N := 8) (k := 0) (T := TX6) (v := .ref (E.2.2.1 + 1)) rfl rfl wi_X6 rfl (by decide) kf_X6_11 rfl dX6_init_85 ?_
  refine z_iload_n D 0 dX6_init_88 rfl ?_
  refine g_new Cc (ci := 3) (N := 3) (T := TX3) (fs := zdX3) (r1 := 71) (r2 := 936) (q := E.2.2.1 + 71) tyX3 wi_X3 tyX3_ok rfl gw_X6_9 dfX3 rfl rfl (Nat.le_of_ble_eq_true rfl) (Nat.le_of_ble_eq_true rfl) (xT_q rfl) dX6_init_89 ?_
  have D := Cc.z (n1 := 71) (n2 := 936) (Nat.le_of_ble_eq_true rfl) (Nat.le_of_ble_eq_true rfl)
  refine z_dup D dX6_init_92 rfl ?_
  refine g_initN Cc (r1 := 72) (r2 := 1096) (ws' := .inr (6, [.ref (E.2.2.1 + 1), .ref (E.2.2.1 + 2), .ref (E.2.2.1 + 3), .ref (E.2.2.1 + 18), .ref (E.2.2.1 + 33), .ref (E.2.2.1 + 48), .ref (E.2.2.1 + 65), .int 0]) :: .inl (E.2.1 4, 8, .inr (.inr (.inr (.inr (va_up (va_up (fun _ => none) 0 (some (E.2.2.1 + 67))) 1 (some (E.2.2.1 + 69))))))) :: xT E 71) (c_X3_init l E (E.2.2.1 + 71)) (xT_q rfl) (fun _ h => h.2.2.2.2.2) ⟨kn_X3_init, ki_X3, kc_X3_init⟩ rfl kp_X3_init ⟨(Nat.le_of_ble_eq_true rfl), (Nat.le_of_ble_eq_true rfl)⟩ (Nat.le_of_ble_eq_true rfl) rfl rfl (Nat.le_of_ble_eq_true rfl) (Nat.le_of_ble_eq_true rfl) (xT_cs (k := 2) rfl rfl) dX6_init_93 ?_
  have D := Cc.z (n1 := 72) (n2 := 1096) (Nat.le_of_ble_eq_true rfl) (Nat.le_of_ble_eq_true rfl)
  refine g_aast Cc (n := 8) (jq := 1) (jv := 71) (ci := 3) (ws' := .inr (6, [.ref (E.2.2.1 + 1), .ref (E.2.2.1 + 2), .ref (E.2.2.1 + 3), .ref (E.2.2.1 + 18), .ref (E.2.2.1 + 33), .ref (E.2.2.1 + 48), .ref (E.2.2.1 + 65), .int 0]) :: .inl (E.2.1 4, 8, .inr (.inr (.inr (.inr (va_up (va_up (va_up (fun _ => none) 0 (some (E.2.2.1 + 67))) 1 (some (E.2.2.1 + 69))) 2 (some (E.2.2.1 + 71))))))) :: xT E 71) 4 2 rfl rfl rfl (xT_at (by decide) rfl) rfl rfl (by decide) (by decide) (by decide) rfl dX6_init_96 ?_
  refine z_iinc D (v := 3) 0 dX6_init_97 rfl (by decide) (by decide) ?_
  refine z_pick [0, 1] (L2 := [(1, .int 3), (0, .ref (E.2.2.1))]) rfl ?_
  refine z_goto D 78 dX6_init_100 (by decide) ?_
  refine z_iload_n D 0 dX6_init_78 rfl ?_
  refine z_bipush D (v := 8) dX6_init_79 rfl ?_
  refine z_icmp_ge D 103 dX6_init_81 (by decide) (fun h => absurd h (by decide)) (fun _ => ?_)
  refine z_aload_n D 1 dX6_init_84 rfl ?_
  refine g_get Cc (j := 0) (ci := 6) (N := 8) (k := 0) (T := TX6) (v := .ref (E.2.2.1 + 1)) rfl rfl wi_X6 rfl (by decide) kf_X6_11 rfl dX6_init_85 ?_
  refine z_iload_n D 0 dX6_init_88 rfl ?_
  refine g_new Cc (ci := 3) (N := 3) (T := TX3) (fs := zdX3) (r1 := 73) (r2 := 1099) (q := E.2.2.1 + 73) tyX3 wi_X3 tyX3_ok rfl gw_X6_9 dfX3 rfl rfl (Nat.le_of_ble_eq_true rfl) (Nat.le_of_ble_eq_true rfl) (xT_q rfl) dX6_init_89 ?_
  have D := Cc.z (n1 := 73) (n2 := 1099) (Nat.le_of_ble_eq_true rfl) (Nat.le_of_ble_eq_true rfl)
  refine z_dup D dX6_init_92 rfl ?_
  refine g_initN Cc (r1 := 74) (r2 := 1259) (ws' := .inr (6, [.ref (E.2.2.1 + 1), .ref (E.2.2.1 + 2), .ref (E.2.2.1 + 3), .ref (E.2.2.1 + 18), .ref (E.2.2.1 + 33), .ref (E.2.2.1 + 48), .ref (E.2.2.1 + 65), .int 0]) :: .inl (E.2.1 4, 8, .inr (.inr (.inr (.inr (va_up (va_up (va_up (fun _ => none) 0 (some (E.2.2.1 + 67))) 1 (some (E.2.2.1 + 69))) 2 (some (E.2.2.1 + 71))))))) :: xT E 73) (c_X3_init l E (E.2.2.1 + 73)) (xT_q rfl) (fun _ h => h.2.2.2.2.2) ⟨kn_X3_init, ki_X3, kc_X3_init⟩ rfl kp_X3_init ⟨(Nat.le_of_ble_eq_true rfl), (Nat.le_of_ble_eq_true rfl)⟩ (Nat.le_of_ble_eq_true rfl) rfl rfl (Nat.le_of_ble_eq_true rfl) (Nat.le_of_ble_eq_true rfl) (xT_cs (k := 2) rfl rfl) dX6_init_93 ?_
  have D := Cc.z (n1 := 74) (n2 := 1259) (Nat.le_of_ble_eq_true rfl) (Nat.le_of_ble_eq_true rfl)
  refine g_aast Cc (n := 8) (jq := 1) (jv := 73) (ci := 3) (ws' := .inr (6, [.ref (E.2.2.1 + 1), .ref (E.2.2.1 + 2), .ref (E.2.2.1 + 3), .ref (E.2.2.1 + 18), .ref (E.2.2.1 + 33), .ref (E.2.2.1 + 48), .ref (E.2.2.1 + 65), .int 0]) :: .inl (E.2.1 4, 8, .inr (.inr (.inr (.inr (va_up (va_up (va_up (va_up (fun _ => none) 0 (some (E.2.2.1 + 67))) 1 (some (E.2.2.1 + 69))) 2 (some (E.2.2.1 + 71))) 3 (some (E.2.2.1 + 73))))))) :: xT E 73) 4 3 rfl rfl rfl (xT_at (by decide) rfl) rfl rfl (by decide) (by decide) (by decide) rfl dX6_init_96 ?_
  refine z_iinc D (v := 4) 0 dX6_init_97 rfl (by decide) (by decide) ?_
  refine z_pick [0, 1] (L2 := [(1, .int 4), (0, .ref (E.2.2.1))]) rfl ?_
  refine z_goto D 78 dX6_init_100 (by decide) ?_
  refine z_iload_n D 0 dX6_init_78 rfl ?_
  refine z_bipush D (v := 8) dX6_init_79 rfl ?_
  refine z_icmp_ge D 103 dX6_init_81 (by decide) (fun h => absurd h (by decide)) (fun _ => ?_)
  refine z_aload_n D 1 dX6_init_84 rfl ?_
  refine g_get Cc (j := 0) (ci := 6) (N := 8) (k := 0) (T := TX6) (v := .ref (E.2.2.1 + 1)) rfl rfl wi_X6 rfl (by decide) kf_X6_11 rfl dX6_init_85 ?_
  refine z_iload_n D 0 dX6_init_88 rfl ?_
  refine g_new Cc (ci := 3) (N := 3) (T := TX3) (fs := zdX3) (r1 := 75) (r2 := 1262) (q := E.2.2.1 + 75) tyX3 wi_X3 tyX3_ok rfl gw_X6_9 dfX3 rfl rfl (Nat.le_of_ble_eq_true rfl) (Nat.le_of_ble_eq_true rfl) (xT_q rfl) dX6_init_89 ?_
  have D := Cc.z (n1 := 75) (n2 := 1262) (Nat.le_of_ble_eq_true rfl) (Nat.le_of_ble_eq_true rfl)
  refine z_dup D dX6_init_92 rfl ?_
  refine g_initN Cc (r1 := 76) (r2 := 1422) (ws' := .inr (6, [.ref (E.2.2.1 + 1), .ref (E.2.2.1 + 2), .ref (E.2.2.1 + 3), .ref (E.2.2.1 + 18), .ref (E.2.2.1 + 33), .ref (E.2.2.1 + 48), .ref (E.2.2.1 + 65), .int 0]) :: .inl (E.2.1 4, 8, .inr (.inr (.inr (.inr (va_up (va_up (va_up (va_up (fun _ => none) 0 (some (E.2.2.1 + 67))) 1 (some (E.2.2.1 + 69))) 2 (some (E.2.2.1 + 71))) 3 (some (E.2.2.1 + 73))))))) :: xT E 75) (c_X3_init l E (E.2.2.1 + 75)) (xT_q rfl) (fun _ h => h.2.2.2.2.2) ⟨kn_X3_init, ki_X3, kc_X3_init⟩ rfl kp_X3_init ⟨(Nat.le_of_ble_eq_true rfl), (Nat.le_of_ble_eq_true rfl)⟩ (Nat.le_of_ble_eq_true rfl) rfl rfl (Nat.le_of_ble_eq_true rfl) (Nat.le_of_ble_eq_true rfl) (xT_cs (k := 2) rfl rfl) dX6_init_93 ?_
  have D := Cc.z (n1 := 76) (n2 := 1422) (Nat.le_of_ble_eq_true rfl) (Nat.le_of_ble_eq_true rfl)
  refine g_aast Cc (n := 8) (jq := 1) (jv := 75) (ci := 3) (ws' := .inr (6, [.ref (E.2.2.1 + 1), .ref (E.2.2.1 + 2), .ref (E.2.2.1 + 3), .ref (E.2.2.1 + 18), .ref (E.2.2.1 + 33), .ref (E.2.2.1 + 48), .ref (E.2.2.1 + 65), .int 0]) :: .inl (E.2.1 4, 8, .inr (.inr (.inr (.inr (va_up (va_up (va_up (va_up (va_up (fun _ => none) 0 (some (E.2.2.1 + 67))) 1 (some (E.2.2.1 + 69))) 2 (some (E.2.2.1 + 71))) 3 (some (E.2.2.1 + 73))) 4 (some (E.2.2.1 + 75))))))) :: xT E 75) 4 4 rfl rfl rfl (xT_at (by decide) rfl) rfl rfl (by decide) (by decide) (by decide) rfl dX6_init_96 ?_
  refine z_iinc D (v := 5) 0 dX6_init_97 rfl (by decide) (by decide) ?_
  refine z_pick [0, 1] (L2 := [(1, .int 5), (0, .ref (E.2.2.1))]) rfl ?_
  refine z_goto D 78 dX6_init_100 (by decide) ?_
  refine z_iload_n D 0 dX6_init_78 rfl ?_
  refine z_bipush D (v := 8) dX6_init_79 rfl ?_
  refine z_icmp_ge D 103 dX6_init_81 (by decide) (fun h => absurd h (by decide)) (fun _ => ?_)
  refine z_aload_n D 1 dX6_init_84 rfl ?_
  refine g_get Cc (j := 0) (ci := 6) (N := 8) (k := 0) (T := TX6) (v := .ref (E.2.2.1 + 1)) rfl rfl wi_X6 rfl (by decide) kf_X6_11 rfl dX6_init_85 ?_
  refine z_iload_n D 0 dX6_init_88 rfl ?_
  refine g_new Cc (ci := 3) (N := 3) (T := TX3) (fs := zdX3) (r1 := 77) (r2 := 1425) (q := E.2.2.1 + 77) tyX3 wi_X3 tyX3_ok rfl gw_X6_9 dfX3 rfl rfl (Nat.le_of_ble_eq_true rfl) (Nat.le_of_ble_eq_true rfl) (xT_q rfl) dX6_init_89 ?_
  have D := Cc.z (n1 := 77) (n2 := 1425) (Nat.le_of_ble_eq_true rfl) (Nat.le_of_ble_eq_true rfl)
  refine z_dup D dX6_init_92 rfl ?_
  refine g_initN Cc (r1 := 78) (r2 := 1585) (ws' := .inr (6, [.ref (E.2.2.1 + 1), .ref (E.2.2.1 + 2), .ref (E.2.2.1 + 3), .ref (E.2.2.1 + 18), .ref (E.2.2.1 + 33), .ref (E.2.2.1 + 48), .ref (E.2.2.1 + 65), .int 0]) :: .inl (E.2.1 4, 8, .inr (.inr (.inr (.inr (va_up (va_up (va_up (va_up (va_up (fun _ => none) 0 (some (E.2.2.1 + 67))) 1 (some (E.2.2.1 + 69))) 2 (some (E.2.2.1 + 71))) 3 (some (E.2.2.1 + 73))) 4 (some (E.2.2.1 + 75))))))) :: xT E 77) (c_X3_init l E (E.2.2.1 + 77)) (xT_q rfl) (fun _ h => h.2.2.2.2.2) ⟨kn_X3_init, ki_X3, kc_X3_init⟩ rfl kp_X3_init ⟨(Nat.le_of_ble_eq_true rfl), (Nat.le_of_ble_eq_true rfl)⟩ (Nat.le_of_ble_eq_true rfl) rfl rfl (Nat.le_of_ble_eq_true rfl) (Nat.le_of_ble_eq_true rfl) (xT_cs (k := 2) rfl rfl) dX6_init_93 ?_
  have D := Cc.z (n1 := 78) (n2 := 1585) (Nat.le_of_ble_eq_true rfl) (Nat.le_of_ble_eq_true rfl)
  refine g_aast Cc (n := 8) (jq := 1) (jv := 77) (ci := 3) (ws' := .inr (6, [.ref (E.2.2.1 + 1), .ref (E.2.2.1 + 2), .ref (E.2.2.1 + 3), .ref (E.2.2.1 + 18), .ref (E.2.2.1 + 33), .ref (E.2.2.1 + 48), .ref (E.2.2.1 + 65), .int 0]) :: .inl (E.2.1 4, 8, .inr (.inr (.inr (.inr (va_up (va_up (va_up (va_up (va_up (va_up (fun _ => none) 0 (some (E.2.2.1 + 67))) 1 (some (E.2.2.1 + 69))) 2 (some (E.2.2.1 + 71))) 3 (some (E.2.2.1 + 73))) 4 (some (E.2.2.1 + 75))) 5 (some (E.2.2.1 + 77))))))) :: xT E 77) 4 5 rfl rfl rfl (xT_at (by decide) rfl) rfl rfl (by decide) (by decide) (by decide) rfl dX6_init_96 ?_
  refine z_iinc D (v := 6) 0 dX6_init_97 rfl (by decide) (by decide) ?_
  refine z_pick [0, 1] (L2 := [(1, .int 6), (0, .ref (E.2.2.1))]) rfl ?_
  refine z_goto D 78 dX6_init_100 (by decide) ?_
  refine z_iload_n D 0 dX6_init_78 rfl ?_
  refine z_bipush D (v := 8) dX6_init_79 rfl ?_
  refine z_icmp_ge D 103 dX6_init_81 (by decide) (fun h => absurd h (by decide)) (fun _ => ?_)
  refine z_aload_n D 1 dX6_init_84 rfl ?_
  refine g_get Cc (j := 0) (ci := 6) (N := 8) (k := 0) (T := TX6) (v := .ref (E.2.2.1 + 1)) rfl rfl wi_X6 rfl (by decide) kf_X6_11 rfl dX6_init_85 ?_
  refine z_iload_n D 0 dX6_init_88 rfl ?_
  refine g_new Cc (ci := 3) (N := 3) (T := TX3) (fs := zdX3) (r1 := 79) (r2 := 1588) (q := E.2.2.1 + 79) tyX3 wi_X3 tyX3_ok rfl gw_X6_9 dfX3 rfl rfl (Nat.le_of_ble_eq_true rfl) (Nat.le_of_ble_eq_true rfl) (xT_q rfl) dX6_init_89 ?_
  have D := Cc.z (n1 := 79) (n2 := 1588) (Nat.le_of_ble_eq_true rfl) (Nat.le_of_ble_eq_true rfl)
  refine z_dup D dX6_init_92 rfl ?_
  refine g_initN Cc (r1 := 80) (r2 := 1748) (ws' := .inr (6, [.ref (E.2.2.1 + 1), .ref (E.2.2.1 + 2), .ref (E.2.2.1 + 3), .ref (E.2.2.1 + 18), .ref (E.2.2.1 + 33), .ref (E.2.2.1 + 48), .ref (E.2.2.1 + 65), .int 0]) :: .inl (E.2.1 4, 8, .inr (.inr (.inr (.inr (va_up (va_up (va_up (va_up (va_up (va_up (fun _ => none) 0 (some (E.2.2.1 + 67))) 1 (some (E.2.2.1 + 69))) 2 (some (E.2.2.1 + 71))) 3 (some (E.2.2.1 + 73))) 4 (some (E.2.2.1 + 75))) 5 (some (E.2.2.1 + 77))))))) :: xT E 79) (c_X3_init l E (E.2.2.1 + 79)) (xT_q rfl) (fun _ h => h.2.2.2.2.2) ⟨kn_X3_init, ki_X3, kc_X3_init⟩ rfl kp_X3_init ⟨(Nat.le_of_ble_eq_true rfl), (Nat.le_of_ble_eq_true rfl)⟩ (Nat.le_of_ble_eq_true rfl) rfl rfl (Nat.le_of_ble_eq_true rfl) (Nat.le_of_ble_eq_true rfl) (xT_cs (k := 2) rfl rfl) dX6_init_93 ?_
  have D := Cc.z (n1 := 80) (n2 := 1748) (Nat.le_of_ble_eq_true rfl) (Nat.le_of_ble_eq_true rfl)
  refine g_aast Cc (n := 8) (jq := 1) (jv := 79) (ci := 3) (ws' := .inr (6, [.ref (E.2.2.1 + 1), .ref (E.2.2.1 + 2), .ref (E.2.2.1 + 3), .ref (E.2.2.1 + 18), .ref (E.2.2.1 + 33), .ref (E.2.2.1 + 48), .ref (E.2.2.1 + 65), .int 0]) :: .inl (E.2.1 4, 8, .inr (.inr (.inr (.inr (va_up (va_up (va_up (va_up (va_up (va_up (va_up (fun _ => none) 0 (some (E.2.2.1 + 67))) 1 (some (E.2.2.1 + 69))) 2 (some (E.2.2.1 + 71))) 3 (some (E.2.2.1 + 73))) 4 (some (E.2.2.1 + 75))) 5 (some (E.2.2.1 + 77))) 6 (some (E.2.2.1 + 79))))))) :: xT E 79) 4 6 rfl rfl rfl (xT_at (by decide) rfl) rfl rfl (by decide) (by decide) (by decide) rfl dX6_init_96 ?_
  refine z_iinc D (v := 7) 0 dX6_init_97 rfl (by decide) (by decide) ?_
  refine z_pick [0, 1] (L2 := [(1, .int 7), (0, .ref (E.2.2.1))]) rfl ?_
  refine z_goto D 78 dX6_init_100 (by decide) ?_
  refine z_iload_n D 0 dX6_init_78 rfl ?_
  refine z_bipush D (v := 8) dX6_init_79 rfl ?_
  refine z_icmp_ge D 103 dX6_init_81 (by decide) (fun h => absurd h (by decide)) (fun _ => ?_)
  refine z_aload_n D 1 dX6_init_84 rfl ?_
  refine g_get Cc (j := 0) (ci := 6) (N := 8) (k := 0) (T := TX6) (v := .ref (E.2.2.1 + 1)) rfl rfl wi_X6 rfl (by decide) kf_X6_11 rfl dX6_init_85 ?_
  refine z_iload_n D 0 dX6_init_88 rfl ?_
  refine g_new Cc (ci := 3) (N := 3) (T := TX3) (fs := zdX3) (r1 := 81) (r2 := 1751) (q := E.2.2.1 + 81) tyX3 wi_X3 tyX3_ok rfl gw_X6_9 dfX3 rfl rfl (Nat.le_of_ble_eq_true rfl) (Nat.le_of_ble_eq_true rfl) (xT_q rfl) dX6_init_89 ?_
  have D := Cc.z (n1 := 81) (n2 := 1751) (Nat.le_of_ble_eq_true rfl) (Nat.le_of_ble_eq_true rfl)
  refine z_dup D dX6_init_92 rfl ?_
  refine g_initN Cc (r1 := 82) (r2 := 1911) (ws' := .inr (6, [.ref (E.2.2.1 + 1), .ref (E.2.2.1 + 2), .ref (E.2.2.1 + 3), .ref (E.2.2.1 + 18), .ref (E.2.2.1 + 33), .ref (E.2.2.1 + 48), .ref (E.2.2.1 + 65), .int 0]) :: .inl (E.2.1 4, 8, .inr (.inr (.inr (.inr (va_up (va_up (va_up (va_up (va_up (va_up (va_up (fun _ => none) 0 (some (E.2.2.1 + 67))) 1 (some (E.2.2.1 + 69))) 2 (some (E.2.2.1 + 71))) 3 (some (E.2.2.1 + 73))) 4 (some (E.2.2.1 + 75))) 5 (some (E.2.2.1 + 77))) 6 (some (E.2.2.1 + 79))))))) :: xT E 81) (c_X3_init l E (E.2.2.1 + 81)) (xT_q rfl) (fun _ h => h.2.2.2.2.2) ⟨kn_X3_init, ki_X3, kc_X3_init⟩ rfl kp_X3_init ⟨(Nat.le_of_ble_eq_true rfl), (Nat.le_of_ble_eq_true rfl)⟩ (Nat.le_of_ble_eq_true rfl) rfl rfl (Nat.le_of_ble_eq_true rfl) (Nat.le_of_ble_eq_true rfl) (xT_cs (k := 2) rfl rfl) dX6_init_93 ?_
  have D := Cc.z (n1 := 82) (n2 := 1911) (Nat.le_of_ble_eq_true rfl) (Nat.le_of_ble_eq_true rfl)
  refine g_aast Cc (n := 8) (jq := 1) (jv := 81) (ci := 3) (ws' := .inr (6, [.ref (E.2.2.1 + 1), .ref (E.2.2.1 + 2), .ref (E.2.2.1 + 3), .ref (E.2.2.1 + 18), .ref (E.2.2.1 + 33), .ref (E.2.2.1 + 48), .ref (E.2.2.1 + 65), .int 0]) :: .inl (E.2.1 4, 8, .inr (.inr (.inr (.inr (va_up (va_up (va_up (va_up (va_up (va_up (va_up (va_up (fun _ => none) 0 (some (E.2.2.1 + 67))) 1 (some (E.2.2.1 + 69))) 2 (some (E.2.2.1 + 71))) 3 (some (E.2.2.1 + 73))) 4 (some (E.2.2.1 + 75))) 5 (some (E.2.2.1 + 77))) 6 (some (E.2.2.1 + 79))) 7 (some (E.2.2.1 + 81))))))) :: xT E 81) 4 7 rfl rfl rfl (xT_at (by decide) rfl) rfl rfl (by decide) (by decide) (by decide) rfl dX6_init_96 ?_
  refine z_iinc D (v := 8) 0 dX6_init_97 rfl (by decide) (by decide) ?_
  refine z_pick [0, 1] (L2 := [(1, .int 8), (0, .ref (E.2.2.1))]) rfl ?_
  refine z_goto D 78 dX6_init_100 (by decide) ?_
  refine z_iload_n D 0 dX6_init_78 rfl ?_
  refine z_bipush D (v := 8) dX6_init_79 rfl ?_
  refine z_icmp_ge D 103 dX6_init_81 (by decide) (fun _ => ?_) (fun h => absurd (by decide) h)
  refine z_mono (fun H hH => gP.eqq (j := 1) (f' := fun i => some (xadr E.2.2.1 (12, i, 0))) rfl (fun i hi => by rcases (show i = 0 ∨ i = 1 ∨ i = 2 ∨ i = 3 ∨ i = 4 ∨ i = 5 ∨ i = 6 ∨ i = 7 by omega) with rfl | rfl | rfl | rfl | rfl | rfl | rfl | rfl <;> rfl) rfl hH) ?_
  refine g_w (ws' := xfin E) (by unfold xfin; rw [rng1, rng1]; rfl) ?_
  exact g_vret C dX6_init_103
def mr (a k o : Nat) : Value := if o ≤ k then .ref (a + o) else .null
def mO (a k : Nat) : List Value := [.int 0, .int 0, .int 0, .int 0, .int 5, .int 999, .int 0, .int 1, .int (-1), mr a k 1, mr a k 2, mr a k 3, mr a k 4, mr a k 5, mr a k 6, mr a k 7, mr a k 8, mr a k 9, mr a k 10, mr a k 11, mr a k 12, mr a k 13, mr a k 14, mr a k 15, mr a k 16, mr a k 17, mr a k 18, mr a k 19, mr a k 20, mr a k 21, .int 0, .int 0, .int 0, .int 0, .int 0, mr a k 22, mr a k 23, mr a k 24, mr a k 25, .int 0, mr a k 26, mr a k 27, mr a k 28, mr a k 29, .int 0, mr a k 30, .int 0, .int 0]
set_option maxRecDepth 100000 in
set_option maxHeartbeats 4000000 in
theorem c_X7_init (l : Launch) (E : zE)  : gMet l E yX7_init cX7_init 1 1 30 1894 (E.2.2.1) (.inr (7, zdX7)) (mfin E) := by
  refine gMet.mk (by decide +kernel) rfl (by decide) (fun Kf s C => ?_)
  have Cc := C.c
  have D := Cc.z (n1 := 0) (n2 := 0) (Nat.le_of_ble_eq_true rfl) (Nat.le_of_ble_eq_true rfl)
  refine z_aload_n D 0 dX7_init_0 rfl ?_
  refine g_obj Cc go_X7 (Nat.le_of_ble_eq_true rfl) ⟨(Nat.le_of_ble_eq_true rfl), (Nat.le_of_ble_eq_true rfl)⟩ dX7_init_1 ?_
  refine z_aload_n D 0 dX7_init_4 rfl ?_
  refine z_iconst D (v := 5) dX7_init_5 rfl ?_
  refine g_put Cc (j := 0) (ci := 7) (N := 48) (k := 4) (T := TX7) (ty := .int) (ws' := [.inr (7, [.int 0, .int 0, .int 0, .int 0, .int 5, .int 0, .int 0, .int 0, .int 0, .null, .null, .null, .null, .null, .null, .null, .null, .null, .null, .null, .null, .null, .null, .null, .null, .null, .null, .null, .null, .null, .int 0, .int 0, .int 0, .int 0, .int 0, .null, .null, .null, .null, .int 0, .null, .null, .null, .null, .int 0, .null, .int 0, .int 0])]) rfl rfl wi_X7 tyX7 tyX7_ok nmX7 rfl (by decide) kf_X7_7 rfl (tyX7_ok 4 (by decide)) rfl rfl (Nat.le_of_ble_eq_true rfl) rfl dX7_init_6 ?_
  refine z_aload_n D 0 dX7_init_9 rfl ?_
  refine z_sipush D (v := 999) dX7_init_10 rfl ?_
  refine g_put Cc (j := 0) (ci := 7) (N := 48) (k := 5) (T := TX7) (ty := .int) (ws' := [.inr (7, [.int 0, .int 0, .int 0, .int 0, .int 5, .int 999, .int 0, .int 0, .int 0, .null, .null, .null, .null, .null, .null, .null, .null, .null, .null, .null, .null, .null, .null, .null, .null, .null, .null, .null, .null, .null, .int 0, .int 0, .int 0, .int 0, .int 0, .null, .null, .null, .null, .int 0, .null, .null, .null, .null, .int 0, .null, .int 0, .int 0])]) rfl rfl wi_X7 tyX7 tyX7_ok nmX7 rfl (by decide) kf_X7_13 rfl (tyX7_ok 5 (by decide)) rfl rfl (Nat.le_of_ble_eq_true rfl) rfl dX7_init_13 ?_
  refine z_aload_n D 0 dX7_init_16 rfl ?_
  refine z_iconst D (v := 1) dX7_init_17 rfl ?_
  refine g_put Cc (j := 0) (ci := 7) (N := 48) (k := 7) (T := TX7) (ty := .int) (ws' := [.inr (7, [.int 0, .int 0, .int 0, .int 0, .int 5, .int 999, .int 0, .int 1, .int 0, .null, .null, .null, .null, .null, .null, .null, .null, .null, .null, .null, .null, .null, .null, .null, .null, .null, .null, .null, .null, .null, .int 0, .int 0, .int 0, .int 0, .int 0, .null, .null, .null, .null, .int 0, .null, .null, .null, .null, .int 0, .null, .int 0, .int 0])]) rfl rfl wi_X7 tyX7 tyX7_ok nmX7 rfl (by decide) kf_X7_16 rfl (tyX7_ok 7 (by decide)) rfl rfl (Nat.le_of_ble_eq_true rfl) rfl dX7_init_18 ?_
  refine z_aload_n D 0 dX7_init_21 rfl ?_
  refine z_iconst D (v := (-1)) dX7_init_22 rfl ?_
  refine g_put Cc (j := 0) (ci := 7) (N := 48) (k := 8) (T := TX7) (ty := .int) (ws' := .inr (7, mO E.2.2.1 0) :: mdT E 0) rfl rfl wi_X7 tyX7 tyX7_ok nmX7 rfl (by decide) kf_X7_19 rfl (tyX7_ok 8 (by decide)) rfl rfl (Nat.le_of_ble_eq_true rfl) rfl dX7_init_23 ?_
  refine z_aload_n D 0 dX7_init_26 rfl ?_
  refine z_bipush D (v := 8) dX7_init_27 rfl ?_
  refine g_newi Cc (N := 8) (r1 := 1) (r2 := 8) (q := E.2.2.1 + 1) (by decide) (by decide) (Nat.le_of_ble_eq_true rfl) rfl rfl (Nat.le_of_ble_eq_true rfl) (Nat.le_of_ble_eq_true rfl) (mdT_q rfl) dX7_init_29 ?_
  have D := Cc.z (n1 := 1) (n2 := 8) (Nat.le_of_ble_eq_true rfl) (Nat.le_of_ble_eq_true rfl)
  refine g_w (ws' := .inr (7, mO E.2.2.1 0) :: mdT E 1) (mdT_c rfl rfl) ?_
  refine g_putF C (j := 0) (ci := 7) (N := 48) (k := 9) (T := TX7) (ty := .array .int) (ws' := .inr (7, mO E.2.2.1 1) :: mdT E 1) rfl rfl wi_X7 tyX7 tyX7_ok nmX7 rfl (by decide) kf_X7_22 rfl rfl (tyX7_ok 9 (by decide)) rfl rfl (Nat.le_of_ble_eq_true rfl) rfl dX7_init_31 ?_
  refine z_aload_n D 0 dX7_init_34 rfl ?_
  refine z_bipush D (v := 6) dX7_init_35 rfl ?_
  refine g_newi Cc (N := 6) (r1 := 2) (r2 := 14) (q := E.2.2.1 + 2) (by decide) (by decide) (Nat.le_of_ble_eq_true rfl) rfl rfl (Nat.le_of_ble_eq_true rfl) (Nat.le_of_ble_eq_true rfl) (mdT_q rfl) dX7_init_37 ?_
  have D := Cc.z (n1 := 2) (n2 := 14) (Nat.le_of_ble_eq_true rfl) (Nat.le_of_ble_eq_true rfl)
  refine g_w (ws' := .inr (7, mO E.2.2.1 1) :: mdT E 2) (mdT_c rfl rfl) ?_
  refine g_putF C (j := 0) (ci := 7) (N := 48) (k := 10) (T := TX7) (ty := .array .int) (ws' := .inr (7, mO E.2.2.1 2) :: mdT E 2) rfl rfl wi_X7 tyX7 tyX7_ok nmX7 rfl (by decide) kf_X7_26 rfl rfl (tyX7_ok 10 (by decide)) rfl rfl (Nat.le_of_ble_eq_true rfl) rfl dX7_init_39 ?_
  refine z_aload_n D 0 dX7_init_42 rfl ?_
  refine z_bipush D (v := 6) dX7_init_43 rfl ?_
  refine g_newi Cc (N := 6) (r1 := 3) (r2 := 20) (q := E.2.2.1 + 3) (by decide) (by decide) (Nat.le_of_ble_eq_true rfl) rfl rfl (Nat.le_of_ble_eq_true rfl) (Nat.le_of_ble_eq_true rfl) (mdT_q rfl) dX7_init_45 ?_
  have D := Cc.z (n1 := 3) (n2 := 20) (Nat.le_of_ble_eq_true rfl) (Nat.le_of_ble_eq_true rfl)
  refine g_w (ws' := .inr (7, mO E.2.2.1 2) :: mdT E 3) (mdT_c rfl rfl) ?_
  refine g_putF C (j := 0) (ci := 7) (N := 48) (k := 11) (T := TX7) (ty := .array .int) (ws' := .inr (7, mO E.2.2.1 3) :: mdT E 3) rfl rfl wi_X7 tyX7 tyX7_ok nmX7 rfl (by decide) kf_X7_29 rfl rfl (tyX7_ok 11 (by decide)) rfl rfl (Nat.le_of_ble_eq_true rfl) rfl dX7_init_47 ?_
  refine z_aload_n D 0 dX7_init_50 rfl ?_
  refine z_bipush D (v := 6) dX7_init_51 rfl ?_
  refine g_newi Cc (N := 6) (r1 := 4) (r2 := 26) (q := E.2.2.1 + 4) (by decide) (by decide) (Nat.le_of_ble_eq_true rfl) rfl rfl (Nat.le_of_ble_eq_true rfl) (Nat.le_of_ble_eq_true rfl) (mdT_q rfl) dX7_init_53 ?_
  have D := Cc.z (n1 := 4) (n2 := 26) (Nat.le_of_ble_eq_true rfl) (Nat.le_of_ble_eq_true rfl)
  refine g_w (ws' := .inr (7, mO E.2.2.1 3) :: mdT E 4) (mdT_c rfl rfl) ?_
  refine g_putF C (j := 0) (ci := 7) (N := 48) (k := 12) (T := TX7) (ty := .array .int) (ws' := .inr (7, mO E.2.2.1 4) :: mdT E 4) rfl rfl wi_X7 tyX7 tyX7_ok nmX7 rfl (by decide) kf_X7_32 rfl rfl (tyX7_ok 12 (by decide)) rfl rfl (Nat.le_of_ble_eq_true rfl) rfl dX7_init_55 ?_
  refine z_aload_n D 0 dX7_init_58 rfl ?_
  refine z_bipush D (v := 6) dX7_init_59 rfl ?_
  refine g_newi Cc (N := 6) (r1 := 5) (r2 := 32) (q := E.2.2.1 + 5) (by decide) (by decide) (Nat.le_of_ble_eq_true rfl) rfl rfl (Nat.le_of_ble_eq_true rfl) (Nat.le_of_ble_eq_true rfl) (mdT_q rfl) dX7_init_61 ?_
  have D := Cc.z (n1 := 5) (n2 := 32) (Nat.le_of_ble_eq_true rfl) (Nat.le_of_ble_eq_true rfl)
  refine g_w (ws' := .inr (7, mO E.2.2.1 4) :: mdT E 5) (mdT_c rfl rfl) ?_
  refine g_putF C (j := 0) (ci := 7) (N := 48) (k := 13) (T := TX7) (ty := .array .int) (ws' := .inr (7, mO E.2.2.1 5) :: mdT E 5) rfl rfl wi_X7 tyX7 tyX7_ok nmX7 rfl (by decide) kf_X7_35 rfl rfl (tyX7_ok 13 (by decide)) rfl rfl (Nat.le_of_ble_eq_true rfl) rfl dX7_init_63 ?_
  refine z_aload_n D 0 dX7_init_66 rfl ?_
  refine z_bipush D (v := 6) dX7_init_67 rfl ?_
  refine g_newi Cc (N := 6) (r1 := 6) (r2 := 38) (q := E.2.2.1 + 6) (by decide) (by decide) (Nat.le_of_ble_eq_true rfl) rfl rfl (Nat.le_of_ble_eq_true rfl) (Nat.le_of_ble_eq_true rfl) (mdT_q rfl) dX7_init_69 ?_
  have D := Cc.z (n1 := 6) (n2 := 38) (Nat.le_of_ble_eq_true rfl) (Nat.le_of_ble_eq_true rfl)
  refine g_w (ws' := .inr (7, mO E.2.2.1 5) :: mdT E 6) (mdT_c rfl rfl) ?_
  refine g_putF C (j := 0) (ci := 7) (N := 48) (k := 14) (T := TX7) (ty := .array .int) (ws' := .inr (7, mO E.2.2.1 6) :: mdT E 6) rfl rfl wi_X7 tyX7 tyX7_ok nmX7 rfl (by decide) kf_X7_38 rfl rfl (tyX7_ok 14 (by decide)) rfl rfl (Nat.le_of_ble_eq_true rfl) rfl dX7_init_71 ?_
  refine z_aload_n D 0 dX7_init_74 rfl ?_
  refine z_bipush D (v := 6) dX7_init_75 rfl ?_
  refine g_newi Cc (N := 6) (r1 := 7) (r2 := 44) (q := E.2.2.1 + 7) (by decide) (by decide) (Nat.le_of_ble_eq_true rfl) rfl rfl (Nat.le_of_ble_eq_true rfl) (Nat.le_of_ble_eq_true rfl) (mdT_q rfl) dX7_init_77 ?_
  have D := Cc.z (n1 := 7) (n2 := 44) (Nat.le_of_ble_eq_true rfl) (Nat.le_of_ble_eq_true rfl)
  refine g_w (ws' := .inr (7, mO E.2.2.1 6) :: mdT E 7) (mdT_c rfl rfl) ?_
  refine g_putF C (j := 0) (ci := 7) (N := 48) (k := 15) (T := TX7) (ty := .array .int) (ws' := .inr (7, mO E.2.2.1 7) :: mdT E 7) rfl rfl wi_X7 tyX7 tyX7_ok nmX7 rfl (by decide) kf_X7_41 rfl rfl (tyX7_ok 15 (by decide)) rfl rfl (Nat.le_of_ble_eq_true rfl) rfl dX7_init_79 ?_
  refine z_aload_n D 0 dX7_init_82 rfl ?_
  refine z_bipush D (v := 6) dX7_init_83 rfl ?_
  refine g_newi Cc (N := 6) (r1 := 8) (r2 := 50) (q := E.2.2.1 + 8) (by decide) (by decide) (Nat.le_of_ble_eq_true rfl) rfl rfl (Nat.le_of_ble_eq_true rfl) (Nat.le_of_ble_eq_true rfl) (mdT_q rfl) dX7_init_85 ?_
  have D := Cc.z (n1 := 8) (n2 := 50) (Nat.le_of_ble_eq_true rfl) (Nat.le_of_ble_eq_true rfl)
  refine g_w (ws' := .inr (7, mO E.2.2.1 7) :: mdT E 8) (mdT_c rfl rfl) ?_
  refine g_putF C (j := 0) (ci := 7) (N := 48) (k := 16) (T := TX7) (ty := .array .int) (ws' := .inr (7, mO E.2.2.1 8) :: mdT E 8) rfl rfl wi_X7 tyX7 tyX7_ok nmX7 rfl (by decide) kf_X7_44 rfl rfl (tyX7_ok 16 (by decide)) rfl rfl (Nat.le_of_ble_eq_true rfl) rfl dX7_init_87 ?_
  refine z_aload_n D 0 dX7_init_90 rfl ?_
  refine z_bipush D (v := 6) dX7_init_91 rfl ?_
  refine g_newi Cc (N := 6) (r1 := 9) (r2 := 56) (q := E.2.2.1 + 9) (by decide) (by decide) (Nat.le_of_ble_eq_true rfl) rfl rfl (Nat.le_of_ble_eq_true rfl) (Nat.le_of_ble_eq_true rfl) (mdT_q rfl) dX7_init_93 ?_
  have D := Cc.z (n1 := 9) (n2 := 56) (Nat.le_of_ble_eq_true rfl) (Nat.le_of_ble_eq_true rfl)
  refine g_w (ws' := .inr (7, mO E.2.2.1 8) :: mdT E 9) (mdT_c rfl rfl) ?_
  refine g_putF C (j := 0) (ci := 7) (N := 48) (k := 17) (T := TX7) (ty := .array .int) (ws' := .inr (7, mO E.2.2.1 9) :: mdT E 9) rfl rfl wi_X7 tyX7 tyX7_ok nmX7 rfl (by decide) kf_X7_47 rfl rfl (tyX7_ok 17 (by decide)) rfl rfl (Nat.le_of_ble_eq_true rfl) rfl dX7_init_95 ?_
  refine z_aload_n D 0 dX7_init_98 rfl ?_
  refine z_bipush D (v := 6) dX7_init_99 rfl ?_
  refine g_newi Cc (N := 6) (r1 := 10) (r2 := 62) (q := E.2.2.1 + 10) (by decide) (by decide) (Nat.le_of_ble_eq_true rfl) rfl rfl (Nat.le_of_ble_eq_true rfl) (Nat.le_of_ble_eq_true rfl) (mdT_q rfl) dX7_init_101 ?_
  have D := Cc.z (n1 := 10) (n2 := 62) (Nat.le_of_ble_eq_true rfl) (Nat.le_of_ble_eq_true rfl)
  refine g_w (ws' := .inr (7, mO E.2.2.1 9) :: mdT E 10) (mdT_c rfl rfl) ?_
  refine g_putF C (j := 0) (ci := 7) (N := 48) (k := 18) (T := TX7) (ty := .array .int) (ws' := .inr (7, mO E.2.2.1 10) :: mdT E 10) rfl rfl wi_X7 tyX7 tyX7_ok nmX7 rfl (by decide) kf_X7_50 rfl rfl (tyX7_ok 18 (by decide)) rfl rfl (Nat.le_of_ble_eq_true rfl) rfl dX7_init_103 ?_
  refine z_aload_n D 0 dX7_init_106 rfl ?_
  refine z_bipush D (v := 6) dX7_init_107 rfl ?_
  refine g_newi Cc (N := 6) (r1 := 11) (r2 := 68) (q := E.2.2.1 + 11) (by decide) (by decide) (Nat.le_of_ble_eq_true rfl) rfl rfl (Nat.le_of_ble_eq_true rfl) (Nat.le_of_ble_eq_true rfl) (mdT_q rfl) dX7_init_109 ?_
  have D := Cc.z (n1 := 11) (n2 := 68) (Nat.le_of_ble_eq_true rfl) (Nat.le_of_ble_eq_true rfl)
  refine g_w (ws' := .inr (7, mO E.2.2.1 10) :: mdT E 11) (mdT_c rfl rfl) ?_
  refine g_putF C (j := 0) (ci := 7) (N := 48) (k := 19) (T := TX7) (ty := .array .int) (ws' := .inr (7, mO E.2.2.1 11) :: mdT E 11) rfl rfl wi_X7 tyX7 tyX7_ok nmX7 rfl (by decide) kf_X7_53 rfl rfl (tyX7_ok 19 (by decide)) rfl rfl (Nat.le_of_ble_eq_true rfl) rfl dX7_init_111 ?_
  refine z_aload_n D 0 dX7_init_114 rfl ?_
  refine z_bipush D (v := 6) dX7_init_115 rfl ?_
  refine g_newi Cc (N := 6) (r1 := 12) (r2 := 74) (q := E.2.2.1 + 12) (by decide) (by decide) (Nat.le_of_ble_eq_true rfl) rfl rfl (Nat.le_of_ble_eq_true rfl) (Nat.le_of_ble_eq_true rfl) (mdT_q rfl) dX7_init_117 ?_
  have D := Cc.z (n1 := 12) (n2 := 74) (Nat.le_of_ble_eq_true rfl) (Nat.le_of_ble_eq_true rfl)
  refine g_w (ws' := .inr (7, mO E.2.2.1 11) :: mdT E 12) (mdT_c rfl rfl) ?_
  refine g_putF C (j := 0) (ci := 7) (N := 48) (k := 20) (T := TX7) (ty := .array .int) (ws' := .inr (7, mO E.2.2.1 12) :: mdT E 12) rfl rfl wi_X7 tyX7 tyX7_ok nmX7 rfl (by decide) kf_X7_56 rfl rfl (tyX7_ok 20 (by decide)) rfl rfl (Nat.le_of_ble_eq_true rfl) rfl dX7_init_119 ?_
  refine z_aload_n D 0 dX7_init_122 rfl ?_
  refine z_bipush D (v := 8) dX7_init_123 rfl ?_
  refine g_newi Cc (N := 8) (r1 := 13) (r2 := 82) (q := E.2.2.1 + 13) (by decide) (by decide) (Nat.le_of_ble_eq_true rfl) rfl rfl (Nat.le_of_ble_eq_true rfl) (Nat.le_of_ble_eq_true rfl) (mdT_q rfl) dX7_init_125 ?_
  have D := Cc.z (n1 := 13) (n2 := 82) (Nat.le_of_ble_eq_true rfl) (Nat.le_of_ble_eq_true rfl)
  refine g_w (ws' := .inr (7, mO E.2.2.1 12) :: mdT E 13) (mdT_c rfl rfl) ?_
  refine g_putF C (j := 0) (ci := 7) (N := 48) (k := 21) (T := TX7) (ty := .array .int) (ws' := .inr (7, mO E.2.2.1 13) :: mdT E 13) rfl rfl wi_X7 tyX7 tyX7_ok nmX7 rfl (by decide) kf_X7_59 rfl rfl (tyX7_ok 21 (by decide)) rfl rfl (Nat.le_of_ble_eq_true rfl) rfl dX7_init_127 ?_
  refine z_aload_n D 0 dX7_init_130 rfl ?_
  refine z_bipush D (v := 8) dX7_init_131 rfl ?_
  refine g_newi Cc (N := 8) (r1 := 14) (r2 := 90) (q := E.2.2.1 + 14) (by decide) (by decide) (Nat.le_of_ble_eq_true rfl) rfl rfl (Nat.le_of_ble_eq_true rfl) (Nat.le_of_ble_eq_true rfl) (mdT_q rfl) dX7_init_133 ?_
  have D := Cc.z (n1 := 14) (n2 := 90) (Nat.le_of_ble_eq_true rfl) (Nat.le_of_ble_eq_true rfl)
  refine g_w (ws' := .inr (7, mO E.2.2.1 13) :: mdT E 14) (mdT_c rfl rfl) ?_
  refine g_putF C (j := 0) (ci := 7) (N := 48) (k := 22) (T := TX7) (ty := .array .int) (ws' := .inr (7, mO E.2.2.1 14) :: mdT E 14) rfl rfl wi_X7 tyX7 tyX7_ok nmX7 rfl (by decide) kf_X7_62 rfl rfl (tyX7_ok 22 (by decide)) rfl rfl (Nat.le_of_ble_eq_true rfl) rfl dX7_init_135 ?_
  refine z_aload_n D 0 dX7_init_138 rfl ?_
  refine z_bipush D (v := 8) dX7_init_139 rfl ?_
  refine g_newi Cc (N := 8) (r1 := 15) (r2 := 98) (q := E.2.2.1 + 15) (by decide) (by decide) (Nat.le_of_ble_eq_true rfl) rfl rfl (Nat.le_of_ble_eq_true rfl) (Nat.le_of_ble_eq_true rfl) (mdT_q rfl) dX7_init_141 ?_
  have D := Cc.z (n1 := 15) (n2 := 98) (Nat.le_of_ble_eq_true rfl) (Nat.le_of_ble_eq_true rfl)
  refine g_w (ws' := .inr (7, mO E.2.2.1 14) :: mdT E 15) (mdT_c rfl rfl) ?_
  refine g_putF C (j := 0) (ci := 7) (N := 48) (k := 23) (T := TX7) (ty := .array .int) (ws' := .inr (7, mO E.2.2.1 15) :: mdT E 15) rfl rfl wi_X7 tyX7 tyX7_ok nmX7 rfl (by decide) kf_X7_65 rfl rfl (tyX7_ok 23 (by decide)) rfl rfl (Nat.le_of_ble_eq_true rfl) rfl dX7_init_143 ?_
  refine z_aload_n D 0 dX7_init_146 rfl ?_
  refine z_bipush D (v := 8) dX7_init_147 rfl ?_
  refine g_newi Cc (N := 8) (r1 := 16) (r2 := 106) (q := E.2.2.1 + 16) (by decide) (by decide) (Nat.le_of_ble_eq_true rfl) rfl rfl (Nat.le_of_ble_eq_true rfl) (Nat.le_of_ble_eq_true rfl) (mdT_q rfl) dX7_init_149 ?_
  have D := Cc.z (n1 := 16) (n2 := 106) (Nat.le_of_ble_eq_true rfl) (Nat.le_of_ble_eq_true rfl)
  refine g_w (ws' := .inr (7, mO E.2.2.1 15) :: mdT E 16) (mdT_c rfl rfl) ?_
  refine g_putF C (j := 0) (ci := 7) (N := 48) (k := 24) (T := TX7) (ty := .array .int) (ws' := .inr (7, mO E.2.2.1 16) :: mdT E 16) rfl rfl wi_X7 tyX7 tyX7_ok nmX7 rfl (by decide) kf_X7_68 rfl rfl (tyX7_ok 24 (by decide)) rfl rfl (Nat.le_of_ble_eq_true rfl) rfl dX7_init_151 ?_
  refine z_aload_n D 0 dX7_init_154 rfl ?_
  refine z_sipush D (v := 1280) dX7_init_155 rfl ?_
  refine g_newl Cc (N := 1280) (r1 := 17) (r2 := 1386) (q := E.2.2.1 + 17) (by decide) (by decide) (Nat.le_of_ble_eq_true rfl) rfl rfl (Nat.le_of_ble_eq_true rfl) (Nat.le_of_ble_eq_true rfl) (mdT_q rfl) dX7_init_158 ?_
  have D := Cc.z (n1 := 17) (n2 := 1386) (Nat.le_of_ble_eq_true rfl) (Nat.le_of_ble_eq_true rfl)
  refine g_w (ws' := .inr (7, mO E.2.2.1 16) :: mdT E 17) (mdT_c rfl rfl) ?_
  refine g_putF C (j := 0) (ci := 7) (N := 48) (k := 25) (T := TX7) (ty := .array .long) (ws' := .inr (7, mO E.2.2.1 17) :: mdT E 17) rfl rfl wi_X7 tyX7 tyX7_ok nmX7 rfl (by decide) kf_X7_71 rfl rfl (tyX7_ok 25 (by decide)) rfl rfl (Nat.le_of_ble_eq_true rfl) rfl dX7_init_160 ?_
  refine z_aload_n D 0 dX7_init_163 rfl ?_
  refine z_sipush D (v := 160) dX7_init_164 rfl ?_
  refine g_newl Cc (N := 160) (r1 := 18) (r2 := 1546) (q := E.2.2.1 + 18) (by decide) (by decide) (Nat.le_of_ble_eq_true rfl) rfl rfl (Nat.le_of_ble_eq_true rfl) (Nat.le_of_ble_eq_true rfl) (mdT_q rfl) dX7_init_167 ?_
  have D := Cc.z (n1 := 18) (n2 := 1546) (Nat.le_of_ble_eq_true rfl) (Nat.le_of_ble_eq_true rfl)
  refine g_w (ws' := .inr (7, mO E.2.2.1 17) :: mdT E 18) (mdT_c rfl rfl) ?_
  refine g_putF C (j := 0) (ci := 7) (N := 48) (k := 26) (T := TX7) (ty := .array .long) (ws' := .inr (7, mO E.2.2.1 18) :: mdT E 18) rfl rfl wi_X7 tyX7 tyX7_ok nmX7 rfl (by decide) kf_X7_75 rfl rfl (tyX7_ok 26 (by decide)) rfl rfl (Nat.le_of_ble_eq_true rfl) rfl dX7_init_169 ?_
  refine z_aload_n D 0 dX7_init_172 rfl ?_
  refine z_bipush D (v := 51) dX7_init_173 rfl ?_
  refine g_newi Cc (N := 51) (r1 := 19) (r2 := 1597) (q := E.2.2.1 + 19) (by decide) (by decide) (Nat.le_of_ble_eq_true rfl) rfl rfl (Nat.le_of_ble_eq_true rfl) (Nat.le_of_ble_eq_true rfl) (mdT_q rfl) dX7_init_175 ?_
  have D := Cc.z (n1 := 19) (n2 := 1597) (Nat.le_of_ble_eq_true rfl) (Nat.le_of_ble_eq_true rfl)
  refine z_dup D dX7_init_177 rfl ?_
  refine z_iconst D (v := 0) dX7_init_178 rfl ?_
  refine z_bipush D (v := 115) dX7_init_179 rfl ?_
  refine g_iast Cc 0 (mdT_q rfl) rfl (by decide) (by decide) dX7_init_181 ?_
  refine z_dup D dX7_init_182 rfl ?_
  refine z_iconst D (v := 1) dX7_init_183 rfl ?_
  refine z_bipush D (v := 104) dX7_init_184 rfl ?_
  refine g_iast Cc 1 (mdT_q rfl) rfl (by decide) (by decide) dX7_init_186 ?_
  refine z_dup D dX7_init_187 rfl ?_
  refine z_iconst D (v := 2) dX7_init_188 rfl ?_
  refine z_bipush D (v := 111) dX7_init_189 rfl ?_
  refine g_iast Cc 2 (mdT_q rfl) rfl (by decide) (by decide) dX7_init_191 ?_
  refine z_dup D dX7_init_192 rfl ?_
  refine z_iconst D (v := 3) dX7_init_193 rfl ?_
  refine z_bipush D (v := 112) dX7_init_194 rfl ?_
  refine g_iast Cc 3 (mdT_q rfl) rfl (by decide) (by decide) dX7_init_196 ?_
  refine z_dup D dX7_init_197 rfl ?_
  refine z_iconst D (v := 4) dX7_init_198 rfl ?_
  refine z_bipush D (v := 32) dX7_init_199 rfl ?_
  refine g_iast Cc 4 (mdT_q rfl) rfl (by decide) (by decide) dX7_init_201 ?_
  refine z_dup D dX7_init_202 rfl ?_
  refine z_iconst D (v := 5) dX7_init_203 rfl ?_
  refine z_iconst D (v := 0) dX7_init_204 rfl ?_
  refine g_iast Cc 5 (mdT_q rfl) rfl (by decide) (by decide) dX7_init_205 ?_
  refine z_dup D dX7_init_206 rfl ?_
  refine z_bipush D (v := 6) dX7_init_207 rfl ?_
  refine z_bipush D (v := 99) dX7_init_209 rfl ?_
  refine g_iast Cc 6 (mdT_q rfl) rfl (by decide) (by decide) dX7_init_211 ?_
  refine z_dup D dX7_init_212 rfl ?_
  refine z_bipush D (v := 7) dX7_init_213 rfl ?_
  refine z_bipush D (v := 104) dX7_init_215 rfl ?_
  refine g_iast Cc 7 (mdT_q rfl) rfl (by decide) (by decide) dX7_init_217 ?_
  refine z_dup D dX7_init_218 rfl ?_
  refine z_bipush D (v := 8) dX7_init_219 rfl ?_
  refine z_bipush D (v := 105) dX7_init_221 rfl ?_
  refine g_iast Cc 8 (mdT_q rfl) rfl (by decide) (by decide) dX7_init_223 ?_
  refine z_dup D dX7_init_224 rfl ?_
  refine z_bipush D (v := 9) dX7_init_225 rfl ?_
  refine z_bipush D (v := 108) dX7_init_227 rfl ?_
  refine g_iast Cc 9 (mdT_q rfl) rfl (by decide) (by decide) dX7_init_229 ?_
  refine z_dup D dX7_init_230 rfl ?_
  refine z_bipush D (v := 10) dX7_init_231 rfl ?_
  refine z_bipush D (v := 100) dX7_init_233 rfl ?_
  refine g_iast Cc 10 (mdT_q rfl) rfl (by decide) (by decide) dX7_init_235 ?_
  refine z_dup D dX7_init_236 rfl ?_
  refine z_bipush D (v := 11) dX7_init_237 rfl ?_
  refine z_bipush D (v := 32) dX7_init_239 rfl ?_
  refine g_iast Cc 11 (mdT_q rfl) rfl (by decide) (by decide) dX7_init_241 ?_
  refine z_dup D dX7_init_242 rfl ?_
  refine z_bipush D (v := 12) dX7_init_243 rfl ?_
  refine z_iconst D (v := 0) dX7_init_245 rfl ?_
  refine g_iast Cc 12 (mdT_q rfl) rfl (by decide) (by decide) dX7_init_246 ?_
  refine z_dup D dX7_init_247 rfl ?_
  refine z_bipush D (v := 13) dX7_init_248 rfl ?_
  refine z_bipush D (v := 102) dX7_init_250 rfl ?_
  refine g_iast Cc 13 (mdT_q rfl) rfl (by decide) (by decide) dX7_init_252 ?_
  refine z_dup D dX7_init_253 rfl ?_
  refine z_bipush D (v := 14) dX7_init_254 rfl ?_
  refine z_bipush D (v := 101) dX7_init_256 rfl ?_
  refine g_iast Cc 14 (mdT_q rfl) rfl (by decide) (by decide) dX7_init_258 ?_
  refine z_dup D dX7_init_259 rfl ?_
  refine z_bipush D (v := 15) dX7_init_260 rfl ?_
  refine z_bipush D (v := 97) dX7_init_262 rfl ?_
  refine g_iast Cc 15 (mdT_q rfl) rfl (by decide) (by decide) dX7_init_264 ?_
  refine z_dup D dX7_init_265 rfl ?_
  refine z_bipush D (v := 16) dX7_init_266 rfl ?_
  refine z_bipush D (v := 116) dX7_init_268 rfl ?_
  refine g_iast Cc 16 (mdT_q rfl) rfl (by decide) (by decide) dX7_init_270 ?_
  refine z_dup D dX7_init_271 rfl ?_
  refine z_bipush D (v := 17) dX7_init_272 rfl ?_
  refine z_bipush D (v := 104) dX7_init_274 rfl ?_
  refine g_iast Cc 17 (mdT_q rfl) rfl (by decide) (by decide) dX7_init_276 ?_
  refine z_dup D dX7_init_277 rfl ?_
  refine z_bipush D (v := 18) dX7_init_278 rfl ?_
  refine z_bipush D (v := 101) dX7_init_280 rfl ?_
  refine g_iast Cc 18 (mdT_q rfl) rfl (by decide) (by decide) dX7_init_282 ?_
  refine z_dup D dX7_init_283 rfl ?_
  refine z_bipush D (v := 19) dX7_init_284 rfl ?_
  refine z_bipush D (v := 114) dX7_init_286 rfl ?_
  refine g_iast Cc 19 (mdT_q rfl) rfl (by decide) (by decide) dX7_init_288 ?_
  refine z_dup D dX7_init_289 rfl ?_
  refine z_bipush D (v := 20) dX7_init_290 rfl ?_
  refine z_bipush D (v := 115) dX7_init_292 rfl ?_
  refine g_iast Cc 20 (mdT_q rfl) rfl (by decide) (by decide) dX7_init_294 ?_
  refine z_dup D dX7_init_295 rfl ?_
  refine z_bipush D (v := 21) dX7_init_296 rfl ?_
  refine z_bipush D (v := 32) dX7_init_298 rfl ?_
  refine g_iast Cc 21 (mdT_q rfl) rfl (by decide) (by decide) dX7_init_300 ?_
  refine z_dup D dX7_init_301 rfl ?_
  refine z_bipush D (v := 22) dX7_init_302 rfl ?_
  refine z_iconst D (v := 0) dX7_init_304 rfl ?_
  refine g_iast Cc 22 (mdT_q rfl) rfl (by decide) (by decide) dX7_init_305 ?_
  refine z_dup D dX7_init_306 rfl ?_
  refine z_bipush D (v := 23) dX7_init_307 rfl ?_
  refine z_bipush D (v := 107) dX7_init_309 rfl ?_
  refine g_iast Cc 23 (mdT_q rfl) rfl (by decide) (by decide) dX7_init_311 ?_
  refine z_dup D dX7_init_312 rfl ?_
  refine z_bipush D (v := 24) dX7_init_313 rfl ?_
  refine z_bipush D (v := 101) dX7_init_315 rfl ?_
  refine g_iast Cc 24 (mdT_q rfl) rfl (by decide) (by decide) dX7_init_317 ?_
  refine z_dup D dX7_init_318 rfl ?_
  refine z_bipush D (v := 25) dX7_init_319 rfl ?_
  refine z_bipush D (v := 101) dX7_init_321 rfl ?_
  refine g_iast Cc 25 (mdT_q rfl) rfl (by decide) (by decide) dX7_init_323 ?_
  refine z_dup D dX7_init_324 rfl ?_
  refine z_bipush D (v := 26) dX7_init_325 rfl ?_
  refine z_bipush D (v := 112) dX7_init_327 rfl ?_
  refine g_iast Cc 26 (mdT_q rfl) rfl (by decide) (by decide) dX7_init_329 ?_
  refine z_dup D dX7_init_330 rfl ?_
  refine z_bipush D (v := 27) dX7_init_331 rfl ?_
  refine z_bipush D (v := 115) dX7_init_333 rfl ?_
  refine g_iast Cc 27 (mdT_q rfl) rfl (by decide) (by decide) dX7_init_335 ?_
  refine z_dup D dX7_init_336 rfl ?_
  refine z_bipush D (v := 28) dX7_init_337 rfl ?_
  refine z_bipush D (v := 32) dX7_init_339 rfl ?_
  refine g_iast Cc 28 (mdT_q rfl) rfl (by decide) (by decide) dX7_init_341 ?_
  refine z_dup D dX7_init_342 rfl ?_
  refine z_bipush D (v := 29) dX7_init_343 rfl ?_
  refine z_iconst D (v := 0) dX7_init_345 rfl ?_
  refine g_iast Cc 29 (mdT_q rfl) rfl (by decide) (by decide) dX7_init_346 ?_
  refine z_dup D dX7_init_347 rfl ?_
  refine z_bipush D (v := 30) dX7_init_348 rfl ?_
  refine z_bipush D (v := 105) dX7_init_350 rfl ?_
  refine g_iast Cc 30 (mdT_q rfl) rfl (by decide) (by decide) dX7_init_352 ?_
  refine z_dup D dX7_init_353 rfl ?_
  refine z_bipush D (v := 31) dX7_init_354 rfl ?_
  refine z_bipush D (v := 110) dX7_init_356 rfl ?_
  refine g_iast Cc 31 (mdT_q rfl) rfl (by decide) (by decide) dX7_init_358 ?_
  refine z_dup D dX7_init_359 rfl ?_
  refine z_bipush D (v := 32) dX7_init_360 rfl ?_
  refine z_bipush D (v := 107) dX7_init_362 rfl ?_
  refine g_iast Cc 32 (mdT_q rfl) rfl (by decide) (by decide) dX7_init_364 ?_
  refine z_dup D dX7_init_365 rfl ?_
  refine z_bipush D (v := 33) dX7_init_366 rfl ?_
  refine z_bipush D (v := 32) dX7_init_368 rfl ?_
  refine g_iast Cc 33 (mdT_q rfl) rfl (by decide) (by decide) dX7_init_370 ?_
  refine z_dup D dX7_init_371 rfl ?_
  refine z_bipush D (v := 34) dX7_init_372 rfl ?_
  refine z_iconst D (v := 0) dX7_init_374 rfl ?_
  refine g_iast Cc 34 (mdT_q rfl) rfl (by decide) (by decide) dX7_init_375 ?_
  refine z_dup D dX7_init_376 rfl ?_
  refine z_bipush D (v := 35) dX7_init_377 rfl ?_
  refine z_bipush D (v := 116) dX7_init_379 rfl ?_
  refine g_iast Cc 35 (mdT_q rfl) rfl (by decide) (by decide) dX7_init_381 ?_
  refine z_dup D dX7_init_382 rfl ?_
  refine z_bipush D (v := 36) dX7_init_383 rfl ?_
  refine z_bipush D (v := 114) dX7_init_385 rfl ?_
  refine g_iast Cc 36 (mdT_q rfl) rfl (by decide) (by decide) dX7_init_387 ?_
  refine z_dup D dX7_init_388 rfl ?_
  refine z_bipush D (v := 37) dX7_init_389 rfl ?_
  refine z_bipush D (v := 101) dX7_init_391 rfl ?_
  refine g_iast Cc 37 (mdT_q rfl) rfl (by decide) (by decide) dX7_init_393 ?_
  refine z_dup D dX7_init_394 rfl ?_
  refine z_bipush D (v := 38) dX7_init_395 rfl ?_
  refine z_bipush D (v := 101) dX7_init_397 rfl ?_
  refine g_iast Cc 38 (mdT_q rfl) rfl (by decide) (by decide) dX7_init_399 ?_
  refine z_dup D dX7_init_400 rfl ?_
  refine z_bipush D (v := 39) dX7_init_401 rfl ?_
  refine z_bipush D (v := 32) dX7_init_403 rfl ?_
  refine g_iast Cc 39 (mdT_q rfl) rfl (by decide) (by decide) dX7_init_405 ?_
  refine z_dup D dX7_init_406 rfl ?_
  refine z_bipush D (v := 40) dX7_init_407 rfl ?_
  refine z_iconst D (v := 0) dX7_init_409 rfl ?_
  refine g_iast Cc 40 (mdT_q rfl) rfl (by decide) (by decide) dX7_init_410 ?_
  refine z_dup D dX7_init_411 rfl ?_
  refine z_bipush D (v := 41) dX7_init_412 rfl ?_
  refine z_bipush D (v := 100) dX7_init_414 rfl ?_
  refine g_iast Cc 41 (mdT_q rfl) rfl (by decide) (by decide) dX7_init_416 ?_
  refine z_dup D dX7_init_417 rfl ?_
  refine z_bipush D (v := 42) dX7_init_418 rfl ?_
  refine z_bipush D (v := 111) dX7_init_420 rfl ?_
  refine g_iast Cc 42 (mdT_q rfl) rfl (by decide) (by decide) dX7_init_422 ?_
  refine z_dup D dX7_init_423 rfl ?_
  refine z_bipush D (v := 43) dX7_init_424 rfl ?_
  refine z_bipush D (v := 32) dX7_init_426 rfl ?_
  refine g_iast Cc 43 (mdT_q rfl) rfl (by decide) (by decide) dX7_init_428 ?_
  refine z_dup D dX7_init_429 rfl ?_
  refine z_bipush D (v := 44) dX7_init_430 rfl ?_
  refine z_iconst D (v := 0) dX7_init_432 rfl ?_
  refine g_iast Cc 44 (mdT_q rfl) rfl (by decide) (by decide) dX7_init_433 ?_
  refine z_dup D dX7_init_434 rfl ?_
  refine z_bipush D (v := 45) dX7_init_435 rfl ?_
  refine z_bipush D (v := 110) dX7_init_437 rfl ?_
  refine g_iast Cc 45 (mdT_q rfl) rfl (by decide) (by decide) dX7_init_439 ?_
  refine z_dup D dX7_init_440 rfl ?_
  refine z_bipush D (v := 46) dX7_init_441 rfl ?_
  refine z_bipush D (v := 105) dX7_init_443 rfl ?_
  refine g_iast Cc 46 (mdT_q rfl) rfl (by decide) (by decide) dX7_init_445 ?_
  refine z_dup D dX7_init_446 rfl ?_
  refine z_bipush D (v := 47) dX7_init_447 rfl ?_
  refine z_bipush D (v := 103) dX7_init_449 rfl ?_
  refine g_iast Cc 47 (mdT_q rfl) rfl (by decide) (by decide) dX7_init_451 ?_
  refine z_dup D dX7_init_452 rfl ?_
  refine z_bipush D (v := 48) dX7_init_453 rfl ?_
  refine z_bipush D (v := 104) dX7_init_455 rfl ?_
  refine g_iast Cc 48 (mdT_q rfl) rfl (by decide) (by decide) dX7_init_457 ?_
  refine z_dup D dX7_init_458 rfl ?_
  refine z_bipush D (v := 49) dX7_init_459 rfl ?_
  refine z_bipush D (v := 116) dX7_init_461 rfl ?_
  refine g_iast Cc 49 (mdT_q rfl) rfl (by decide) (by decide) dX7_init_463 ?_
  refine z_dup D dX7_init_464 rfl ?_
  refine z_bipush D (v := 50) dX7_init_465 rfl ?_
  refine z_iconst D (v := 0) dX7_init_467 rfl ?_
  refine g_iast Cc 50 (mdT_q rfl) rfl (by decide) (by decide) dX7_init_468 ?_
  refine z_mono (fun H => gP.eqiL (f' := fun i => wrd.getD i 0) (by decide +kernel)) ?_
  refine g_w (ws' := .inr (7, mO E.2.2.1 18) :: mdT E 19) (mdT_c rfl rfl) ?_
  refine g_putF C (j := 0) (ci := 7) (N := 48) (k := 27) (T := TX7) (ty := .array .int) (ws' := .inr (7, mO E.2.2.1 19) :: mdT E 19) rfl rfl wi_X7 tyX7 tyX7_ok nmX7 rfl (by decide) kf_X7_78 rfl rfl (tyX7_ok 27 (by decide)) rfl rfl (Nat.le_of_ble_eq_true rfl) rfl dX7_init_469 ?_
  refine z_aload_n D 0 dX7_init_472 rfl ?_
  refine z_bipush D (v := 8) dX7_init_473 rfl ?_
  refine g_newi Cc (N := 8) (r1 := 20) (r2 := 1605) (q := E.2.2.1 + 20) (by decide) (by decide) (Nat.le_of_ble_eq_true rfl) rfl rfl (Nat.le_of_ble_eq_true rfl) (Nat.le_of_ble_eq_true rfl) (mdT_q rfl) dX7_init_475 ?_
  have D := Cc.z (n1 := 20) (n2 := 1605) (Nat.le_of_ble_eq_true rfl) (Nat.le_of_ble_eq_true rfl)
  refine z_dup D dX7_init_477 rfl ?_
  refine z_iconst D (v := 0) dX7_init_478 rfl ?_
  refine z_iconst D (v := 3) dX7_init_479 rfl ?_
  refine g_iast Cc 0 (mdT_q rfl) rfl (by decide) (by decide) dX7_init_480 ?_
  refine z_dup D dX7_init_481 rfl ?_
  refine z_iconst D (v := 1) dX7_init_482 rfl ?_
  refine z_iconst D (v := 2) dX7_init_483 rfl ?_
  refine g_iast Cc 1 (mdT_q rfl) rfl (by decide) (by decide) dX7_init_484 ?_
  refine z_dup D dX7_init_485 rfl ?_
  refine z_iconst D (v := 2) dX7_init_486 rfl ?_
  refine z_iconst D (v := 2) dX7_init_487 rfl ?_
  refine g_iast Cc 2 (mdT_q rfl) rfl (by decide) (by decide) dX7_init_488 ?_
  refine z_dup D dX7_init_489 rfl ?_
  refine z_iconst D (v := 3) dX7_init_490 rfl ?_
  refine z_iconst D (v := 2) dX7_init_491 rfl ?_
  refine g_iast Cc 3 (mdT_q rfl) rfl (by decide) (by decide) dX7_init_492 ?_
  refine z_dup D dX7_init_493 rfl ?_
  refine z_iconst D (v := 4) dX7_init_494 rfl ?_
  refine z_iconst D (v := 1) dX7_init_495 rfl ?_
  refine g_iast Cc 4 (mdT_q rfl) rfl (by decide) (by decide) dX7_init_496 ?_
  refine z_dup D dX7_init_497 rfl ?_
  refine z_iconst D (v := 5) dX7_init_498 rfl ?_
  refine z_iconst D (v := 1) dX7_init_499 rfl ?_
  refine g_iast Cc 5 (mdT_q rfl) rfl (by decide) (by decide) dX7_init_500 ?_
  refine z_dup D dX7_init_501 rfl ?_
  refine z_bipush D (v := 6) dX7_init_502 rfl ?_
  refine z_iconst D (v := 2) dX7_init_504 rfl ?_
  refine g_iast Cc 6 (mdT_q rfl) rfl (by decide) (by decide) dX7_init_505 ?_
  refine z_dup D dX7_init_506 rfl ?_
  refine z_bipush D (v := 7) dX7_init_507 rfl ?_
  refine z_iconst D (v := 0) dX7_init_509 rfl ?_
  refine g_iast Cc 7 (mdT_q rfl) rfl (by decide) (by decide) dX7_init_510 ?_
  refine z_mono (fun H => gP.eqiL (f' := fun i => nms.getD i 0) (by decide +kernel)) ?_
  refine g_w (ws' := .inr (7, mO E.2.2.1 19) :: mdT E 20) (mdT_c rfl rfl) ?_
  refine g_putF C (j := 0) (ci := 7) (N := 48) (k := 28) (T := TX7) (ty := .array .int) (ws' := .inr (7, mO E.2.2.1 20) :: mdT E 20) rfl rfl wi_X7 tyX7 tyX7_ok nmX7 rfl (by decide) kf_X7_81 rfl rfl (tyX7_ok 28 (by decide)) rfl rfl (Nat.le_of_ble_eq_true rfl) rfl dX7_init_511 ?_
  refine z_aload_n D 0 dX7_init_514 rfl ?_
  refine z_iconst D (v := 3) dX7_init_515 rfl ?_
  refine g_newi Cc (N := 3) (r1 := 21) (r2 := 1608) (q := E.2.2.1 + 21) (by decide) (by decide) (Nat.le_of_ble_eq_true rfl) rfl rfl (Nat.le_of_ble_eq_true rfl) (Nat.le_of_ble_eq_true rfl) (mdT_q rfl) dX7_init_516 ?_
  have D := Cc.z (n1 := 21) (n2 := 1608) (Nat.le_of_ble_eq_true rfl) (Nat.le_of_ble_eq_true rfl)
  refine g_w (ws' := .inr (7, mO E.2.2.1 20) :: mdT E 21) (mdT_c rfl rfl) ?_
  refine g_putF C (j := 0) (ci := 7) (N := 48) (k := 29) (T := TX7) (ty := .array .int) (ws' := .inr (7, mO E.2.2.1 21) :: mdT E 21) rfl rfl wi_X7 tyX7 tyX7_ok nmX7 rfl (by decide) kf_X7_84 rfl rfl (tyX7_ok 29 (by decide)) rfl rfl (Nat.le_of_ble_eq_true rfl) rfl dX7_init_518 ?_
  refine z_aload_n D 0 dX7_init_521 rfl ?_
  refine z_bipush D (v := 80) dX7_init_522 rfl ?_
  refine g_newi Cc (N := 80) (r1 := 22) (r2 := 1688) (q := E.2.2.1 + 22) (by decide) (by decide) (Nat.le_of_ble_eq_true rfl) rfl rfl (Nat.le_of_ble_eq_true rfl) (Nat.le_of_ble_eq_true rfl) (mdT_q rfl) dX7_init_524 ?_
  have D := Cc.z (n1 := 22) (n2 := 1688) (Nat.le_of_ble_eq_true rfl) (Nat.le_of_ble_eq_true rfl)
  refine g_w (ws' := .inr (7, mO E.2.2.1 21) :: mdT E 22) (mdT_c rfl rfl) ?_
  refine g_putF C (j := 0) (ci := 7) (N := 48) (k := 35) (T := TX7) (ty := .array .int) (ws' := .inr (7, mO E.2.2.1 22) :: mdT E 22) rfl rfl wi_X7 tyX7 tyX7_ok nmX7 rfl (by decide) kf_X7_87 rfl rfl (tyX7_ok 35 (by decide)) rfl rfl (Nat.le_of_ble_eq_true rfl) rfl dX7_init_526 ?_
  refine z_aload_n D 0 dX7_init_529 rfl ?_
  refine z_bipush D (v := 80) dX7_init_530 rfl ?_
  refine g_newi Cc (N := 80) (r1 := 23) (r2 := 1768) (q := E.2.2.1 + 23) (by decide) (by decide) (Nat.le_of_ble_eq_true rfl) rfl rfl (Nat.le_of_ble_eq_true rfl) (Nat.le_of_ble_eq_true rfl) (mdT_q rfl) dX7_init_532 ?_
  have D := Cc.z (n1 := 23) (n2 := 1768) (Nat.le_of_ble_eq_true rfl) (Nat.le_of_ble_eq_true rfl)
  refine g_w (ws' := .inr (7, mO E.2.2.1 22) :: mdT E 23) (mdT_c rfl rfl) ?_
  refine g_putF C (j := 0) (ci := 7) (N := 48) (k := 36) (T := TX7) (ty := .array .int) (ws' := .inr (7, mO E.2.2.1 23) :: mdT E 23) rfl rfl wi_X7 tyX7 tyX7_ok nmX7 rfl (by decide) kf_X7_90 rfl rfl (tyX7_ok 36 (by decide)) rfl rfl (Nat.le_of_ble_eq_true rfl) rfl dX7_init_534 ?_
  refine z_aload_n D 0 dX7_init_537 rfl ?_
  refine z_bipush D (v := 80) dX7_init_538 rfl ?_
  refine g_newi Cc (N := 80) (r1 := 24) (r2 := 1848) (q := E.2.2.1 + 24) (by decide) (by decide) (Nat.le_of_ble_eq_true rfl) rfl rfl (Nat.le_of_ble_eq_true rfl) (Nat.le_of_ble_eq_true rfl) (mdT_q rfl) dX7_init_540 ?_
  have D := Cc.z (n1 := 24) (n2 := 1848) (Nat.le_of_ble_eq_true rfl) (Nat.le_of_ble_eq_true rfl)
  refine g_w (ws' := .inr (7, mO E.2.2.1 23) :: mdT E 24) (mdT_c rfl rfl) ?_
  refine g_putF C (j := 0) (ci := 7) (N := 48) (k := 37) (T := TX7) (ty := .array .int) (ws' := .inr (7, mO E.2.2.1 24) :: mdT E 24) rfl rfl wi_X7 tyX7 tyX7_ok nmX7 rfl (by decide) kf_X7_93 rfl rfl (tyX7_ok 37 (by decide)) rfl rfl (Nat.le_of_ble_eq_true rfl) rfl dX7_init_542 ?_
  refine z_aload_n D 0 dX7_init_545 rfl ?_
  refine z_bipush D (v := 6) dX7_init_546 rfl ?_
  refine g_newi Cc (N := 6) (r1 := 25) (r2 := 1854) (q := E.2.2.1 + 25) (by decide) (by decide) (Nat.le_of_ble_eq_true rfl) rfl rfl (Nat.le_of_ble_eq_true rfl) (Nat.le_of_ble_eq_true rfl) (mdT_q rfl) dX7_init_548 ?_
  have D := Cc.z (n1 := 25) (n2 := 1854) (Nat.le_of_ble_eq_true rfl) (Nat.le_of_ble_eq_true rfl)
  refine g_w (ws' := .inr (7, mO E.2.2.1 24) :: mdT E 25) (mdT_c rfl rfl) ?_
  refine g_putF C (j := 0) (ci := 7) (N := 48) (k := 38) (T := TX7) (ty := .array .int) (ws' := .inr (7, mO E.2.2.1 25) :: mdT E 25) rfl rfl wi_X7 tyX7 tyX7_ok nmX7 rfl (by decide) kf_X7_96 rfl rfl (tyX7_ok 38 (by decide)) rfl rfl (Nat.le_of_ble_eq_true rfl) rfl dX7_init_550 ?_
  refine z_aload_n D 0 dX7_init_553 rfl ?_
  refine z_bipush D (v := 6) dX7_init_554 rfl ?_
  refine g_newi Cc (N := 6) (r1 := 26) (r2 := 1860) (q := E.2.2.1 + 26) (by decide) (by decide) (Nat.le_of_ble_eq_true rfl) rfl rfl (Nat.le_of_ble_eq_true rfl) (Nat.le_of_ble_eq_true rfl) (mdT_q rfl) dX7_init_556 ?_
  have D := Cc.z (n1 := 26) (n2 := 1860) (Nat.le_of_ble_eq_true rfl) (Nat.le_of_ble_eq_true rfl)
  refine g_w (ws' := .inr (7, mO E.2.2.1 25) :: mdT E 26) (mdT_c rfl rfl) ?_
  refine g_putF C (j := 0) (ci := 7) (N := 48) (k := 40) (T := TX7) (ty := .array .int) (ws' := .inr (7, mO E.2.2.1 26) :: mdT E 26) rfl rfl wi_X7 tyX7 tyX7_ok nmX7 rfl (by decide) kf_X7_99 rfl rfl (tyX7_ok 40 (by decide)) rfl rfl (Nat.le_of_ble_eq_true rfl) rfl dX7_init_558 ?_
  refine z_aload_n D 0 dX7_init_561 rfl ?_
  refine z_iconst D (v := 4) dX7_init_562 rfl ?_
  refine g_newi Cc (N := 4) (r1 := 27) (r2 := 1864) (q := E.2.2.1 + 27) (by decide) (by decide) (Nat.le_of_ble_eq_true rfl) rfl rfl (Nat.le_of_ble_eq_true rfl) (Nat.le_of_ble_eq_true rfl) (mdT_q rfl) dX7_init_563 ?_
  have D := Cc.z (n1 := 27) (n2 := 1864) (Nat.le_of_ble_eq_true rfl) (Nat.le_of_ble_eq_true rfl)
  refine g_w (ws' := .inr (7, mO E.2.2.1 26) :: mdT E 27) (mdT_c rfl rfl) ?_
  refine g_putF C (j := 0) (ci := 7) (N := 48) (k := 41) (T := TX7) (ty := .array .int) (ws' := .inr (7, mO E.2.2.1 27) :: mdT E 27) rfl rfl wi_X7 tyX7 tyX7_ok nmX7 rfl (by decide) kf_X7_102 rfl rfl (tyX7_ok 41 (by decide)) rfl rfl (Nat.le_of_ble_eq_true rfl) rfl dX7_init_565 ?_
  refine z_aload_n D 0 dX7_init_568 rfl ?_
  refine z_iconst D (v := 4) dX7_init_569 rfl ?_
  refine g_newi Cc (N := 4) (r1 := 28) (r2 := 1868) (q := E.2.2.1 + 28) (by decide) (by decide) (Nat.le_of_ble_eq_true rfl) rfl rfl (Nat.le_of_ble_eq_true rfl) (Nat.le_of_ble_eq_true rfl) (mdT_q rfl) dX7_init_570 ?_
  have D := Cc.z (n1 := 28) (n2 := 1868) (Nat.le_of_ble_eq_true rfl) (Nat.le_of_ble_eq_true rfl)
  refine g_w (ws' := .inr (7, mO E.2.2.1 27) :: mdT E 28) (mdT_c rfl rfl) ?_
  refine g_putF C (j := 0) (ci := 7) (N := 48) (k := 42) (T := TX7) (ty := .array .int) (ws' := .inr (7, mO E.2.2.1 28) :: mdT E 28) rfl rfl wi_X7 tyX7 tyX7_ok nmX7 rfl (by decide) kf_X7_105 rfl rfl (tyX7_ok 42 (by decide)) rfl rfl (Nat.le_of_ble_eq_true rfl) rfl dX7_init_572 ?_
  refine z_aload_n D 0 dX7_init_575 rfl ?_
  refine z_bipush D (v := 6) dX7_init_576 rfl ?_
  refine g_newi Cc (N := 6) (r1 := 29) (r2 := 1874) (q := E.2.2.1 + 29) (by decide) (by decide) (Nat.le_of_ble_eq_true rfl) rfl rfl (Nat.le_of_ble_eq_true rfl) (Nat.le_of_ble_eq_true rfl) (mdT_q rfl) dX7_init_578 ?_
  have D := Cc.z (n1 := 29) (n2 := 1874) (Nat.le_of_ble_eq_true rfl) (Nat.le_of_ble_eq_true rfl)
  refine g_w (ws' := .inr (7, mO E.2.2.1 28) :: mdT E 29) (mdT_c rfl rfl) ?_
  refine g_putF C (j := 0) (ci := 7) (N := 48) (k := 43) (T := TX7) (ty := .array .int) (ws' := .inr (7, mO E.2.2.1 29) :: mdT E 29) rfl rfl wi_X7 tyX7 tyX7_ok nmX7 rfl (by decide) kf_X7_108 rfl rfl (tyX7_ok 43 (by decide)) rfl rfl (Nat.le_of_ble_eq_true rfl) rfl dX7_init_580 ?_
  refine z_aload_n D 0 dX7_init_583 rfl ?_
  refine z_bipush D (v := 20) dX7_init_584 rfl ?_
  refine g_newi Cc (N := 20) (r1 := 30) (r2 := 1894) (q := E.2.2.1 + 30) (by decide) (by decide) (Nat.le_of_ble_eq_true rfl) rfl rfl (Nat.le_of_ble_eq_true rfl) (Nat.le_of_ble_eq_true rfl) (mdT_q rfl) dX7_init_586 ?_
  have D := Cc.z (n1 := 30) (n2 := 1894) (Nat.le_of_ble_eq_true rfl) (Nat.le_of_ble_eq_true rfl)
  refine g_w (ws' := .inr (7, mO E.2.2.1 29) :: mdT E 30) (mdT_c rfl rfl) ?_
  refine g_putF C (j := 0) (ci := 7) (N := 48) (k := 45) (T := TX7) (ty := .array .int) (ws' := .inr (7, mO E.2.2.1 30) :: mdT E 30) rfl rfl wi_X7 tyX7 tyX7_ok nmX7 rfl (by decide) kf_X7_111 rfl rfl (tyX7_ok 45 (by decide)) rfl rfl (Nat.le_of_ble_eq_true rfl) rfl dX7_init_588 ?_
  refine g_w (ws' := mfin E) (by unfold mfin; rw [rng1]; rfl) ?_
  exact g_vret C dX7_init_591
