/-! THE REFERENCE: shelves, refusals -/
def rfM (M : zM) (x : Int32) : zM := mA M 9 (refK x).toNatClampNeg (M.2.2.1 9 (refK x).toNatClampNeg + 1)
def mpo (M : zM) (k ans : Int32) (P : zM → Prop) : Option Value → zM → Prop := fun v M2 => v = some (.int (if k = 0 then ans else k)) ∧ (k = 0 → P M2) ∧ (¬ k = 0 → M2 = rfM M k)
theorem mpo.ref {M : zM} {k ans c : Int32} {P : zM → Prop} (hk : k = c) (hc : ¬ c = 0) : mpo M k ans P (some (.int c)) (rfM M c) := by
  subst hk
  exact ⟨by rw [if_neg hc], fun h => absurd h hc, fun _ => rfl⟩
theorem mpo.ok {M M2 : zM} {k ans r : Int32} {P : zM → Prop} (hk : k = 0) (hr : r = ans) (hP : P M2) : mpo M k ans P (some (.int r)) M2 := ⟨by rw [if_pos hk, hr], fun _ => hP, fun h => absurd hk h⟩
theorem inRle_t {x a b : Int32} (e : b.toInt = a.toInt + 1) (h : ¬ x < 0) (h2 : x ≤ a) : inR x b = true := inR_t h (by rw [i_le] at h2; rw [i_lt]; omega)
theorem inRle_f {x a b : Int32} (e : b.toInt = a.toInt + 1) (h : a < x) : inR x b = false := inR_f2 (by rw [i_lt] at h; rw [i_le]; omega)
theorem ix160 (j : Nat) : (160 : Int32) * nI j = nI (160 * j) := pk_mul 160 j
def wtd (M : zM) (s : Int32) : Int32 := if inR s 8 = true then (if M.2.2.1 21 s.toNatClampNeg = 2 then -2 else if M.2.2.1 21 s.toNatClampNeg = 0 then -3 else 0) else -1
def flN (f : Nat → Int64) (b i : Nat) : Nat → Int64 := fun q => if b ≤ q ∧ q < b + i then 0 else f q
def mLayN (M : zM) (j : Nat) (o n : Int32) (i : Nat) : zM := mJ (mA (mA (mA M 21 j 1) 22 j o) 23 j n) 25 (flN (M.2.2.2 25) (160 * j) i)
def mLay (M : zM) (j : Nat) (o n : Int32) : zM := mLayN M j o n 160
theorem mLay_0 {M : zM} {j : Nat} {o n : Int32} : mA (mA (mA M 21 j 1) 22 j o) 23 j n = mLayN M j o n 0 := by
  unfold mLayN mJ
  have e : flN (M.2.2.2 25) (160 * j) 0 = M.2.2.2 25 := by
    funext q
    unfold flN
    rw [if_neg (by omega)]
  have e2 : (mA (mA (mA M 21 j 1) 22 j o) 23 j n).2.2.2 = M.2.2.2 := rfl
  rw [e, e2, va_up_id]
  rfl
theorem mLay_s {M : zM} {j : Nat} {o n : Int32} {i : Nat} : mJ (mLayN M j o n i) 25 (vp_updL ((mLayN M j o n i).2.2.2 25) (160 * j + i) 0) = mLayN M j o n (i + 1) := by
  unfold mLayN mJ
  simp only [va_up_self, va_up_up]
  congr 5
  funext q
  unfold vp_updL flN
  by_cases h : q = 160 * j + i
  · subst h
    rw [if_pos rfl, if_pos (by omega)]
  · rw [if_neg h]
    by_cases h2 : 160 * j ≤ q ∧ q < 160 * j + i
    · rw [if_pos h2, if_pos (by omega)]
    · rw [if_neg h2, if_neg (by omega)]
def aElM (M : zM) (s i : Int32) : Int64 := if inR s 8 = true then (if M.2.2.1 21 s.toNatClampNeg = 1 then (if inR i (M.2.2.1 23 s.toNatClampNeg) = true then M.2.2.2 25 (160 * s.toNatClampNeg + i.toNatClampNeg) else 0) else 0) else 0
def aHoM (M : zM) (s : Int32) : Int32 := if inR s 8 = true then (if M.2.2.1 21 s.toNatClampNeg = 0 then -1 else if M.2.2.1 21 s.toNatClampNeg = 1 then 100 + M.2.2.1 22 s.toNatClampNeg else M.2.2.1 24 s.toNatClampNeg) else -1
theorem putV_0 {o : Nat} {v : Int64} (ho : o < 4) (h : nI o = 0) : v.toInt32.toInt8.toInt32.toInt64 = putV (100 + nI o) v := by rw [h]; rfl
theorem putV_1 {o : Nat} {v : Int64} (ho : o < 4) (h : nI o = 1) : v.toInt32.toInt16.toInt32.toInt64 = putV (100 + nI o) v := by rw [h]; rfl
theorem putV_2 {o : Nat} {v : Int64} (ho : o < 4) (h : nI o = 2) : v.toInt32.toInt64 = putV (100 + nI o) v := by rw [h]; rfl
theorem putV_3 {o : Nat} {v : Int64} (ho : o < 4) (h0 : ¬ nI o = 0) (h1 : ¬ nI o = 1) (h2 : ¬ nI o = 2) : v = putV (100 + nI o) v := by
  have hp : o = 0 ∨ o = 1 ∨ o = 2 ∨ o = 3 := by omega
  rcases hp with rfl | rfl | rfl | rfl
  · exact absurd rfl h0
  · exact absurd rfl h1
  · exact absurd rfl h2
  · rfl
set_option maxRecDepth 100000 in
set_option maxHeartbeats 4000000 in
theorem c_X7_no (l : Launch) (E : zE) (M : zM) (b : Int32) (k : Nat) (hk : k < 8) (hb : -b = nI k) (hr : (refK b).toNatClampNeg = k) : MM l E yX7_no cX7_no 2 (some .int) 1 [.ref (madr E.2.2.1 (0, 0, 0)), .int (b)] (M) (fun v M2 => v = some (.int b) ∧ M2 = rfM M b) := by
  refine MM.mk kq_X7 (Nat.le_of_ble_eq_true rfl) (fun K s C0 => ?_)
  have C := C0.c
  refine z_aload_n C 0 dX7_no_0 rfl ?_
  refine mg_9 C dX7_no_1 ?_
  refine z_iload_n C 1 dX7_no_4 rfl ?_
  refine z_ineg C dX7_no_5 ?_
  refine z_top (nI k) (hb) ?_
  refine z_dup2 C dX7_no_6 rfl rfl ?_
  refine ml_9 C k rfl (by first | assumption | omega) dX7_no_7 ?_
  refine z_iconst C (v := 1) dX7_no_8 rfl ?_
  refine z_iadd C dX7_no_9 ?_
  refine ms_9 C k rfl (by first | assumption | omega) dX7_no_10 ?_
  refine z_iload_n C 1 dX7_no_11 rfl ?_
  refine z_iret C0 dX7_no_12 ?_
  refine ⟨rfl, ?_⟩
  unfold rfM
  rw [hr]
set_option maxRecDepth 100000 in
set_option maxHeartbeats 4000000 in
theorem c_X7_noTen (l : Launch) (E : zE) (M : zM) (b : Int32) (k : Nat) (hk : k < 8) (hb : -b = nI k) (hr : (refK (b - 10)).toNatClampNeg = k) : MM l E yX7_noTen cX7_noTen 2 (some .int) 1 [.ref (madr E.2.2.1 (0, 0, 0)), .int (b)] (M) (fun v M2 => v = some (.int (b - 10)) ∧ M2 = rfM M (b - 10)) := by
  refine MM.mk kq_X7 (Nat.le_of_ble_eq_true rfl) (fun K s C0 => ?_)
  have C := C0.c
  refine z_aload_n C 0 dX7_noTen_0 rfl ?_
  refine mg_9 C dX7_noTen_1 ?_
  refine z_iload_n C 1 dX7_noTen_4 rfl ?_
  refine z_ineg C dX7_noTen_5 ?_
  refine z_top (nI k) (hb) ?_
  refine z_dup2 C dX7_noTen_6 rfl rfl ?_
  refine ml_9 C k rfl (by first | assumption | omega) dX7_noTen_7 ?_
  refine z_iconst C (v := 1) dX7_noTen_8 rfl ?_
  refine z_iadd C dX7_noTen_9 ?_
  refine ms_9 C k rfl (by first | assumption | omega) dX7_noTen_10 ?_
  refine z_iload_n C 1 dX7_noTen_11 rfl ?_
  refine z_bipush C (v := 10) dX7_noTen_12 rfl ?_
  refine z_isub C dX7_noTen_14 ?_
  refine z_iret C0 dX7_noTen_15 ?_
  refine ⟨rfl, ?_⟩
  unfold rfM
  rw [hr]
set_option maxRecDepth 100000 in
set_option maxHeartbeats 4000000 in
theorem c_X7_isShelf (l : Launch) (E : zE) (M : zM) (x : Int32) : MM l E yX7_isShelf cX7_isShelf 2 (some .boolean) 1 [.ref (madr E.2.2.1 (0, 0, 0)), .int (x)] (M) (fun v M2 => v = some (.int (bI (inR x 8))) ∧ M2 = M) := by
  refine MM.mk kq_X7 (Nat.le_of_ble_eq_true rfl) (fun K s C0 => ?_)
  have C := C0.c
  refine z_iload_n C 1 dX7_isShelf_0 rfl ?_
  refine z_if_lt C 14 dX7_isShelf_1 (by decide) (fun h1 => ?_) (fun h1 => ?_)
  · skip
    refine z_iconst C (v := 0) dX7_isShelf_14 rfl ?_
    refine z_zret C0 rfl dX7_isShelf_15 ?_
    refine ⟨?_, rfl⟩
    rw [inR_f1 h1]
    rfl
  · skip
    refine z_iload_n C 1 dX7_isShelf_4 rfl ?_
    refine z_bipush C (v := 8) dX7_isShelf_5 rfl ?_
    refine z_icmp_ge C 14 dX7_isShelf_7 (by decide) (fun h7 => ?_) (fun h7 => ?_)
    · skip
      refine z_iconst C (v := 0) dX7_isShelf_14 rfl ?_
      refine z_zret C0 rfl dX7_isShelf_15 ?_
      refine ⟨?_, rfl⟩
      rw [inR_f2 h7]
      rfl
    · skip
      refine z_iconst C (v := 1) dX7_isShelf_10 rfl ?_
      refine z_goto C 15 dX7_isShelf_11 (by decide) ?_
      refine z_zret C0 rfl dX7_isShelf_15 ?_
      refine ⟨?_, rfl⟩
      rw [inR_t h1 (Int32.not_le.mp h7)]
      rfl
set_option maxRecDepth 100000 in
set_option maxHeartbeats 4000000 in
theorem c_X7_isShop (l : Launch) (E : zE) (M : zM) (x : Int32) : MM l E yX7_isShop cX7_isShop 2 (some .boolean) 1 [.ref (madr E.2.2.1 (0, 0, 0)), .int (x)] (M) (fun v M2 => v = some (.int (bI (inR x (M.1.1 0)))) ∧ M2 = M) := by
  refine MM.mk kq_X7 (Nat.le_of_ble_eq_true rfl) (fun K s C0 => ?_)
  have C := C0.c
  refine z_iload_n C 1 dX7_isShop_0 rfl ?_
  refine z_if_lt C 16 dX7_isShop_1 (by decide) (fun h1 => ?_) (fun h1 => ?_)
  · skip
    refine z_iconst C (v := 0) dX7_isShop_16 rfl ?_
    refine z_zret C0 rfl dX7_isShop_17 ?_
    refine ⟨?_, rfl⟩
    rw [inR_f1 h1]
    rfl
  · skip
    refine z_iload_n C 1 dX7_isShop_4 rfl ?_
    refine z_aload_n C 0 dX7_isShop_5 rfl ?_
    refine mg_0 C dX7_isShop_6 ?_
    refine z_icmp_ge C 16 dX7_isShop_9 (by decide) (fun h9 => ?_) (fun h9 => ?_)
    · skip
      refine z_iconst C (v := 0) dX7_isShop_16 rfl ?_
      refine z_zret C0 rfl dX7_isShop_17 ?_
      refine ⟨?_, rfl⟩
      rw [inR_f2 h9]
      rfl
    · skip
      refine z_iconst C (v := 1) dX7_isShop_12 rfl ?_
      refine z_goto C 17 dX7_isShop_13 (by decide) ?_
      refine z_zret C0 rfl dX7_isShop_17 ?_
      refine ⟨?_, rfl⟩
      rw [inR_t h1 (Int32.not_le.mp h9)]
      rfl
set_option maxRecDepth 100000 in
set_option maxHeartbeats 4000000 in
theorem c_X7_isChild (l : Launch) (E : zE) (M : zM) (x : Int32) : MM l E yX7_isChild cX7_isChild 2 (some .boolean) 1 [.ref (madr E.2.2.1 (0, 0, 0)), .int (x)] (M) (fun v M2 => v = some (.int (bI (inR x (M.1.1 1)))) ∧ M2 = M) := by
  refine MM.mk kq_X7 (Nat.le_of_ble_eq_true rfl) (fun K s C0 => ?_)
  have C := C0.c
  refine z_iload_n C 1 dX7_isChild_0 rfl ?_
  refine z_if_lt C 16 dX7_isChild_1 (by decide) (fun h1 => ?_) (fun h1 => ?_)
  · skip
    refine z_iconst C (v := 0) dX7_isChild_16 rfl ?_
    refine z_zret C0 rfl dX7_isChild_17 ?_
    refine ⟨?_, rfl⟩
    rw [inR_f1 h1]
    rfl
  · skip
    refine z_iload_n C 1 dX7_isChild_4 rfl ?_
    refine z_aload_n C 0 dX7_isChild_5 rfl ?_
    refine mg_1 C dX7_isChild_6 ?_
    refine z_icmp_ge C 16 dX7_isChild_9 (by decide) (fun h9 => ?_) (fun h9 => ?_)
    · skip
      refine z_iconst C (v := 0) dX7_isChild_16 rfl ?_
      refine z_zret C0 rfl dX7_isChild_17 ?_
      refine ⟨?_, rfl⟩
      rw [inR_f2 h9]
      rfl
    · skip
      refine z_iconst C (v := 1) dX7_isChild_12 rfl ?_
      refine z_goto C 17 dX7_isChild_13 (by decide) ?_
      refine z_zret C0 rfl dX7_isChild_17 ?_
      refine ⟨?_, rfl⟩
      rw [inR_t h1 (Int32.not_le.mp h9)]
      rfl
set_option maxRecDepth 100000 in
set_option maxHeartbeats 4000000 in
theorem c_X7_isRule (l : Launch) (E : zE) (M : zM) (x : Int32) : MM l E yX7_isRule cX7_isRule 2 (some .boolean) 1 [.ref (madr E.2.2.1 (0, 0, 0)), .int (x)] (M) (fun v M2 => v = some (.int (bI (inR x 4))) ∧ M2 = M) := by
  refine MM.mk kq_X7 (Nat.le_of_ble_eq_true rfl) (fun K s C0 => ?_)
  have C := C0.c
  refine z_iload_n C 1 dX7_isRule_0 rfl ?_
  refine z_if_lt C 13 dX7_isRule_1 (by decide) (fun h1 => ?_) (fun h1 => ?_)
  · skip
    refine z_iconst C (v := 0) dX7_isRule_13 rfl ?_
    refine z_zret C0 rfl dX7_isRule_14 ?_
    refine ⟨?_, rfl⟩
    rw [inR_f1 h1]
    rfl
  · skip
    refine z_iload_n C 1 dX7_isRule_4 rfl ?_
    refine z_iconst C (v := 3) dX7_isRule_5 rfl ?_
    refine z_icmp_gt C 13 dX7_isRule_6 (by decide) (fun h6 => ?_) (fun h6 => ?_)
    · skip
      refine z_iconst C (v := 0) dX7_isRule_13 rfl ?_
      refine z_zret C0 rfl dX7_isRule_14 ?_
      refine ⟨?_, rfl⟩
      rw [inRle_f (a := 3) (b := 4) rfl (h6)]
      rfl
    · skip
      refine z_iconst C (v := 1) dX7_isRule_9 rfl ?_
      refine z_goto C 14 dX7_isRule_10 (by decide) ?_
      refine z_zret C0 rfl dX7_isRule_14 ?_
      refine ⟨?_, rfl⟩
      rw [inRle_t (a := 3) (b := 4) rfl h1 (Int32.not_lt.mp h6)]
      rfl
set_option maxRecDepth 100000 in
set_option maxHeartbeats 4000000 in
theorem c_X7_isAfternoon (l : Launch) (E : zE) (M : zM) (x n : Int32) : MM l E yX7_isAfternoon cX7_isAfternoon 3 (some .boolean) 2 [.ref (madr E.2.2.1 (0, 0, 0)), .int (x), .int (n)] (M) (fun v M2 => v = some (.int (bI (okRN x n))) ∧ M2 = M) := by
  refine MM.mk kq_X7 (Nat.le_of_ble_eq_true rfl) (fun K s C0 => ?_)
  have C := C0.c
  refine z_aload_n C 0 dX7_isAfternoon_0 rfl ?_
  refine z_iload_n C 1 dX7_isAfternoon_1 rfl ?_
  refine z_callV1 C (c_X7_isRule l E _ _) ⟨rfl, rfl⟩ rfl rfl q_X7_247 ⟨by decide, by decide⟩ (Nat.le_of_ble_eq_true rfl) dX7_isAfternoon_2 (fun v F9 hp => ?_)
  obtain ⟨rfl, e9⟩ := hp
  rw [e9]
  clear e9 F9
  refine z_if_eq C 23 dX7_isAfternoon_5 (by decide) (fun h5 => ?_) (fun h5 => ?_)
  · skip
    have h5 := bI_0 h5
    refine z_iconst C (v := 0) dX7_isAfternoon_23 rfl ?_
    refine z_zret C0 rfl dX7_isAfternoon_24 ?_
    refine ⟨?_, rfl⟩
    unfold okRN
    rw [h5]
    rfl
  · skip
    have h5 := bI_1 h5
    refine z_iload_n C 2 dX7_isAfternoon_8 rfl ?_
    refine z_if_lt C 23 dX7_isAfternoon_9 (by decide) (fun h9 => ?_) (fun h9 => ?_)
    · skip
      refine z_iconst C (v := 0) dX7_isAfternoon_23 rfl ?_
      refine z_zret C0 rfl dX7_isAfternoon_24 ?_
      refine ⟨?_, rfl⟩
      unfold okRN
      rw [h5, inT_f1 h9]
      rfl
    · skip
      refine z_iload_n C 2 dX7_isAfternoon_12 rfl ?_
      refine z_sipush C (v := 240) dX7_isAfternoon_13 rfl ?_
      refine z_icmp_gt C 23 dX7_isAfternoon_16 (by decide) (fun h16 => ?_) (fun h16 => ?_)
      · skip
        refine z_iconst C (v := 0) dX7_isAfternoon_23 rfl ?_
        refine z_zret C0 rfl dX7_isAfternoon_24 ?_
        refine ⟨?_, rfl⟩
        unfold okRN
        rw [h5, inT_f2 h16]
        rfl
      · skip
        refine z_iconst C (v := 1) dX7_isAfternoon_19 rfl ?_
        refine z_goto C 24 dX7_isAfternoon_20 (by decide) ?_
        refine z_zret C0 rfl dX7_isAfternoon_24 ?_
        refine ⟨?_, rfl⟩
        unfold okRN
        rw [h5, inT_t h9 (Int32.not_lt.mp h16)]
        rfl
set_option maxRecDepth 100000 in
set_option maxHeartbeats 4000000 in
theorem c_X7_wanted (l : Launch) (E : zE) (M : zM) (s : Int32) : MM l E yX7_wanted cX7_wanted 2 (some .int) 2 [.ref (madr E.2.2.1 (0, 0, 0)), .int (s)] (M) (fun v M2 => v = some (.int (wtd M s)) ∧ M2 = M) := by
  refine MM.mk kq_X7 (Nat.le_of_ble_eq_true rfl) (fun K s C0 => ?_)
  have C := C0.c
  refine z_aload_n C 0 dX7_wanted_0 rfl ?_
  refine z_iload_n C 1 dX7_wanted_1 rfl ?_
  refine z_callV1 C (c_X7_isShelf l E _ _) ⟨rfl, rfl⟩ rfl rfl q_X7_120 ⟨by decide, by decide⟩ (Nat.le_of_ble_eq_true rfl) dX7_wanted_2 (fun v F9 hp => ?_)
  obtain ⟨rfl, e9⟩ := hp
  rw [e9]
  clear e9 F9
  refine z_if_ne C 12 dX7_wanted_5 (by decide) (fun h5 => ?_) (fun h5 => ?_)
  · skip
    have h5 := bI_1 h5
    obtain ⟨j, hj, rfl⟩ := inR_of (n := 8) h5 (by omega)
    have ej : (nI j).toNatClampNeg = j := nI_clamp (by omega)
    refine z_aload_n C 0 dX7_wanted_12 rfl ?_
    refine mg_21 C dX7_wanted_13 ?_
    refine z_iload_n C 1 dX7_wanted_16 rfl ?_
    refine ml_21 C j rfl (by first | assumption | omega) dX7_wanted_17 ?_
    refine z_iconst C (v := 2) dX7_wanted_18 rfl ?_
    refine z_icmp_ne C 27 dX7_wanted_19 (by decide) (fun h19 => ?_) (fun h19 => ?_)
    · skip
      refine z_aload_n C 0 dX7_wanted_27 rfl ?_
      refine mg_21 C dX7_wanted_28 ?_
      refine z_iload_n C 1 dX7_wanted_31 rfl ?_
      refine ml_21 C j rfl (by first | assumption | omega) dX7_wanted_32 ?_
      refine z_if_ne C 41 dX7_wanted_33 (by decide) (fun h33 => ?_) (fun h33 => ?_)
      · skip
        refine z_iconst C (v := 0) dX7_wanted_41 rfl ?_
        refine z_iret C0 dX7_wanted_42 ?_
        refine ⟨?_, rfl⟩
        unfold wtd
        rw [if_pos h5, ej, if_neg h19, if_neg h33]
      · skip
        refine z_bipush C (v := (-3)) dX7_wanted_36 rfl ?_
        refine z_goto C 42 dX7_wanted_38 (by decide) ?_
        refine z_iret C0 dX7_wanted_42 ?_
        refine ⟨?_, rfl⟩
        unfold wtd
        rw [if_pos h5, ej, if_neg h19, if_pos h33]
    · skip
      refine z_bipush C (v := (-2)) dX7_wanted_22 rfl ?_
      refine z_goto C 42 dX7_wanted_24 (by decide) ?_
      refine z_iret C0 dX7_wanted_42 ?_
      refine ⟨?_, rfl⟩
      unfold wtd
      rw [if_pos h5, ej, if_pos h19]
  · skip
    have h5 := bI_0 h5
    refine z_iconst C (v := (-1)) dX7_wanted_8 rfl ?_
    refine z_goto C 42 dX7_wanted_9 (by decide) ?_
    refine z_iret C0 dX7_wanted_42 ?_
    refine ⟨?_, rfl⟩
    unfold wtd
    rw [h5]
    rfl
set_option maxRecDepth 100000 in
set_option maxHeartbeats 4000000 in
theorem c_X7_intAt (l : Launch) (E : zE) (M : zM) {j i : Nat} (hj : j < 8) (hi : i < 160) : MM l E yX7_intAt cX7_intAt 3 (some .int) 1 [.ref (madr E.2.2.1 (0, 0, 0)), .int (nI j), .int (nI i)] (M) (fun v M2 => v = some (.int (M.2.2.2 25 (160 * j + i)).toInt32) ∧ M2 = M) := by
  refine MM.mk kq_X7 (Nat.le_of_ble_eq_true rfl) (fun K s C0 => ?_)
  have C := C0.c
  refine z_aload_n C 0 dX7_intAt_0 rfl ?_
  refine mg_25 C dX7_intAt_1 ?_
  refine z_sipush C (v := 160) dX7_intAt_4 rfl ?_
  refine z_iload_n C 1 dX7_intAt_7 rfl ?_
  refine z_imul C dX7_intAt_8 ?_
  refine z_top (nI (160 * j)) (ix160 j) ?_
  refine z_iload_n C 2 dX7_intAt_9 rfl ?_
  refine z_iadd C dX7_intAt_10 ?_
  refine z_top (nI (160 * j + i)) (nI_add _ _) ?_
  refine ml_25 C (160 * j + i) rfl (by first | assumption | omega) dX7_intAt_11 ?_
  refine z_l2i C dX7_intAt_12 ?_
  refine z_iret C0 dX7_intAt_13 ?_
  exact ⟨rfl, rfl⟩
set_option maxRecDepth 100000 in
set_option maxHeartbeats 4000000 in
theorem lp_X7_row {l : Launch} {E : zE} {K : zK} {s : State} (M : zM) (sh o n : Int32) {j : Nat} (es : sh = nI j) (hj : j < 8) (hk0 : kRow sh o n = 0) (C0 : MR l E K cX7_row RX7 2 s 5 (some .int) (mpo M (kRow sh o n) 1 (fun M2 => M2 = mLay M sh.toNatClampNeg o n))) : ∀ (n2 : Nat) (i : Nat), (160 - i < n2) → (i ≤ 160) → Z K (MP E (mLayN M j o n i) s) 79 [(0, .ref (madr E.2.2.1 (0, 0, 0))), (1, .int (nI j)), (4, .int (nI i))] [] := by
  have C := C0.c
  intro n2
  induction n2 with
  | zero => intro i hk hi0; exact absurd hk (Nat.not_lt_zero _)
  | succ n2 ih =>
    intro i hk hi0
    refine z_iload C 2 dX7_row_79 rfl ?_
    refine z_sipush C (v := 160) dX7_row_81 rfl ?_
    refine z_icmp_ge C 107 dX7_row_84 (by decide) (fun h84 => ?_) (fun h84 => ?_)
    · skip
      refine z_iconst C (v := 1) dX7_row_107 rfl ?_
      refine z_iret C0 dX7_row_108 ?_
      have e : i = 160 := by
        rcases Nat.lt_or_ge i 160 with q | q
        · exact absurd h84 (nI_ge (b := 160) q (by omega))
        · omega
      subst e es
      exact mpo.ok hk0 rfl (by rw [nI_clamp (by omega)]; rfl)
    · skip
      have hi : i < 160 := by
        rcases Nat.lt_or_ge i (160) with q | q
        · exact q
        · exact absurd (nI_le (a := 160) q (by omega)) h84
      refine z_aload_n C 0 dX7_row_87 rfl ?_
      refine mg_25 C dX7_row_88 ?_
      refine z_sipush C (v := 160) dX7_row_91 rfl ?_
      refine z_iload_n C 1 dX7_row_94 rfl ?_
      refine z_imul C dX7_row_95 ?_
      refine z_top (nI (160 * j)) (ix160 j) ?_
      refine z_iload C 2 dX7_row_96 rfl ?_
      refine z_iadd C dX7_row_98 ?_
      refine z_top (nI (160 * j + i)) (nI_add _ _) ?_
      refine z_lconst C (v := 0) dX7_row_99 rfl ?_
      refine ms_25 C (160 * j + i) rfl (by first | assumption | omega) dX7_row_100 ?_
      refine z_iinc C (v := nI (i + 1)) 2 dX7_row_101 rfl (nI_1 _) (by decide) ?_
      refine z_goto C 79 dX7_row_104 (by decide) ?_
      refine z_pick [1, 2, 0] rfl ?_
      have q := ih (i + 1) (by omega) (by omega)
      rw [← mLay_s] at q
      exact q
set_option maxRecDepth 100000 in
set_option maxHeartbeats 4000000 in
theorem c_X7_row (l : Launch) (E : zE) (M : zM) (sh o n : Int32) : MM l E yX7_row cX7_row 5 (some .int) 2 [.ref (madr E.2.2.1 (0, 0, 0)), .int (sh), .int (o), .int (n)] (M) (mpo M (kRow sh o n) 1 (fun M2 => M2 = mLay M sh.toNatClampNeg o n)) := by
  refine MM.mk kq_X7 (Nat.le_of_ble_eq_true rfl) (fun K s C0 => ?_)
  have C := C0.c
  refine z_aload_n C 0 dX7_row_0 rfl ?_
  refine z_iload_n C 1 dX7_row_1 rfl ?_
  refine z_callV1 C (c_X7_isShelf l E _ _) ⟨rfl, rfl⟩ rfl rfl q_X7_120 ⟨by decide, by decide⟩ (Nat.le_of_ble_eq_true rfl) dX7_row_2 (fun v F9 hp => ?_)
  obtain ⟨rfl, e9⟩ := hp
  rw [e9]
  clear e9 F9
  refine z_if_ne C 14 dX7_row_5 (by decide) (fun h5 => ?_) (fun h5 => ?_)
  · skip
    have h5 := bI_1 h5
    refine z_iload_n C 3 dX7_row_14 rfl ?_
    refine z_if_ge C 25 dX7_row_15 (by decide) (fun h15 => ?_) (fun h15 => ?_)
    · skip
      refine z_iload_n C 2 dX7_row_25 rfl ?_
      refine z_if_lt C 34 dX7_row_26 (by decide) (fun h26 => ?_) (fun h26 => ?_)
      · skip
        refine z_aload_n C 0 dX7_row_34 rfl ?_
        refine z_bipush C (v := (-6)) dX7_row_35 rfl ?_
        refine z_callV1 C (c_X7_no l E _ (-6) 6 (by decide) (by decide) (by decide)) ⟨rfl, rfl⟩ rfl rfl q_X7_124 ⟨by decide, by decide⟩ (Nat.le_of_ble_eq_true rfl) dX7_row_37 (fun v F9 hp => ?_)
        obtain ⟨rfl, e9⟩ := hp
        rw [e9]
        clear e9 F9
        refine z_iret C0 dX7_row_40 ?_
        exact mpo.ref (by simp [kRow, inR_f1 h26, h5, h15, Int32.not_lt.mpr h15, h26, Int32.not_le.mpr h26]) (by decide)
      · skip
        refine z_iload_n C 2 dX7_row_29 rfl ?_
        refine z_iconst C (v := 3) dX7_row_30 rfl ?_
        refine z_icmp_le C 41 dX7_row_31 (by decide) (fun h31 => ?_) (fun h31 => ?_)
        · skip
          refine z_iload_n C 3 dX7_row_41 rfl ?_
          refine z_sipush C (v := 160) dX7_row_42 rfl ?_
          refine z_icmp_le C 55 dX7_row_45 (by decide) (fun h45 => ?_) (fun h45 => ?_)
          · skip
            obtain ⟨j, hj, rfl⟩ := inR_of (n := 8) h5 (by omega)
            have ej : (nI j).toNatClampNeg = j := nI_clamp (by omega)
            refine z_aload_n C 0 dX7_row_55 rfl ?_
            refine mg_21 C dX7_row_56 ?_
            refine z_iload_n C 1 dX7_row_59 rfl ?_
            refine z_iconst C (v := 1) dX7_row_60 rfl ?_
            refine ms_21 C j rfl (by first | assumption | omega) dX7_row_61 ?_
            refine z_aload_n C 0 dX7_row_62 rfl ?_
            refine mg_22 C dX7_row_63 ?_
            refine z_iload_n C 1 dX7_row_66 rfl ?_
            refine z_iload_n C 2 dX7_row_67 rfl ?_
            refine ms_22 C j rfl (by first | assumption | omega) dX7_row_68 ?_
            refine z_aload_n C 0 dX7_row_69 rfl ?_
            refine mg_23 C dX7_row_70 ?_
            refine z_iload_n C 1 dX7_row_73 rfl ?_
            refine z_iload_n C 3 dX7_row_74 rfl ?_
            refine ms_23 C j rfl (by first | assumption | omega) dX7_row_75 ?_
            refine z_iconst C (v := 0) dX7_row_76 rfl ?_
            refine z_istore C dX7_row_77 (by decide) ?_
            refine z_pick [1, 2, 0] rfl ?_
            have hk0 : kRow (nI j) o n = 0 := by simp [kRow, inRle_t (a := 3) (b := 4) rfl h26 (h31), h5, h15, Int32.not_lt.mpr h15, h26, Int32.not_lt.mp h26, h31, Int32.not_lt.mpr h31, h45, Int32.not_lt.mpr h45]
            rw [mLay_0]
            exact lp_X7_row M (nI j) o n rfl hj hk0 C0 161 0 (by omega) (by omega)
          · skip
            refine z_aload_n C 0 dX7_row_48 rfl ?_
            refine z_bipush C (v := (-7)) dX7_row_49 rfl ?_
            refine z_callV1 C (c_X7_no l E _ (-7) 7 (by decide) (by decide) (by decide)) ⟨rfl, rfl⟩ rfl rfl q_X7_124 ⟨by decide, by decide⟩ (Nat.le_of_ble_eq_true rfl) dX7_row_51 (fun v F9 hp => ?_)
            obtain ⟨rfl, e9⟩ := hp
            rw [e9]
            clear e9 F9
            refine z_iret C0 dX7_row_54 ?_
            exact mpo.ref (by simp [kRow, inRle_t (a := 3) (b := 4) rfl h26 (h31), h5, h15, Int32.not_lt.mpr h15, h26, Int32.not_lt.mp h26, h31, Int32.not_lt.mpr h31, h45, Int32.not_le.mp h45]) (by decide)
        · skip
          refine z_aload_n C 0 dX7_row_34 rfl ?_
          refine z_bipush C (v := (-6)) dX7_row_35 rfl ?_
          refine z_callV1 C (c_X7_no l E _ (-6) 6 (by decide) (by decide) (by decide)) ⟨rfl, rfl⟩ rfl rfl q_X7_124 ⟨by decide, by decide⟩ (Nat.le_of_ble_eq_true rfl) dX7_row_37 (fun v F9 hp => ?_)
          obtain ⟨rfl, e9⟩ := hp
          rw [e9]
          clear e9 F9
          refine z_iret C0 dX7_row_40 ?_
          exact mpo.ref (by simp [kRow, inRle_f (a := 3) (b := 4) rfl (Int32.not_le.mp h31), h5, h15, Int32.not_lt.mpr h15, h26, Int32.not_lt.mp h26, h31, Int32.not_le.mp h31]) (by decide)
    · skip
      refine z_aload_n C 0 dX7_row_18 rfl ?_
      refine z_bipush C (v := (-4)) dX7_row_19 rfl ?_
      refine z_callV1 C (c_X7_no l E _ (-4) 4 (by decide) (by decide) (by decide)) ⟨rfl, rfl⟩ rfl rfl q_X7_124 ⟨by decide, by decide⟩ (Nat.le_of_ble_eq_true rfl) dX7_row_21 (fun v F9 hp => ?_)
      obtain ⟨rfl, e9⟩ := hp
      rw [e9]
      clear e9 F9
      refine z_iret C0 dX7_row_24 ?_
      exact mpo.ref (by simp [kRow, h5, h15, Int32.not_le.mp h15]) (by decide)
  · skip
    have h5 := bI_0 h5
    refine z_aload_n C 0 dX7_row_8 rfl ?_
    refine z_iconst C (v := (-1)) dX7_row_9 rfl ?_
    refine z_callV1 C (c_X7_no l E _ (-1) 1 (by decide) (by decide) (by decide)) ⟨rfl, rfl⟩ rfl rfl q_X7_124 ⟨by decide, by decide⟩ (Nat.le_of_ble_eq_true rfl) dX7_row_10 (fun v F9 hp => ?_)
    obtain ⟨rfl, e9⟩ := hp
    rw [e9]
    clear e9 F9
    refine z_iret C0 dX7_row_13 ?_
    exact mpo.ref (by simp [kRow, h5]) (by decide)
set_option maxRecDepth 100000 in
set_option maxHeartbeats 4000000 in
theorem c_X7_set (l : Launch) (E : zE) (M : zM) (hsz : ∀ j, j < 8 → ∃ n, n ≤ 160 ∧ M.2.2.1 23 j = nI n) (hso : ∀ j, j < 8 → ∃ o, o < 4 ∧ M.2.2.1 22 j = nI o) (s i : Int32) (v : Int64) : MM l E yX7_set cX7_set 5 (some .int) 2 [.ref (madr E.2.2.1 (0, 0, 0)), .int (s), .int (i), .long (v)] (M) (mpo M (kSet (wtd M s) (M.2.2.1 23 s.toNatClampNeg) i) 1 (fun M2 => M2 = mJ M 25 (vp_updL (M.2.2.2 25) (160 * s.toNatClampNeg + i.toNatClampNeg) (putV (100 + M.2.2.1 22 s.toNatClampNeg) v)))) := by
  refine MM.mk kq_X7 (Nat.le_of_ble_eq_true rfl) (fun K s C0 => ?_)
  have C := C0.c
  refine z_aload_n C 0 dX7_set_0 rfl ?_
  refine z_iload_n C 1 dX7_set_1 rfl ?_
  refine z_callV1 C (c_X7_isShelf l E _ _) ⟨rfl, rfl⟩ rfl rfl q_X7_120 ⟨by decide, by decide⟩ (Nat.le_of_ble_eq_true rfl) dX7_set_2 (fun v F9 hp => ?_)
  obtain ⟨rfl, e9⟩ := hp
  rw [e9]
  clear e9 F9
  refine z_if_ne C 14 dX7_set_5 (by decide) (fun h5 => ?_) (fun h5 => ?_)
  · skip
    have h5 := bI_1 h5
    obtain ⟨j, hj, rfl⟩ := inR_of (n := 8) h5 (by omega)
    have ej : (nI j).toNatClampNeg = j := nI_clamp (by omega)
    obtain ⟨len, hlen, el⟩ := hsz j hj
    obtain ⟨o, ho, eo⟩ := hso j hj
    have ew : wtd M (nI j) = if M.2.2.1 21 j = 2 then -2 else if M.2.2.1 21 j = 0 then -3 else 0 := by unfold wtd; rw [if_pos h5, ej]
    refine z_aload_n C 0 dX7_set_14 rfl ?_
    refine mg_21 C dX7_set_15 ?_
    refine z_iload_n C 1 dX7_set_18 rfl ?_
    refine ml_21 C j rfl (by first | assumption | omega) dX7_set_19 ?_
    refine z_iconst C (v := 2) dX7_set_20 rfl ?_
    refine z_icmp_ne C 31 dX7_set_21 (by decide) (fun h21 => ?_) (fun h21 => ?_)
    · skip
      refine z_aload_n C 0 dX7_set_31 rfl ?_
      refine mg_21 C dX7_set_32 ?_
      refine z_iload_n C 1 dX7_set_35 rfl ?_
      refine ml_21 C j rfl (by first | assumption | omega) dX7_set_36 ?_
      refine z_if_ne C 47 dX7_set_37 (by decide) (fun h37 => ?_) (fun h37 => ?_)
      · skip
        refine z_iload_n C 2 dX7_set_47 rfl ?_
        refine z_if_lt C 61 dX7_set_48 (by decide) (fun h48 => ?_) (fun h48 => ?_)
        · skip
          refine z_aload_n C 0 dX7_set_61 rfl ?_
          refine z_bipush C (v := (-5)) dX7_set_62 rfl ?_
          refine z_callV1 C (c_X7_no l E _ (-5) 5 (by decide) (by decide) (by decide)) ⟨rfl, rfl⟩ rfl rfl q_X7_124 ⟨by decide, by decide⟩ (Nat.le_of_ble_eq_true rfl) dX7_set_64 (fun v F9 hp => ?_)
          obtain ⟨rfl, e9⟩ := hp
          rw [e9]
          clear e9 F9
          refine z_iret C0 dX7_set_67 ?_
          exact mpo.ref (by unfold kSet; rw [ew, if_neg h21, if_neg h37, ej, inR_f1 h48]; rfl) (by decide)
        · skip
          refine z_iload_n C 2 dX7_set_51 rfl ?_
          refine z_aload_n C 0 dX7_set_52 rfl ?_
          refine mg_23 C dX7_set_53 ?_
          refine z_iload_n C 1 dX7_set_56 rfl ?_
          refine ml_23 C j rfl (by first | assumption | omega) dX7_set_57 ?_
          refine z_icmp_lt C 68 dX7_set_58 (by decide) (fun h58 => ?_) (fun h58 => ?_)
          · skip
            obtain ⟨q, hq, rfl⟩ := i_rng (n := len) h48 (by rw [← el]; exact h58) (by omega)
            have hq2 : q < 160 := by omega
            refine z_aload_n C 0 dX7_set_68 rfl ?_
            refine mg_25 C dX7_set_69 ?_
            refine z_sipush C (v := 160) dX7_set_72 rfl ?_
            refine z_iload_n C 1 dX7_set_75 rfl ?_
            refine z_imul C dX7_set_76 ?_
            refine z_top (nI (160 * j)) (ix160 j) ?_
            refine z_iload_n C 2 dX7_set_77 rfl ?_
            refine z_iadd C dX7_set_78 ?_
            refine z_top (nI (160 * j + q)) (nI_add _ _) ?_
            refine z_aload_n C 0 dX7_set_79 rfl ?_
            refine mg_22 C dX7_set_80 ?_
            refine z_iload_n C 1 dX7_set_83 rfl ?_
            refine ml_22 C j rfl (by first | assumption | omega) dX7_set_84 ?_
            refine z_if_ne C 95 dX7_set_85 (by decide) (fun h85 => ?_) (fun h85 => ?_)
            · skip
              refine z_aload_n C 0 dX7_set_95 rfl ?_
              refine mg_22 C dX7_set_96 ?_
              refine z_iload_n C 1 dX7_set_99 rfl ?_
              refine ml_22 C j rfl (by first | assumption | omega) dX7_set_100 ?_
              refine z_iconst C (v := 1) dX7_set_101 rfl ?_
              refine z_icmp_ne C 112 dX7_set_102 (by decide) (fun h102 => ?_) (fun h102 => ?_)
              · skip
                refine z_aload_n C 0 dX7_set_112 rfl ?_
                refine mg_22 C dX7_set_113 ?_
                refine z_iload_n C 1 dX7_set_116 rfl ?_
                refine ml_22 C j rfl (by first | assumption | omega) dX7_set_117 ?_
                refine z_iconst C (v := 2) dX7_set_118 rfl ?_
                refine z_icmp_ne C 128 dX7_set_119 (by decide) (fun h119 => ?_) (fun h119 => ?_)
                · skip
                  refine z_lload_n C 3 dX7_set_128 rfl ?_
                  refine ms_25 C (160 * j + q) rfl (by first | assumption | omega) dX7_set_129 ?_
                  refine z_iconst C (v := 1) dX7_set_130 rfl ?_
                  refine z_iret C0 dX7_set_131 ?_
                  exact mpo.ok (by unfold kSet; rw [ew, if_neg h21, if_neg h37, ej, inR_t h48 h58]; rfl) rfl (by rw [ej, nI_clamp (by omega)]; rw [eo, ← putV_3 ho (by rw [← eo]; exact h85) (by rw [← eo]; exact h102) (by rw [← eo]; exact h119)])
                · skip
                  refine z_lload_n C 3 dX7_set_122 rfl ?_
                  refine z_l2i C dX7_set_123 ?_
                  refine z_i2l C dX7_set_124 ?_
                  refine z_goto C 129 dX7_set_125 (by decide) ?_
                  refine ms_25 C (160 * j + q) rfl (by first | assumption | omega) dX7_set_129 ?_
                  refine z_iconst C (v := 1) dX7_set_130 rfl ?_
                  refine z_iret C0 dX7_set_131 ?_
                  exact mpo.ok (by unfold kSet; rw [ew, if_neg h21, if_neg h37, ej, inR_t h48 h58]; rfl) rfl (by rw [ej, nI_clamp (by omega)]; rw [eo, ← putV_2 ho (by rw [← eo]; exact h119)])
              · skip
                refine z_lload_n C 3 dX7_set_105 rfl ?_
                refine z_l2i C dX7_set_106 ?_
                refine z_i2s C dX7_set_107 ?_
                refine z_i2l C dX7_set_108 ?_
                refine z_goto C 129 dX7_set_109 (by decide) ?_
                refine ms_25 C (160 * j + q) rfl (by first | assumption | omega) dX7_set_129 ?_
                refine z_iconst C (v := 1) dX7_set_130 rfl ?_
                refine z_iret C0 dX7_set_131 ?_
                exact mpo.ok (by unfold kSet; rw [ew, if_neg h21, if_neg h37, ej, inR_t h48 h58]; rfl) rfl (by rw [ej, nI_clamp (by omega)]; rw [eo, ← putV_1 ho (by rw [← eo]; exact h102)])
            · skip
              refine z_lload_n C 3 dX7_set_88 rfl ?_
              refine z_l2i C dX7_set_89 ?_
              refine z_i2b C dX7_set_90 ?_
              refine z_i2l C dX7_set_91 ?_
              refine z_goto C 129 dX7_set_92 (by decide) ?_
              refine ms_25 C (160 * j + q) rfl (by first | assumption | omega) dX7_set_129 ?_
              refine z_iconst C (v := 1) dX7_set_130 rfl ?_
              refine z_iret C0 dX7_set_131 ?_
              exact mpo.ok (by unfold kSet; rw [ew, if_neg h21, if_neg h37, ej, inR_t h48 h58]; rfl) rfl (by rw [ej, nI_clamp (by omega)]; rw [eo, ← putV_0 ho (by rw [← eo]; exact h85)])
          · skip
            refine z_aload_n C 0 dX7_set_61 rfl ?_
            refine z_bipush C (v := (-5)) dX7_set_62 rfl ?_
            refine z_callV1 C (c_X7_no l E _ (-5) 5 (by decide) (by decide) (by decide)) ⟨rfl, rfl⟩ rfl rfl q_X7_124 ⟨by decide, by decide⟩ (Nat.le_of_ble_eq_true rfl) dX7_set_64 (fun v F9 hp => ?_)
            obtain ⟨rfl, e9⟩ := hp
            rw [e9]
            clear e9 F9
            refine z_iret C0 dX7_set_67 ?_
            exact mpo.ref (by unfold kSet; rw [ew, if_neg h21, if_neg h37, ej, inR_f2 (Int32.not_lt.mp h58)]; rfl) (by decide)
      · skip
        refine z_aload_n C 0 dX7_set_40 rfl ?_
        refine z_bipush C (v := (-3)) dX7_set_41 rfl ?_
        refine z_callV1 C (c_X7_no l E _ (-3) 3 (by decide) (by decide) (by decide)) ⟨rfl, rfl⟩ rfl rfl q_X7_124 ⟨by decide, by decide⟩ (Nat.le_of_ble_eq_true rfl) dX7_set_43 (fun v F9 hp => ?_)
        obtain ⟨rfl, e9⟩ := hp
        rw [e9]
        clear e9 F9
        refine z_iret C0 dX7_set_46 ?_
        exact mpo.ref (by unfold kSet; rw [ew, if_neg h21, if_pos h37]; rfl) (by decide)
    · skip
      refine z_aload_n C 0 dX7_set_24 rfl ?_
      refine z_bipush C (v := (-2)) dX7_set_25 rfl ?_
      refine z_callV1 C (c_X7_no l E _ (-2) 2 (by decide) (by decide) (by decide)) ⟨rfl, rfl⟩ rfl rfl q_X7_124 ⟨by decide, by decide⟩ (Nat.le_of_ble_eq_true rfl) dX7_set_27 (fun v F9 hp => ?_)
      obtain ⟨rfl, e9⟩ := hp
      rw [e9]
      clear e9 F9
      refine z_iret C0 dX7_set_30 ?_
      exact mpo.ref (by unfold kSet; rw [ew, if_pos h21]; rfl) (by decide)
  · skip
    have h5 := bI_0 h5
    refine z_aload_n C 0 dX7_set_8 rfl ?_
    refine z_iconst C (v := (-1)) dX7_set_9 rfl ?_
    refine z_callV1 C (c_X7_no l E _ (-1) 1 (by decide) (by decide) (by decide)) ⟨rfl, rfl⟩ rfl rfl q_X7_124 ⟨by decide, by decide⟩ (Nat.le_of_ble_eq_true rfl) dX7_set_10 (fun v F9 hp => ?_)
    obtain ⟨rfl, e9⟩ := hp
    rw [e9]
    clear e9 F9
    refine z_iret C0 dX7_set_13 ?_
    exact mpo.ref (by unfold kSet wtd; rw [h5]; rfl) (by decide)
set_option maxRecDepth 100000 in
set_option maxHeartbeats 4000000 in
theorem c_X7_element (l : Launch) (E : zE) (M : zM) (hsz : ∀ j, j < 8 → ∃ n, n ≤ 160 ∧ M.2.2.1 23 j = nI n) (s i : Int32) : MM l E yX7_element cX7_element 3 (some .long) 2 [.ref (madr E.2.2.1 (0, 0, 0)), .int (s), .int (i)] (M) (fun v M2 => v = some (.long (aElM M s i)) ∧ M2 = M) := by
  refine MM.mk kq_X7 (Nat.le_of_ble_eq_true rfl) (fun K s C0 => ?_)
  have C := C0.c
  refine z_aload_n C 0 dX7_element_0 rfl ?_
  refine z_iload_n C 1 dX7_element_1 rfl ?_
  refine z_callV1 C (c_X7_isShelf l E _ _) ⟨rfl, rfl⟩ rfl rfl q_X7_120 ⟨by decide, by decide⟩ (Nat.le_of_ble_eq_true rfl) dX7_element_2 (fun v F9 hp => ?_)
  obtain ⟨rfl, e9⟩ := hp
  rw [e9]
  clear e9 F9
  refine z_if_eq C 47 dX7_element_5 (by decide) (fun h5 => ?_) (fun h5 => ?_)
  · skip
    have h5 := bI_0 h5
    refine z_lconst C (v := 0) dX7_element_47 rfl ?_
    refine z_lret C0 dX7_element_48 ?_
    refine ⟨?_, rfl⟩
    unfold aElM
    rw [h5]
    rfl
  · skip
    have h5 := bI_1 h5
    obtain ⟨j, hj, rfl⟩ := inR_of (n := 8) h5 (by omega)
    have ej : (nI j).toNatClampNeg = j := nI_clamp (by omega)
    obtain ⟨len, hlen, el⟩ := hsz j hj
    refine z_aload_n C 0 dX7_element_8 rfl ?_
    refine mg_21 C dX7_element_9 ?_
    refine z_iload_n C 1 dX7_element_12 rfl ?_
    refine ml_21 C j rfl (by first | assumption | omega) dX7_element_13 ?_
    refine z_iconst C (v := 1) dX7_element_14 rfl ?_
    refine z_icmp_ne C 47 dX7_element_15 (by decide) (fun h15 => ?_) (fun h15 => ?_)
    · skip
      refine z_lconst C (v := 0) dX7_element_47 rfl ?_
      refine z_lret C0 dX7_element_48 ?_
      refine ⟨?_, rfl⟩
      unfold aElM
      rw [if_pos h5, ej, if_neg h15]
    · skip
      refine z_iload_n C 2 dX7_element_18 rfl ?_
      refine z_if_lt C 47 dX7_element_19 (by decide) (fun h19 => ?_) (fun h19 => ?_)
      · skip
        refine z_lconst C (v := 0) dX7_element_47 rfl ?_
        refine z_lret C0 dX7_element_48 ?_
        refine ⟨?_, rfl⟩
        unfold aElM
        rw [if_pos h5, ej, if_pos h15, inR_f1 h19]
        rfl
      · skip
        refine z_iload_n C 2 dX7_element_22 rfl ?_
        refine z_aload_n C 0 dX7_element_23 rfl ?_
        refine mg_23 C dX7_element_24 ?_
        refine z_iload_n C 1 dX7_element_27 rfl ?_
        refine ml_23 C j rfl (by first | assumption | omega) dX7_element_28 ?_
        refine z_icmp_ge C 47 dX7_element_29 (by decide) (fun h29 => ?_) (fun h29 => ?_)
        · skip
          refine z_lconst C (v := 0) dX7_element_47 rfl ?_
          refine z_lret C0 dX7_element_48 ?_
          refine ⟨?_, rfl⟩
          unfold aElM
          rw [if_pos h5, ej, if_pos h15, inR_f2 h29]
          rfl
        · skip
          obtain ⟨q, hq, rfl⟩ := i_rng (n := len) h19 (by rw [← el]; exact Int32.not_le.mp h29) (by omega)
          have hq2 : q < 160 := by omega
          refine z_aload_n C 0 dX7_element_32 rfl ?_
          refine mg_25 C dX7_element_33 ?_
          refine z_sipush C (v := 160) dX7_element_36 rfl ?_
          refine z_iload_n C 1 dX7_element_39 rfl ?_
          refine z_imul C dX7_element_40 ?_
          refine z_top (nI (160 * j)) (ix160 j) ?_
          refine z_iload_n C 2 dX7_element_41 rfl ?_
          refine z_iadd C dX7_element_42 ?_
          refine z_top (nI (160 * j + q)) (nI_add _ _) ?_
          refine ml_25 C (160 * j + q) rfl (by first | assumption | omega) dX7_element_43 ?_
          refine z_goto C 48 dX7_element_44 (by decide) ?_
          refine z_lret C0 dX7_element_48 ?_
          refine ⟨?_, rfl⟩
          unfold aElM
          rw [if_pos h5, ej, if_pos h15, inR_t h19 (Int32.not_le.mp h29), nI_clamp (by omega)]
          rfl
set_option maxRecDepth 100000 in
set_option maxHeartbeats 4000000 in
theorem c_X7_show (l : Launch) (E : zE) (M : zM) (s p : Int32) : MM l E yX7_show cX7_show 3 (some .int) 2 [.ref (madr E.2.2.1 (0, 0, 0)), .int (s), .int (p)] (M) (mpo M (kShow M.1 s p) (if p = -1 then 0 else 1) (fun M2 => M2 = mA (mA M 21 s.toNatClampNeg (if p = -1 then 0 else 2)) 24 s.toNatClampNeg p)) := by
  refine MM.mk kq_X7 (Nat.le_of_ble_eq_true rfl) (fun K s C0 => ?_)
  have C := C0.c
  refine z_aload_n C 0 dX7_show_0 rfl ?_
  refine z_iload_n C 1 dX7_show_1 rfl ?_
  refine z_callV1 C (c_X7_isShelf l E _ _) ⟨rfl, rfl⟩ rfl rfl q_X7_120 ⟨by decide, by decide⟩ (Nat.le_of_ble_eq_true rfl) dX7_show_2 (fun v F9 hp => ?_)
  obtain ⟨rfl, e9⟩ := hp
  rw [e9]
  clear e9 F9
  refine z_if_eq C 21 dX7_show_5 (by decide) (fun h5 => ?_) (fun h5 => ?_)
  · skip
    have h5 := bI_0 h5
    refine z_aload_n C 0 dX7_show_21 rfl ?_
    refine z_iconst C (v := (-1)) dX7_show_22 rfl ?_
    refine z_callV1 C (c_X7_no l E _ (-1) 1 (by decide) (by decide) (by decide)) ⟨rfl, rfl⟩ rfl rfl q_X7_124 ⟨by decide, by decide⟩ (Nat.le_of_ble_eq_true rfl) dX7_show_23 (fun v F9 hp => ?_)
    obtain ⟨rfl, e9⟩ := hp
    rw [e9]
    clear e9 F9
    refine z_iret C0 dX7_show_26 ?_
    exact mpo.ref (by simp [kShow, h5]) (by decide)
  · skip
    have h5 := bI_1 h5
    refine z_iload_n C 2 dX7_show_8 rfl ?_
    refine z_iconst C (v := (-1)) dX7_show_9 rfl ?_
    refine z_icmp_eq C 27 dX7_show_10 (by decide) (fun h10 => ?_) (fun h10 => ?_)
    · skip
      obtain ⟨j, hj, rfl⟩ := inR_of (n := 8) h5 (by omega)
      have ej : (nI j).toNatClampNeg = j := nI_clamp (by omega)
      refine z_aload_n C 0 dX7_show_27 rfl ?_
      refine mg_21 C dX7_show_28 ?_
      refine z_iload_n C 1 dX7_show_31 rfl ?_
      refine z_iload_n C 2 dX7_show_32 rfl ?_
      refine z_iconst C (v := (-1)) dX7_show_33 rfl ?_
      refine z_icmp_ne C 41 dX7_show_34 (by decide) (fun h34 => ?_) (fun h34 => ?_)
      · skip
        refine z_iconst C (v := 2) dX7_show_41 rfl ?_
        refine ms_21 C j rfl (by first | assumption | omega) dX7_show_42 ?_
        refine z_aload_n C 0 dX7_show_43 rfl ?_
        refine mg_24 C dX7_show_44 ?_
        refine z_iload_n C 1 dX7_show_47 rfl ?_
        refine z_iload_n C 2 dX7_show_48 rfl ?_
        refine ms_24 C j rfl (by first | assumption | omega) dX7_show_49 ?_
        refine z_iload_n C 2 dX7_show_50 rfl ?_
        refine z_iconst C (v := (-1)) dX7_show_51 rfl ?_
        refine z_icmp_ne C 59 dX7_show_52 (by decide) (fun h52 => ?_) (fun h52 => ?_)
        · skip
          refine z_iconst C (v := 1) dX7_show_59 rfl ?_
          refine z_iret C0 dX7_show_60 ?_
          exact mpo.ok (by simp [kShow, h5, h10, h34, h52]) (by simp [h52]) (by rw [ej]; simp [h34])
        · skip
          refine z_iconst C (v := 0) dX7_show_55 rfl ?_
          refine z_goto C 60 dX7_show_56 (by decide) ?_
          refine z_iret C0 dX7_show_60 ?_
          exact mpo.ok (by simp [kShow, h5, h10, h34, h52]) (by simp [h52]) (by rw [ej]; simp [h34])
      · skip
        refine z_iconst C (v := 0) dX7_show_37 rfl ?_
        refine z_goto C 42 dX7_show_38 (by decide) ?_
        refine ms_21 C j rfl (by first | assumption | omega) dX7_show_42 ?_
        refine z_aload_n C 0 dX7_show_43 rfl ?_
        refine mg_24 C dX7_show_44 ?_
        refine z_iload_n C 1 dX7_show_47 rfl ?_
        refine z_iload_n C 2 dX7_show_48 rfl ?_
        refine ms_24 C j rfl (by first | assumption | omega) dX7_show_49 ?_
        refine z_iload_n C 2 dX7_show_50 rfl ?_
        refine z_iconst C (v := (-1)) dX7_show_51 rfl ?_
        refine z_icmp_ne C 59 dX7_show_52 (by decide) (fun h52 => ?_) (fun h52 => ?_)
        · skip
          refine z_iconst C (v := 1) dX7_show_59 rfl ?_
          refine z_iret C0 dX7_show_60 ?_
          exact mpo.ok (by simp [kShow, h5, h10, h34, h52]) (by simp [h52]) (by rw [ej]; simp [h34])
        · skip
          refine z_iconst C (v := 0) dX7_show_55 rfl ?_
          refine z_goto C 60 dX7_show_56 (by decide) ?_
          refine z_iret C0 dX7_show_60 ?_
          exact mpo.ok (by simp [kShow, h5, h10, h34, h52]) (by simp [h52]) (by rw [ej]; simp [h34])
    · skip
      refine z_aload_n C 0 dX7_show_13 rfl ?_
      refine z_iload_n C 2 dX7_show_14 rfl ?_
      refine z_callV1 C (c_X7_isShop l E _ _) ⟨rfl, rfl⟩ rfl rfl q_X7_128 ⟨by decide, by decide⟩ (Nat.le_of_ble_eq_true rfl) dX7_show_15 (fun v F9 hp => ?_)
      obtain ⟨rfl, e9⟩ := hp
      rw [e9]
      clear e9 F9
      refine z_if_ne C 27 dX7_show_18 (by decide) (fun h18 => ?_) (fun h18 => ?_)
      · skip
        have h18 := bI_1 h18
        obtain ⟨j, hj, rfl⟩ := inR_of (n := 8) h5 (by omega)
        have ej : (nI j).toNatClampNeg = j := nI_clamp (by omega)
        refine z_aload_n C 0 dX7_show_27 rfl ?_
        refine mg_21 C dX7_show_28 ?_
        refine z_iload_n C 1 dX7_show_31 rfl ?_
        refine z_iload_n C 2 dX7_show_32 rfl ?_
        refine z_iconst C (v := (-1)) dX7_show_33 rfl ?_
        refine z_icmp_ne C 41 dX7_show_34 (by decide) (fun h34 => ?_) (fun h34 => ?_)
        · skip
          refine z_iconst C (v := 2) dX7_show_41 rfl ?_
          refine ms_21 C j rfl (by first | assumption | omega) dX7_show_42 ?_
          refine z_aload_n C 0 dX7_show_43 rfl ?_
          refine mg_24 C dX7_show_44 ?_
          refine z_iload_n C 1 dX7_show_47 rfl ?_
          refine z_iload_n C 2 dX7_show_48 rfl ?_
          refine ms_24 C j rfl (by first | assumption | omega) dX7_show_49 ?_
          refine z_iload_n C 2 dX7_show_50 rfl ?_
          refine z_iconst C (v := (-1)) dX7_show_51 rfl ?_
          refine z_icmp_ne C 59 dX7_show_52 (by decide) (fun h52 => ?_) (fun h52 => ?_)
          · skip
            refine z_iconst C (v := 1) dX7_show_59 rfl ?_
            refine z_iret C0 dX7_show_60 ?_
            exact mpo.ok (by simp [kShow, h5, h10, h18, h34, h52]) (by simp [h52]) (by rw [ej]; simp [h34])
          · skip
            refine z_iconst C (v := 0) dX7_show_55 rfl ?_
            refine z_goto C 60 dX7_show_56 (by decide) ?_
            refine z_iret C0 dX7_show_60 ?_
            exact mpo.ok (by simp [kShow, h5, h10, h18, h34, h52]) (by simp [h52]) (by rw [ej]; simp [h34])
        · skip
          refine z_iconst C (v := 0) dX7_show_37 rfl ?_
          refine z_goto C 42 dX7_show_38 (by decide) ?_
          refine ms_21 C j rfl (by first | assumption | omega) dX7_show_42 ?_
          refine z_aload_n C 0 dX7_show_43 rfl ?_
          refine mg_24 C dX7_show_44 ?_
          refine z_iload_n C 1 dX7_show_47 rfl ?_
          refine z_iload_n C 2 dX7_show_48 rfl ?_
          refine ms_24 C j rfl (by first | assumption | omega) dX7_show_49 ?_
          refine z_iload_n C 2 dX7_show_50 rfl ?_
          refine z_iconst C (v := (-1)) dX7_show_51 rfl ?_
          refine z_icmp_ne C 59 dX7_show_52 (by decide) (fun h52 => ?_) (fun h52 => ?_)
          · skip
            refine z_iconst C (v := 1) dX7_show_59 rfl ?_
            refine z_iret C0 dX7_show_60 ?_
            exact mpo.ok (by simp [kShow, h5, h10, h18, h34, h52]) (by simp [h52]) (by rw [ej]; simp [h34])
          · skip
            refine z_iconst C (v := 0) dX7_show_55 rfl ?_
            refine z_goto C 60 dX7_show_56 (by decide) ?_
            refine z_iret C0 dX7_show_60 ?_
            exact mpo.ok (by simp [kShow, h5, h10, h18, h34, h52]) (by simp [h52]) (by rw [ej]; simp [h34])
      · skip
        have h18 := bI_0 h18
        refine z_aload_n C 0 dX7_show_21 rfl ?_
        refine z_iconst C (v := (-1)) dX7_show_22 rfl ?_
        refine z_callV1 C (c_X7_no l E _ (-1) 1 (by decide) (by decide) (by decide)) ⟨rfl, rfl⟩ rfl rfl q_X7_124 ⟨by decide, by decide⟩ (Nat.le_of_ble_eq_true rfl) dX7_show_23 (fun v F9 hp => ?_)
        obtain ⟨rfl, e9⟩ := hp
        rw [e9]
        clear e9 F9
        refine z_iret C0 dX7_show_26 ?_
        exact mpo.ref (by simp [kShow, h5, h10, h18]) (by decide)
set_option maxRecDepth 100000 in
set_option maxHeartbeats 4000000 in
theorem c_X7_holds (l : Launch) (E : zE) (M : zM) (s : Int32) : MM l E yX7_holds cX7_holds 2 (some .int) 2 [.ref (madr E.2.2.1 (0, 0, 0)), .int (s)] (M) (fun v M2 => v = some (.int (aHoM M s)) ∧ M2 = M) := by
  refine MM.mk kq_X7 (Nat.le_of_ble_eq_true rfl) (fun K s C0 => ?_)
  have C := C0.c
  refine z_aload_n C 0 dX7_holds_0 rfl ?_
  refine z_iload_n C 1 dX7_holds_1 rfl ?_
  refine z_callV1 C (c_X7_isShelf l E _ _) ⟨rfl, rfl⟩ rfl rfl q_X7_120 ⟨by decide, by decide⟩ (Nat.le_of_ble_eq_true rfl) dX7_holds_2 (fun v F9 hp => ?_)
  obtain ⟨rfl, e9⟩ := hp
  rw [e9]
  clear e9 F9
  refine z_if_eq C 17 dX7_holds_5 (by decide) (fun h5 => ?_) (fun h5 => ?_)
  · skip
    have h5 := bI_0 h5
    refine z_iconst C (v := (-1)) dX7_holds_17 rfl ?_
    refine z_iret C0 dX7_holds_18 ?_
    refine ⟨?_, rfl⟩
    unfold aHoM
    rw [h5]
    rfl
  · skip
    have h5 := bI_1 h5
    obtain ⟨j, hj, rfl⟩ := inR_of (n := 8) h5 (by omega)
    have ej : (nI j).toNatClampNeg = j := nI_clamp (by omega)
    refine z_aload_n C 0 dX7_holds_8 rfl ?_
    refine mg_21 C dX7_holds_9 ?_
    refine z_iload_n C 1 dX7_holds_12 rfl ?_
    refine ml_21 C j rfl (by first | assumption | omega) dX7_holds_13 ?_
    refine z_if_ne C 19 dX7_holds_14 (by decide) (fun h14 => ?_) (fun h14 => ?_)
    · skip
      refine z_aload_n C 0 dX7_holds_19 rfl ?_
      refine mg_21 C dX7_holds_20 ?_
      refine z_iload_n C 1 dX7_holds_23 rfl ?_
      refine ml_21 C j rfl (by first | assumption | omega) dX7_holds_24 ?_
      refine z_iconst C (v := 1) dX7_holds_25 rfl ?_
      refine z_icmp_ne C 41 dX7_holds_26 (by decide) (fun h26 => ?_) (fun h26 => ?_)
      · skip
        refine z_aload_n C 0 dX7_holds_41 rfl ?_
        refine mg_24 C dX7_holds_42 ?_
        refine z_iload_n C 1 dX7_holds_45 rfl ?_
        refine ml_24 C j rfl (by first | assumption | omega) dX7_holds_46 ?_
        refine z_iret C0 dX7_holds_47 ?_
        refine ⟨?_, rfl⟩
        unfold aHoM
        rw [if_pos h5, ej, if_neg h14, if_neg h26]
      · skip
        refine z_bipush C (v := 100) dX7_holds_29 rfl ?_
        refine z_aload_n C 0 dX7_holds_31 rfl ?_
        refine mg_22 C dX7_holds_32 ?_
        refine z_iload_n C 1 dX7_holds_35 rfl ?_
        refine ml_22 C j rfl (by first | assumption | omega) dX7_holds_36 ?_
        refine z_iadd C dX7_holds_37 ?_
        refine z_goto C 47 dX7_holds_38 (by decide) ?_
        refine z_iret C0 dX7_holds_47 ?_
        refine ⟨?_, rfl⟩
        unfold aHoM
        rw [if_pos h5, ej, if_neg h14, if_pos h26]
    · skip
      refine z_iconst C (v := (-1)) dX7_holds_17 rfl ?_
      refine z_iret C0 dX7_holds_18 ?_
      refine ⟨?_, rfl⟩
      unfold aHoM
      rw [if_pos h5, ej, if_pos h14]
