/-! the reference: what is asked -/
/-- the same but for what nobody asks for -/
def mSm (M M2 : zM) : Prop := eqv M2.1 M.1 ∧ (∀ k, (k = 8 ∨ k = 46 ∨ k = 47) → M2.2.1 k = M.2.1 k) ∧ (∀ k, (k = 9 ∨ (21 ≤ k ∧ k ≤ 24) ∨ k = 27 ∨ k = 28 ∨ k = 36 ∨ k = 45) → M2.2.2.1 k = M.2.2.1 k) ∧ M2.2.2.2 25 = M.2.2.2 25
theorem mSm.rf (M : zM) : mSm M M := ⟨eqv.rf _, fun _ _ => rfl, fun _ _ => rfl, rfl⟩
theorem mSm.tr {A B C : zM} (h : mSm A B) (h2 : mSm B C) : mSm A C := ⟨h2.1.tr h.1, fun k hk => (h2.2.1 k hk).trans (h.2.1 k hk), fun k hk => (h2.2.2.1 k hk).trans (h.2.2.1 k hk), h2.2.2.2.trans h.2.2.2⟩
theorem mSm_tr {M : zM} {g g2 : zGc} {B : Nat → Int32} {d : Int32} (h : eqv g2 M.1) : mSm M (mG (mTr M g B d) g2) := by
  refine ⟨h, fun k hk => ?_, fun k hk => ?_, rfl⟩
  · show upd M.2.1 39 d k = _
    exact pk_un (by omega)
  · show va_up (va_up M.2.2.1 37 _) 38 B k = _
    rw [va_up_ne _ _ (show k ≠ 38 by omega), va_up_ne _ _ (show k ≠ 37 by omega)]
theorem mSm_se {M : zM} {g g2 : zGc} {B th f : Nat → Int32} (h : eqv g2 M.1) : mSm M (mG (mT (mB (mT M 37 f) g B) 40 th) g2) := by
  refine ⟨h, fun k hk => rfl, fun k hk => ?_, rfl⟩
  show va_up (va_up (va_up M.2.2.1 37 f) 38 B) 40 th k = _
  rw [va_up_ne _ _ (show k ≠ 40 by omega), va_up_ne _ _ (show k ≠ 38 by omega), va_up_ne _ _ (show k ≠ 37 by omega)]
theorem mSm_hp {M : zM} {g g2 : zGc} {B f : Nat → Int32} (h : eqv g2 M.1) : mSm M (mG (mB (mT M 37 f) g B) g2) := by
  refine ⟨h, fun k hk => rfl, fun k hk => ?_, rfl⟩
  show va_up (va_up M.2.2.1 37 f) 38 B k = _
  rw [va_up_ne _ _ (show k ≠ 38 by omega), va_up_ne _ _ (show k ≠ 37 by omega)]
theorem mT_A {M : zM} {k j : Nat} {f : Nat → Int32} {v : Int32} : mA (mT M k f) k j v = mT M k (upd f j v) := by
  unfold mA mT
  simp only [va_up_self, va_up_up]
theorem mB_T {M : zM} {g g2 : zGc} {B B2 th : Nat → Int32} : mB (mT (mB M g B) 40 th) g2 B2 = mT (mB M g2 B2) 40 th := by
  unfold mB mT
  congr 3
  funext k
  by_cases h1 : k = 38
  · subst h1; simp [va_up]
  · by_cases h2 : k = 40
    · subst h2; simp [va_up]
    · simp [va_up, h1, h2]
theorem okRN_of {rule n : Int32} (h : okRN rule n = true) : inR rule 4 = true ∧ inT n 240 = true := by
  unfold okRN at h
  simp only [Bool.and_eq_true] at h
  exact h
theorem w01_n {w : Int32} (h : w < 0 ∨ 1 < w) : ¬ (w = 0 ∨ w = 1) := by
  rintro (rfl | rfl)
  · rcases h with h | h <;> exact absurd h (by decide)
  · rcases h with h | h <;> exact absurd h (by decide)
theorem w01_y {w : Int32} (h : ¬ w < 0) (h2 : w ≤ 1) : w = 0 ∨ w = 1 := by
  obtain ⟨j, hj, rfl⟩ := inT_of (n := 1) (inT_t h h2) (by omega)
  have : j = 0 ∨ j = 1 := by omega
  rcases this with rfl | rfl
  · exact Or.inl rfl
  · exact Or.inr rfl
theorem cmp_g {x y : Int32} (h : y < x) : cmpI x y = 1 := by
  unfold cmpI
  rw [if_neg (Int32.not_lt.mpr (Int32.le_of_lt h)), if_neg (fun z => by rw [z] at h; exact Int32.lt_irrefl h)]
theorem cmp_l {x y : Int32} (h : x < y) : cmpI x y = -1 := if_pos h
theorem cmp_e {x y : Int32} (h : x ≤ y) (h2 : y ≤ x) : cmpI x y = 0 := by
  unfold cmpI
  rw [if_neg (Int32.not_lt.mpr h2), if_pos (Int32.le_antisymm h h2)]
-- deals grow
theorem makes_6 {g : zGc} {c : Nat} {d : Int32} : (makes g c d).1 6 = g.1 6 ∨ (makes g c d).1 6 = g.1 6 + 1 := by
  unfold makes
  split
  · exact Or.inl rfl
  · split
    · exact Or.inl rfl
    · split
      · exact Or.inl rfl
      · split
        · exact Or.inl rfl
        · right
          unfold buyG; split <;> rfl
theorem kidsN_6 {f : zGf → Nat → Int32} {G : zGf} : ∀ {n : Nat}, ∃ k, k ≤ n ∧ (kidsN f n G).1.1 6 = G.1.1 6 + nI k
  | 0 => ⟨0, Nat.le_refl _, by show G.1.1 6 = _; rw [show nI 0 = 0 from rfl, Int32.add_zero]⟩
  | n + 1 => by
    obtain ⟨k, hk, e⟩ := kidsN_6 (f := f) (G := G) (n := n)
    rcases makes_6 (g := (kidsN f n G).1) (c := n) (d := f (kidsN f n G) n) with h | h
    · exact ⟨k, by omega, Eq.trans h e⟩
    · refine ⟨k + 1, by omega, Eq.trans h ?_⟩
      rw [e, Int32.add_assoc, nI_1]
theorem endM_6 {G : zGf} : (endM G).1.1 6 = G.1.1 6 := congrFun (endN_1 (B := G.2.1) (g := G.1) (n := nS G.1)) 6
theorem run_6 {rule : Int32} {g : zGc} {N t : Nat} (hz : gz g) (h : rg N g) (hN : N + 6 * t ≤ 134217000) : ∃ d k, d ≤ 134217000 ∧ k ≤ 6 ∧ (run rule t g).1 6 = nI d ∧ (run rule (t + 1) g).1 6 = nI (d + k) := by
  obtain ⟨d, hd, ed⟩ := (rg_run (rule := rule) hz h (n := t) (by omega)).2.2.2.2
  obtain ⟨k, hk, ek⟩ := kidsN_6 (f := fun G c => deedBy G.1 rule c) (G := begM (minutes rule t (g, fun _ => 0, fun _ => 0))) (n := nC (run rule t g))
  have h6 : nC (run rule t g) ≤ 6 := (sk_run.z hz).2.2
  refine ⟨d, k, by omega, by omega, ed, ?_⟩
  have e1 : (run rule (t + 1) g).1 6 = _ := Eq.trans (endM_6 (G := kidsN (fun G c => deedBy G.1 rule c) (nC (run rule t g)) (begM (minutes rule t (g, fun _ => 0, fun _ => 0))))) ek
  rw [e1, ← nI_add]
  exact congrArg (fun z => z + nI k) ed
theorem d6_eq {a b : Int32} (h : ∃ d k, d ≤ 134217000 ∧ k ≤ 6 ∧ a = nI d ∧ b = nI (d + k)) (h2 : b ≤ a) : b = a := by
  obtain ⟨d, k, hd, hk, rfl, rfl⟩ := h
  have := (nI_leI (by omega) (by omega)).mp h2
  rw [show d + k = d by omega]
theorem d6_ne {a b : Int32} (h : ∃ d k, d ≤ 134217000 ∧ k ≤ 6 ∧ a = nI d ∧ b = nI (d + k)) (h2 : ¬ b ≤ a) : ¬ b = a := fun z => h2 (by rw [z]; exact Int32.le_refl _)
theorem stopN_r {rule : Int32} {g : zGc} : ∀ {t : Nat}, ∃ j, j ≤ t ∧ stopN rule g t = nI j
  | 0 => ⟨0, Nat.le_refl _, rfl⟩
  | t + 1 => by
    obtain ⟨j, hj, e⟩ := stopN_r (rule := rule) (g := g) (t := t)
    simp only [stopN]
    split
    · exact ⟨j, by omega, e⟩
    · exact ⟨t + 1, Nat.le_refl _, rfl⟩
theorem stop_240 {rule : Int32} {g : zGc} (h : stopN rule g 240 = 240) : aStop (stopN rule g 240) = -1 := by
  rw [h]; decide
theorem stop_n {rule : Int32} {g : zGc} (h : ¬ stopN rule g 240 = 240) : aStop (stopN rule g 240) = stopN rule g 240 := by
  obtain ⟨j, hj, e⟩ := stopN_r (rule := rule) (g := g) (t := 240)
  rw [e] at h ⊢
  unfold aStop
  have hj2 : j ≠ 240 := fun z => h (by rw [z]; rfl)
  exact if_pos (nI_lt (b := 240) (by omega) (by omega))
set_option maxRecDepth 100000 in
set_option maxHeartbeats 4000000 in
theorem lp_X7_may {l : Launch} {E : zE} {K : zK} {s : State} (M : zM) (hz : gz M.1) {N : Nat} (h : rg N M.1) (hN : N ≤ 100000000) (a : Int32) {c : Nat} (ea : a = nI c) (hc : c < nC M.1) (h5 : inR a (M.1.1 1) = true) (C0 : MR l E K cX7_may RX7 4 s 4 (some .int) (mpo M (kMay M.1 a) (mayN M.1 a.toNatClampNeg 16) (fun M2 => M2 = M))) : ∀ (n2 : Nat) (d : Nat), (16 - d < n2) → (d ≤ 16) → Z K (MP E (M) s) 18 [(0, .ref (madr E.2.2.1 (0, 0, 0))), (1, .int (nI c)), (2, .int (mayN M.1 c d)), (3, .int (nI d))] [] := by
  have C := C0.c
  intro n2
  induction n2 with
  | zero => intro d hk hkl; exact absurd hk (Nat.not_lt_zero _)
  | succ n2 ih =>
    intro d hk hkl
    obtain ⟨⟨eS, lS⟩, ⟨eC, lC⟩⟩ := id hz
    have hsm : sms M.1 := h.sm (by omega)
    have hc6 : c < 6 := by omega
    refine z_iload_n C 3 dX7_may_18 rfl ?_
    refine z_bipush C (v := 16) dX7_may_19 rfl ?_
    refine z_icmp_ge C 45 dX7_may_21 (by decide) (fun h21 => ?_) (fun h21 => ?_)
    · skip
      refine z_iload_n C 2 dX7_may_45 rfl ?_
      refine z_iret C0 dX7_may_46 ?_
      have e : d = 16 := by
        rcases Nat.lt_or_ge d 16 with q | q
        · exact absurd h21 (nI_ge (b := 16) q (by omega))
        · omega
      subst e ea
      exact mpo.ok (by simp [kMay, h5]) (by rw [nI_clamp (by omega)]) rfl
    · skip
      have hd2 : d < 16 := by
        rcases Nat.lt_or_ge d 16 with q | q
        · exact q
        · exact absurd (nI_le (a := 16) (b := d) q (by omega)) h21
      refine z_aload_n C 0 dX7_may_24 rfl ?_
      refine z_iload_n C 1 dX7_may_25 rfl ?_
      refine z_iload_n C 3 dX7_may_26 rfl ?_
      refine z_callV2 C (c_X7_mayBe l E _ hz hsm hc6 (nI d)) ⟨rfl, rfl⟩ rfl rfl q_X7_170 ⟨by decide, by decide⟩ (Nat.le_of_ble_eq_true rfl) dX7_may_27 (fun v F9 hp => ?_)
      obtain ⟨rfl, e9⟩ := hp
      rw [e9]
      clear e9 F9
      refine z_if_eq C 39 dX7_may_30 (by decide) (fun h30 => ?_) (fun h30 => ?_)
      · skip
        have h30 := bI_0 h30
        refine z_iinc C (v := nI (d + 1)) 3 dX7_may_39 rfl (nI_1 _) (by decide) ?_
        refine z_goto C 18 dX7_may_42 (by decide) ?_
        refine z_pick [1, 2, 3, 0] rfl ?_
        have q := ih (d + 1) (by omega) (by omega)
        simp only [mayN] at q
        rw [if_neg (by rw [h30]; decide)] at q
        exact q
      · skip
        have h30 := bI_1 h30
        refine z_iload_n C 2 dX7_may_33 rfl ?_
        refine z_iconst C (v := 1) dX7_may_34 rfl ?_
        refine z_iload_n C 3 dX7_may_35 rfl ?_
        refine z_ishl C dX7_may_36 ?_
        refine z_ior C dX7_may_37 ?_
        refine z_istore_n (i := 2) C dX7_may_38 rfl (by decide) ?_
        refine z_iinc C (v := nI (d + 1)) 3 dX7_may_39 rfl (nI_1 _) (by decide) ?_
        refine z_goto C 18 dX7_may_42 (by decide) ?_
        refine z_pick [2, 3, 1, 0] rfl ?_
        have q := ih (d + 1) (by omega) (by omega)
        simp only [mayN] at q
        rw [if_pos h30] at q
        exact q
set_option maxRecDepth 100000 in
set_option maxHeartbeats 4000000 in
theorem c_X7_may (l : Launch) (E : zE) (M : zM) (hz : gz M.1) {N : Nat} (h : rg N M.1) (hN : N ≤ 100000000) (a : Int32) : MM l E yX7_may cX7_may 4 (some .int) 4 [.ref (madr E.2.2.1 (0, 0, 0)), .int (a)] (M) (mpo M (kMay M.1 a) (mayN M.1 a.toNatClampNeg 16) (fun M2 => M2 = M)) := by
  refine MM.mk kq_X7 (Nat.le_of_ble_eq_true rfl) (fun K s C0 => ?_)
  have C := C0.c
  obtain ⟨⟨eS, lS⟩, ⟨eC, lC⟩⟩ := id hz
  have hsm : sms M.1 := h.sm (by omega)
  refine z_aload_n C 0 dX7_may_0 rfl ?_
  refine z_iload_n C 1 dX7_may_1 rfl ?_
  refine z_callV1 C (c_X7_isChild l E _ _) ⟨rfl, rfl⟩ rfl rfl q_X7_142 ⟨by decide, by decide⟩ (Nat.le_of_ble_eq_true rfl) dX7_may_2 (fun v F9 hp => ?_)
  obtain ⟨rfl, e9⟩ := hp
  rw [e9]
  clear e9 F9
  refine z_if_ne C 14 dX7_may_5 (by decide) (fun h5 => ?_) (fun h5 => ?_)
  · skip
    have h5 := bI_1 h5
    obtain ⟨c, hc, rfl⟩ := inR_of (n := nC M.1) (by rw [← eC]; exact h5) (by omega)
    have hc6 : c < 6 := by omega
    have ec : (nI c).toNatClampNeg = c := nI_clamp (by omega)
    refine z_iconst C (v := 0) dX7_may_14 rfl ?_
    refine z_istore_n (i := 2) C dX7_may_15 rfl (by decide) ?_
    refine z_iconst C (v := 0) dX7_may_16 rfl ?_
    refine z_istore_n (i := 3) C dX7_may_17 rfl (by decide) ?_
    refine z_pick [2, 3, 1, 0] rfl ?_
    exact lp_X7_may M hz h hN (nI c) rfl hc h5 C0 17 0 (by omega) (by omega)
  · skip
    have h5 := bI_0 h5
    refine z_aload_n C 0 dX7_may_8 rfl ?_
    refine z_iconst C (v := (-1)) dX7_may_9 rfl ?_
    refine z_callV1 C (c_X7_no l E _ (-1) 1 (by decide) (by decide) (by decide)) ⟨rfl, rfl⟩ rfl rfl q_X7_124 ⟨by decide, by decide⟩ (Nat.le_of_ble_eq_true rfl) dX7_may_10 (fun v F9 hp => ?_)
    obtain ⟨rfl, e9⟩ := hp
    rw [e9]
    clear e9 F9
    refine z_iret C0 dX7_may_13 ?_
    exact mpo.ref (by simp [kMay, h5]) (by decide)
set_option maxRecDepth 100000 in
set_option maxHeartbeats 4000000 in
theorem c_X7_behind (l : Launch) (E : zE) (M : zM) (hz : gz M.1) {N : Nat} (h : rg N M.1) (hN : N ≤ 100000000) (rule n a w : Int32) : MM l E yX7_behind cX7_behind 6 (some .int) 8 [.ref (madr E.2.2.1 (0, 0, 0)), .int (rule), .int (n), .int (a), .int (w)] (M) (mpo M (kBehind M.1 rule n a w) (aBehind (run rule n.toNatClampNeg M.1) a.toNatClampNeg w) (mSm M)) := by
  refine MM.mk kq_X7 (Nat.le_of_ble_eq_true rfl) (fun K s C0 => ?_)
  have C := C0.c
  obtain ⟨⟨eS, lS⟩, ⟨eC, lC⟩⟩ := id hz
  have hsm : sms M.1 := h.sm (by omega)
  refine z_aload_n C 0 dX7_behind_0 rfl ?_
  refine z_iload_n C 3 dX7_behind_1 rfl ?_
  refine z_callV1 C (c_X7_isChild l E _ _) ⟨rfl, rfl⟩ rfl rfl q_X7_142 ⟨by decide, by decide⟩ (Nat.le_of_ble_eq_true rfl) dX7_behind_2 (fun v F9 hp => ?_)
  obtain ⟨rfl, e9⟩ := hp
  rw [e9]
  clear e9 F9
  refine z_if_ne C 14 dX7_behind_5 (by decide) (fun h5 => ?_) (fun h5 => ?_)
  · skip
    have h5 := bI_1 h5
    refine z_iload C 4 dX7_behind_14 rfl ?_
    refine z_iconst C (v := 1) dX7_behind_16 rfl ?_
    refine z_icmp_eq C 39 dX7_behind_17 (by decide) (fun h17 => ?_) (fun h17 => ?_)
    · skip
      refine z_aload_n C 0 dX7_behind_39 rfl ?_
      refine z_iload_n C 1 dX7_behind_40 rfl ?_
      refine z_iload_n C 2 dX7_behind_41 rfl ?_
      refine z_callV2 C (c_X7_isAfternoon l E _ _ _) ⟨rfl, rfl⟩ rfl rfl q_X7_256 ⟨by decide, by decide⟩ (Nat.le_of_ble_eq_true rfl) dX7_behind_42 (fun v F9 hp => ?_)
      obtain ⟨rfl, e9⟩ := hp
      rw [e9]
      clear e9 F9
      refine z_if_ne C 55 dX7_behind_45 (by decide) (fun h45 => ?_) (fun h45 => ?_)
      · skip
        have h45 := bI_1 h45
        obtain ⟨c, hc, rfl⟩ := inR_of (n := nC M.1) (by rw [← eC]; exact h5) (by omega)
        have hc6 : c < 6 := by omega
        have ec : (nI c).toNatClampNeg = c := nI_clamp (by omega)
        obtain ⟨hr4, hnt⟩ := okRN_of h45
        obtain ⟨nn, hnn, rfl⟩ := inT_of (n := 240) hnt (by omega)
        have en : (nI nn).toNatClampNeg = nn := nI_clamp (by omega)
        refine z_aload_n C 0 dX7_behind_55 rfl ?_
        refine z_iload_n C 1 dX7_behind_56 rfl ?_
        refine z_iload_n C 2 dX7_behind_57 rfl ?_
        refine z_callV2 C (c_X7_tries l E _ hz h rule (n := nn) (by omega) (by omega)) ⟨rfl, rfl⟩ rfl rfl q_X7_259 ⟨by decide, by decide⟩ (Nat.le_of_ble_eq_true rfl) dX7_behind_58 (fun v F9 hp => ?_)
        obtain ⟨rfl, B, e9⟩ := hp
        rw [e9]
        clear e9 F9
        have zR : gz (run rule nn M.1) := sk_run.z hz
        have rR : rg (N + 6 * nn) (run rule nn M.1) := rg_run hz h (by omega)
        have sR : sms (run rule nn M.1) := rR.sm (by omega)
        have eRC : nC (run rule nn M.1) = nC M.1 := sk_run.C
        have eRS : nS (run rule nn M.1) = nS M.1 := sk_run.S
        refine z_iload C 4 dX7_behind_61 rfl ?_
        refine z_iconst C (v := 1) dX7_behind_63 rfl ?_
        refine z_icmp_ne C 76 dX7_behind_64 (by decide) (fun h64 => ?_) (fun h64 => ?_)
        · skip
          refine z_iload C 4 dX7_behind_76 rfl ?_
          refine z_iconst C (v := 2) dX7_behind_78 rfl ?_
          refine z_icmp_ne C 91 dX7_behind_79 (by decide) (fun h79 => ?_) (fun h79 => ?_)
          · skip
            refine z_aload_n C 0 dX7_behind_91 rfl ?_
            refine mg_19 C dX7_behind_92 ?_
            refine z_iload_n C 3 dX7_behind_95 rfl ?_
            refine ml_19 C c rfl (by first | assumption | omega) dX7_behind_96 ?_
            refine z_istore C dX7_behind_97 (by decide) ?_
            refine z_aload_n C 1 dX7_behind_99 rfl ?_
            refine z_callV0 C (c_X7_takesBack l E _ (g := M.1) hz (fun q hq => mTr_37 hq)) ⟨rfl, rfl⟩ rfl rfl q_X7_262 ⟨by decide, by decide⟩ (Nat.le_of_ble_eq_true rfl) dX7_behind_100 (fun v F9 hp => ?_)
            obtain ⟨rfl, g2, e9, hg2⟩ := hp
            rw [e9]
            clear e9 F9
            refine z_iload C 0 dX7_behind_103 rfl ?_
            refine z_iret C0 dX7_behind_105 ?_
            exact mpo.ok (by simp [kBehind, h5, h17, h45, h64, h79]) (by rw [en, ec]; unfold aBehind; rw [if_neg h64, if_neg h79]; rfl) (mSm_tr hg2)
          · skip
            refine z_aload_n C 0 dX7_behind_82 rfl ?_
            refine mg_17 C dX7_behind_83 ?_
            refine z_iload_n C 3 dX7_behind_86 rfl ?_
            refine ml_17 C c rfl (by first | assumption | omega) dX7_behind_87 ?_
            refine z_goto C 97 dX7_behind_88 (by decide) ?_
            refine z_istore C dX7_behind_97 (by decide) ?_
            refine z_aload_n C 1 dX7_behind_99 rfl ?_
            refine z_callV0 C (c_X7_takesBack l E _ (g := M.1) hz (fun q hq => mTr_37 hq)) ⟨rfl, rfl⟩ rfl rfl q_X7_262 ⟨by decide, by decide⟩ (Nat.le_of_ble_eq_true rfl) dX7_behind_100 (fun v F9 hp => ?_)
            obtain ⟨rfl, g2, e9, hg2⟩ := hp
            rw [e9]
            clear e9 F9
            refine z_iload C 0 dX7_behind_103 rfl ?_
            refine z_iret C0 dX7_behind_105 ?_
            exact mpo.ok (by simp [kBehind, h5, h17, h45, h64, h79]) (by rw [en, ec]; unfold aBehind; rw [if_neg h64, if_pos h79]; rfl) (mSm_tr hg2)
        · skip
          refine z_aload_n C 0 dX7_behind_67 rfl ?_
          refine mg_16 C dX7_behind_68 ?_
          refine z_iload_n C 3 dX7_behind_71 rfl ?_
          refine ml_16 C c rfl (by first | assumption | omega) dX7_behind_72 ?_
          refine z_goto C 97 dX7_behind_73 (by decide) ?_
          refine z_istore C dX7_behind_97 (by decide) ?_
          refine z_aload_n C 1 dX7_behind_99 rfl ?_
          refine z_callV0 C (c_X7_takesBack l E _ (g := M.1) hz (fun q hq => mTr_37 hq)) ⟨rfl, rfl⟩ rfl rfl q_X7_262 ⟨by decide, by decide⟩ (Nat.le_of_ble_eq_true rfl) dX7_behind_100 (fun v F9 hp => ?_)
          obtain ⟨rfl, g2, e9, hg2⟩ := hp
          rw [e9]
          clear e9 F9
          refine z_iload C 0 dX7_behind_103 rfl ?_
          refine z_iret C0 dX7_behind_105 ?_
          exact mpo.ok (by simp [kBehind, h5, h17, h45, h64]) (by rw [en, ec]; unfold aBehind; rw [if_pos h64]; rfl) (mSm_tr hg2)
      · skip
        have h45 := bI_0 h45
        refine z_aload_n C 0 dX7_behind_48 rfl ?_
        refine z_bipush C (v := (-6)) dX7_behind_49 rfl ?_
        refine z_callV1 C (c_X7_no l E _ (-6) 6 (by decide) (by decide) (by decide)) ⟨rfl, rfl⟩ rfl rfl q_X7_124 ⟨by decide, by decide⟩ (Nat.le_of_ble_eq_true rfl) dX7_behind_51 (fun v F9 hp => ?_)
        obtain ⟨rfl, e9⟩ := hp
        rw [e9]
        clear e9 F9
        refine z_iret C0 dX7_behind_54 ?_
        exact mpo.ref (by simp [kBehind, h5, h17, h45]) (by decide)
    · skip
      refine z_iload C 4 dX7_behind_20 rfl ?_
      refine z_iconst C (v := 2) dX7_behind_22 rfl ?_
      refine z_icmp_eq C 39 dX7_behind_23 (by decide) (fun h23 => ?_) (fun h23 => ?_)
      · skip
        refine z_aload_n C 0 dX7_behind_39 rfl ?_
        refine z_iload_n C 1 dX7_behind_40 rfl ?_
        refine z_iload_n C 2 dX7_behind_41 rfl ?_
        refine z_callV2 C (c_X7_isAfternoon l E _ _ _) ⟨rfl, rfl⟩ rfl rfl q_X7_256 ⟨by decide, by decide⟩ (Nat.le_of_ble_eq_true rfl) dX7_behind_42 (fun v F9 hp => ?_)
        obtain ⟨rfl, e9⟩ := hp
        rw [e9]
        clear e9 F9
        refine z_if_ne C 55 dX7_behind_45 (by decide) (fun h45 => ?_) (fun h45 => ?_)
        · skip
          have h45 := bI_1 h45
          obtain ⟨c, hc, rfl⟩ := inR_of (n := nC M.1) (by rw [← eC]; exact h5) (by omega)
          have hc6 : c < 6 := by omega
          have ec : (nI c).toNatClampNeg = c := nI_clamp (by omega)
          obtain ⟨hr4, hnt⟩ := okRN_of h45
          obtain ⟨nn, hnn, rfl⟩ := inT_of (n := 240) hnt (by omega)
          have en : (nI nn).toNatClampNeg = nn := nI_clamp (by omega)
          refine z_aload_n C 0 dX7_behind_55 rfl ?_
          refine z_iload_n C 1 dX7_behind_56 rfl ?_
          refine z_iload_n C 2 dX7_behind_57 rfl ?_
          refine z_callV2 C (c_X7_tries l E _ hz h rule (n := nn) (by omega) (by omega)) ⟨rfl, rfl⟩ rfl rfl q_X7_259 ⟨by decide, by decide⟩ (Nat.le_of_ble_eq_true rfl) dX7_behind_58 (fun v F9 hp => ?_)
          obtain ⟨rfl, B, e9⟩ := hp
          rw [e9]
          clear e9 F9
          have zR : gz (run rule nn M.1) := sk_run.z hz
          have rR : rg (N + 6 * nn) (run rule nn M.1) := rg_run hz h (by omega)
          have sR : sms (run rule nn M.1) := rR.sm (by omega)
          have eRC : nC (run rule nn M.1) = nC M.1 := sk_run.C
          have eRS : nS (run rule nn M.1) = nS M.1 := sk_run.S
          refine z_iload C 4 dX7_behind_61 rfl ?_
          refine z_iconst C (v := 1) dX7_behind_63 rfl ?_
          refine z_icmp_ne C 76 dX7_behind_64 (by decide) (fun h64 => ?_) (fun h64 => ?_)
          · skip
            refine z_iload C 4 dX7_behind_76 rfl ?_
            refine z_iconst C (v := 2) dX7_behind_78 rfl ?_
            refine z_icmp_ne C 91 dX7_behind_79 (by decide) (fun h79 => ?_) (fun h79 => ?_)
            · skip
              refine z_aload_n C 0 dX7_behind_91 rfl ?_
              refine mg_19 C dX7_behind_92 ?_
              refine z_iload_n C 3 dX7_behind_95 rfl ?_
              refine ml_19 C c rfl (by first | assumption | omega) dX7_behind_96 ?_
              refine z_istore C dX7_behind_97 (by decide) ?_
              refine z_aload_n C 1 dX7_behind_99 rfl ?_
              refine z_callV0 C (c_X7_takesBack l E _ (g := M.1) hz (fun q hq => mTr_37 hq)) ⟨rfl, rfl⟩ rfl rfl q_X7_262 ⟨by decide, by decide⟩ (Nat.le_of_ble_eq_true rfl) dX7_behind_100 (fun v F9 hp => ?_)
              obtain ⟨rfl, g2, e9, hg2⟩ := hp
              rw [e9]
              clear e9 F9
              refine z_iload C 0 dX7_behind_103 rfl ?_
              refine z_iret C0 dX7_behind_105 ?_
              exact mpo.ok (by simp [kBehind, h5, h17, h23, h45, h64, h79]) (by rw [en, ec]; unfold aBehind; rw [if_neg h64, if_neg h79]; rfl) (mSm_tr hg2)
            · skip
              refine z_aload_n C 0 dX7_behind_82 rfl ?_
              refine mg_17 C dX7_behind_83 ?_
              refine z_iload_n C 3 dX7_behind_86 rfl ?_
              refine ml_17 C c rfl (by first | assumption | omega) dX7_behind_87 ?_
              refine z_goto C 97 dX7_behind_88 (by decide) ?_
              refine z_istore C dX7_behind_97 (by decide) ?_
              refine z_aload_n C 1 dX7_behind_99 rfl ?_
              refine z_callV0 C (c_X7_takesBack l E _ (g := M.1) hz (fun q hq => mTr_37 hq)) ⟨rfl, rfl⟩ rfl rfl q_X7_262 ⟨by decide, by decide⟩ (Nat.le_of_ble_eq_true rfl) dX7_behind_100 (fun v F9 hp => ?_)
              obtain ⟨rfl, g2, e9, hg2⟩ := hp
              rw [e9]
              clear e9 F9
              refine z_iload C 0 dX7_behind_103 rfl ?_
              refine z_iret C0 dX7_behind_105 ?_
              exact mpo.ok (by simp [kBehind, h5, h17, h23, h45, h64, h79]) (by rw [en, ec]; unfold aBehind; rw [if_neg h64, if_pos h79]; rfl) (mSm_tr hg2)
          · skip
            refine z_aload_n C 0 dX7_behind_67 rfl ?_
            refine mg_16 C dX7_behind_68 ?_
            refine z_iload_n C 3 dX7_behind_71 rfl ?_
            refine ml_16 C c rfl (by first | assumption | omega) dX7_behind_72 ?_
            refine z_goto C 97 dX7_behind_73 (by decide) ?_
            refine z_istore C dX7_behind_97 (by decide) ?_
            refine z_aload_n C 1 dX7_behind_99 rfl ?_
            refine z_callV0 C (c_X7_takesBack l E _ (g := M.1) hz (fun q hq => mTr_37 hq)) ⟨rfl, rfl⟩ rfl rfl q_X7_262 ⟨by decide, by decide⟩ (Nat.le_of_ble_eq_true rfl) dX7_behind_100 (fun v F9 hp => ?_)
            obtain ⟨rfl, g2, e9, hg2⟩ := hp
            rw [e9]
            clear e9 F9
            refine z_iload C 0 dX7_behind_103 rfl ?_
            refine z_iret C0 dX7_behind_105 ?_
            exact mpo.ok (by simp [kBehind, h5, h17, h23, h45, h64]) (by rw [en, ec]; unfold aBehind; rw [if_pos h64]; rfl) (mSm_tr hg2)
        · skip
          have h45 := bI_0 h45
          refine z_aload_n C 0 dX7_behind_48 rfl ?_
          refine z_bipush C (v := (-6)) dX7_behind_49 rfl ?_
          refine z_callV1 C (c_X7_no l E _ (-6) 6 (by decide) (by decide) (by decide)) ⟨rfl, rfl⟩ rfl rfl q_X7_124 ⟨by decide, by decide⟩ (Nat.le_of_ble_eq_true rfl) dX7_behind_51 (fun v F9 hp => ?_)
          obtain ⟨rfl, e9⟩ := hp
          rw [e9]
          clear e9 F9
          refine z_iret C0 dX7_behind_54 ?_
          exact mpo.ref (by simp [kBehind, h5, h17, h23, h45]) (by decide)
      · skip
        refine z_iload C 4 dX7_behind_26 rfl ?_
        refine z_iconst C (v := 4) dX7_behind_28 rfl ?_
        refine z_icmp_eq C 39 dX7_behind_29 (by decide) (fun h29 => ?_) (fun h29 => ?_)
        · skip
          refine z_aload_n C 0 dX7_behind_39 rfl ?_
          refine z_iload_n C 1 dX7_behind_40 rfl ?_
          refine z_iload_n C 2 dX7_behind_41 rfl ?_
          refine z_callV2 C (c_X7_isAfternoon l E _ _ _) ⟨rfl, rfl⟩ rfl rfl q_X7_256 ⟨by decide, by decide⟩ (Nat.le_of_ble_eq_true rfl) dX7_behind_42 (fun v F9 hp => ?_)
          obtain ⟨rfl, e9⟩ := hp
          rw [e9]
          clear e9 F9
          refine z_if_ne C 55 dX7_behind_45 (by decide) (fun h45 => ?_) (fun h45 => ?_)
          · skip
            have h45 := bI_1 h45
            obtain ⟨c, hc, rfl⟩ := inR_of (n := nC M.1) (by rw [← eC]; exact h5) (by omega)
            have hc6 : c < 6 := by omega
            have ec : (nI c).toNatClampNeg = c := nI_clamp (by omega)
            obtain ⟨hr4, hnt⟩ := okRN_of h45
            obtain ⟨nn, hnn, rfl⟩ := inT_of (n := 240) hnt (by omega)
            have en : (nI nn).toNatClampNeg = nn := nI_clamp (by omega)
            refine z_aload_n C 0 dX7_behind_55 rfl ?_
            refine z_iload_n C 1 dX7_behind_56 rfl ?_
            refine z_iload_n C 2 dX7_behind_57 rfl ?_
            refine z_callV2 C (c_X7_tries l E _ hz h rule (n := nn) (by omega) (by omega)) ⟨rfl, rfl⟩ rfl rfl q_X7_259 ⟨by decide, by decide⟩ (Nat.le_of_ble_eq_true rfl) dX7_behind_58 (fun v F9 hp => ?_)
            obtain ⟨rfl, B, e9⟩ := hp
            rw [e9]
            clear e9 F9
            have zR : gz (run rule nn M.1) := sk_run.z hz
            have rR : rg (N + 6 * nn) (run rule nn M.1) := rg_run hz h (by omega)
            have sR : sms (run rule nn M.1) := rR.sm (by omega)
            have eRC : nC (run rule nn M.1) = nC M.1 := sk_run.C
            have eRS : nS (run rule nn M.1) = nS M.1 := sk_run.S
            refine z_iload C 4 dX7_behind_61 rfl ?_
            refine z_iconst C (v := 1) dX7_behind_63 rfl ?_
            refine z_icmp_ne C 76 dX7_behind_64 (by decide) (fun h64 => ?_) (fun h64 => ?_)
            · skip
              refine z_iload C 4 dX7_behind_76 rfl ?_
              refine z_iconst C (v := 2) dX7_behind_78 rfl ?_
              refine z_icmp_ne C 91 dX7_behind_79 (by decide) (fun h79 => ?_) (fun h79 => ?_)
              · skip
                refine z_aload_n C 0 dX7_behind_91 rfl ?_
                refine mg_19 C dX7_behind_92 ?_
                refine z_iload_n C 3 dX7_behind_95 rfl ?_
                refine ml_19 C c rfl (by first | assumption | omega) dX7_behind_96 ?_
                refine z_istore C dX7_behind_97 (by decide) ?_
                refine z_aload_n C 1 dX7_behind_99 rfl ?_
                refine z_callV0 C (c_X7_takesBack l E _ (g := M.1) hz (fun q hq => mTr_37 hq)) ⟨rfl, rfl⟩ rfl rfl q_X7_262 ⟨by decide, by decide⟩ (Nat.le_of_ble_eq_true rfl) dX7_behind_100 (fun v F9 hp => ?_)
                obtain ⟨rfl, g2, e9, hg2⟩ := hp
                rw [e9]
                clear e9 F9
                refine z_iload C 0 dX7_behind_103 rfl ?_
                refine z_iret C0 dX7_behind_105 ?_
                exact mpo.ok (by simp [kBehind, h5, h17, h23, h29, h45, h64, h79]) (by rw [en, ec]; unfold aBehind; rw [if_neg h64, if_neg h79]; rfl) (mSm_tr hg2)
              · skip
                refine z_aload_n C 0 dX7_behind_82 rfl ?_
                refine mg_17 C dX7_behind_83 ?_
                refine z_iload_n C 3 dX7_behind_86 rfl ?_
                refine ml_17 C c rfl (by first | assumption | omega) dX7_behind_87 ?_
                refine z_goto C 97 dX7_behind_88 (by decide) ?_
                refine z_istore C dX7_behind_97 (by decide) ?_
                refine z_aload_n C 1 dX7_behind_99 rfl ?_
                refine z_callV0 C (c_X7_takesBack l E _ (g := M.1) hz (fun q hq => mTr_37 hq)) ⟨rfl, rfl⟩ rfl rfl q_X7_262 ⟨by decide, by decide⟩ (Nat.le_of_ble_eq_true rfl) dX7_behind_100 (fun v F9 hp => ?_)
                obtain ⟨rfl, g2, e9, hg2⟩ := hp
                rw [e9]
                clear e9 F9
                refine z_iload C 0 dX7_behind_103 rfl ?_
                refine z_iret C0 dX7_behind_105 ?_
                exact mpo.ok (by simp [kBehind, h5, h17, h23, h29, h45, h64, h79]) (by rw [en, ec]; unfold aBehind; rw [if_neg h64, if_pos h79]; rfl) (mSm_tr hg2)
            · skip
              refine z_aload_n C 0 dX7_behind_67 rfl ?_
              refine mg_16 C dX7_behind_68 ?_
              refine z_iload_n C 3 dX7_behind_71 rfl ?_
              refine ml_16 C c rfl (by first | assumption | omega) dX7_behind_72 ?_
              refine z_goto C 97 dX7_behind_73 (by decide) ?_
              refine z_istore C dX7_behind_97 (by decide) ?_
              refine z_aload_n C 1 dX7_behind_99 rfl ?_
              refine z_callV0 C (c_X7_takesBack l E _ (g := M.1) hz (fun q hq => mTr_37 hq)) ⟨rfl, rfl⟩ rfl rfl q_X7_262 ⟨by decide, by decide⟩ (Nat.le_of_ble_eq_true rfl) dX7_behind_100 (fun v F9 hp => ?_)
              obtain ⟨rfl, g2, e9, hg2⟩ := hp
              rw [e9]
              clear e9 F9
              refine z_iload C 0 dX7_behind_103 rfl ?_
              refine z_iret C0 dX7_behind_105 ?_
              exact mpo.ok (by simp [kBehind, h5, h17, h23, h29, h45, h64]) (by rw [en, ec]; unfold aBehind; rw [if_pos h64]; rfl) (mSm_tr hg2)
          · skip
            have h45 := bI_0 h45
            refine z_aload_n C 0 dX7_behind_48 rfl ?_
            refine z_bipush C (v := (-6)) dX7_behind_49 rfl ?_
            refine z_callV1 C (c_X7_no l E _ (-6) 6 (by decide) (by decide) (by decide)) ⟨rfl, rfl⟩ rfl rfl q_X7_124 ⟨by decide, by decide⟩ (Nat.le_of_ble_eq_true rfl) dX7_behind_51 (fun v F9 hp => ?_)
            obtain ⟨rfl, e9⟩ := hp
            rw [e9]
            clear e9 F9
            refine z_iret C0 dX7_behind_54 ?_
            exact mpo.ref (by simp [kBehind, h5, h17, h23, h29, h45]) (by decide)
        · skip
          refine z_aload_n C 0 dX7_behind_32 rfl ?_
          refine z_bipush C (v := (-5)) dX7_behind_33 rfl ?_
          refine z_callV1 C (c_X7_no l E _ (-5) 5 (by decide) (by decide) (by decide)) ⟨rfl, rfl⟩ rfl rfl q_X7_124 ⟨by decide, by decide⟩ (Nat.le_of_ble_eq_true rfl) dX7_behind_35 (fun v F9 hp => ?_)
          obtain ⟨rfl, e9⟩ := hp
          rw [e9]
          clear e9 F9
          refine z_iret C0 dX7_behind_38 ?_
          exact mpo.ref (by simp [kBehind, h5, h17, h23, h29]) (by decide)
  · skip
    have h5 := bI_0 h5
    refine z_aload_n C 0 dX7_behind_8 rfl ?_
    refine z_iconst C (v := (-1)) dX7_behind_9 rfl ?_
    refine z_callV1 C (c_X7_no l E _ (-1) 1 (by decide) (by decide) (by decide)) ⟨rfl, rfl⟩ rfl rfl q_X7_124 ⟨by decide, by decide⟩ (Nat.le_of_ble_eq_true rfl) dX7_behind_10 (fun v F9 hp => ?_)
    obtain ⟨rfl, e9⟩ := hp
    rw [e9]
    clear e9 F9
    refine z_iret C0 dX7_behind_13 ?_
    exact mpo.ref (by simp [kBehind, h5]) (by decide)
set_option maxRecDepth 100000 in
set_option maxHeartbeats 4000000 in
theorem c_X7_askedBehind (l : Launch) (E : zE) (M : zM) (hz : gz M.1) {N : Nat} (h : rg N M.1) (hN : N ≤ 100000000) (rule : Int32) {nn j : Nat} (hnn : nn ≤ 240) (hj : j < nS M.1) : MM l E yX7_askedBehind cX7_askedBehind 5 (some .int) 8 [.ref (madr E.2.2.1 (0, 0, 0)), .int (rule), .int (nI nn), .int (nI j)] (M) (fun v M2 => v = some (.int (askS (run rule nn M.1) j)) ∧ mSm M M2) := by
  refine MM.mk kq_X7 (Nat.le_of_ble_eq_true rfl) (fun K s C0 => ?_)
  have C := C0.c
  obtain ⟨⟨eS, lS⟩, ⟨eC, lC⟩⟩ := id hz
  have hsm : sms M.1 := h.sm (by omega)
  have hj6 : j < 6 := by omega
  refine z_aload_n C 0 dX7_askedBehind_0 rfl ?_
  refine z_iload_n C 1 dX7_askedBehind_1 rfl ?_
  refine z_iload_n C 2 dX7_askedBehind_2 rfl ?_
  refine z_callV2 C (c_X7_tries l E _ hz h rule (n := nn) (by omega) (by omega)) ⟨rfl, rfl⟩ rfl rfl q_X7_259 ⟨by decide, by decide⟩ (Nat.le_of_ble_eq_true rfl) dX7_askedBehind_3 (fun v F9 hp => ?_)
  obtain ⟨rfl, B, e9⟩ := hp
  rw [e9]
  clear e9 F9
  have zR : gz (run rule nn M.1) := sk_run.z hz
  have rR : rg (N + 6 * nn) (run rule nn M.1) := rg_run hz h (by omega)
  have sR : sms (run rule nn M.1) := rR.sm (by omega)
  have eRC : nC (run rule nn M.1) = nC M.1 := sk_run.C
  have eRS : nS (run rule nn M.1) = nS M.1 := sk_run.S
  refine z_aload_n C 0 dX7_askedBehind_6 rfl ?_
  refine z_iload_n C 3 dX7_askedBehind_7 rfl ?_
  refine z_callV1 C (c_X7_asked l E _ hj6 (sR j (by rw [eRS]; exact hj))) ⟨rfl, rfl⟩ rfl rfl q_X7_131 ⟨by decide, by decide⟩ (Nat.le_of_ble_eq_true rfl) dX7_askedBehind_8 (fun v F9 hp => ?_)
  obtain ⟨rfl, e9⟩ := hp
  rw [e9]
  clear e9 F9
  refine z_istore C dX7_askedBehind_11 (by decide) ?_
  refine z_aload_n C 1 dX7_askedBehind_13 rfl ?_
  refine z_callV0 C (c_X7_takesBack l E _ (g := M.1) hz (fun q hq => mTr_37 hq)) ⟨rfl, rfl⟩ rfl rfl q_X7_262 ⟨by decide, by decide⟩ (Nat.le_of_ble_eq_true rfl) dX7_askedBehind_14 (fun v F9 hp => ?_)
  obtain ⟨rfl, g2, e9, hg2⟩ := hp
  rw [e9]
  clear e9 F9
  refine z_iload C 0 dX7_askedBehind_17 rfl ?_
  refine z_iret C0 dX7_askedBehind_19 ?_
  exact ⟨rfl, mSm_tr hg2⟩
set_option maxRecDepth 100000 in
set_option maxHeartbeats 4000000 in
theorem c_X7_asks (l : Launch) (E : zE) (M : zM) (hz : gz M.1) {N : Nat} (h : rg N M.1) (hN : N ≤ 100000000) (rule n p : Int32) : MM l E yX7_asks cX7_asks 4 (some .int) 9 [.ref (madr E.2.2.1 (0, 0, 0)), .int (rule), .int (n), .int (p)] (M) (mpo M (kAsks M.1 rule n p) (askS (run rule n.toNatClampNeg M.1) p.toNatClampNeg) (mSm M)) := by
  refine MM.mk kq_X7 (Nat.le_of_ble_eq_true rfl) (fun K s C0 => ?_)
  have C := C0.c
  obtain ⟨⟨eS, lS⟩, ⟨eC, lC⟩⟩ := id hz
  have hsm : sms M.1 := h.sm (by omega)
  refine z_aload_n C 0 dX7_asks_0 rfl ?_
  refine z_iload_n C 3 dX7_asks_1 rfl ?_
  refine z_callV1 C (c_X7_isShop l E _ _) ⟨rfl, rfl⟩ rfl rfl q_X7_128 ⟨by decide, by decide⟩ (Nat.le_of_ble_eq_true rfl) dX7_asks_2 (fun v F9 hp => ?_)
  obtain ⟨rfl, e9⟩ := hp
  rw [e9]
  clear e9 F9
  refine z_if_ne C 14 dX7_asks_5 (by decide) (fun h5 => ?_) (fun h5 => ?_)
  · skip
    have h5 := bI_1 h5
    refine z_aload_n C 0 dX7_asks_14 rfl ?_
    refine z_iload_n C 1 dX7_asks_15 rfl ?_
    refine z_iload_n C 2 dX7_asks_16 rfl ?_
    refine z_callV2 C (c_X7_isAfternoon l E _ _ _) ⟨rfl, rfl⟩ rfl rfl q_X7_256 ⟨by decide, by decide⟩ (Nat.le_of_ble_eq_true rfl) dX7_asks_17 (fun v F9 hp => ?_)
    obtain ⟨rfl, e9⟩ := hp
    rw [e9]
    clear e9 F9
    refine z_if_eq C 33 dX7_asks_20 (by decide) (fun h20 => ?_) (fun h20 => ?_)
    · skip
      have h20 := bI_0 h20
      refine z_aload_n C 0 dX7_asks_33 rfl ?_
      refine z_bipush C (v := (-6)) dX7_asks_34 rfl ?_
      refine z_callV1 C (c_X7_no l E _ (-6) 6 (by decide) (by decide) (by decide)) ⟨rfl, rfl⟩ rfl rfl q_X7_124 ⟨by decide, by decide⟩ (Nat.le_of_ble_eq_true rfl) dX7_asks_36 (fun v F9 hp => ?_)
      obtain ⟨rfl, e9⟩ := hp
      rw [e9]
      clear e9 F9
      refine z_iret C0 dX7_asks_39 ?_
      exact mpo.ref (by simp [kAsks, h5, h20]) (by decide)
    · skip
      have h20 := bI_1 h20
      obtain ⟨j, hj, rfl⟩ := inR_of (n := nS M.1) (by rw [← eS]; exact h5) (by omega)
      have hj6 : j < 6 := by omega
      have ej : (nI j).toNatClampNeg = j := nI_clamp (by omega)
      obtain ⟨hr4, hnt⟩ := okRN_of h20
      obtain ⟨nn, hnn, rfl⟩ := inT_of (n := 240) hnt (by omega)
      have en : (nI nn).toNatClampNeg = nn := nI_clamp (by omega)
      refine z_aload_n C 0 dX7_asks_23 rfl ?_
      refine z_iload_n C 1 dX7_asks_24 rfl ?_
      refine z_iload_n C 2 dX7_asks_25 rfl ?_
      refine z_iload_n C 3 dX7_asks_26 rfl ?_
      refine z_callV3 C (c_X7_askedBehind l E _ hz h hN rule hnn hj) ⟨rfl, rfl⟩ rfl rfl q_X7_265 ⟨by decide, by decide⟩ (Nat.le_of_ble_eq_true rfl) dX7_asks_27 (fun v F9 hp => ?_)
      obtain ⟨rfl, hS⟩ := hp
      refine z_goto C 39 dX7_asks_30 (by decide) ?_
      refine z_iret C0 dX7_asks_39 ?_
      exact mpo.ok (by simp [kAsks, h5, h20]) (by rw [en, ej]) hS
  · skip
    have h5 := bI_0 h5
    refine z_aload_n C 0 dX7_asks_8 rfl ?_
    refine z_iconst C (v := (-1)) dX7_asks_9 rfl ?_
    refine z_callV1 C (c_X7_no l E _ (-1) 1 (by decide) (by decide) (by decide)) ⟨rfl, rfl⟩ rfl rfl q_X7_124 ⟨by decide, by decide⟩ (Nat.le_of_ble_eq_true rfl) dX7_asks_10 (fun v F9 hp => ?_)
    obtain ⟨rfl, e9⟩ := hp
    rw [e9]
    clear e9 F9
    refine z_iret C0 dX7_asks_13 ?_
    exact mpo.ref (by simp [kAsks, h5]) (by decide)
set_option maxRecDepth 100000 in
set_option maxHeartbeats 4000000 in
theorem c_X7_deals (l : Launch) (E : zE) (M : zM) (hz : gz M.1) {N : Nat} (h : rg N M.1) (hN : N ≤ 100000000) (rule n w : Int32) : MM l E yX7_deals cX7_deals 5 (some .int) 8 [.ref (madr E.2.2.1 (0, 0, 0)), .int (rule), .int (n), .int (w)] (M) (mpo M (kDeals rule n w) (aDeals M.1 (run rule n.toNatClampNeg M.1) w) (mSm M)) := by
  refine MM.mk kq_X7 (Nat.le_of_ble_eq_true rfl) (fun K s C0 => ?_)
  have C := C0.c
  obtain ⟨⟨eS, lS⟩, ⟨eC, lC⟩⟩ := id hz
  have hsm : sms M.1 := h.sm (by omega)
  refine z_iload_n C 3 dX7_deals_0 rfl ?_
  refine z_if_lt C 9 dX7_deals_1 (by decide) (fun h1 => ?_) (fun h1 => ?_)
  · skip
    refine z_aload_n C 0 dX7_deals_9 rfl ?_
    refine z_bipush C (v := (-5)) dX7_deals_10 rfl ?_
    refine z_callV1 C (c_X7_no l E _ (-5) 5 (by decide) (by decide) (by decide)) ⟨rfl, rfl⟩ rfl rfl q_X7_124 ⟨by decide, by decide⟩ (Nat.le_of_ble_eq_true rfl) dX7_deals_12 (fun v F9 hp => ?_)
    obtain ⟨rfl, e9⟩ := hp
    rw [e9]
    clear e9 F9
    refine z_iret C0 dX7_deals_15 ?_
    exact mpo.ref (by unfold kDeals; rw [if_pos (w01_n (Or.inl h1))]) (by decide)
  · skip
    refine z_iload_n C 3 dX7_deals_4 rfl ?_
    refine z_iconst C (v := 1) dX7_deals_5 rfl ?_
    refine z_icmp_le C 16 dX7_deals_6 (by decide) (fun h6 => ?_) (fun h6 => ?_)
    · skip
      refine z_aload_n C 0 dX7_deals_16 rfl ?_
      refine z_iload_n C 1 dX7_deals_17 rfl ?_
      refine z_iload_n C 2 dX7_deals_18 rfl ?_
      refine z_callV2 C (c_X7_isAfternoon l E _ _ _) ⟨rfl, rfl⟩ rfl rfl q_X7_256 ⟨by decide, by decide⟩ (Nat.le_of_ble_eq_true rfl) dX7_deals_19 (fun v F9 hp => ?_)
      obtain ⟨rfl, e9⟩ := hp
      rw [e9]
      clear e9 F9
      refine z_if_ne C 32 dX7_deals_22 (by decide) (fun h22 => ?_) (fun h22 => ?_)
      · skip
        have h22 := bI_1 h22
        obtain ⟨hr4, hnt⟩ := okRN_of h22
        obtain ⟨nn, hnn, rfl⟩ := inT_of (n := 240) hnt (by omega)
        have en : (nI nn).toNatClampNeg = nn := nI_clamp (by omega)
        refine z_aload_n C 0 dX7_deals_32 rfl ?_
        refine z_iload_n C 1 dX7_deals_33 rfl ?_
        refine z_iload_n C 2 dX7_deals_34 rfl ?_
        refine z_callV2 C (c_X7_tries l E _ hz h rule (n := nn) (by omega) (by omega)) ⟨rfl, rfl⟩ rfl rfl q_X7_259 ⟨by decide, by decide⟩ (Nat.le_of_ble_eq_true rfl) dX7_deals_35 (fun v F9 hp => ?_)
        obtain ⟨rfl, B, e9⟩ := hp
        rw [e9]
        clear e9 F9
        have zR : gz (run rule nn M.1) := sk_run.z hz
        have rR : rg (N + 6 * nn) (run rule nn M.1) := rg_run hz h (by omega)
        have sR : sms (run rule nn M.1) := rR.sm (by omega)
        have eRC : nC (run rule nn M.1) = nC M.1 := sk_run.C
        have eRS : nS (run rule nn M.1) = nS M.1 := sk_run.S
        refine z_iload_n C 3 dX7_deals_38 rfl ?_
        refine z_if_ne C 49 dX7_deals_39 (by decide) (fun h39 => ?_) (fun h39 => ?_)
        · skip
          refine z_aload_n C 0 dX7_deals_49 rfl ?_
          refine mg_3 C dX7_deals_50 ?_
          refine z_istore C dX7_deals_53 (by decide) ?_
          refine z_aload_n C 1 dX7_deals_55 rfl ?_
          refine z_callV0 C (c_X7_takesBack l E _ (g := M.1) hz (fun q hq => mTr_37 hq)) ⟨rfl, rfl⟩ rfl rfl q_X7_262 ⟨by decide, by decide⟩ (Nat.le_of_ble_eq_true rfl) dX7_deals_56 (fun v F9 hp => ?_)
          obtain ⟨rfl, g2, e9, hg2⟩ := hp
          rw [e9]
          clear e9 F9
          refine z_iload C 0 dX7_deals_59 rfl ?_
          refine z_iret C0 dX7_deals_61 ?_
          exact mpo.ok (by unfold kDeals; rw [if_neg (fun z => z (w01_y h1 h6)), if_neg (by rw [h22]; decide)]) (by rw [en]; unfold aDeals; rw [if_neg h39]; rfl) (mSm_tr hg2)
        · skip
          refine z_aload_n C 0 dX7_deals_42 rfl ?_
          refine mg_39 C dX7_deals_43 ?_
          refine z_goto C 53 dX7_deals_46 (by decide) ?_
          refine z_istore C dX7_deals_53 (by decide) ?_
          refine z_aload_n C 1 dX7_deals_55 rfl ?_
          refine z_callV0 C (c_X7_takesBack l E _ (g := M.1) hz (fun q hq => mTr_37 hq)) ⟨rfl, rfl⟩ rfl rfl q_X7_262 ⟨by decide, by decide⟩ (Nat.le_of_ble_eq_true rfl) dX7_deals_56 (fun v F9 hp => ?_)
          obtain ⟨rfl, g2, e9, hg2⟩ := hp
          rw [e9]
          clear e9 F9
          refine z_iload C 0 dX7_deals_59 rfl ?_
          refine z_iret C0 dX7_deals_61 ?_
          exact mpo.ok (by unfold kDeals; rw [if_neg (fun z => z (w01_y h1 h6)), if_neg (by rw [h22]; decide)]) (by rw [en]; unfold aDeals; rw [if_pos h39]; rfl) (mSm_tr hg2)
      · skip
        have h22 := bI_0 h22
        refine z_aload_n C 0 dX7_deals_25 rfl ?_
        refine z_bipush C (v := (-6)) dX7_deals_26 rfl ?_
        refine z_callV1 C (c_X7_no l E _ (-6) 6 (by decide) (by decide) (by decide)) ⟨rfl, rfl⟩ rfl rfl q_X7_124 ⟨by decide, by decide⟩ (Nat.le_of_ble_eq_true rfl) dX7_deals_28 (fun v F9 hp => ?_)
        obtain ⟨rfl, e9⟩ := hp
        rw [e9]
        clear e9 F9
        refine z_iret C0 dX7_deals_31 ?_
        exact mpo.ref (by unfold kDeals; rw [if_neg (fun z => z (w01_y h1 h6)), if_pos h22]) (by decide)
    · skip
      refine z_aload_n C 0 dX7_deals_9 rfl ?_
      refine z_bipush C (v := (-5)) dX7_deals_10 rfl ?_
      refine z_callV1 C (c_X7_no l E _ (-5) 5 (by decide) (by decide) (by decide)) ⟨rfl, rfl⟩ rfl rfl q_X7_124 ⟨by decide, by decide⟩ (Nat.le_of_ble_eq_true rfl) dX7_deals_12 (fun v F9 hp => ?_)
      obtain ⟨rfl, e9⟩ := hp
      rw [e9]
      clear e9 F9
      refine z_iret C0 dX7_deals_15 ?_
      exact mpo.ref (by unfold kDeals; rw [if_pos (w01_n (Or.inr (Int32.not_le.mp h6)))]) (by decide)
set_option maxRecDepth 100000 in
set_option maxHeartbeats 4000000 in
theorem c_X7_runs (l : Launch) (E : zE) (M : zM) (hz : gz M.1) {N : Nat} (h : rg N M.1) (hN : N ≤ 100000000) (rule n p : Int32) : MM l E yX7_runs cX7_runs 6 (some .int) 9 [.ref (madr E.2.2.1 (0, 0, 0)), .int (rule), .int (n), .int (p)] (M) (mpo M (kRuns M.1 rule n p) (cmpI (askS (run rule n.toNatClampNeg M.1) p.toNatClampNeg) (askS M.1 p.toNatClampNeg)) (mSm M)) := by
  refine MM.mk kq_X7 (Nat.le_of_ble_eq_true rfl) (fun K s C0 => ?_)
  have C := C0.c
  obtain ⟨⟨eS, lS⟩, ⟨eC, lC⟩⟩ := id hz
  have hsm : sms M.1 := h.sm (by omega)
  refine z_aload_n C 0 dX7_runs_0 rfl ?_
  refine z_iload_n C 3 dX7_runs_1 rfl ?_
  refine z_callV1 C (c_X7_isShop l E _ _) ⟨rfl, rfl⟩ rfl rfl q_X7_128 ⟨by decide, by decide⟩ (Nat.le_of_ble_eq_true rfl) dX7_runs_2 (fun v F9 hp => ?_)
  obtain ⟨rfl, e9⟩ := hp
  rw [e9]
  clear e9 F9
  refine z_if_ne C 14 dX7_runs_5 (by decide) (fun h5 => ?_) (fun h5 => ?_)
  · skip
    have h5 := bI_1 h5
    refine z_aload_n C 0 dX7_runs_14 rfl ?_
    refine z_iload_n C 1 dX7_runs_15 rfl ?_
    refine z_iload_n C 2 dX7_runs_16 rfl ?_
    refine z_callV2 C (c_X7_isAfternoon l E _ _ _) ⟨rfl, rfl⟩ rfl rfl q_X7_256 ⟨by decide, by decide⟩ (Nat.le_of_ble_eq_true rfl) dX7_runs_17 (fun v F9 hp => ?_)
    obtain ⟨rfl, e9⟩ := hp
    rw [e9]
    clear e9 F9
    refine z_if_ne C 30 dX7_runs_20 (by decide) (fun h20 => ?_) (fun h20 => ?_)
    · skip
      have h20 := bI_1 h20
      obtain ⟨j, hj, rfl⟩ := inR_of (n := nS M.1) (by rw [← eS]; exact h5) (by omega)
      have hj6 : j < 6 := by omega
      have ej : (nI j).toNatClampNeg = j := nI_clamp (by omega)
      obtain ⟨hr4, hnt⟩ := okRN_of h20
      obtain ⟨nn, hnn, rfl⟩ := inT_of (n := 240) hnt (by omega)
      have en : (nI nn).toNatClampNeg = nn := nI_clamp (by omega)
      refine z_aload_n C 0 dX7_runs_30 rfl ?_
      refine z_iload_n C 3 dX7_runs_31 rfl ?_
      refine z_callV1 C (c_X7_asked l E _ hj6 (hsm j hj)) ⟨rfl, rfl⟩ rfl rfl q_X7_131 ⟨by decide, by decide⟩ (Nat.le_of_ble_eq_true rfl) dX7_runs_32 (fun v F9 hp => ?_)
      obtain ⟨rfl, e9⟩ := hp
      rw [e9]
      clear e9 F9
      refine z_istore C dX7_runs_35 (by decide) ?_
      refine z_aload_n C 1 dX7_runs_37 rfl ?_
      refine z_iload_n C 2 dX7_runs_38 rfl ?_
      refine z_iload_n C 3 dX7_runs_39 rfl ?_
      refine z_iload_n C 4 dX7_runs_40 rfl ?_
      refine z_callV3 C (c_X7_askedBehind l E _ hz h hN rule hnn hj) ⟨rfl, rfl⟩ rfl rfl q_X7_265 ⟨by decide, by decide⟩ (Nat.le_of_ble_eq_true rfl) dX7_runs_41 (fun v F9 hp => ?_)
      obtain ⟨rfl, hS⟩ := hp
      refine z_istore C dX7_runs_44 (by decide) ?_
      refine z_iload C 0 dX7_runs_46 rfl ?_
      refine z_iload C 1 dX7_runs_48 rfl ?_
      refine z_icmp_le C 57 dX7_runs_50 (by decide) (fun h50 => ?_) (fun h50 => ?_)
      · skip
        refine z_iload C 0 dX7_runs_57 rfl ?_
        refine z_iload C 1 dX7_runs_59 rfl ?_
        refine z_icmp_ge C 68 dX7_runs_61 (by decide) (fun h61 => ?_) (fun h61 => ?_)
        · skip
          refine z_iconst C (v := 0) dX7_runs_68 rfl ?_
          refine z_iret C0 dX7_runs_69 ?_
          exact mpo.ok (by simp [kRuns, h5, h20]) (by rw [en, ej]; exact (cmp_e h50 h61).symm) hS
        · skip
          refine z_iconst C (v := (-1)) dX7_runs_64 rfl ?_
          refine z_goto C 69 dX7_runs_65 (by decide) ?_
          refine z_iret C0 dX7_runs_69 ?_
          exact mpo.ok (by simp [kRuns, h5, h20]) (by rw [en, ej]; exact (cmp_l (Int32.not_le.mp h61)).symm) hS
      · skip
        refine z_iconst C (v := 1) dX7_runs_53 rfl ?_
        refine z_goto C 69 dX7_runs_54 (by decide) ?_
        refine z_iret C0 dX7_runs_69 ?_
        exact mpo.ok (by simp [kRuns, h5, h20]) (by rw [en, ej]; exact (cmp_g (Int32.not_le.mp h50)).symm) hS
    · skip
      have h20 := bI_0 h20
      refine z_aload_n C 0 dX7_runs_23 rfl ?_
      refine z_bipush C (v := (-6)) dX7_runs_24 rfl ?_
      refine z_callV1 C (c_X7_noTen l E _ (-6) 6 (by decide) (by decide) (by decide)) ⟨rfl, rfl⟩ rfl rfl q_X7_145 ⟨by decide, by decide⟩ (Nat.le_of_ble_eq_true rfl) dX7_runs_26 (fun v F9 hp => ?_)
      obtain ⟨rfl, e9⟩ := hp
      rw [e9]
      clear e9 F9
      refine z_iret C0 dX7_runs_29 ?_
      exact mpo.ref (by simp [kRuns, h5, h20]) (by decide)
  · skip
    have h5 := bI_0 h5
    refine z_aload_n C 0 dX7_runs_8 rfl ?_
    refine z_iconst C (v := (-1)) dX7_runs_9 rfl ?_
    refine z_callV1 C (c_X7_noTen l E _ (-1) 1 (by decide) (by decide) (by decide)) ⟨rfl, rfl⟩ rfl rfl q_X7_145 ⟨by decide, by decide⟩ (Nat.le_of_ble_eq_true rfl) dX7_runs_10 (fun v F9 hp => ?_)
    obtain ⟨rfl, e9⟩ := hp
    rw [e9]
    clear e9 F9
    refine z_iret C0 dX7_runs_13 ?_
    exact mpo.ref (by simp [kRuns, h5]) (by decide)
