/-! the reference: a text read into the garden-/
theorem rM_id {X : zM} (h : X.2.1 31 = nI 0) : rM X X.1 0 (X.2.1 33) (X.2.1 34) (X.2.2.1 29) = X := by
  unfold rM
  rw [va_up_id, upd_self, upd_self, ← h, upd_self]
theorem wtd_k {M : zM} {s : Int32} (h : ¬ wtd M s = 0) : ∃ k, k < 8 ∧ -(wtd M s) = nI k ∧ (refK (wtd M s)).toNatClampNeg = k := by
  have hw : wtd M s = 0 ∨ wtd M s = -1 ∨ wtd M s = -2 ∨ wtd M s = -3 := by
    unfold wtd
    split
    · split
      · exact Or.inr (Or.inr (Or.inl rfl))
      · split
        · exact Or.inr (Or.inr (Or.inr rfl))
        · exact Or.inl rfl
    · exact Or.inr (Or.inl rfl)
  rcases hw with e | e | e | e
  · exact absurd e h
  · rw [e]; exact ⟨1, by omega, by decide, by decide⟩
  · rw [e]; exact ⟨2, by omega, by decide, by decide⟩
  · rw [e]; exact ⟨3, by omega, by decide, by decide⟩
theorem wtd_0 {M : zM} (hsz : ∀ j, j < 8 → M.2.2.1 21 j = 1 → ∃ n, n ≤ 160 ∧ M.2.2.1 23 j = nI n) (h012 : ∀ j, j < 8 → M.2.2.1 21 j = 0 ∨ M.2.2.1 21 j = 1 ∨ M.2.2.1 21 j = 2) {s : Int32} (h : wtd M s = 0) : ∃ j len, j < 8 ∧ s = nI j ∧ M.2.2.1 23 j = nI len ∧ len ≤ 160 := by
  obtain ⟨j, hj, rfl⟩ := wtd_in h
  have ej : (nI j).toNatClampNeg = j := nI_clamp (by omega)
  have h1 : M.2.2.1 21 j = 1 := by
    unfold wtd at h
    rw [if_pos (show inR (nI j) 8 = true from inR_nI (n := 8) hj (by omega)), ej] at h
    rcases h012 j hj with e | e | e
    · rw [e] at h; exact absurd h (by decide)
    · exact e
    · rw [e] at h; exact absurd h (by decide)
  obtain ⟨n, hn, e⟩ := hsz j hj h1
  exact ⟨j, n, hj, rfl, e, hn⟩
def mIts (M : zM) (j len : Nat) : (zGc × (Nat × Option Nat)) × Nat := itsP (cT M (160 * j)) len 159 (itC (cT M (160 * j)) len M.1 (0, none)).1 (itC (cT M (160 * j)) len M.1 (0, none)).2 1
def gd0 (M : zM) (j len : Nat) : zM := mI (mI (mI (mI (mT M 35 (pkN (M.2.2.1 35) M.1 74)) 30 (nI (160 * j))) 31 0) 32 (nI len)) 8 (-1)
/-- all else is as before, the fault apart -/
def mRd (M M2 : zM) (f : Int32) : Prop := M2.2.1 8 = f ∧ (∀ k, (k = 46 ∨ k = 47) → M2.2.1 k = M.2.1 k) ∧ (∀ k, (k = 9 ∨ (21 ≤ k ∧ k ≤ 24) ∨ k = 27 ∨ k = 28 ∨ k = 36 ∨ k = 45) → M2.2.2.1 k = M.2.2.1 k) ∧ M2.2.2.2 25 = M.2.2.2 25
def gdP (M : zM) (s : Int32) : Option Value → zM → Prop := fun v M2 =>
  (¬ wtd M s = 0 → v = some (.int (wtd M s)) ∧ M2 = rfM M (wtd M s)) ∧
  (wtd M s = 0 → ((mIts M s.toNatClampNeg (M.2.2.1 23 s.toNatClampNeg).toNatClampNeg).1.2.2 = none → v = some (.int (nI (mIts M s.toNatClampNeg (M.2.2.1 23 s.toNatClampNeg).toNatClampNeg).2)) ∧ M2.1 = (mIts M s.toNatClampNeg (M.2.2.1 23 s.toNatClampNeg).toNatClampNeg).1.1 ∧ mRd M M2 (-1)) ∧
    (∀ q, (mIts M s.toNatClampNeg (M.2.2.1 23 s.toNatClampNeg).toNatClampNeg).1.2.2 = some q → v = some (.int (-6)) ∧ ∃ M3, M2 = rfM M3 (-6) ∧ eqv M3.1 M.1 ∧ mRd M M3 (nI q)))
theorem gd0_i {M : zM} {j len k : Nat} (h : k = 46 ∨ k = 47) : (gd0 M j len).2.1 k = M.2.1 k := by
  show upd (upd (upd (upd M.2.1 30 _) 31 0) 32 _) 8 (-1) k = _
  rw [pk_un (by omega), pk_un (by omega), pk_un (by omega), pk_un (by omega)]
theorem gd0_a {M : zM} {j len k : Nat} (h : k ≠ 35) : (gd0 M j len).2.2.1 k = M.2.2.1 k := by
  show va_up M.2.2.1 35 _ k = _
  exact va_up_ne _ _ h
theorem gd_rd {M : zM} {j len a : Nat} {g : zGc} {n w : Int32} {tl : Nat → Int32} : mRd M (rM (gd0 M j len) g a n w tl) (-1) := by
  refine ⟨?_, fun k hk => ?_, fun k hk => ?_, rfl⟩
  · rw [rM_i (by decide)]; rfl
  · rw [rM_i (by omega)]; exact gd0_i hk
  · show va_up (gd0 M j len).2.2.1 29 tl k = _
    rw [va_up_ne _ _ (show k ≠ 29 by omega)]
    exact gd0_a (by omega)
theorem mI_ne {M : zM} {k j : Nat} {v : Int32} (h : j ≠ k) : (mI M k v).2.1 j = M.2.1 j := by
  show upd M.2.1 k v j = _
  exact pk_un h
theorem gd_fl {M : zM} {j len a : Nat} {g g2 : zGc} {n w f : Int32} {tl : Nat → Int32} : mRd M (mI (mG (rM (gd0 M j len) g a n w tl) g2) 8 f) f := by
  have h := gd_rd (M := M) (j := j) (len := len) (a := a) (g := g) (n := n) (w := w) (tl := tl)
  refine ⟨?_, fun k hk => ?_, h.2.2.1, rfl⟩
  · exact mI_at
  · refine Eq.trans ?_ (h.2.1 k hk)
    exact mI_ne (by omega)
theorem its_go {T : Nat → Int32} {len m n : Nat} {g : zGc} {s : Nat × Option Nat} (h : s.2 = none) (h2 : s.1 < len) (hm : 0 < m) : itsP T len m g s n = itsP T len (m - 1) (itC T len g (exP T len 59 s)).1 (itC T len g (exP T len 59 s)).2 (n + 1) := by
  obtain ⟨k, rfl⟩ : ∃ k, m = k + 1 := ⟨m - 1, by omega⟩
  simp only [itsP]
  rw [if_pos ⟨h, h2⟩]
  rfl
def fz (n : Nat) (r : zGc × (Nat × Option Nat)) : Nat := if r.2.2 = none then 161 - n else 0
set_option maxRecDepth 100000 in
set_option maxHeartbeats 4000000 in
theorem lp_X7_garden {l : Launch} {E : zE} {K : zK} {s : State} (M : zM) (hz : gz M.1) {N : Nat} (h : rg N M.1) (hN : N ≤ 99000000) (hwd : ∀ i, i < 51 → M.2.2.1 27 i = wrd.getD i 0) (hnm : ∀ i, i < 8 → M.2.2.1 28 i = nms.getD i 0) (hsz : ∀ j, j < 8 → M.2.2.1 21 j = 1 → ∃ n, n ≤ 160 ∧ M.2.2.1 23 j = nI n) (h012 : ∀ j, j < 8 → M.2.2.1 21 j = 0 ∨ M.2.2.1 21 j = 1 ∨ M.2.2.1 21 j = 2) (sh : Int32) {j len : Nat} (hj : j < 8) (hl : len ≤ 160) (es : sh = nI j) (esz : M.2.2.1 23 j = nI len) (hw0 : wtd M sh = 0) (C0 : MR l E K cX7_garden RX7 9 s 5 (some .int) (gdP M sh)) : ∀ (n2 : Nat) (n : Nat) (r : zGc × (Nat × Option Nat)) (g2 : zGc) (a2 : Nat) (nn2 w2 : Int32) (tl2 : Nat → Int32), (fz n r < n2) → (n ≤ 160) → (r.2.2 = none → g2 = r.1 ∧ a2 = r.2.1 ∧ n ≤ r.2.1 ∧ r.2.1 ≤ len ∧ gz r.1 ∧ rg (N + n) r.1) → (∀ q, r.2.2 = some q → w2 = nI q) → (r.2.2 = none → itsP (cT M (160 * j)) len (160 - n) r.1 r.2 n = (mIts M j len)) → (∀ q, r.2.2 = some q → (mIts M j len).1.2.2 = some q) → Z K (MP E (rM (gd0 M j len) g2 a2 nn2 w2 tl2) s) 62 [(0, .ref (madr E.2.2.1 (0, 0, 0))), (3, .int (nI n)), (4, .int (bI (decide (r.2.2 = none))))] [] := by
  have C := C0.c
  intro n2
  induction n2 with
  | zero => intro n r g2 a2 nn2 w2 tl2 hk hn hq1 hq2 hr1 hr2; exact absurd hk (Nat.not_lt_zero _)
  | succ n2 ih =>
    intro n r g2 a2 nn2 w2 tl2 hk hn hq1 hq2 hr1 hr2
    obtain ⟨⟨eS, lS⟩, ⟨eC, lC⟩⟩ := id hz
    have hR : rdo (gd0 M j len) (160 * j) len := ⟨rfl, rfl, by omega, hl, fun i hi => (congrFun (gd0_a (by decide)) i).trans (hwd i hi), fun i hi => (congrFun (gd0_a (by decide)) i).trans (hnm i hi)⟩
    refine z_iload C 2 dX7_garden_62 rfl ?_
    refine z_if_eq C 133 dX7_garden_64 (by decide) (fun h64 => ?_) (fun h64 => ?_)
    · skip
      have h64 := bI_0 h64
      refine z_iload C 2 dX7_garden_133 rfl ?_
      refine z_if_eq C 140 dX7_garden_135 (by decide) (fun h135 => ?_) (fun h135 => ?_)
      · skip
        have h135 := bI_0 h135
        obtain ⟨q, hq⟩ : ∃ q, r.2.2 = some q := Option.ne_none_iff_exists'.mp (of_decide_eq_false h64)
        have ew := hq2 q hq
        subst ew
        refine z_aload_n C 0 dX7_garden_140 rfl ?_
        refine z_aload_n C 0 dX7_garden_141 rfl ?_
        refine mg_35 C dX7_garden_142 ?_
        refine z_iconst C (v := 1) dX7_garden_145 rfl ?_
        refine z_callV2 C (c_allB l E _ (k2 := 35) (by omega)) ⟨rfl, rfl⟩ rfl rfl q_X7_210 ⟨by decide, by decide⟩ (Nat.le_of_ble_eq_true rfl) dX7_garden_146 (fun v F9 hp => ?_)
        obtain ⟨rfl, e9⟩ := hp
        rw [e9]
        clear e9 F9
        refine z_aload_n C 0 dX7_garden_149 rfl ?_
        refine z_aload_n C 0 dX7_garden_150 rfl ?_
        refine mg_34 C dX7_garden_151 ?_
        refine mp_8 C dX7_garden_154 ?_
        refine z_aload_n C 0 dX7_garden_157 rfl ?_
        refine z_bipush C (v := (-6)) dX7_garden_158 rfl ?_
        refine z_callV1 C (c_X7_no l E _ (-6) 6 (by decide) (by decide) (by decide)) ⟨rfl, rfl⟩ rfl rfl q_X7_124 ⟨by decide, by decide⟩ (Nat.le_of_ble_eq_true rfl) dX7_garden_160 (fun v F9 hp => ?_)
        obtain ⟨rfl, e9⟩ := hp
        rw [e9]
        clear e9 F9
        refine z_iret C0 dX7_garden_163 ?_
        subst es
        have ej : (nI j).toNatClampNeg = j := nI_clamp (by omega)
        have el : (M.2.2.1 23 j).toNatClampNeg = len := by rw [esz]; exact nI_clamp (by omega)
        have eR := hr2 q hq
        refine ⟨fun z => absurd hw0 z, fun _ => ?_⟩
        rw [ej, el, eR]
        refine ⟨(fun z => by cases z), fun q2 z => ?_⟩
        cases z
        exact ⟨rfl, _, rfl, bk_eqv hz (fun q hq => by show va_up (gd0 M j len).2.2.1 29 tl2 35 q = _; rw [va_up_ne _ _ (show (35 : Nat) ≠ 29 by decide)]; show va_up M.2.2.1 35 _ 35 q = _; rw [va_up_self]; exact pkN_at hq), gd_fl⟩
      · exact absurd (by rw [h64]; rfl) h135
    · skip
      have h64 := bI_1 h64
      have hno := of_decide_eq_true h64
      obtain ⟨rfl, rfl, hna, hal, hzr, hrr⟩ := hq1 hno
      refine z_aload_n C 0 dX7_garden_67 rfl ?_
      refine mg_31 C dX7_garden_68 ?_
      refine z_top (nI r.2.1) (rfl) ?_
      refine z_aload_n C 0 dX7_garden_71 rfl ?_
      refine mg_32 C dX7_garden_72 ?_
      rw [show (rM (gd0 M j len) r.1 r.2.1 nn2 w2 tl2).2.1 32 = nI len from (rM_i (by decide)).trans hR.2.1]
      refine z_icmp_ge C 133 dX7_garden_75 (by decide) (fun h75 => ?_) (fun h75 => ?_)
      · skip
        refine z_iload C 2 dX7_garden_133 rfl ?_
        refine z_if_eq C 140 dX7_garden_135 (by decide) (fun h135 => ?_) (fun h135 => ?_)
        · exact absurd h135 (by rw [h64]; decide)
        · skip
          have h135 := bI_1 h135
          refine z_iload_n C 1 dX7_garden_138 rfl ?_
          refine z_iret C0 dX7_garden_139 ?_
          subst es
          have ej : (nI j).toNatClampNeg = j := nI_clamp (by omega)
          have el : (M.2.2.1 23 j).toNatClampNeg = len := by rw [esz]; exact nI_clamp (by omega)
          have hge : ¬ r.2.1 < len := fun z => absurd h75 (nI_ge z (by omega))
          have eR := (itsP_stop (T := (cT M (160 * j))) (m := 160 - n) (g := r.1) (n := n) (fun z : r.2.2 = none ∧ r.2.1 < len => hge z.2)).symm.trans (hr1 hno)
          refine ⟨fun z => absurd hw0 z, fun _ => ?_⟩
          rw [ej, el, ← eR]
          exact ⟨fun _ => ⟨rfl, rfl, gd_rd⟩, fun q z => by rw [hno] at z; cases z⟩
      · skip
        have hlt : r.2.1 < len := nI_lt_of h75 (by omega) (by omega)
        refine z_aload_n C 0 dX7_garden_78 rfl ?_
        refine mg_25 C dX7_garden_79 ?_
        refine z_aload_n C 0 dX7_garden_82 rfl ?_
        refine mg_30 C dX7_garden_83 ?_
        refine z_top (nI (160 * j)) ((rM_i (by decide)).trans hR.1) ?_
        refine z_aload_n C 0 dX7_garden_86 rfl ?_
        refine mg_31 C dX7_garden_87 ?_
        refine z_top (nI r.2.1) (rfl) ?_
        refine z_iadd C dX7_garden_90 ?_
        refine z_top (nI (160 * j + r.2.1)) (nI_add _ _) ?_
        refine ml_25 C (160 * j + r.2.1) rfl (by first | assumption | omega) dX7_garden_91 ?_
        refine z_l2i C dX7_garden_92 ?_
        refine z_top (nxP (cT M (160 * j)) len r.2.1) (nx_at (M := M) hlt) ?_
        refine z_bipush C (v := 59) dX7_garden_93 rfl ?_
        refine z_icmp_eq C 111 dX7_garden_95 (by decide) (fun h95 => ?_) (fun h95 => ?_)
        · skip
          refine z_aload_n C 0 dX7_garden_111 rfl ?_
          refine z_dup C dX7_garden_112 rfl ?_
          refine mg_31 C dX7_garden_113 ?_
          refine z_top (nI r.2.1) (rfl) ?_
          refine z_iconst C (v := 1) dX7_garden_116 rfl ?_
          refine z_iadd C dX7_garden_117 ?_
          refine z_top (nI (r.2.1 + 1)) (nI_1 _) ?_
          refine mp_31 C dX7_garden_118 ?_
          rw [rM_a]
          refine z_iinc C (v := nI (n + 1)) 1 dX7_garden_121 rfl (nI_1 _) (by decide) ?_
          refine z_aload_n C 1 dX7_garden_124 rfl ?_
          refine z_callV0 C (c_X7_item l E (gd0 M j len) hR r.1 (a := r.2.1 + 1) hlt nn2 w2 tl2 hzr hrr (by omega)) ⟨rfl, rfl⟩ rfl rfl q_X7_214 ⟨by decide, by decide⟩ (Nat.le_of_ble_eq_true rfl) dX7_garden_125 (fun v F9 hp => ?_)
          obtain ⟨rfl, g3, a3, n3, w3, tl3, e9, q1, q2⟩ := hp
          rw [e9]
          clear e9 F9
          refine z_istore C dX7_garden_128 (by decide) ?_
          refine z_goto C 62 dX7_garden_130 (by decide) ?_
          refine z_pick [2, 1, 0] rfl ?_
          have eE : exP (cT M (160 * j)) len 59 r.2 = (r.2.1 + 1, none) := exP_hit hno (by decide) h95
          have eG := its_go (T := (cT M (160 * j))) (g := r.1) (n := n) (m := 160 - n) hno hlt (by omega)
          rw [eE, hr1 hno] at eG
          have hfz : fz n r = 161 - n := if_pos hno
          refine ih (n + 1) (itC (cT M (160 * j)) len r.1 (r.2.1 + 1, none)) g3 a3 n3 w3 tl3 ?_ (by omega) (fun z => ?_) q2 (fun z => ?_) (fun q z => ?_)
          · unfold fz
            split <;> omega
          · obtain ⟨z1, z2⟩ := q1 z
            have z3 := itC_pr z
            have z4 := (itC_ok (T := (cT M (160 * j))) (g := r.1) (s := (r.2.1 + 1, none)) ⟨hlt, fun _ y => by cases y⟩ hl).1
            refine ⟨z1, z2, ?_, z4, itC_gz hzr, ?_⟩
            · have : r.2.1 + 1 < (itC (cT M (160 * j)) len r.1 (r.2.1 + 1, none)).2.1 := z3
              omega
            · have z5 := itC_rg (T := (cT M (160 * j))) (len := len) (s := (r.2.1 + 1, none)) hzr hrr (by omega)
              exact z5.up (by omega)
          · rw [eG, show 160 - (n + 1) = 160 - n - 1 by omega]
          · rw [eG, itsP_stop (fun y => by rw [z] at y; cases y.1)]
            exact z
        · skip
          refine z_aload_n C 0 dX7_garden_98 rfl ?_
          refine z_aload_n C 0 dX7_garden_99 rfl ?_
          refine mg_31 C dX7_garden_100 ?_
          refine z_top (nI r.2.1) (rfl) ?_
          refine z_callV1 C (c_X7_wrong l E (gd0 M j len) hR r.1 nn2 w2 _ (nI r.2.1)) ⟨rfl, rfl⟩ rfl rfl q_X7_167 ⟨by decide, by decide⟩ (Nat.le_of_ble_eq_true rfl) dX7_garden_103 (fun v F9 hp => ?_)
          obtain ⟨rfl, e9⟩ := hp
          rw [e9]
          clear e9 F9
          refine z_istore C dX7_garden_106 (by decide) ?_
          refine z_goto C 62 dX7_garden_108 (by decide) ?_
          refine z_pick [1, 2, 0] rfl ?_
          have eE : exP (cT M (160 * j)) len 59 r.2 = (r.2.1, some r.2.1) := by
            have := exP_miss (T := (cT M (160 * j))) (len := len) (c := 59) (s := r.2) hno (by decide) h95
            rw [this, hno]; rfl
          have eG := its_go (T := (cT M (160 * j))) (g := r.1) (n := n) (m := 160 - n) hno hlt (by omega)
          rw [eE, hr1 hno] at eG
          refine ih n (r.1, (r.2.1, some r.2.1)) r.1 r.2.1 nn2 (nI r.2.1) tl2 ?_ hn (fun z => by cases z) (fun q z => by cases z; rfl) (fun z => by cases z) (fun q z => ?_)
          · rw [show fz n (r.1, (r.2.1, some r.2.1)) = 0 from if_neg (fun z => by cases z)]
            have : fz n r = 161 - n := if_pos hno
            omega
          · cases z
            rw [eG, itsP_stop (fun y => by rw [itC_sm] at y; cases y.1)]
            exact itC_sm
set_option maxRecDepth 100000 in
set_option maxHeartbeats 4000000 in
theorem c_X7_garden (l : Launch) (E : zE) (M : zM) (hz : gz M.1) {N : Nat} (h : rg N M.1) (hN : N ≤ 99000000) (hwd : ∀ i, i < 51 → M.2.2.1 27 i = wrd.getD i 0) (hnm : ∀ i, i < 8 → M.2.2.1 28 i = nms.getD i 0) (hsz : ∀ j, j < 8 → M.2.2.1 21 j = 1 → ∃ n, n ≤ 160 ∧ M.2.2.1 23 j = nI n) (h012 : ∀ j, j < 8 → M.2.2.1 21 j = 0 ∨ M.2.2.1 21 j = 1 ∨ M.2.2.1 21 j = 2) (sh : Int32) : MM l E yX7_garden cX7_garden 5 (some .int) 9 [.ref (madr E.2.2.1 (0, 0, 0)), .int (sh)] (M) (gdP M sh) := by
  refine MM.mk kq_X7 (Nat.le_of_ble_eq_true rfl) (fun K s C0 => ?_)
  have C := C0.c
  obtain ⟨⟨eS, lS⟩, ⟨eC, lC⟩⟩ := id hz
  refine z_aload_n C 0 dX7_garden_0 rfl ?_
  refine z_iload_n C 1 dX7_garden_1 rfl ?_
  refine z_callV1 C (c_X7_wanted l E _ _) ⟨rfl, rfl⟩ rfl rfl q_X7_207 ⟨by decide, by decide⟩ (Nat.le_of_ble_eq_true rfl) dX7_garden_2 (fun v F9 hp => ?_)
  obtain ⟨rfl, e9⟩ := hp
  rw [e9]
  clear e9 F9
  refine z_istore_n (i := 2) C dX7_garden_5 rfl (by decide) ?_
  refine z_iload_n C 0 dX7_garden_6 rfl ?_
  refine z_if_eq C 16 dX7_garden_7 (by decide) (fun h7 => ?_) (fun h7 => ?_)
  · skip
    obtain ⟨j, len, hj, es, esz, hl⟩ := wtd_0 hsz h012 h7
    have hR : rdo (gd0 M j len) (160 * j) len := ⟨rfl, rfl, by omega, hl, fun i hi => (congrFun (gd0_a (by decide)) i).trans (hwd i hi), fun i hi => (congrFun (gd0_a (by decide)) i).trans (hnm i hi)⟩
    refine z_aload_n C 1 dX7_garden_16 rfl ?_
    refine z_aload_n C 1 dX7_garden_17 rfl ?_
    refine mg_35 C dX7_garden_18 ?_
    refine z_iconst C (v := 0) dX7_garden_21 rfl ?_
    refine z_callV2 C (c_allF l E _ (k2 := 35) (by omega)) ⟨rfl, rfl⟩ rfl rfl q_X7_210 ⟨by decide, by decide⟩ (Nat.le_of_ble_eq_true rfl) dX7_garden_22 (fun v F9 hp => ?_)
    obtain ⟨rfl, e9⟩ := hp
    rw [e9]
    clear e9 F9
    refine z_aload_n C 1 dX7_garden_25 rfl ?_
    refine z_sipush C (v := 160) dX7_garden_26 rfl ?_
    refine z_iload_n C 2 dX7_garden_29 rfl ?_
    refine z_imul C dX7_garden_30 ?_
    refine z_top (nI (160 * j)) (by rw [es]; exact ix160 j) ?_
    refine mp_30 C dX7_garden_31 ?_
    refine z_aload_n C 1 dX7_garden_34 rfl ?_
    refine z_iconst C (v := 0) dX7_garden_35 rfl ?_
    refine mp_31 C dX7_garden_36 ?_
    refine z_aload_n C 1 dX7_garden_39 rfl ?_
    refine z_aload_n C 1 dX7_garden_40 rfl ?_
    refine mg_23 C dX7_garden_41 ?_
    refine z_iload_n C 2 dX7_garden_44 rfl ?_
    refine ml_23 C j es hj dX7_garden_45 ?_
    refine z_top (nI len) (by show M.2.2.1 23 j = _; exact esz) ?_
    refine mp_32 C dX7_garden_46 ?_
    refine z_aload_n C 1 dX7_garden_49 rfl ?_
    refine z_iconst C (v := (-1)) dX7_garden_50 rfl ?_
    refine mp_8 C dX7_garden_51 ?_
    refine z_eq (P2 := MP E (rM (gd0 M j len) M.1 0 ((gd0 M j len).2.1 33) ((gd0 M j len).2.1 34) ((gd0 M j len).2.2.1 29)) s) (by rw [show rM (gd0 M j len) M.1 0 ((gd0 M j len).2.1 33) ((gd0 M j len).2.1 34) ((gd0 M j len).2.2.1 29) = (gd0 M j len) from rM_id (X := (gd0 M j len)) rfl]; rfl) rfl rfl rfl ?_
    refine z_iconst C (v := 1) dX7_garden_54 rfl ?_
    refine z_istore_n (i := 3) C dX7_garden_55 rfl (by decide) ?_
    refine z_aload_n C 2 dX7_garden_56 rfl ?_
    refine z_callV0 C (c_X7_item l E (gd0 M j len) hR M.1 (a := 0) (Nat.zero_le _) _ _ _ hz h (by omega)) ⟨rfl, rfl⟩ rfl rfl q_X7_214 ⟨by decide, by decide⟩ (Nat.le_of_ble_eq_true rfl) dX7_garden_57 (fun v F9 hp => ?_)
    obtain ⟨rfl, g3, a3, n3, w3, tl3, e9, q1, q2⟩ := hp
    rw [e9]
    clear e9 F9
    refine z_istore C dX7_garden_60 (by decide) ?_
    refine z_pick [3, 1, 0] rfl ?_
    have z4 := itC_ok (T := (cT M (160 * j))) (len := len) (g := M.1) (s := (0, none)) ⟨Nat.zero_le _, fun _ y => by cases y⟩ hl
    exact lp_X7_garden M hz h hN hwd hnm hsz h012 sh hj hl es esz h7 C0 163 1 (itC (cT M (160 * j)) len M.1 (0, none)) g3 a3 n3 w3 tl3 (by unfold fz; split <;> omega) (by omega) (fun z => by
      obtain ⟨z1, z2⟩ := q1 z
      exact ⟨z1, z2, itC_pr z, z4.1, itC_gz hz, itC_rg hz h (by omega)⟩) q2 (fun _ => rfl) (fun q z => by
      show (itsP _ _ _ _ _ _).1.2.2 = _
      rw [itsP_stop (fun y => by rw [z] at y; cases y.1)]
      exact z)
  · skip
    obtain ⟨k0, hk8, hb1, hb2⟩ := wtd_k h7
    refine z_aload_n C 1 dX7_garden_10 rfl ?_
    refine z_iload_n C 0 dX7_garden_11 rfl ?_
    refine z_callV1 C (c_X7_no l E _ (wtd M sh) k0 hk8 hb1 hb2) ⟨rfl, rfl⟩ rfl rfl q_X7_124 ⟨by decide, by decide⟩ (Nat.le_of_ble_eq_true rfl) dX7_garden_12 (fun v F9 hp => ?_)
    obtain ⟨rfl, e9⟩ := hp
    rw [e9]
    clear e9 F9
    refine z_iret C0 dX7_garden_15 ?_
    exact ⟨fun _ => ⟨rfl, rfl⟩, fun z => absurd z h7⟩
