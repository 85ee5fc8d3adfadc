/-! the class: a text read -/
def itsP (T : Nat → Int32) (len : Nat) : Nat → zGc → (Nat × Option Nat) → Nat → (zGc × (Nat × Option Nat)) × Nat
  | 0, g, s, n => ((g, s), n)
  | m + 1, g, s, n => if s.2 = none ∧ s.1 < len then itsP T len m (itC T len g (exP T len 59 s)).1 (itC T len g (exP T len 59 s)).2 (n + 1) else ((g, s), n)
theorem itsP_stop {T : Nat → Int32} {len m n : Nat} {g : zGc} {s : Nat × Option Nat} (h : ¬ (s.2 = none ∧ s.1 < len)) : itsP T len m g s n = ((g, s), n) := by
  cases m with
  | zero => rfl
  | succ m => simp only [itsP]; rw [if_neg h]
def ltN (T d : Nat → Int32) (k : Nat) : Nat → Int32 := fun i => if i < k then d i else T i
def sA (F : zF) (k : Nat) (f : Nat → Int32) : zF := (F.1, F.2.1, F.2.2.1, va_up F.2.2.2 k f)
/-- the letters laid, and their number; the draft is the truth -/
def rdF (F : zF) (j len i : Nat) : zF := sA (sM (sG F 3 (layG (F.1 0).1 (F.1 3).1, (F.1 3).2)) 1 0 (nI len)) 2 (ltN (F.2.2.2 2) (dD F j) i)
theorem rdF_0 {F : zF} {j len : Nat} : sM (sG F 3 (layG (F.1 0).1 (F.1 3).1, (F.1 3).2)) 1 0 (nI len) = rdF F j len 0 := by
  unfold rdF sA
  have e : ltN (F.2.2.2 2) (dD F j) 0 = (sM (sG F 3 (layG (F.1 0).1 (F.1 3).1, (F.1 3).2)) 1 0 (nI len)).2.2.2 2 := by
    funext i
    simp [ltN, sM, sG, va_up]
  rw [e, va_up_id]
theorem rdF_s {F : zF} {j len i : Nat} : sM (rdF F j len i) 2 i (asI ((rdF F j len i).2.1 j 1) ((rdF F j len i).2.2.1 j) (nI i)) = rdF F j len (i + 1) := by
  show sM (rdF F j len i) 2 i (dD F j i) = _
  unfold rdF sA sM
  simp only [va_up_self, va_up_up]
  congr 4
  funext k
  by_cases hk : k = i
  · subst hk; simp [upd, ltN]
  · have : k < i + 1 ↔ k < i := by omega
    simp [upd, ltN, hk, this]
theorem rd_eq {F : zF} {j len : Nat} : sM (sM (rdF F j len len) 1 1 0) 1 2 (-1) = rS (rdF F j len len) (layG (F.1 0).1 (F.1 3).1, (F.1 3).2) len 0 none (F.2.2.2 1 3) := by
  unfold rS
  have e1 : va_up (rdF F j len len).1 3 (layG (F.1 0).1 (F.1 3).1, (F.1 3).2) = (rdF F j len len).1 := va_up_up
  rw [e1]
  unfold sM
  simp only [va_up_self, va_up_up]
  congr 4
  funext k
  match k with
  | 0 => rfl
  | 1 => rfl
  | 2 => rfl
  | 3 => rfl
  | k + 4 => rfl
def its0 (F : zF) (j len : Nat) : (zGc × (Nat × Option Nat)) × Nat := itsP ((rdF F j len len).2.2.2 2) len 159 (itC ((rdF F j len len).2.2.2 2) len (layG (F.1 0).1 (F.1 3).1) (0, none)).1 (itC ((rdF F j len len).2.2.2 2) len (layG (F.1 0).1 (F.1 3).1) (0, none)).2 1
theorem gz_of {g g2 : zGc} (h0 : g2.1 0 = g.1 0) (h1 : g2.1 1 = g.1 1) (h : gz g) : gz g2 := by
  unfold gz nS nC at *; rw [h0, h1]; exact h
theorem gz_addSh {g : zGc} {k a p : Int32} (h : gz g) (h6 : nS g < 6) : gz (addSh g k a p) := by
  have e0 : (addSh g k a p).1 0 = nI (nS g + 1) := by
    show g.1 0 + 1 = _
    rw [h.1.1]; exact nI_1 _
  have e1 : (addSh g k a p).1 1 = g.1 1 := rfl
  refine ⟨?_, ?_⟩
  · unfold nS; rw [e0, nI_clamp (by omega)]; exact ⟨rfl, h6⟩
  · unfold nC; rw [e1]; exact h.2
theorem gz_addCh {g : zGc} {k a : Int32} (h : gz g) (h6 : nC g < 6) : gz (addCh g k a) := by
  have e0 : (addCh g k a).1 1 = nI (nC g + 1) := by
    show g.1 1 + 1 = _
    rw [h.2.1]; exact nI_1 _
  have e1 : (addCh g k a).1 0 = g.1 0 := rfl
  refine ⟨?_, ?_⟩
  · unfold nS; rw [e1]; exact h.1
  · unfold nC; rw [e0, nI_clamp (by omega)]; exact ⟨rfl, h6⟩
theorem gz_night {g : zGc} (h : gz g) : gz (nightG g) := by
  refine gz_of ?_ ?_ h
  · show (nightS _ _).1 0 = _; rw [nightS_1, nightC_1]
  · show (nightS _ _).1 1 = _; rw [nightS_1, nightC_1]
theorem nmP_no {T : Nat → Int32} {len : Nat} {lo hi : Int32} {s : Nat × Option Nat} (h : (nmP T len lo hi s).2.2 = none) : s.2 = none := nmP_nn (nmP_cs T len lo hi s) h
theorem blF_no {f : Option Nat} {p : Nat} : ¬ blF f p = none := by obtain ⟨q, hq⟩ := blF_some f p; rw [hq]; exact fun z => by cases z
theorem lt6_of {x : Int32} {n : Nat} (hx : x = nI n) (hn : n ≤ 6) (h : x < 6) : n < 6 := by
  rw [hx] at h
  exact (nI_ltI (b := 6) (by omega) (by omega)).mp h
theorem itC_gz {T : Nat → Int32} {len : Nat} {g : zGc} {s : Nat × Option Nat} (h : gz g) : gz (itC T len g s).1 := by
  unfold itC
  split
  · simp only [itC0]
    split
    · rename_i h6
      split
      · exact gz_addSh h (lt6_of h.1.1 h.1.2 h6)
      · exact h
    · split
      · rename_i hn
        exact absurd (nmP_no (nmP_no (nmP_no hn))) blF_no
      · exact h
  · split
    · simp only [itC1]
      split
      · rename_i h6
        split
        · exact gz_addCh h (lt6_of h.2.1 h.2.2 h6)
        · exact h
      · split
        · rename_i hn
          exact absurd (nmP_no (nmP_no hn)) blF_no
        · exact h
    · split
      · simp only [itC2]; split
        · exact gz_of (g := g) rfl rfl h
        · exact h
      · split
        · simp only [itC3]; split
          · exact gz_of (g := g) rfl rfl h
          · exact h
        · split
          · simp only [itC4]; split
            · exact gz_of (g := g) rfl rfl h
            · exact h
          · split
            · simp only [itC5]; split
              · exact gz_of (g := g) rfl rfl h
              · exact h
            · split
              · simp only [itC6]; split
                · split
                  · exact sk_makes.z h
                  · exact h
                · exact h
              · split
                · simp only [itC7]; split
                  · exact gz_night h
                  · exact h
                · exact h
theorem s2_ok {len : Nat} {s s1 : Nat × Option Nat} {c : Prop} (hd : Decidable c) (h : okS len s) (h1 : okS len s1) : okS len (if c then s1 else (s1.1, blF s1.2 s.1)) := by
  by_cases q : c
  · rw [if_pos q]; exact h1
  · rw [if_neg q]; exact ⟨h1.1, fun q z => blF_le h1.2 h.1 z⟩
theorem itC_ok {T : Nat → Int32} {len : Nat} {g : zGc} {s : Nat × Option Nat} (h : okS len s) (hl : len ≤ 160) : okS len (itC T len g s).2 := by
  unfold itC
  split
  · exact nmP_ok (nmP_ok (nmP_ok (s2_ok inferInstance h (wdP_ok h (by decide)))))
  · split
    · exact nmP_ok (nmP_ok (s2_ok inferInstance h (wdP_ok h (by decide))))
    · split
      · exact nmP_ok (nmP_ok (wdP_ok h (by decide)))
      · split
        · exact nmP_ok (nmP_ok (wdP_ok h (by decide)))
        · split
          · exact nmP_ok (wdP_ok h (by decide))
          · split
            · exact nmP_ok (wdP_ok h (by decide))
            · split
              · simp only [itC6]
                have h1 : okS len (nmP T len 0 (g.1 1 - 1) (wdP T len (zByt.getD 6 []) (zLen.getD 6 0) s)).2 := nmP_ok (wdP_ok h (by decide))
                have h2 := nmP_ok (T := T) (lo := 0) (hi := 9999) h1
                split
                · split
                  · exact h2
                  · refine ⟨h2.1, fun q z => ?_⟩
                    cases z
                    exact (exP_ok (T := T) (c := 32) h1).1
                · exact h2
              · split
                · exact wdP_ok h (by decide)
                · exact ⟨h.1, fun q z => blF_le h.2 h.1 z⟩
theorem itsP_ok {T : Nat → Int32} {len : Nat} (hl : len ≤ 160) : ∀ {m n : Nat} {g : zGc} {s : Nat × Option Nat}, okS len s → gz g → okS len (itsP T len m g s n).1.2 ∧ gz (itsP T len m g s n).1.1
  | 0, n, g, s, h, hg => ⟨h, hg⟩
  | m + 1, n, g, s, h, hg => by
    simp only [itsP]
    split
    · exact itsP_ok hl (itC_ok (exP_ok h) hl) (itC_gz hg)
    · exact ⟨h, hg⟩
theorem its0_ok {F : zF} {j len : Nat} (hl : len ≤ 160) (hz : gz (F.1 0).1) : okS len (its0 F j len).1.2 ∧ gz (its0 F j len).1.1 :=
  itsP_ok hl (itC_ok ⟨Nat.zero_le _, fun _ h => by cases h⟩ hl) (itC_gz ((lay_eqv _ _).z hz))
set_option maxRecDepth 100000 in
set_option maxHeartbeats 4000000 in
theorem lp_X2_read_66 {l : Launch} {E : zE} {K : zK} {s : State} (F : zF) (hI : XI F) {j len : Nat} (hj : j < 8) (hlen : F.2.1 j 1 = nI len) (hl : len ≤ 160) (C0 : XR l E K cX2_read RX2 8 s 4 (some .int) (fun v F2 => v = some (.int (nI (its0 F j len).2)) ∧ ∃ G np, F2 = rS (rdF F j len len) G len (its0 F j len).1.2.1 (its0 F j len).1.2.2 np ∧ G.1 = (its0 F j len).1.1)) : ∀ (n2 : Nat) (n : Nat) (G : zGf) (ps : Nat × Option Nat) (np : Int32), (160 - n < n2) → (n ≤ 160) → (okS len ps) → (gz G.1) → (itsP ((rdF F j len len).2.2.2 2) len (160 - n) G.1 ps n = its0 F j len) → Z K (XP E (rS (rdF F j len len) G len ps.1 ps.2 np) s) 66 [(0, .ref (xadr E.2.2.1 (8, 0, 0))), (3, .int (nI n))] [] := by
  have C := C0.c
  intro n2
  induction n2 with
  | zero => intro n G ps np hk hn hs hzG hR; exact absurd hk (Nat.not_lt_zero _)
  | succ n2 ih =>
    intro n G ps np hk hn hs hzG hR
    obtain ⟨hz, hw, hsh⟩ := id hI
    obtain ⟨⟨eS, lS⟩, ⟨eC, lC⟩⟩ := id hz
    refine z_aload_n C 0 dX2_read_66 rfl ?_
    refine xg_8 (k := 2) C (by decide) kf_X2_22 dX2_read_67 ?_
    refine z_top (oI ps.2) (rfl) ?_
    refine z_iconst C (v := (-1)) dX2_read_70 rfl ?_
    refine z_icmp_ne C 108 dX2_read_71 (by decide) (fun h71 => ?_) (fun h71 => ?_)
    · skip
      refine z_iload_n C 1 dX2_read_108 rfl ?_
      refine z_iret C0 dX2_read_109 ?_
      have e : itsP ((rdF F j len len).2.2.2 2) len (160 - n) G.1 ps n = ((G.1, ps), n) := by
        exact itsP_stop (fun z => h71 (by rw [z.1]; rfl))
      rw [e] at hR
      rw [← hR]
      exact ⟨rfl, G, np, rfl, rfl⟩
    · skip
      refine z_aload_n C 0 dX2_read_74 rfl ?_
      refine xg_8 (k := 1) C (by decide) kf_X2_40 dX2_read_75 ?_
      refine z_top (nI ps.1) (rfl) ?_
      refine z_aload_n C 0 dX2_read_78 rfl ?_
      refine xg_8 (k := 0) C (by decide) kf_X2_35 dX2_read_79 ?_
      refine z_top (nI len) (rfl) ?_
      refine z_icmp_ge C 108 dX2_read_82 (by decide) (fun h82 => ?_) (fun h82 => ?_)
      · skip
        refine z_iload_n C 1 dX2_read_108 rfl ?_
        refine z_iret C0 dX2_read_109 ?_
        have e : itsP ((rdF F j len len).2.2.2 2) len (160 - n) G.1 ps n = ((G.1, ps), n) := by
          exact itsP_stop (fun z => absurd h82 (Int32.not_le.mpr (nI_lt z.2 (by omega))))
        rw [e] at hR
        rw [← hR]
        exact ⟨rfl, G, np, rfl, rfl⟩
      · skip
        refine z_iload_n C 1 dX2_read_85 rfl ?_
        refine z_sipush C (v := 160) dX2_read_86 rfl ?_
        refine z_icmp_ge C 108 dX2_read_89 (by decide) (fun h89 => ?_) (fun h89 => ?_)
        · skip
          refine z_iload_n C 1 dX2_read_108 rfl ?_
          refine z_iret C0 dX2_read_109 ?_
          have e : itsP ((rdF F j len len).2.2.2 2) len (160 - n) G.1 ps n = ((G.1, ps), n) := by
            have : n = 160 := by
              rcases Nat.lt_or_ge n 160 with q | q
              · exact absurd h89 (Int32.not_le.mpr (nI_lt (a := n) (b := 160) q (by omega)))
              · omega
            subst this
            rfl
          rw [e] at hR
          rw [← hR]
          exact ⟨rfl, G, np, rfl, rfl⟩
        · skip
          have hn160 : n < 160 := nI_lt_of h89 (by omega) (by omega)
          have hsl : ps.1 < len := nI_lt_of h82 (by have := hs.1; omega) (by omega)
          have hsn : ps.2 = none := oI_none (okS_bf hs hl) h71
          refine z_aload_n C 0 dX2_read_92 rfl ?_
          refine z_bipush C (v := 59) dX2_read_93 rfl ?_
          refine z_callV1 C (c_X2_expect l E (rdF F j len len) G hl ps hs np 59 (by decide)) ⟨by decide, rfl, rfl⟩ rfl rfl q_X2_46 ⟨by decide, by decide⟩ (Nat.le_of_ble_eq_true rfl) dX2_read_95 (fun v F9 hp => ?_)
          obtain ⟨rfl, e9⟩ := hp
          rw [e9]
          clear e9 F9
          refine z_aload_n C 0 dX2_read_98 rfl ?_
          refine z_callV0 C (c_X2_readItem l E (rdF F j len len) G hl (exP ((rdF F j len len).2.2.2 2) len 59 ps) (exP_ok hs) np hzG) ⟨by decide, rfl, rfl⟩ rfl rfl q_X2_43 ⟨by decide, by decide⟩ (Nat.le_of_ble_eq_true rfl) dX2_read_99 (fun v F9 hp => ?_)
          obtain ⟨rfl, G2, np2, e9, eG⟩ := hp
          rw [e9]
          clear e9 F9
          refine z_iinc C (v := nI (n + 1)) 1 dX2_read_102 rfl (nI_1 _) (by decide) ?_
          refine z_goto C 66 dX2_read_105 (by decide) ?_
          refine z_pick [1, 0] rfl ?_
          refine ih (n + 1) G2 (itC ((rdF F j len len).2.2.2 2) len G.1 (exP ((rdF F j len len).2.2.2 2) len 59 ps)).2 np2 (by omega) (by omega) (itC_ok (exP_ok hs) hl) (by rw [eG]; exact itC_gz hzG) ?_
          rw [← hR, show 160 - n = (160 - (n + 1)) + 1 by omega]
          simp only [itsP]
          rw [if_pos ⟨hsn, hsl⟩, eG]
set_option maxRecDepth 100000 in
set_option maxHeartbeats 4000000 in
theorem lp_X2_read_18 {l : Launch} {E : zE} {K : zK} {s : State} (F : zF) (hI : XI F) {j len : Nat} (hj : j < 8) (hlen : F.2.1 j 1 = nI len) (hl : len ≤ 160) (C0 : XR l E K cX2_read RX2 8 s 4 (some .int) (fun v F2 => v = some (.int (nI (its0 F j len).2)) ∧ ∃ G np, F2 = rS (rdF F j len len) G len (its0 F j len).1.2.1 (its0 F j len).1.2.2 np ∧ G.1 = (its0 F j len).1.1)) : ∀ (n2 : Nat) (i : Nat), (len - i < n2) → (i ≤ len) → Z K (XP E (rdF F j len i) s) 18 [(0, .ref (xadr E.2.2.1 (8, 0, 0))), (1, .ref (xadr E.2.2.1 (3, 0, 0))), (2, .ref (xadr E.2.2.1 (12, j, 0))), (3, .int (nI i))] [] := by
  have C := C0.c
  intro n2
  induction n2 with
  | zero => intro i hk hil0; exact absurd hk (Nat.not_lt_zero _)
  | succ n2 ih =>
    intro i hk hil0
    obtain ⟨hz, hw, hsh⟩ := id hI
    obtain ⟨⟨eS, lS⟩, ⟨eC, lC⟩⟩ := id hz
    have hzD : gz (layG (F.1 0).1 (F.1 3).1) := (lay_eqv _ _).z hz
    refine z_iload_n C 3 dX2_read_18 rfl ?_
    refine z_aload_n C 0 dX2_read_19 rfl ?_
    refine xg_8 (k := 0) C (by decide) kf_X2_35 dX2_read_20 ?_
    refine z_top (nI len) (rfl) ?_
    refine z_icmp_ge C 50 dX2_read_23 (by decide) (fun h23 => ?_) (fun h23 => ?_)
    · skip
      have ei : i = len := by
        rcases Nat.lt_or_ge i len with q | q
        · exact absurd h23 (nI_ge q (by omega))
        · omega
      rw [ei]
      refine z_aload_n C 0 dX2_read_50 rfl ?_
      refine z_iconst C (v := 0) dX2_read_51 rfl ?_
      refine xp_8 (k := 1) C (by decide) kf_X2_40 dX2_read_52 ?_
      refine z_aload_n C 0 dX2_read_55 rfl ?_
      refine z_iconst C (v := (-1)) dX2_read_56 rfl ?_
      refine xp_8 (k := 2) C (by decide) kf_X2_22 dX2_read_57 ?_
      rw [rd_eq]
      refine z_aload_n C 0 dX2_read_60 rfl ?_
      refine z_callV0 C (c_X2_readItem l E (rdF F j len len) (layG (F.1 0).1 (F.1 3).1, (F.1 3).2) hl (0, none) ⟨Nat.zero_le _, fun _ h => by cases h⟩ (F.2.2.2 1 3) hzD) ⟨by decide, rfl, rfl⟩ rfl rfl q_X2_43 ⟨by decide, by decide⟩ (Nat.le_of_ble_eq_true rfl) dX2_read_61 (fun v F9 hp => ?_)
      obtain ⟨rfl, G2, np2, e9, eG⟩ := hp
      rw [e9]
      clear e9 F9
      refine z_iconst C (v := 1) dX2_read_64 rfl ?_
      refine z_istore_n (i := 3) C dX2_read_65 rfl (by decide) ?_
      refine z_pick [1, 0] rfl ?_
      exact lp_X2_read_66 F hI hj hlen hl C0 161 1 G2 (itC ((rdF F j len len).2.2.2 2) len (layG (F.1 0).1 (F.1 3).1) (0, none)).2 np2 (by omega) (by omega) (itC_ok ⟨Nat.zero_le _, fun _ h => by cases h⟩ hl) (by rw [eG]; exact itC_gz hzD) (by rw [eG]; rfl)
    · skip
      have hil : i < len := nI_lt_of h23 (by omega) (by omega)
      refine z_iload_n C 3 dX2_read_26 rfl ?_
      refine z_sipush C (v := 160) dX2_read_27 rfl ?_
      refine z_icmp_ge C 50 dX2_read_30 (by decide) (fun h30 => ?_) (fun h30 => ?_)
      · exact absurd h30 (Int32.not_le.mpr (nI_lt (a := i) (b := 160) (by have := nI_lt_of h23 (by omega) (by omega); omega) (by omega)))
      · skip
        refine z_aload_n C 0 dX2_read_33 rfl ?_
        refine xg_8l C kf_X2_18 dX2_read_34 ?_
        refine z_iload_n C 3 dX2_read_37 rfl ?_
        refine z_aload_n C 2 dX2_read_38 rfl ?_
        refine z_iload_n C 3 dX2_read_39 rfl ?_
        refine z_callV1 C (c_X3_asInt l E (rdF F j len i) hj (len := len) hlen hl _) ⟨(by first | assumption | omega), rfl⟩ rfl rfl q_X2_36 ⟨by decide, by decide⟩ (Nat.le_of_ble_eq_true rfl) dX2_read_40 (fun v F9 hp => ?_)
        obtain ⟨rfl, e9⟩ := hp
        rw [e9]
        clear e9 F9
        refine xs_9 C i rfl (by omega) dX2_read_43 ?_
        rw [rdF_s]
        refine z_iinc C (v := nI (i + 1)) 3 dX2_read_44 rfl (nI_1 _) (by decide) ?_
        refine z_goto C 18 dX2_read_47 (by decide) ?_
        refine z_pick [1, 2, 3, 0] rfl ?_
        exact ih (i + 1) (by omega) (by omega)
set_option maxRecDepth 100000 in
set_option maxHeartbeats 4000000 in
theorem c_X2_read (l : Launch) (E : zE) (F : zF) (hI : XI F) {j len : Nat} (hj : j < 8) (hlen : F.2.1 j 1 = nI len) (hl : len ≤ 160) : XM l E yX2_read cX2_read 4 (some .int) 8 [.ref (xadr E.2.2.1 (8, 0, 0)), .ref (xadr E.2.2.1 (3, 0, 0)), .ref (xadr E.2.2.1 (12, j, 0))] (F) (fun v F2 => v = some (.int (nI (its0 F j len).2)) ∧ ∃ G np, F2 = rS (rdF F j len len) G len (its0 F j len).1.2.1 (its0 F j len).1.2.2 np ∧ G.1 = (its0 F j len).1.1) := by
  refine XM.mk kq_X2 (Nat.le_of_ble_eq_true rfl) (fun K s C0 => ?_)
  have C := C0.c
  obtain ⟨hz, hw, hsh⟩ := id hI
  obtain ⟨⟨eS, lS⟩, ⟨eC, lC⟩⟩ := id hz
  have hzD : gz (layG (F.1 0).1 (F.1 3).1) := (lay_eqv _ _).z hz
  refine z_aload_n C 0 dX2_read_0 rfl ?_
  refine xg_8d C kf_X2_12 dX2_read_1 ?_
  refine z_aload_n C 1 dX2_read_4 rfl ?_
  refine z_callV1 C (cg_X1_takeAll l E F (gi := 3) (by decide) (gj := 0) (by decide) (by decide) hz) ⟨(by decide), rfl⟩ rfl rfl q_X2_26 ⟨by decide, by decide⟩ (Nat.le_of_ble_eq_true rfl) dX2_read_5 (fun v F9 hp => ?_)
  obtain ⟨rfl, e9⟩ := hp
  rw [e9]
  clear e9 F9
  refine z_aload_n C 0 dX2_read_8 rfl ?_
  refine z_aload_n C 2 dX2_read_9 rfl ?_
  refine xg_12 (k := 1) C (by first | assumption | omega) (by decide) kf_X2_30 dX2_read_10 ?_
  refine z_top (nI len) (hlen) ?_
  refine xp_8 (k := 0) C (by decide) kf_X2_35 dX2_read_13 ?_
  refine z_iconst C (v := 0) dX2_read_16 rfl ?_
  refine z_istore_n (i := 3) C dX2_read_17 rfl (by decide) ?_
  refine z_pick [1, 2, 3, 0] rfl ?_
  rw [rdF_0]
  exact lp_X2_read_18 F hI hj hlen hl C0 (len + 1) 0 (by omega) (by omega)
set_option maxRecDepth 100000 in
set_option maxHeartbeats 4000000 in
theorem c_X6_garden (l : Launch) (E : zE) (F : zF) (hI : XI F) (s : Int32) : XM l E yX6_garden cX6_garden 4 (some .int) 9 [.ref (xadr E.2.2.1 (0, 0, 0)), .int (s)] (F) (fun v F2 => v = some (.int (if ¬ rTr F s = 0 then rTr F s else if (its0 F s.toNatClampNeg (F.2.1 s.toNatClampNeg 1).toNatClampNeg).1.2.2 = none then nI (its0 F s.toNatClampNeg (F.2.1 s.toNatClampNeg 1).toNatClampNeg).2 else -6)) ∧ (¬ rTr F s = 0 → F2 = rfu F (rTr F s)) ∧ (rTr F s = 0 → ∃ G np, G.1 = (its0 F s.toNatClampNeg (F.2.1 s.toNatClampNeg 1).toNatClampNeg).1.1 ∧ ((its0 F s.toNatClampNeg (F.2.1 s.toNatClampNeg 1).toNatClampNeg).1.2.2 = none → F2 = sG (rS (rdF F s.toNatClampNeg (F.2.1 s.toNatClampNeg 1).toNatClampNeg (F.2.1 s.toNatClampNeg 1).toNatClampNeg) G (F.2.1 s.toNatClampNeg 1).toNatClampNeg (its0 F s.toNatClampNeg (F.2.1 s.toNatClampNeg 1).toNatClampNeg).1.2.1 (its0 F s.toNatClampNeg (F.2.1 s.toNatClampNeg 1).toNatClampNeg).1.2.2 np) 0 (layG G.1 (F.1 0).1, (F.1 0).2)) ∧ (¬ (its0 F s.toNatClampNeg (F.2.1 s.toNatClampNeg 1).toNatClampNeg).1.2.2 = none → F2 = rfu (rS (rdF F s.toNatClampNeg (F.2.1 s.toNatClampNeg 1).toNatClampNeg (F.2.1 s.toNatClampNeg 1).toNatClampNeg) G (F.2.1 s.toNatClampNeg 1).toNatClampNeg (its0 F s.toNatClampNeg (F.2.1 s.toNatClampNeg 1).toNatClampNeg).1.2.1 (its0 F s.toNatClampNeg (F.2.1 s.toNatClampNeg 1).toNatClampNeg).1.2.2 np) (-6)))) := by
  refine XM.mk kq_X6 (Nat.le_of_ble_eq_true rfl) (fun K s C0 => ?_)
  have C := C0.c
  obtain ⟨hz, hw, hsh⟩ := id hI
  obtain ⟨⟨eS, lS⟩, ⟨eC, lC⟩⟩ := id hz
  refine z_aload_n C 0 dX6_garden_0 rfl ?_
  refine z_iload_n C 1 dX6_garden_1 rfl ?_
  refine z_callV1 C (c_X6_rowTrouble l E _ _) ⟨by decide, rfl, rfl⟩ rfl rfl q_X6_59 ⟨by decide, by decide⟩ (Nat.le_of_ble_eq_true rfl) dX6_garden_2 (fun v F9 hp => ?_)
  obtain ⟨rfl, e9⟩ := hp
  rw [e9]
  clear e9 F9
  refine z_istore_n (i := 2) C dX6_garden_5 rfl (by decide) ?_
  refine z_iload_n C 0 dX6_garden_6 rfl ?_
  refine z_if_eq C 16 dX6_garden_7 (by decide) (fun h7 => ?_) (fun h7 => ?_)
  · skip
    obtain ⟨j, hj, rfl⟩ := rTr_in h7
    obtain ⟨⟨len, hle, el⟩, -⟩ := hsh j hj
    have ej : (nI j).toNatClampNeg = j := nI_clamp (by omega)
    have ele : (F.2.1 j 1).toNatClampNeg = len := by rw [el]; exact nI_clamp (by omega)
    have hits : okS len (its0 F j len).1.2 ∧ gz (its0 F j len).1.1 := its0_ok hle hz
    refine z_aload_n C 1 dX6_garden_16 rfl ?_
    refine xg_0_5 C kf_X6_35 dX6_garden_17 ?_
    refine z_aload_n C 1 dX6_garden_20 rfl ?_
    refine xg_0_2 C kf_X6_22 dX6_garden_21 ?_
    refine z_aload_n C 1 dX6_garden_24 rfl ?_
    refine xg_0_0 C kf_X6_11 dX6_garden_25 ?_
    refine z_iload_n C 2 dX6_garden_28 rfl ?_
    refine xa_1 C j rfl (by first | assumption | omega) dX6_garden_29 ?_
    refine z_callV2 C (c_X2_read l E F hI hj el hle) ⟨by decide, rfl, rfl⟩ rfl rfl q_X6_182 ⟨by decide, by decide⟩ (Nat.le_of_ble_eq_true rfl) dX6_garden_30 (fun v F9 hp => ?_)
    obtain ⟨rfl, G, np, e9, eG⟩ := hp
    rw [e9]
    clear e9 F9
    refine z_istore_n (i := 3) C dX6_garden_33 rfl (by decide) ?_
    refine z_aload_n C 2 dX6_garden_34 rfl ?_
    refine xg_0_5 C kf_X6_35 dX6_garden_35 ?_
    refine xg_8 (k := 2) C (by decide) kf_X6_186 dX6_garden_38 ?_
    refine z_top (oI (its0 F j len).1.2.2) (rfl) ?_
    refine z_iconst C (v := (-1)) dX6_garden_41 rfl ?_
    refine z_icmp_eq C 52 dX6_garden_42 (by decide) (fun h42 => ?_) (fun h42 => ?_)
    · skip
      refine z_aload_n C 2 dX6_garden_52 rfl ?_
      refine xg_0_2 C kf_X6_22 dX6_garden_53 ?_
      refine z_aload_n C 2 dX6_garden_56 rfl ?_
      refine xg_0_5 C kf_X6_35 dX6_garden_57 ?_
      refine xg_8d C kf_X6_189 dX6_garden_60 ?_
      refine z_callV1 C (cg_X1_takeAll l E (rS (rdF F j len len) G len (its0 F j len).1.2.1 (its0 F j len).1.2.2 np) (gi := 0) (by decide) (gj := 3) (by decide) (by decide) (show gz G.1 by rw [eG]; exact hits.2)) ⟨(by decide), rfl⟩ rfl rfl q_X6_192 ⟨by decide, by decide⟩ (Nat.le_of_ble_eq_true rfl) dX6_garden_63 (fun v F9 hp => ?_)
      obtain ⟨rfl, e9⟩ := hp
      rw [e9]
      clear e9 F9
      refine z_iload_n C 0 dX6_garden_66 rfl ?_
      refine z_iret C0 dX6_garden_67 ?_
      have hf : (its0 F j len).1.2.2 = none := oI_none (okS_bf hits.1 hle) h42
      rw [ej, ele]
      refine ⟨by rw [if_neg (fun z => z h7), if_pos hf], fun z => absurd h7 z, fun _ => ⟨G, np, eG, fun _ => rfl, fun z => absurd hf z⟩⟩
    · skip
      refine z_aload_n C 2 dX6_garden_45 rfl ?_
      refine z_bipush C (v := (-6)) dX6_garden_46 rfl ?_
      refine z_callV1 C (c_X6_refuse l E _ _) ⟨by decide, rfl, rfl⟩ rfl rfl q_X6_51 ⟨by decide, by decide⟩ (Nat.le_of_ble_eq_true rfl) dX6_garden_48 (fun v F9 hp => ?_)
      obtain ⟨rfl, e9⟩ := hp
      rw [e9]
      clear e9 F9
      refine z_iret C0 dX6_garden_51 ?_
      have hf : ¬ (its0 F j len).1.2.2 = none := fun z => h42 (by rw [z]; rfl)
      rw [ej, ele]
      refine ⟨by rw [if_neg (fun z => z h7), if_neg hf], fun z => absurd h7 z, fun _ => ⟨G, np, eG, fun z => absurd z hf, fun _ => rfl⟩⟩
  · skip
    refine z_aload_n C 1 dX6_garden_10 rfl ?_
    refine z_iload_n C 0 dX6_garden_11 rfl ?_
    refine z_callV1 C (c_X6_refuse l E _ _) ⟨by decide, rfl, rfl⟩ rfl rfl q_X6_51 ⟨by decide, by decide⟩ (Nat.le_of_ble_eq_true rfl) dX6_garden_12 (fun v F9 hp => ?_)
    obtain ⟨rfl, e9⟩ := hp
    rw [e9]
    clear e9 F9
    refine z_iret C0 dX6_garden_15 ?_
    refine ⟨by rw [if_pos h7], fun _ => rfl, fun z => absurd z h7⟩
