/-! the class: minutes -/
set_option maxRecDepth 100000 in
set_option maxHeartbeats 4000000 in
theorem lp_X1_beginMinute {l : Launch} {E : zE} {K : zK} {s : State} (F : zF) (G : zGf) {gi : Nat} (hg : gi < 4) (hz : gz G.1) (C0 : XR l E K cX1_beginMinute RX1 1 s 2 none (fun v F2 => v = none ∧ F2 = sG F gi (begM G))) : ∀ (n2 : Nat) (k : Nat), nS G.1 - k < n2 → k ≤ nS G.1 → Z K (XP E (sG F gi (G.1, bz0 k G.2.1, G.2.2)) s) 2 [(0, .ref (xadr E.2.2.1 (3, gi, 0))), (1, .int (nI k))] [] := by
  have C := C0.c
  intro n2
  induction n2 with
  | zero => intro k hk hkl; exact absurd hk (Nat.not_lt_zero _)
  | succ n2 ih =>
    intro k hk hkl
    obtain ⟨⟨eS, lS⟩, ⟨eC, lC⟩⟩ := id hz
    refine z_iload_n C 1 dX1_beginMinute_2 rfl ?_
    refine z_aload_n C 0 dX1_beginMinute_3 rfl ?_
    refine xg_3F (k := 0) C (by first | assumption | omega) (by decide) kf_X1_35 dX1_beginMinute_4 ?_
    rw [eS]
    refine z_icmp_ge C 26 dX1_beginMinute_7 (by decide) (fun h7 => ?_) (fun h7 => ?_)
    · skip
      refine z_vret C0 dX1_beginMinute_26 ?_
      have e : k = nS G.1 := by
        rcases Nat.lt_or_ge k (nS G.1) with q | q
        · exact absurd h7 (nI_ge q (by omega))
        · omega
      rw [e]
      exact ⟨rfl, rfl⟩
    · skip
      have hk2 : k < nS G.1 := by
        rcases Nat.lt_or_ge k (nS G.1) with q | q
        · exact q
        · exact absurd (nI_le q (by omega)) h7
      have hk6 : k < 6 := by omega
      refine z_aload_n C 0 dX1_beginMinute_10 rfl ?_
      refine xg_3s C (by first | assumption | omega) kf_X1_11 dX1_beginMinute_11 ?_
      refine z_iload_n C 1 dX1_beginMinute_14 rfl ?_
      refine xa_4 C (by first | assumption | omega) k rfl (by first | assumption | omega) dX1_beginMinute_15 ?_
      refine z_iconst C (v := 0) dX1_beginMinute_16 rfl ?_
      refine xp_6bF C (by first | assumption | omega) (by first | assumption | omega) ⟨rfl, rfl⟩ kf_X1_115 dX1_beginMinute_17 ?_
      refine z_iinc C (v := nI (k + 1)) 1 dX1_beginMinute_20 rfl (nI_1 _) (by decide) ?_
      refine z_goto C 2 dX1_beginMinute_23 (by decide) ?_
      refine z_pick [1, 0] rfl ?_
      have q := ih (k + 1) (by omega) (by omega)
      rw [bz0_succ] at q
      exact q
set_option maxRecDepth 100000 in
set_option maxHeartbeats 4000000 in
theorem c_X1_beginMinute (l : Launch) (E : zE) (F : zF) (G : zGf) {gi : Nat} (hg : gi < 4) (hz : gz G.1) : XM l E yX1_beginMinute cX1_beginMinute 2 none 1 [.ref (xadr E.2.2.1 (3, gi, 0))] (sG F gi G) (fun v F2 => v = none ∧ F2 = sG F gi (begM G)) := by
  refine XM.mk kq_X1 (Nat.le_of_ble_eq_true rfl) (fun K s C0 => ?_)
  have C := C0.c
  obtain ⟨⟨eS, lS⟩, ⟨eC, lC⟩⟩ := id hz
  refine z_iconst C (v := 0) dX1_beginMinute_0 rfl ?_
  refine z_istore_n (i := 1) C dX1_beginMinute_1 rfl (by decide) ?_
  refine z_pick [1, 0] rfl ?_
  have q := lp_X1_beginMinute F G hg hz C0 (nS G.1 + 1) 0 (by omega) (by omega)
  rw [bz0_0] at q
  exact q
theorem cg_X1_beginMinute (l : Launch) (E : zE) (F : zF) {gi : Nat} (hg : gi < 4) (hz : gz (F.1 gi).1) : XM l E yX1_beginMinute cX1_beginMinute 2 none 1 [.ref (xadr E.2.2.1 (3, gi, 0))] F (fun v F2 => v = none ∧ F2 = sG F gi (begM (F.1 gi))) := by
  have h := c_X1_beginMinute l E F (F.1 gi) hg hz
  rw [sG_id] at h
  exact h
set_option maxRecDepth 100000 in
set_option maxHeartbeats 4000000 in
theorem lp_X1_endMinute {l : Launch} {E : zE} {K : zK} {s : State} (F : zF) (G : zGf) {gi : Nat} (hg : gi < 4) (hz : gz G.1) (C0 : XR l E K cX1_endMinute RX1 1 s 2 none (fun v F2 => v = none ∧ F2 = sG F gi (endM G))) : ∀ (n2 : Nat) (k : Nat), nS G.1 - k < n2 → k ≤ nS G.1 → Z K (XP E (sG F gi (endN G.2.1 k G.1, G.2)) s) 2 [(0, .ref (xadr E.2.2.1 (3, gi, 0))), (1, .int (nI k))] [] := by
  have C := C0.c
  intro n2
  induction n2 with
  | zero => intro k hk hkl; exact absurd hk (Nat.not_lt_zero _)
  | succ n2 ih =>
    intro k hk hkl
    obtain ⟨⟨eS, lS⟩, ⟨eC, lC⟩⟩ := id hz
    refine z_iload_n C 1 dX1_endMinute_2 rfl ?_
    refine z_aload_n C 0 dX1_endMinute_3 rfl ?_
    refine xg_3F (k := 0) C (by first | assumption | omega) (by decide) kf_X1_35 dX1_endMinute_4 ?_
    rw [show (endN G.2.1 k G.1).1 0 = nI (nS G.1) by rw [endN_1, eS]]
    refine z_icmp_ge C 54 dX1_endMinute_7 (by decide) (fun h7 => ?_) (fun h7 => ?_)
    · skip
      refine z_aload_n C 0 dX1_endMinute_54 rfl ?_
      refine z_dup C dX1_endMinute_55 rfl ?_
      refine xg_3F (k := 2) C (by first | assumption | omega) (by decide) kf_X1_41 dX1_endMinute_56 ?_
      refine z_top (G.1.1 2) (by rw [endN_1]) ?_
      refine z_iconst C (v := 1) dX1_endMinute_59 rfl ?_
      refine z_iadd C dX1_endMinute_60 ?_
      refine xp_3F (k := 2) C (by first | assumption | omega) (by decide) kf_X1_41 dX1_endMinute_61 ?_
      refine z_vret C0 dX1_endMinute_64 ?_
      have e : k = nS G.1 := by
        rcases Nat.lt_or_ge k (nS G.1) with q | q
        · exact absurd h7 (nI_ge q (by omega))
        · omega
      rw [e]
      exact ⟨rfl, rfl⟩
    · skip
      have hk2 : k < nS G.1 := by
        rcases Nat.lt_or_ge k (nS G.1) with q | q
        · exact q
        · exact absurd (nI_le q (by omega)) h7
      have hk6 : k < 6 := by omega
      refine z_aload_n C 0 dX1_endMinute_10 rfl ?_
      refine xg_3s C (by first | assumption | omega) kf_X1_11 dX1_endMinute_11 ?_
      refine z_iload_n C 1 dX1_endMinute_14 rfl ?_
      refine xa_4 C (by first | assumption | omega) k rfl (by first | assumption | omega) dX1_endMinute_15 ?_
      refine xg_6bF C (by first | assumption | omega) (by first | assumption | omega) kf_X1_115 dX1_endMinute_16 ?_
      refine z_if_ne C 48 dX1_endMinute_19 (by decide) (fun h19 => ?_) (fun h19 => ?_)
      · skip
        refine z_iinc C (v := nI (k + 1)) 1 dX1_endMinute_48 rfl (nI_1 _) (by decide) ?_
        refine z_goto C 2 dX1_endMinute_51 (by decide) ?_
        refine z_pick [1, 0] rfl ?_
        have q := ih (k + 1) (by omega) (by omega)
        simp only [endN, endS] at q
        rw [if_neg h19] at q
        exact q
      · skip
        refine z_aload_n C 0 dX1_endMinute_22 rfl ?_
        refine xg_3s C (by first | assumption | omega) kf_X1_11 dX1_endMinute_23 ?_
        refine z_iload_n C 1 dX1_endMinute_26 rfl ?_
        refine xa_4 C (by first | assumption | omega) k rfl (by first | assumption | omega) dX1_endMinute_27 ?_
        refine z_sipush C (v := 999) dX1_endMinute_28 rfl ?_
        refine z_aload_n C 0 dX1_endMinute_31 rfl ?_
        refine xg_3s C (by first | assumption | omega) kf_X1_11 dX1_endMinute_32 ?_
        refine z_iload_n C 1 dX1_endMinute_35 rfl ?_
        refine xa_4 C (by first | assumption | omega) k rfl (by first | assumption | omega) dX1_endMinute_36 ?_
        refine xg_6F (k := 4) C (by first | assumption | omega) (by first | assumption | omega) (by decide) kf_X1_112 dX1_endMinute_37 ?_
        refine z_iconst C (v := 1) dX1_endMinute_40 rfl ?_
        refine z_iadd C dX1_endMinute_41 ?_
        refine z_mmin C dX1_endMinute_42 q_X1_93 ⟨by decide, Nat.le_of_ble_eq_true rfl⟩ ?_
        refine z_top (qn ((endN G.2.1 k G.1).2.1 k 4)) rfl ?_
        refine xp_6F (k := 4) C (by first | assumption | omega) (by first | assumption | omega) (by decide) kf_X1_112 dX1_endMinute_45 ?_
        refine z_iinc C (v := nI (k + 1)) 1 dX1_endMinute_48 rfl (nI_1 _) (by decide) ?_
        refine z_goto C 2 dX1_endMinute_51 (by decide) ?_
        refine z_pick [1, 0] rfl ?_
        have q := ih (k + 1) (by omega) (by omega)
        simp only [endN, endS] at q
        rw [if_pos h19] at q
        exact q
set_option maxRecDepth 100000 in
set_option maxHeartbeats 4000000 in
theorem c_X1_endMinute (l : Launch) (E : zE) (F : zF) (G : zGf) {gi : Nat} (hg : gi < 4) (hz : gz G.1) : XM l E yX1_endMinute cX1_endMinute 2 none 1 [.ref (xadr E.2.2.1 (3, gi, 0))] (sG F gi G) (fun v F2 => v = none ∧ F2 = sG F gi (endM G)) := by
  refine XM.mk kq_X1 (Nat.le_of_ble_eq_true rfl) (fun K s C0 => ?_)
  have C := C0.c
  obtain ⟨⟨eS, lS⟩, ⟨eC, lC⟩⟩ := id hz
  refine z_iconst C (v := 0) dX1_endMinute_0 rfl ?_
  refine z_istore_n (i := 1) C dX1_endMinute_1 rfl (by decide) ?_
  refine z_pick [1, 0] rfl ?_
  exact lp_X1_endMinute F G hg hz C0 (nS G.1 + 1) 0 (by omega) (by omega)
theorem cg_X1_endMinute (l : Launch) (E : zE) (F : zF) {gi : Nat} (hg : gi < 4) (hz : gz (F.1 gi).1) : XM l E yX1_endMinute cX1_endMinute 2 none 1 [.ref (xadr E.2.2.1 (3, gi, 0))] F (fun v F2 => v = none ∧ F2 = sG F gi (endM (F.1 gi))) := by
  have h := c_X1_endMinute l E F (F.1 gi) hg hz
  rw [sG_id] at h
  exact h
set_option maxRecDepth 100000 in
set_option maxHeartbeats 4000000 in
theorem lp_X1_passMinutes_14 {l : Launch} {E : zE} {K : zK} {s : State} (F : zF) (G : zGf) {gi : Nat} (hg : gi < 4) (hz : gz G.1) (hw : wn G.1) {rule : Int32} {n : Nat} (hn : n < 1000) {t : Nat} (hout : Z K (XP E (sG F gi (minutes rule (t + 1) G)) s) 2 [(0, .ref (xadr E.2.2.1 (3, gi, 0))), (1, .int rule), (2, .int (nI n)), (3, .int (nI (t + 1)))] []) (C0 : XR l E K cX1_passMinutes RX1 5 s 5 none (fun v F2 => v = none ∧ F2 = sG F gi (minutes rule n G))) : ∀ (n2 : Nat) (c : Nat), nC G.1 - c < n2 → c ≤ nC G.1 → Z K (XP E (sG F gi (kidsN (fun G c => deedBy G.1 rule c) c (begM (minutes rule t G)))) s) 14 [(0, .ref (xadr E.2.2.1 (3, gi, 0))), (1, .int (rule)), (2, .int (nI n)), (3, .int (nI t)), (4, .int (nI c))] [] := by
  have C := C0.c
  intro n2
  induction n2 with
  | zero => intro c hk hkl; exact absurd hk (Nat.not_lt_zero _)
  | succ n2 ih =>
    intro c hk hkl
    obtain ⟨⟨eS, lS⟩, ⟨eC, lC⟩⟩ := id hz
    have sI : sk G.1 (kidsN (fun G c => deedBy G.1 rule c) c (begM (minutes rule t G))).1 := (sk_minutes (n := t)).tr (sk_kids (G := begM (minutes rule t G)) (n := c))
    refine z_iload C 4 dX1_passMinutes_14 rfl ?_
    refine z_aload_n C 0 dX1_passMinutes_16 rfl ?_
    refine xg_3F (k := 1) C (by first | assumption | omega) (by decide) kf_X1_38 dX1_passMinutes_17 ?_
    rw [show (kidsN (fun G c => deedBy G.1 rule c) c (begM (minutes rule t G))).1.1 1 = nI (nC G.1) by rw [sI.2.1, eC]]
    refine z_icmp_ge C 42 dX1_passMinutes_20 (by decide) (fun h20 => ?_) (fun h20 => ?_)
    · skip
      have ec : c = nC G.1 := by
        rcases Nat.lt_or_ge c (nC G.1) with q | q
        · exact absurd h20 (nI_ge q (by omega))
        · omega
      have zI : gz (kidsN (fun G c => deedBy G.1 rule c) c (begM (minutes rule t G))).1 := sI.z hz
      refine z_aload_n C 0 dX1_passMinutes_42 rfl ?_
      refine z_callV0 C (c_X1_endMinute l E _ _ (by first | assumption | omega) zI) ⟨(by first | assumption | omega), rfl⟩ rfl rfl q_X1_132 ⟨by decide, by decide⟩ (Nat.le_of_ble_eq_true rfl) dX1_passMinutes_43 (fun v F9 hp => ?_)
      obtain ⟨rfl, rfl⟩ := hp
      refine z_iinc C (v := nI (t + 1)) 3 dX1_passMinutes_46 rfl (nI_1 _) (by decide) ?_
      refine z_goto C 2 dX1_passMinutes_49 (by decide) ?_
      refine z_pick [1, 2, 3, 0] rfl ?_
      subst ec
      rw [show minutes rule (t + 1) G = endM (kidsN (fun G c => deedBy G.1 rule c) (nC G.1) (begM (minutes rule t G))) by simp only [minutes, minute]; rw [(sk_minutes (n := t)).C]] at hout
      exact hout
    · skip
      have hc2 : c < nC G.1 := by
        rcases Nat.lt_or_ge c (nC G.1) with q | q
        · exact q
        · exact absurd (nI_le q (by omega)) h20
      have hcI : c < nC (kidsN (fun G c => deedBy G.1 rule c) c (begM (minutes rule t G))).1 := by rw [sI.C]; exact hc2
      have zI : gz (kidsN (fun G c => deedBy G.1 rule c) c (begM (minutes rule t G))).1 := sI.z hz
      have wI : 10 * (kidsN (fun G c => deedBy G.1 rule c) c (begM (minutes rule t G))).1.2.2 c 0 < 2147483647 := sI.w hw c hcI
      refine z_aload_n C 0 dX1_passMinutes_23 rfl ?_
      refine z_iload C 4 dX1_passMinutes_24 rfl ?_
      refine z_aload_n C 0 dX1_passMinutes_26 rfl ?_
      refine z_iload_n C 1 dX1_passMinutes_27 rfl ?_
      refine z_iload C 4 dX1_passMinutes_28 rfl ?_
      refine z_callV2 C (c_X1_deedBy l E _ _ (by first | assumption | omega) zI hcI wI) ⟨(by first | assumption | omega), rfl⟩ rfl rfl q_X1_126 ⟨by decide, by decide⟩ (Nat.le_of_ble_eq_true rfl) dX1_passMinutes_30 (fun v F9 hp => ?_)
      obtain ⟨rfl, rfl⟩ := hp
      refine z_callV2 C (c_X1_perform l E _ _ (by first | assumption | omega) zI hcI deed_dd) ⟨(by first | assumption | omega), rfl⟩ rfl rfl q_X1_129 ⟨by decide, by decide⟩ (Nat.le_of_ble_eq_true rfl) dX1_passMinutes_33 (fun v F9 hp => ?_)
      obtain ⟨rfl, rfl⟩ := hp
      refine z_iinc C (v := nI (c + 1)) 4 dX1_passMinutes_36 rfl (nI_1 _) (by decide) ?_
      refine z_goto C 14 dX1_passMinutes_39 (by decide) ?_
      refine z_pick [1, 2, 3, 4, 0] rfl ?_
      exact ih (c + 1) (by omega) (by omega)
set_option maxRecDepth 100000 in
set_option maxHeartbeats 4000000 in
theorem lp_X1_passMinutes_2 {l : Launch} {E : zE} {K : zK} {s : State} (F : zF) (G : zGf) {gi : Nat} (hg : gi < 4) (hz : gz G.1) (hw : wn G.1) {rule : Int32} {n : Nat} (hn : n < 1000) (C0 : XR l E K cX1_passMinutes RX1 5 s 5 none (fun v F2 => v = none ∧ F2 = sG F gi (minutes rule n G))) : ∀ (n2 : Nat) (t : Nat), n - t < n2 → t ≤ n → Z K (XP E (sG F gi (minutes rule t G)) s) 2 [(0, .ref (xadr E.2.2.1 (3, gi, 0))), (1, .int (rule)), (2, .int (nI n)), (3, .int (nI t))] [] := by
  have C := C0.c
  intro n2
  induction n2 with
  | zero => intro t hk hkl; exact absurd hk (Nat.not_lt_zero _)
  | succ n2 ih =>
    intro t hk hkl
    obtain ⟨⟨eS, lS⟩, ⟨eC, lC⟩⟩ := id hz
    refine z_iload_n C 3 dX1_passMinutes_2 rfl ?_
    refine z_iload_n C 2 dX1_passMinutes_3 rfl ?_
    refine z_icmp_ge C 52 dX1_passMinutes_4 (by decide) (fun h4 => ?_) (fun h4 => ?_)
    · skip
      refine z_vret C0 dX1_passMinutes_52 ?_
      have e : t = n := by
        rcases Nat.lt_or_ge t (n) with q | q
        · exact absurd h4 (nI_ge q (by omega))
        · omega
      rw [e]
      exact ⟨rfl, rfl⟩
    · skip
      have ht2 : t < n := by
        rcases Nat.lt_or_ge t (n) with q | q
        · exact q
        · exact absurd (nI_le q (by omega)) h4
      have zT : gz (minutes rule t G).1 := sk_minutes.z hz
      refine z_aload_n C 0 dX1_passMinutes_7 rfl ?_
      refine z_callV0 C (c_X1_beginMinute l E _ _ (by first | assumption | omega) zT) ⟨(by first | assumption | omega), rfl⟩ rfl rfl q_X1_123 ⟨by decide, by decide⟩ (Nat.le_of_ble_eq_true rfl) dX1_passMinutes_8 (fun v F9 hp => ?_)
      obtain ⟨rfl, rfl⟩ := hp
      refine z_iconst C (v := 0) dX1_passMinutes_11 rfl ?_
      refine z_istore C dX1_passMinutes_12 (by decide) ?_
      refine z_pick [1, 2, 3, 4, 0] rfl ?_
      exact lp_X1_passMinutes_14 F G hg hz hw hn (ih (t + 1) (by omega) (by omega)) C0 (nC G.1 + 1) 0 (by omega) (by omega)
set_option maxRecDepth 100000 in
set_option maxHeartbeats 4000000 in
theorem c_X1_passMinutes (l : Launch) (E : zE) (F : zF) (G : zGf) {gi : Nat} (hg : gi < 4) (hz : gz G.1) (hw : wn G.1) {rule : Int32} {n : Nat} (hn : n < 1000) : XM l E yX1_passMinutes cX1_passMinutes 5 none 5 [.ref (xadr E.2.2.1 (3, gi, 0)), .int (rule), .int (nI n)] (sG F gi G) (fun v F2 => v = none ∧ F2 = sG F gi (minutes rule n G)) := by
  refine XM.mk kq_X1 (Nat.le_of_ble_eq_true rfl) (fun K s C0 => ?_)
  have C := C0.c
  obtain ⟨⟨eS, lS⟩, ⟨eC, lC⟩⟩ := id hz
  refine z_iconst C (v := 0) dX1_passMinutes_0 rfl ?_
  refine z_istore_n (i := 3) C dX1_passMinutes_1 rfl (by decide) ?_
  refine z_pick [1, 2, 3, 0] rfl ?_
  exact lp_X1_passMinutes_2 F G hg hz hw hn C0 (n + 1) 0 (by omega) (by omega)
theorem cg_X1_passMinutes (l : Launch) (E : zE) (F : zF) {gi : Nat} (hg : gi < 4) (hz : gz (F.1 gi).1) (hw : wn (F.1 gi).1) {rule : Int32} {n : Nat} (hn : n < 1000) : XM l E yX1_passMinutes cX1_passMinutes 5 none 5 [.ref (xadr E.2.2.1 (3, gi, 0)), .int rule, .int (nI n)] F (fun v F2 => v = none ∧ F2 = sG F gi (minutes rule n (F.1 gi))) := by
  have h := c_X1_passMinutes l E F (F.1 gi) hg hz hw (rule := rule) hn
  rw [sG_id] at h
  exact h
set_option maxRecDepth 100000 in
set_option maxHeartbeats 4000000 in
theorem c_X1_drawnDeed (l : Launch) (E : zE) (F : zF) (G : zGf) {gi : Nat} (hg : gi < 4) (hz : gz G.1) {c : Nat} (hc : c < nC G.1) (hn : 10 * G.1.2.2 c 0 < 2147483647) : XM l E yX1_drawnDeed cX1_drawnDeed 2 (some .int) 5 [.ref (xadr E.2.2.1 (3, gi, 0)), .int (nI c)] (sG F gi G) (fun v F2 => v = some (.int (drawD (drawG G).1 c)) ∧ F2 = sG F gi (drawG G)) := by
  refine XM.mk kq_X1 (Nat.le_of_ble_eq_true rfl) (fun K s C0 => ?_)
  have C := C0.c
  obtain ⟨⟨eS, lS⟩, ⟨eC, lC⟩⟩ := id hz
  have hc6 : c < 6 := Nat.lt_of_lt_of_le hc lC
  refine z_aload_n C 0 dX1_drawnDeed_0 rfl ?_
  refine z_aload_n C 0 dX1_drawnDeed_1 rfl ?_
  refine xg_3F (k := 7) C (by first | assumption | omega) (by decide) kf_X1_30 dX1_drawnDeed_2 ?_
  refine z_ldc C dX1_drawnDeed_5 q_X1_139 ?_
  refine z_imul C dX1_drawnDeed_7 ?_
  refine z_sipush C (v := 12345) dX1_drawnDeed_8 rfl ?_
  refine z_iadd C dX1_drawnDeed_11 ?_
  refine z_top (nextSeed (G.1.1 7)) rfl ?_
  refine xp_3F (k := 7) C (by first | assumption | omega) (by decide) kf_X1_30 dX1_drawnDeed_12 ?_
  have zD : gz (drawG G).1 := sk_drawG.z hz
  have cD : c < nC (drawG G).1 := by rw [sk_drawG.C]; exact hc
  have nD : 10 * (drawG G).1.2.2 c 0 < 2147483647 := hn
  refine z_eq (P2 := XP E (sG F gi (drawG G)) s) rfl rfl rfl rfl ?_
  refine z_aload_n C 0 dX1_drawnDeed_15 rfl ?_
  refine xg_3F (k := 7) C (by first | assumption | omega) (by decide) kf_X1_30 dX1_drawnDeed_16 ?_
  refine z_bipush C (v := 16) dX1_drawnDeed_19 rfl ?_
  refine z_iushr C dX1_drawnDeed_21 rfl ?_
  refine z_iconst C (v := 4) dX1_drawnDeed_22 rfl ?_
  refine z_irem C dX1_drawnDeed_23 (by decide) ?_
  refine z_top (draw4 ((drawG G).1.1 7)) rfl ?_
  refine z_case (0) (fun h24_0 => ?_) (fun h24_0 => ?_)
  · refine z_tabIn C (0) (28) 52 h24_0 dX1_drawnDeed_24 (by decide) (by decide) ?_
    refine z_aload_n C 0 dX1_drawnDeed_52 rfl ?_
    refine z_iconst C (v := 0) dX1_drawnDeed_53 rfl ?_
    refine z_iload_n C 1 dX1_drawnDeed_54 rfl ?_
    refine z_callV2 C (c_X1_deedBy l E _ _ (by first | assumption | omega) zD cD nD) ⟨(by first | assumption | omega), rfl⟩ rfl rfl q_X1_126 ⟨by decide, by decide⟩ (Nat.le_of_ble_eq_true rfl) dX1_drawnDeed_55 (fun v F9 hp => ?_)
    obtain ⟨rfl, rfl⟩ := hp
    refine z_iret C0 dX1_drawnDeed_58 ?_
    refine ⟨?_, rfl⟩
    simp only [drawD]
    rw [if_pos h24_0]
  refine z_case (1) (fun h24_1 => ?_) (fun h24_1 => ?_)
  · refine z_tabIn C (1) (35) 59 h24_1 dX1_drawnDeed_24 (by decide) (by decide) ?_
    refine z_aload_n C 0 dX1_drawnDeed_59 rfl ?_
    refine z_iload_n C 1 dX1_drawnDeed_60 rfl ?_
    refine z_iconst C (v := 1) dX1_drawnDeed_61 rfl ?_
    refine z_callV2 C (c_X1_can l E _ _ (by first | assumption | omega) zD cD _) ⟨(by first | assumption | omega), rfl⟩ rfl rfl q_X1_140 ⟨by decide, by decide⟩ (Nat.le_of_ble_eq_true rfl) dX1_drawnDeed_62 (fun v F9 hp => ?_)
    obtain ⟨rfl, rfl⟩ := hp
    refine z_if_eq C 72 dX1_drawnDeed_65 (by decide) (fun h65 => ?_) (fun h65 => ?_)
    · skip
      have h65 := bI_0 h65
      refine z_iconst C (v := 0) dX1_drawnDeed_72 rfl ?_
      refine z_iret C0 dX1_drawnDeed_73 ?_
      refine ⟨?_, rfl⟩
      simp only [drawD]
      rw [if_neg h24_0, if_pos h24_1, h65]
      rfl
    · skip
      have h65 := bI_1 h65
      refine z_iconst C (v := 1) dX1_drawnDeed_68 rfl ?_
      refine z_goto C 73 dX1_drawnDeed_69 (by decide) ?_
      refine z_iret C0 dX1_drawnDeed_73 ?_
      refine ⟨?_, rfl⟩
      simp only [drawD]
      rw [if_neg h24_0, if_pos h24_1, h65]
      rfl
  refine z_case (2) (fun h24_2 => ?_) (fun h24_2 => ?_)
  · refine z_tabIn C (2) (50) 74 h24_2 dX1_drawnDeed_24 (by decide) (by decide) ?_
    refine z_aload_n C 0 dX1_drawnDeed_74 rfl ?_
    refine z_iload_n C 1 dX1_drawnDeed_75 rfl ?_
    refine z_iconst C (v := 2) dX1_drawnDeed_76 rfl ?_
    refine z_callV2 C (c_X1_can l E _ _ (by first | assumption | omega) zD cD _) ⟨(by first | assumption | omega), rfl⟩ rfl rfl q_X1_140 ⟨by decide, by decide⟩ (Nat.le_of_ble_eq_true rfl) dX1_drawnDeed_77 (fun v F9 hp => ?_)
    obtain ⟨rfl, rfl⟩ := hp
    refine z_if_eq C 87 dX1_drawnDeed_80 (by decide) (fun h80 => ?_) (fun h80 => ?_)
    · skip
      have h80 := bI_0 h80
      refine z_iconst C (v := 0) dX1_drawnDeed_87 rfl ?_
      refine z_iret C0 dX1_drawnDeed_88 ?_
      refine ⟨?_, rfl⟩
      simp only [drawD]
      rw [if_neg h24_0, if_neg h24_1, if_pos h24_2, h80]
      rfl
    · skip
      have h80 := bI_1 h80
      refine z_iconst C (v := 2) dX1_drawnDeed_83 rfl ?_
      refine z_goto C 88 dX1_drawnDeed_84 (by decide) ?_
      refine z_iret C0 dX1_drawnDeed_88 ?_
      refine ⟨?_, rfl⟩
      simp only [drawD]
      rw [if_neg h24_0, if_neg h24_1, if_pos h24_2, h80]
      rfl
  refine z_tabOut C 89 (by have q0 := lv_neT (a := (0)) h24_0 rfl; have q1 := lv_neT (a := (1)) h24_1 rfl; have q2 := lv_neT (a := (2)) h24_2 rfl; omega) dX1_drawnDeed_24 (by decide) ?_
  refine z_aload_n C 0 dX1_drawnDeed_89 rfl ?_
  refine z_iconst C (v := 3) dX1_drawnDeed_90 rfl ?_
  refine z_iload_n C 1 dX1_drawnDeed_91 rfl ?_
  refine z_callV2 C (c_X1_deedBy l E _ _ (by first | assumption | omega) zD cD nD) ⟨(by first | assumption | omega), rfl⟩ rfl rfl q_X1_126 ⟨by decide, by decide⟩ (Nat.le_of_ble_eq_true rfl) dX1_drawnDeed_92 (fun v F9 hp => ?_)
  obtain ⟨rfl, rfl⟩ := hp
  refine z_iret C0 dX1_drawnDeed_95 ?_
  refine ⟨?_, rfl⟩
  simp only [drawD]
  rw [if_neg h24_0, if_neg h24_1, if_neg h24_2]
set_option maxRecDepth 100000 in
set_option maxHeartbeats 4000000 in
theorem lp_X1_passDrawn_13 {l : Launch} {E : zE} {K : zK} {s : State} (F : zF) (G : zGf) {gi : Nat} (hg : gi < 4) (hz : gz G.1) (hw : wn G.1) {n : Nat} (hn : n < 1000) {t : Nat} (hout : Z K (XP E (sG F gi (minsD (t + 1) G)) s) 2 [(0, .ref (xadr E.2.2.1 (3, gi, 0))), (1, .int (nI n)), (2, .int (nI (t + 1)))] []) (C0 : XR l E K cX1_passDrawnMinutes RX1 6 s 4 none (fun v F2 => v = none ∧ F2 = sG F gi (minsD n G))) : ∀ (n2 : Nat) (c : Nat), nC G.1 - c < n2 → c ≤ nC G.1 → Z K (XP E (sG F gi (kidsD c (begM (minsD t G)))) s) 13 [(0, .ref (xadr E.2.2.1 (3, gi, 0))), (1, .int (nI n)), (2, .int (nI t)), (3, .int (nI c))] [] := by
  have C := C0.c
  intro n2
  induction n2 with
  | zero => intro c hk hkl; exact absurd hk (Nat.not_lt_zero _)
  | succ n2 ih =>
    intro c hk hkl
    obtain ⟨⟨eS, lS⟩, ⟨eC, lC⟩⟩ := id hz
    have sI : sk G.1 (kidsD c (begM (minsD t G))).1 := (sk_minsD (n := t)).tr (sk_kidsD (G := begM (minsD t G)) (n := c))
    refine z_iload_n C 3 dX1_passDrawnMinutes_13 rfl ?_
    refine z_aload_n C 0 dX1_passDrawnMinutes_14 rfl ?_
    refine xg_3F (k := 1) C (by first | assumption | omega) (by decide) kf_X1_38 dX1_passDrawnMinutes_15 ?_
    rw [show (kidsD c (begM (minsD t G))).1.1 1 = nI (nC G.1) by rw [sI.2.1, eC]]
    refine z_icmp_ge C 37 dX1_passDrawnMinutes_18 (by decide) (fun h18 => ?_) (fun h18 => ?_)
    · skip
      have ec : c = nC G.1 := by
        rcases Nat.lt_or_ge c (nC G.1) with q | q
        · exact absurd h18 (nI_ge q (by omega))
        · omega
      have zI : gz (kidsD c (begM (minsD t G))).1 := sI.z hz
      refine z_aload_n C 0 dX1_passDrawnMinutes_37 rfl ?_
      refine z_callV0 C (c_X1_endMinute l E _ _ (by first | assumption | omega) zI) ⟨(by first | assumption | omega), rfl⟩ rfl rfl q_X1_132 ⟨by decide, by decide⟩ (Nat.le_of_ble_eq_true rfl) dX1_passDrawnMinutes_38 (fun v F9 hp => ?_)
      obtain ⟨rfl, rfl⟩ := hp
      refine z_iinc C (v := nI (t + 1)) 2 dX1_passDrawnMinutes_41 rfl (nI_1 _) (by decide) ?_
      refine z_goto C 2 dX1_passDrawnMinutes_44 (by decide) ?_
      refine z_pick [1, 2, 0] rfl ?_
      subst ec
      rw [show minsD (t + 1) G = endM (kidsD (nC G.1) (begM (minsD t G))) by simp only [minsD, minD]; rw [(sk_minsD (n := t)).C]] at hout
      exact hout
    · skip
      have hc2 : c < nC G.1 := by
        rcases Nat.lt_or_ge c (nC G.1) with q | q
        · exact q
        · exact absurd (nI_le q (by omega)) h18
      have hcI : c < nC (kidsD c (begM (minsD t G))).1 := by rw [sI.C]; exact hc2
      have zI : gz (kidsD c (begM (minsD t G))).1 := sI.z hz
      have wI : 10 * (kidsD c (begM (minsD t G))).1.2.2 c 0 < 2147483647 := sI.w hw c hcI
      have zJ : gz (drawG (kidsD c (begM (minsD t G)))).1 := sk_drawG.z zI
      have hcJ : c < nC (drawG (kidsD c (begM (minsD t G)))).1 := by rw [sk_drawG.C]; exact hcI
      refine z_aload_n C 0 dX1_passDrawnMinutes_21 rfl ?_
      refine z_iload_n C 3 dX1_passDrawnMinutes_22 rfl ?_
      refine z_aload_n C 0 dX1_passDrawnMinutes_23 rfl ?_
      refine z_iload_n C 3 dX1_passDrawnMinutes_24 rfl ?_
      refine z_callV1 C (c_X1_drawnDeed l E _ _ (by first | assumption | omega) zI hcI wI) ⟨(by first | assumption | omega), rfl⟩ rfl rfl q_X1_135 ⟨by decide, by decide⟩ (Nat.le_of_ble_eq_true rfl) dX1_passDrawnMinutes_25 (fun v F9 hp => ?_)
      obtain ⟨rfl, rfl⟩ := hp
      refine z_callV2 C (c_X1_perform l E _ _ (by first | assumption | omega) zJ hcJ drawD_dd) ⟨(by first | assumption | omega), rfl⟩ rfl rfl q_X1_129 ⟨by decide, by decide⟩ (Nat.le_of_ble_eq_true rfl) dX1_passDrawnMinutes_28 (fun v F9 hp => ?_)
      obtain ⟨rfl, rfl⟩ := hp
      refine z_iinc C (v := nI (c + 1)) 3 dX1_passDrawnMinutes_31 rfl (nI_1 _) (by decide) ?_
      refine z_goto C 13 dX1_passDrawnMinutes_34 (by decide) ?_
      refine z_pick [1, 2, 3, 0] rfl ?_
      exact ih (c + 1) (by omega) (by omega)
set_option maxRecDepth 100000 in
set_option maxHeartbeats 4000000 in
theorem lp_X1_passDrawn_2 {l : Launch} {E : zE} {K : zK} {s : State} (F : zF) (G : zGf) {gi : Nat} (hg : gi < 4) (hz : gz G.1) (hw : wn G.1) {n : Nat} (hn : n < 1000) (C0 : XR l E K cX1_passDrawnMinutes RX1 6 s 4 none (fun v F2 => v = none ∧ F2 = sG F gi (minsD n G))) : ∀ (n2 : Nat) (t : Nat), n - t < n2 → t ≤ n → Z K (XP E (sG F gi (minsD t G)) s) 2 [(0, .ref (xadr E.2.2.1 (3, gi, 0))), (1, .int (nI n)), (2, .int (nI t))] [] := by
  have C := C0.c
  intro n2
  induction n2 with
  | zero => intro t hk hkl; exact absurd hk (Nat.not_lt_zero _)
  | succ n2 ih =>
    intro t hk hkl
    obtain ⟨⟨eS, lS⟩, ⟨eC, lC⟩⟩ := id hz
    refine z_iload_n C 2 dX1_passDrawnMinutes_2 rfl ?_
    refine z_iload_n C 1 dX1_passDrawnMinutes_3 rfl ?_
    refine z_icmp_ge C 47 dX1_passDrawnMinutes_4 (by decide) (fun h4 => ?_) (fun h4 => ?_)
    · skip
      refine z_vret C0 dX1_passDrawnMinutes_47 ?_
      have e : t = n := by
        rcases Nat.lt_or_ge t (n) with q | q
        · exact absurd h4 (nI_ge q (by omega))
        · omega
      rw [e]
      exact ⟨rfl, rfl⟩
    · skip
      have ht2 : t < n := by
        rcases Nat.lt_or_ge t (n) with q | q
        · exact q
        · exact absurd (nI_le q (by omega)) h4
      have zT : gz (minsD t G).1 := sk_minsD.z hz
      refine z_aload_n C 0 dX1_passDrawnMinutes_7 rfl ?_
      refine z_callV0 C (c_X1_beginMinute l E _ _ (by first | assumption | omega) zT) ⟨(by first | assumption | omega), rfl⟩ rfl rfl q_X1_123 ⟨by decide, by decide⟩ (Nat.le_of_ble_eq_true rfl) dX1_passDrawnMinutes_8 (fun v F9 hp => ?_)
      obtain ⟨rfl, rfl⟩ := hp
      refine z_iconst C (v := 0) dX1_passDrawnMinutes_11 rfl ?_
      refine z_istore_n (i := 3) C dX1_passDrawnMinutes_12 rfl (by decide) ?_
      refine z_pick [1, 2, 3, 0] rfl ?_
      exact lp_X1_passDrawn_13 F G hg hz hw hn (ih (t + 1) (by omega) (by omega)) C0 (nC G.1 + 1) 0 (by omega) (by omega)
set_option maxRecDepth 100000 in
set_option maxHeartbeats 4000000 in
theorem c_X1_passDrawnMinutes (l : Launch) (E : zE) (F : zF) (G : zGf) {gi : Nat} (hg : gi < 4) (hz : gz G.1) (hw : wn G.1) {n : Nat} (hn : n < 1000) : XM l E yX1_passDrawnMinutes cX1_passDrawnMinutes 4 none 6 [.ref (xadr E.2.2.1 (3, gi, 0)), .int (nI n)] (sG F gi G) (fun v F2 => v = none ∧ F2 = sG F gi (minsD n G)) := by
  refine XM.mk kq_X1 (Nat.le_of_ble_eq_true rfl) (fun K s C0 => ?_)
  have C := C0.c
  obtain ⟨⟨eS, lS⟩, ⟨eC, lC⟩⟩ := id hz
  refine z_iconst C (v := 0) dX1_passDrawnMinutes_0 rfl ?_
  refine z_istore_n (i := 2) C dX1_passDrawnMinutes_1 rfl (by decide) ?_
  refine z_pick [1, 2, 0] rfl ?_
  exact lp_X1_passDrawn_2 F G hg hz hw hn C0 (n + 1) 0 (by omega) (by omega)
theorem cg_X1_passDrawnMinutes (l : Launch) (E : zE) (F : zF) {gi : Nat} (hg : gi < 4) (hz : gz (F.1 gi).1) (hw : wn (F.1 gi).1) {n : Nat} (hn : n < 1000) : XM l E yX1_passDrawnMinutes cX1_passDrawnMinutes 4 none 6 [.ref (xadr E.2.2.1 (3, gi, 0)), .int (nI n)] F (fun v F2 => v = none ∧ F2 = sG F gi (minsD n (F.1 gi))) := by
  have h := c_X1_passDrawnMinutes l E F (F.1 gi) hg hz hw hn
  rw [sG_id] at h
  exact h
