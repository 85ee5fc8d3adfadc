/-! the class: its calls, the next -/
theorem boredN_lt {g : zGc} : ∀ {n : Nat}, 1 ≤ n → boredN g n < n
  | n + 1, _ => by
    simp only [boredN]
    split
    · omega
    · rcases Nat.eq_zero_or_pos n with q | q
      · subst q; exact Nat.lt_succ_self 0
      · have := boredN_lt (g := g) q; omega
theorem boredN_1 {g : zGc} : boredN g 1 = 0 := if_neg Int32.lt_irrefl
theorem e_boredN {a b : zGc} (h : eqv a b) : ∀ {n : Nat}, 1 ≤ n → n ≤ nC b → boredN a n = boredN b n
  | n + 1, _, hn => by
    rcases Nat.eq_zero_or_pos n with q | q
    · subst q; rw [boredN_1, boredN_1]
    · have ih := e_boredN h (n := n) q (by omega)
      have hl := boredN_lt (g := b) q
      simp only [boredN, ih, h.2.2 n (by omega) 4 (by omega), h.2.2 (boredN b n) (by omega) 4 (by omega)]
theorem e_bankN {a b : zGc} (h : eqv a b) : ∀ {n : Nat}, n ≤ nC b → bankN a n = bankN b n
  | 0, _ => rfl
  | n + 1, hn => by simp only [bankN, e_bankN h (n := n) (by omega), h.2.2 n (by omega) 1 (by omega)]
theorem nightC_at {g : zGc} {z : Int32} {c k : Nat} : ∀ {n : Nat}, n ≤ c → (nightC n (g, z)).1.2.2 c k = g.2.2 c k
  | 0, _ => rfl
  | n + 1, h => by
    show (gCh (nightC n (g, z)).1 n 1 _).2.2 c k = _
    simp only [gCh, va_up_ne _ _ (show c ≠ n by omega)]
    exact nightC_at (n := n) (by omega)
theorem e_nightC {a b : zGc} (h : eqv a b) {z : Int32} : ∀ {n : Nat}, n ≤ nC b → eqv (nightC n (a, z)).1 (nightC n (b, z)).1 ∧ (nightC n (a, z)).2 = (nightC n (b, z)).2
  | 0, _ => ⟨h, rfl⟩
  | n + 1, hn => by
    obtain ⟨h1, h2⟩ := e_nightC h (z := z) (n := n) (by omega)
    have e : (nightC n (a, z)).1.2.2 n 1 = (nightC n (b, z)).1.2.2 n 1 := by rw [nightC_at (Nat.le_refl n), nightC_at (Nat.le_refl n)]; exact h.2.2 n (by omega) 1 (by omega)
    refine ⟨?_, ?_⟩
    · show eqv (gCh _ _ _ _) (gCh _ _ _ _)
      rw [e]
      exact e_ch h1
    · show (nightC n (a, z)).2 + _ = (nightC n (b, z)).2 + _
      rw [h2, e]
theorem e_nightL {a b : zGc} (h : eqv a b) : nightL a = nightL b := by
  unfold nightL; rw [h.C]; exact (e_nightC h (Nat.le_refl _)).2
theorem e_nightS {a b : zGc} (h : eqv a b) : ∀ {n : Nat}, eqv (nightS n a) (nightS n b)
  | 0 => h
  | n + 1 => e_sh (e_sh (e_nightS h (n := n)))
theorem e_nightG {a b : zGc} (h : eqv a b) : eqv (nightG a) (nightG b) := by
  unfold nightG; rw [h.C, h.S]
  exact e_sc (e_nightS (e_nightC h (Nat.le_refl _)).1) (by decide) (by decide)
def pickN (g : zGc) (c : Nat) : Nat → zGc
  | 0 => g
  | t + 1 => makes (pickN g c t) c 1
theorem sk_pick {g : zGc} {c : Nat} : ∀ {t : Nat}, sk g (pickN g c t)
  | 0 => sk.rf _
  | t + 1 => (sk_pick (t := t)).tr sk_makes
def trN (g : zGc) (c : Nat) (a : Int32) : Nat → Option Nat
  | 0 => none
  | t + 1 => match trN g c a t with
    | some q => some q
    | none => if a ≤ (pickN g c t).2.2 c 1 then some t else none
theorem trN_up {g : zGc} {c t q : Nat} {a : Int32} (h : trN g c a t = some q) : ∀ {m : Nat}, t ≤ m → trN g c a m = some q := by
  intro m
  induction m with
  | zero => intro hm; have : t = 0 := by omega
            subst this; cases h
  | succ m ih =>
    intro hm
    rcases Nat.lt_or_ge m t with z | z
    · have : t = m + 1 := by omega
      rw [← this]; exact h
    · simp only [trN, ih z]
theorem heapN_s {rule v : Int32} {g : zGc} {t : Nat} (h : heapN rule v g t = none) : heapN rule v g (t + 1) = if v ≤ (run rule t g).1 3 then some t else none := by simp only [heapN, h]
theorem heapN_up {rule v : Int32} {g : zGc} {t q : Nat} (h : heapN rule v g t = some q) : ∀ {m : Nat}, t ≤ m → heapN rule v g m = some q := by
  intro m
  induction m with
  | zero => intro hm; have : t = 0 := by omega
            subst this; cases h
  | succ m ih =>
    intro hm
    rcases Nat.lt_or_ge m t with z | z
    · have : t = m + 1 := by omega
      rw [← this]; exact h
    · simp only [heapN, ih z]
set_option maxRecDepth 100000 in
set_option maxHeartbeats 4000000 in
theorem lp_X6_bored {l : Launch} {E : zE} {K : zK} {s : State} (F : zF) (hI : XI F) (rule n : Int32) {nn : Nat} (en : n = nI nn) (hnn : nn ≤ 240) (hk0 : kBored (F.1 0).1 rule n = 0) (T : zGf) (hT : eqv T.1 (run rule nn (F.1 0).1)) (hzT : gz T.1) (eTC : nC T.1 = nC (F.1 0).1) (C0 : XR l E K cX6_bored RX6 7 s 5 (some .int) (xpo F (kBored (F.1 0).1 rule n) (nI (boredN (run rule n.toNatClampNeg (F.1 0).1) (nC (F.1 0).1))) (thO F))) : ∀ (n2 : Nat) (c : Nat), (nC (F.1 0).1 - c < n2) → (c ≤ nC (F.1 0).1) → (1 ≤ c) → Z K (XP E (sG F 1 T) s) 50 [(0, .ref (xadr E.2.2.1 (0, 0, 0))), (3, .int (nI (boredN T.1 c))), (4, .int (nI c))] [] := by
  have C := C0.c
  intro n2
  induction n2 with
  | zero => intro c hk hkl h1; exact absurd hk (Nat.not_lt_zero _)
  | succ n2 ih =>
    intro c hk hkl h1
    obtain ⟨hz, hw, hsh⟩ := id hI
    obtain ⟨⟨eS, lS⟩, ⟨eC, lC⟩⟩ := id hz
    refine z_iload C 2 dX6_bored_50 rfl ?_
    refine z_aload_n C 0 dX6_bored_52 rfl ?_
    refine xg_0_3 C kf_X6_26 dX6_bored_53 ?_
    refine xg_3 (k := 1) C (by decide) (by decide) kf_X6_123 dX6_bored_56 ?_
    rw [show ((sG F 1 T).1 1).1.1 1 = nI (nC (F.1 0).1) by rw [← eTC]; exact hzT.2.1]
    refine z_icmp_ge C 99 dX6_bored_59 (by decide) (fun h59 => ?_) (fun h59 => ?_)
    · skip
      refine z_iload_n C 1 dX6_bored_99 rfl ?_
      refine z_iret C0 dX6_bored_100 ?_
      have e : c = nC (F.1 0).1 := by
        rcases Nat.lt_or_ge c (nC (F.1 0).1) with q | q
        · exact absurd h59 (nI_ge q (by omega))
        · omega
      subst e en
      exact xpo.ok hk0 (by rw [nI_clamp (by omega), e_boredN hT h1 (by rw [sk_run.C]; exact Nat.le_refl _)]) ⟨T, rfl⟩
    · skip
      have hc : c < nC (F.1 0).1 := by
        rcases Nat.lt_or_ge c (nC (F.1 0).1) with q | q
        · exact q
        · exact absurd (nI_le q (by omega)) h59
      have hc6 : c < 6 := by omega
      have hb6 : boredN T.1 c < 6 := Nat.lt_trans (boredN_lt h1) hc6
      refine z_aload_n C 0 dX6_bored_62 rfl ?_
      refine xg_0_3 C kf_X6_26 dX6_bored_63 ?_
      refine xg_3c C (by decide) kf_X6_152 dX6_bored_66 ?_
      refine z_iload C 2 dX6_bored_69 rfl ?_
      refine xa_5 C (by decide) c rfl (by first | assumption | omega) dX6_bored_71 ?_
      refine xg_7 (k := 4) C (by decide) (by first | assumption | omega) (by decide) kf_X6_170 dX6_bored_72 ?_
      refine z_aload_n C 0 dX6_bored_75 rfl ?_
      refine xg_0_3 C kf_X6_26 dX6_bored_76 ?_
      refine xg_3c C (by decide) kf_X6_152 dX6_bored_79 ?_
      refine z_iload_n C 1 dX6_bored_82 rfl ?_
      refine xa_5 C (by decide) (boredN T.1 c) rfl (by first | assumption | omega) dX6_bored_83 ?_
      refine xg_7 (k := 4) C (by decide) (by first | assumption | omega) (by decide) kf_X6_170 dX6_bored_84 ?_
      refine z_icmp_ge C 93 dX6_bored_87 (by decide) (fun h87 => ?_) (fun h87 => ?_)
      · skip
        refine z_iinc C (v := nI (c + 1)) 2 dX6_bored_93 rfl (nI_1 _) (by decide) ?_
        refine z_goto C 50 dX6_bored_96 (by decide) ?_
        refine z_pick [1, 2, 0] rfl ?_
        have q := ih (c + 1) (by omega) (by omega) (by omega)
        simp only [boredN] at q
        rw [if_neg (show ¬ T.1.2.2 c 4 < T.1.2.2 (boredN T.1 c) 4 from Int32.not_lt.mpr h87)] at q
        exact q
      · skip
        refine z_iload C 2 dX6_bored_90 rfl ?_
        refine z_istore_n (i := 3) C dX6_bored_92 rfl (by decide) ?_
        refine z_iinc C (v := nI (c + 1)) 2 dX6_bored_93 rfl (nI_1 _) (by decide) ?_
        refine z_goto C 50 dX6_bored_96 (by decide) ?_
        refine z_pick [2, 1, 0] rfl ?_
        have q := ih (c + 1) (by omega) (by omega) (by omega)
        simp only [boredN] at q
        rw [if_pos (show T.1.2.2 c 4 < T.1.2.2 (boredN T.1 c) 4 from Int32.not_le.mp h87)] at q
        exact q
set_option maxRecDepth 100000 in
set_option maxHeartbeats 4000000 in
theorem c_X6_bored (l : Launch) (E : zE) (F : zF) (hI : XI F) (rule n : Int32) : XM l E yX6_bored cX6_bored 5 (some .int) 7 [.ref (xadr E.2.2.1 (0, 0, 0)), .int (rule), .int (n)] (F) (xpo F (kBored (F.1 0).1 rule n) (nI (boredN (run rule n.toNatClampNeg (F.1 0).1) (nC (F.1 0).1))) (thO F)) := by
  refine XM.mk kq_X6 (Nat.le_of_ble_eq_true rfl) (fun K s C0 => ?_)
  have C := C0.c
  obtain ⟨hz, hw, hsh⟩ := id hI
  obtain ⟨⟨eS, lS⟩, ⟨eC, lC⟩⟩ := id hz
  refine z_aload_n C 0 dX6_bored_0 rfl ?_
  refine xg_0_2 C kf_X6_22 dX6_bored_1 ?_
  refine xg_3 (k := 1) C (by decide) (by decide) kf_X6_123 dX6_bored_4 ?_
  refine z_if_ne C 17 dX6_bored_7 (by decide) (fun h7 => ?_) (fun h7 => ?_)
  · skip
    have h0 : 0 < nC (F.1 0).1 := by
      rcases Nat.eq_zero_or_pos (nC (F.1 0).1) with q | q
      · exact absurd (eC.trans (by rw [q]; rfl)) h7
      · exact q
    refine z_iload_n C 1 dX6_bored_17 rfl ?_
    refine z_callS1 C (c_X6_isRule l E _ _) q_X6_199 ⟨by decide, by decide⟩ (Nat.le_of_ble_eq_true rfl) dX6_bored_18 (fun v F9 hp => ?_)
    obtain ⟨rfl, e9⟩ := hp
    rw [e9]
    clear e9 F9
    refine z_if_eq C 31 dX6_bored_21 (by decide) (fun h21 => ?_) (fun h21 => ?_)
    · skip
      have h21 := bI_0 h21
      refine z_aload_n C 0 dX6_bored_31 rfl ?_
      refine z_bipush C (v := (-6)) dX6_bored_32 rfl ?_
      refine z_callV1 C (c_X6_refuse l E _ _) ⟨by decide, rfl, rfl⟩ rfl rfl q_X6_51 ⟨by decide, by decide⟩ (Nat.le_of_ble_eq_true rfl) dX6_bored_34 (fun v F9 hp => ?_)
      obtain ⟨rfl, e9⟩ := hp
      rw [e9]
      clear e9 F9
      refine z_iret C0 dX6_bored_37 ?_
      exact xpo.ref (by simp [kBored, okRN, h7, h21]) (by decide)
    · skip
      have h21 := bI_1 h21
      refine z_iload_n C 2 dX6_bored_24 rfl ?_
      refine z_callS1 C (c_X6_isTime l E _ _) q_X6_202 ⟨by decide, by decide⟩ (Nat.le_of_ble_eq_true rfl) dX6_bored_25 (fun v F9 hp => ?_)
      obtain ⟨rfl, e9⟩ := hp
      rw [e9]
      clear e9 F9
      refine z_if_ne C 38 dX6_bored_28 (by decide) (fun h28 => ?_) (fun h28 => ?_)
      · skip
        have h28 := bI_1 h28
        obtain ⟨nn, hnn, rfl⟩ := inT_of (n := 240) h28 (by omega)
        refine z_aload_n C 0 dX6_bored_38 rfl ?_
        refine z_iload_n C 1 dX6_bored_39 rfl ?_
        refine z_iload_n C 2 dX6_bored_40 rfl ?_
        refine z_callV2 C (c_X6_foresee l E _ hI _ (by first | assumption | omega)) ⟨by decide, rfl, rfl⟩ rfl rfl q_X6_205 ⟨by decide, by decide⟩ (Nat.le_of_ble_eq_true rfl) dX6_bored_41 (fun v F9 hp => ?_)
        obtain ⟨T, e9, hT, rfl⟩ := hp
        rw [e9]
        clear e9 F9
        have hzT : gz T.1 := (hT.tr (eqv.rf _)).z (sk_run.z hz)
        have eTS : nS T.1 = nS (F.1 0).1 := hT.S.trans sk_run.S
        have eTC : nC T.1 = nC (F.1 0).1 := hT.C.trans sk_run.C
        refine z_pop C dX6_bored_44 rfl ?_
        refine z_iconst C (v := 0) dX6_bored_45 rfl ?_
        refine z_istore_n (i := 3) C dX6_bored_46 rfl (by decide) ?_
        refine z_iconst C (v := 1) dX6_bored_47 rfl ?_
        refine z_istore C dX6_bored_48 (by decide) ?_
        refine z_pick [2, 1, 0] rfl ?_
        have hk0 : kBored (F.1 0).1 rule (nI nn) = 0 := by simp [kBored, okRN, h7, h21, h28]
        have q := lp_X6_bored F hI rule (nI nn) rfl hnn hk0 T hT hzT eTC C0 (nC (F.1 0).1 + 1) 1 (by omega) (by omega) (by omega)
        rw [boredN_1] at q
        exact q
      · skip
        have h28 := bI_0 h28
        refine z_aload_n C 0 dX6_bored_31 rfl ?_
        refine z_bipush C (v := (-6)) dX6_bored_32 rfl ?_
        refine z_callV1 C (c_X6_refuse l E _ _) ⟨by decide, rfl, rfl⟩ rfl rfl q_X6_51 ⟨by decide, by decide⟩ (Nat.le_of_ble_eq_true rfl) dX6_bored_34 (fun v F9 hp => ?_)
        obtain ⟨rfl, e9⟩ := hp
        rw [e9]
        clear e9 F9
        refine z_iret C0 dX6_bored_37 ?_
        exact xpo.ref (by simp [kBored, okRN, h7, h21, h28]) (by decide)
  · skip
    refine z_aload_n C 0 dX6_bored_10 rfl ?_
    refine z_bipush C (v := (-5)) dX6_bored_11 rfl ?_
    refine z_callV1 C (c_X6_refuse l E _ _) ⟨by decide, rfl, rfl⟩ rfl rfl q_X6_51 ⟨by decide, by decide⟩ (Nat.le_of_ble_eq_true rfl) dX6_bored_13 (fun v F9 hp => ?_)
    obtain ⟨rfl, e9⟩ := hp
    rw [e9]
    clear e9 F9
    refine z_iret C0 dX6_bored_16 ?_
    exact xpo.ref (by simp [kBored, h7]) (by decide)
set_option maxRecDepth 100000 in
set_option maxHeartbeats 4000000 in
theorem lp_X6_bank {l : Launch} {E : zE} {K : zK} {s : State} (F : zF) (hI : XI F) (n : Int32) {nn : Nat} (en : n = nI nn) (hnn : nn ≤ 240) (h4 : inT n 240 = true) (T : zGf) (hT : eqv T.1 (run 0 nn (F.1 0).1)) (hzT : gz T.1) (eTC : nC T.1 = nC (F.1 0).1) (C0 : XR l E K cX6_bank RX6 7 s 4 (some .int) (xpo F (kTime n) (bankN (run 0 n.toNatClampNeg (F.1 0).1) (nC (F.1 0).1)) (thO F))) : ∀ (n2 : Nat) (c : Nat), (nC (F.1 0).1 - c < n2) → (c ≤ nC (F.1 0).1) → Z K (XP E (sG F 1 T) s) 25 [(0, .ref (xadr E.2.2.1 (0, 0, 0))), (2, .int (bankN T.1 c)), (3, .int (nI c))] [] := by
  have C := C0.c
  intro n2
  induction n2 with
  | zero => intro c hk hkl; exact absurd hk (Nat.not_lt_zero _)
  | succ n2 ih =>
    intro c hk hkl
    obtain ⟨hz, hw, hsh⟩ := id hI
    obtain ⟨⟨eS, lS⟩, ⟨eC, lC⟩⟩ := id hz
    refine z_iload_n C 2 dX6_bank_25 rfl ?_
    refine z_aload_n C 0 dX6_bank_26 rfl ?_
    refine xg_0_3 C kf_X6_26 dX6_bank_27 ?_
    refine xg_3 (k := 1) C (by decide) (by decide) kf_X6_123 dX6_bank_30 ?_
    rw [show ((sG F 1 T).1 1).1.1 1 = nI (nC (F.1 0).1) by rw [← eTC]; exact hzT.2.1]
    refine z_icmp_ge C 59 dX6_bank_33 (by decide) (fun h33 => ?_) (fun h33 => ?_)
    · skip
      refine z_iload_n C 1 dX6_bank_59 rfl ?_
      refine z_iret C0 dX6_bank_60 ?_
      have e : c = nC (F.1 0).1 := by
        rcases Nat.lt_or_ge c (nC (F.1 0).1) with q | q
        · exact absurd h33 (nI_ge q (by omega))
        · omega
      subst e en
      exact xpo.ok (by simp [kTime, h4]) (by rw [nI_clamp (by omega), e_bankN hT (by rw [sk_run.C]; exact Nat.le_refl _)]) ⟨T, rfl⟩
    · skip
      have hc : c < nC (F.1 0).1 := by
        rcases Nat.lt_or_ge c (nC (F.1 0).1) with q | q
        · exact q
        · exact absurd (nI_le q (by omega)) h33
      have hc6 : c < 6 := by omega
      refine z_iload_n C 1 dX6_bank_36 rfl ?_
      refine z_aload_n C 0 dX6_bank_37 rfl ?_
      refine xg_0_3 C kf_X6_26 dX6_bank_38 ?_
      refine xg_3c C (by decide) kf_X6_152 dX6_bank_41 ?_
      refine z_iload_n C 2 dX6_bank_44 rfl ?_
      refine xa_5 C (by decide) c rfl (by first | assumption | omega) dX6_bank_45 ?_
      refine xg_7 (k := 1) C (by decide) (by first | assumption | omega) (by decide) kf_X6_161 dX6_bank_46 ?_
      refine z_mmax C dX6_bank_49 q_X6_237 ⟨by decide, Nat.le_of_ble_eq_true rfl⟩ ?_
      refine z_istore_n (i := 2) C dX6_bank_52 rfl (by decide) ?_
      refine z_iinc C (v := nI (c + 1)) 2 dX6_bank_53 rfl (nI_1 _) (by decide) ?_
      refine z_goto C 25 dX6_bank_56 (by decide) ?_
      refine z_pick [2, 1, 0] rfl ?_
      exact ih (c + 1) (by omega) (by omega)
set_option maxRecDepth 100000 in
set_option maxHeartbeats 4000000 in
theorem c_X6_bank (l : Launch) (E : zE) (F : zF) (hI : XI F) (n : Int32) : XM l E yX6_bank cX6_bank 4 (some .int) 7 [.ref (xadr E.2.2.1 (0, 0, 0)), .int (n)] (F) (xpo F (kTime n) (bankN (run 0 n.toNatClampNeg (F.1 0).1) (nC (F.1 0).1)) (thO F)) := by
  refine XM.mk kq_X6 (Nat.le_of_ble_eq_true rfl) (fun K s C0 => ?_)
  have C := C0.c
  obtain ⟨hz, hw, hsh⟩ := id hI
  obtain ⟨⟨eS, lS⟩, ⟨eC, lC⟩⟩ := id hz
  refine z_iload_n C 1 dX6_bank_0 rfl ?_
  refine z_callS1 C (c_X6_isTime l E _ _) q_X6_202 ⟨by decide, by decide⟩ (Nat.le_of_ble_eq_true rfl) dX6_bank_1 (fun v F9 hp => ?_)
  obtain ⟨rfl, e9⟩ := hp
  rw [e9]
  clear e9 F9
  refine z_if_ne C 14 dX6_bank_4 (by decide) (fun h4 => ?_) (fun h4 => ?_)
  · skip
    have h4 := bI_1 h4
    obtain ⟨nn, hnn, rfl⟩ := inT_of (n := 240) h4 (by omega)
    refine z_aload_n C 0 dX6_bank_14 rfl ?_
    refine z_iconst C (v := 0) dX6_bank_15 rfl ?_
    refine z_iload_n C 1 dX6_bank_16 rfl ?_
    refine z_callV2 C (c_X6_foresee l E _ hI _ (by first | assumption | omega)) ⟨by decide, rfl, rfl⟩ rfl rfl q_X6_205 ⟨by decide, by decide⟩ (Nat.le_of_ble_eq_true rfl) dX6_bank_17 (fun v F9 hp => ?_)
    obtain ⟨T, e9, hT, rfl⟩ := hp
    rw [e9]
    clear e9 F9
    have hzT : gz T.1 := (hT.tr (eqv.rf _)).z (sk_run.z hz)
    have eTS : nS T.1 = nS (F.1 0).1 := hT.S.trans sk_run.S
    have eTC : nC T.1 = nC (F.1 0).1 := hT.C.trans sk_run.C
    refine z_pop C dX6_bank_20 rfl ?_
    refine z_iconst C (v := 0) dX6_bank_21 rfl ?_
    refine z_istore_n (i := 2) C dX6_bank_22 rfl (by decide) ?_
    refine z_iconst C (v := 0) dX6_bank_23 rfl ?_
    refine z_istore_n (i := 3) C dX6_bank_24 rfl (by decide) ?_
    refine z_pick [2, 1, 0] rfl ?_
    exact lp_X6_bank F hI (nI nn) rfl hnn h4 T hT hzT eTC C0 (nC (F.1 0).1 + 1) 0 (by omega) (by omega)
  · skip
    have h4 := bI_0 h4
    refine z_aload_n C 0 dX6_bank_7 rfl ?_
    refine z_bipush C (v := (-6)) dX6_bank_8 rfl ?_
    refine z_callV1 C (c_X6_refuse l E _ _) ⟨by decide, rfl, rfl⟩ rfl rfl q_X6_51 ⟨by decide, by decide⟩ (Nat.le_of_ble_eq_true rfl) dX6_bank_10 (fun v F9 hp => ?_)
    obtain ⟨rfl, e9⟩ := hp
    rw [e9]
    clear e9 F9
    refine z_iret C0 dX6_bank_13 ?_
    exact xpo.ref (by simp [kTime, h4]) (by decide)
set_option maxRecDepth 100000 in
set_option maxHeartbeats 4000000 in
theorem c_X6_rot (l : Launch) (E : zE) (F : zF) (hI : XI F) (rule n : Int32) : XM l E yX6_rot cX6_rot 3 (some .int) 7 [.ref (xadr E.2.2.1 (0, 0, 0)), .int (rule), .int (n)] (F) (xpo F (kRN rule n) (nightL (run rule n.toNatClampNeg (F.1 0).1)) (thO F)) := by
  refine XM.mk kq_X6 (Nat.le_of_ble_eq_true rfl) (fun K s C0 => ?_)
  have C := C0.c
  obtain ⟨hz, hw, hsh⟩ := id hI
  obtain ⟨⟨eS, lS⟩, ⟨eC, lC⟩⟩ := id hz
  refine z_iload_n C 1 dX6_rot_0 rfl ?_
  refine z_callS1 C (c_X6_isRule l E _ _) q_X6_199 ⟨by decide, by decide⟩ (Nat.le_of_ble_eq_true rfl) dX6_rot_1 (fun v F9 hp => ?_)
  obtain ⟨rfl, e9⟩ := hp
  rw [e9]
  clear e9 F9
  refine z_if_eq C 14 dX6_rot_4 (by decide) (fun h4 => ?_) (fun h4 => ?_)
  · skip
    have h4 := bI_0 h4
    refine z_aload_n C 0 dX6_rot_14 rfl ?_
    refine z_bipush C (v := (-6)) dX6_rot_15 rfl ?_
    refine z_callV1 C (c_X6_refuse l E _ _) ⟨by decide, rfl, rfl⟩ rfl rfl q_X6_51 ⟨by decide, by decide⟩ (Nat.le_of_ble_eq_true rfl) dX6_rot_17 (fun v F9 hp => ?_)
    obtain ⟨rfl, e9⟩ := hp
    rw [e9]
    clear e9 F9
    refine z_iret C0 dX6_rot_20 ?_
    exact xpo.ref (by simp [kRN, okRN, h4]) (by decide)
  · skip
    have h4 := bI_1 h4
    refine z_iload_n C 2 dX6_rot_7 rfl ?_
    refine z_callS1 C (c_X6_isTime l E _ _) q_X6_202 ⟨by decide, by decide⟩ (Nat.le_of_ble_eq_true rfl) dX6_rot_8 (fun v F9 hp => ?_)
    obtain ⟨rfl, e9⟩ := hp
    rw [e9]
    clear e9 F9
    refine z_if_ne C 21 dX6_rot_11 (by decide) (fun h11 => ?_) (fun h11 => ?_)
    · skip
      have h11 := bI_1 h11
      obtain ⟨nn, hnn, rfl⟩ := inT_of (n := 240) h11 (by omega)
      refine z_aload_n C 0 dX6_rot_21 rfl ?_
      refine z_iload_n C 1 dX6_rot_22 rfl ?_
      refine z_iload_n C 2 dX6_rot_23 rfl ?_
      refine z_callV2 C (c_X6_foresee l E _ hI _ (by first | assumption | omega)) ⟨by decide, rfl, rfl⟩ rfl rfl q_X6_205 ⟨by decide, by decide⟩ (Nat.le_of_ble_eq_true rfl) dX6_rot_24 (fun v F9 hp => ?_)
      obtain ⟨T, e9, hT, rfl⟩ := hp
      rw [e9]
      clear e9 F9
      have hzT : gz T.1 := (hT.tr (eqv.rf _)).z (sk_run.z hz)
      have eTS : nS T.1 = nS (F.1 0).1 := hT.S.trans sk_run.S
      have eTC : nC T.1 = nC (F.1 0).1 := hT.C.trans sk_run.C
      refine z_pop C dX6_rot_27 rfl ?_
      refine z_aload_n C 0 dX6_rot_28 rfl ?_
      refine xg_0_3 C kf_X6_26 dX6_rot_29 ?_
      refine z_callV0 C (cg_X1_passNight l E _ (gi := 1) (by decide) hzT) ⟨(by decide), rfl⟩ rfl rfl q_X6_242 ⟨by decide, by decide⟩ (Nat.le_of_ble_eq_true rfl) dX6_rot_32 (fun v F9 hp => ?_)
      obtain ⟨rfl, e9⟩ := hp
      rw [e9, sG_sG]
      clear e9 F9
      refine z_iret C0 dX6_rot_35 ?_
      exact xpo.ok (by simp [kRN, okRN, h4, h11]) (by rw [nI_clamp (by omega)]; exact e_nightL hT) ⟨_, rfl⟩
    · skip
      have h11 := bI_0 h11
      refine z_aload_n C 0 dX6_rot_14 rfl ?_
      refine z_bipush C (v := (-6)) dX6_rot_15 rfl ?_
      refine z_callV1 C (c_X6_refuse l E _ _) ⟨by decide, rfl, rfl⟩ rfl rfl q_X6_51 ⟨by decide, by decide⟩ (Nat.le_of_ble_eq_true rfl) dX6_rot_17 (fun v F9 hp => ?_)
      obtain ⟨rfl, e9⟩ := hp
      rw [e9]
      clear e9 F9
      refine z_iret C0 dX6_rot_20 ?_
      exact xpo.ref (by simp [kRN, okRN, h4, h11]) (by decide)
set_option maxRecDepth 100000 in
set_option maxHeartbeats 4000000 in
theorem lp_X6_trust {l : Launch} {E : zE} {K : zK} {s : State} (F : zF) (hI : XI F) (a p : Int32) {c j : Nat} (ea : a = nI c) (ep : p = nI j) (hc : c < nC (F.1 0).1) (hj : j < nS (F.1 0).1) (hk0 : kTrust (F.1 0).1 a p = 0) (C0 : XR l E K cX6_trust RX6 7 s 5 (some .int) (xpo F (kTrust (F.1 0).1 a p) (oI (trN (F.1 0).1 a.toNatClampNeg (askS (F.1 0).1 p.toNatClampNeg) 241)) (thO F))) : ∀ (n2 : Nat) (t : Nat) (X : zGf), (241 - t < n2) → (t ≤ 241) → (eqv X.1 (pickN (F.1 0).1 c t)) → (trN (F.1 0).1 c (askS (F.1 0).1 j) t = none) → Z K (XP E (sG F 1 X) s) 50 [(0, .ref (xadr E.2.2.1 (0, 0, 0))), (1, .int (nI c)), (3, .int (askS (F.1 0).1 j)), (4, .int (nI t))] [] := by
  have C := C0.c
  intro n2
  induction n2 with
  | zero => intro t X hk hkl hX hN; exact absurd hk (Nat.not_lt_zero _)
  | succ n2 ih =>
    intro t X hk hkl hX hN
    obtain ⟨hz, hw, hsh⟩ := id hI
    obtain ⟨⟨eS, lS⟩, ⟨eC, lC⟩⟩ := id hz
    have hc6 : c < 6 := by omega
    have eL : X.1.2.2 c 1 = (pickN (F.1 0).1 c t).2.2 c 1 := hX.2.2 c (by rw [sk_pick.C]; exact hc) 1 (by omega)
    refine z_iload C 3 dX6_trust_50 rfl ?_
    refine z_sipush C (v := 240) dX6_trust_52 rfl ?_
    refine z_icmp_gt C 92 dX6_trust_55 (by decide) (fun h55 => ?_) (fun h55 => ?_)
    · skip
      refine z_iconst C (v := (-1)) dX6_trust_92 rfl ?_
      refine z_iret C0 dX6_trust_93 ?_
      have e : t = 241 := by
        rcases Nat.lt_or_ge t 241 with q | q
        · exact absurd ((nI_ltI (a := 240) (b := t) (by omega) (by omega)).mp h55) (by omega)
        · omega
      subst e ea ep
      exact xpo.ok hk0 (by rw [nI_clamp (by omega), nI_clamp (by omega), hN]; rfl) ⟨X, rfl⟩
    · skip
      have ht2 : t < 241 := by
        rcases Nat.lt_or_ge t 241 with q | q
        · exact q
        · exact absurd ((nI_ltI (a := 240) (b := t) (by omega) (by omega)).mpr (by omega)) h55
      refine z_aload_n C 0 dX6_trust_58 rfl ?_
      refine xg_0_3 C kf_X6_26 dX6_trust_59 ?_
      refine xg_3c C (by decide) kf_X6_152 dX6_trust_62 ?_
      refine z_iload_n C 1 dX6_trust_65 rfl ?_
      refine xa_5 C (by decide) c rfl (by first | assumption | omega) dX6_trust_66 ?_
      refine xg_7 (k := 1) C (by decide) (by first | assumption | omega) (by decide) kf_X6_161 dX6_trust_67 ?_
      refine z_iload_n C 2 dX6_trust_70 rfl ?_
      refine z_icmp_lt C 77 dX6_trust_71 (by decide) (fun h71 => ?_) (fun h71 => ?_)
      · skip
        have zX : gz X.1 := hX.z (sk_pick.z hz)
        have cX : c < nC X.1 := by rw [hX.C, sk_pick.C]; exact hc
        refine z_aload_n C 0 dX6_trust_77 rfl ?_
        refine xg_0_3 C kf_X6_26 dX6_trust_78 ?_
        refine z_iload_n C 1 dX6_trust_81 rfl ?_
        refine z_iconst C (v := 1) dX6_trust_82 rfl ?_
        refine z_callV2 C (cg_X1_perform l E (sG F 1 X) (gi := 1) (by decide) zX cX (d := 1) (Or.inr (Or.inl rfl))) ⟨(by decide), rfl⟩ rfl rfl q_X6_245 ⟨by decide, by decide⟩ (Nat.le_of_ble_eq_true rfl) dX6_trust_83 (fun v F9 hp => ?_)
        obtain ⟨rfl, e9⟩ := hp
        rw [e9]
        clear e9 F9
        refine z_iinc C (v := nI (t + 1)) 3 dX6_trust_86 rfl (nI_1 _) (by decide) ?_
        refine z_goto C 50 dX6_trust_89 (by decide) ?_
        refine z_pick [1, 2, 3, 0] rfl ?_
        rw [sG_sG]
        refine ih (t + 1) (perf X c 1) (by omega) (by omega) (e_makes hX (sk_pick.z hz) (by rw [sk_pick.C]; exact hc) (Or.inr (Or.inl rfl))) ?_
        simp only [trN, hN]
        rw [if_neg (by rw [← eL]; exact Int32.not_le.mpr h71)]
      · skip
        refine z_iload C 3 dX6_trust_74 rfl ?_
        refine z_iret C0 dX6_trust_76 ?_
        have e : trN (F.1 0).1 c (askS (F.1 0).1 j) (t + 1) = some t := by
          simp only [trN, hN]
          rw [if_pos (by rw [← eL]; exact Int32.not_lt.mp h71)]
        subst ea ep
        exact xpo.ok hk0 (by rw [nI_clamp (by omega), nI_clamp (by omega), trN_up e (show t + 1 ≤ 241 by omega)]; rfl) ⟨X, rfl⟩
set_option maxRecDepth 100000 in
set_option maxHeartbeats 4000000 in
theorem c_X6_trust (l : Launch) (E : zE) (F : zF) (hI : XI F) (a p : Int32) : XM l E yX6_trust cX6_trust 5 (some .int) 7 [.ref (xadr E.2.2.1 (0, 0, 0)), .int (a), .int (p)] (F) (xpo F (kTrust (F.1 0).1 a p) (oI (trN (F.1 0).1 a.toNatClampNeg (askS (F.1 0).1 p.toNatClampNeg) 241)) (thO F)) := by
  refine XM.mk kq_X6 (Nat.le_of_ble_eq_true rfl) (fun K s C0 => ?_)
  have C := C0.c
  obtain ⟨hz, hw, hsh⟩ := id hI
  obtain ⟨⟨eS, lS⟩, ⟨eC, lC⟩⟩ := id hz
  refine z_aload_n C 0 dX6_trust_0 rfl ?_
  refine z_iload_n C 1 dX6_trust_1 rfl ?_
  refine z_callV1 C (c_X6_isChild l E _ _) ⟨by decide, rfl, rfl⟩ rfl rfl q_X6_149 ⟨by decide, by decide⟩ (Nat.le_of_ble_eq_true rfl) dX6_trust_2 (fun v F9 hp => ?_)
  obtain ⟨rfl, e9⟩ := hp
  rw [e9]
  clear e9 F9
  refine z_if_eq C 16 dX6_trust_5 (by decide) (fun h5 => ?_) (fun h5 => ?_)
  · skip
    have h5 := bI_0 h5
    refine z_aload_n C 0 dX6_trust_16 rfl ?_
    refine z_bipush C (v := (-11)) dX6_trust_17 rfl ?_
    refine z_callV1 C (c_X6_refuse l E _ _) ⟨by decide, rfl, rfl⟩ rfl rfl q_X6_51 ⟨by decide, by decide⟩ (Nat.le_of_ble_eq_true rfl) dX6_trust_19 (fun v F9 hp => ?_)
    obtain ⟨rfl, e9⟩ := hp
    rw [e9]
    clear e9 F9
    refine z_iret C0 dX6_trust_22 ?_
    exact xpo.ref (by simp [kTrust, h5]) (by decide)
  · skip
    have h5 := bI_1 h5
    refine z_aload_n C 0 dX6_trust_8 rfl ?_
    refine z_iload_n C 2 dX6_trust_9 rfl ?_
    refine z_callV1 C (c_X6_isShop l E _ _) ⟨by decide, rfl, rfl⟩ rfl rfl q_X6_94 ⟨by decide, by decide⟩ (Nat.le_of_ble_eq_true rfl) dX6_trust_10 (fun v F9 hp => ?_)
    obtain ⟨rfl, e9⟩ := hp
    rw [e9]
    clear e9 F9
    refine z_if_ne C 23 dX6_trust_13 (by decide) (fun h13 => ?_) (fun h13 => ?_)
    · skip
      have h13 := bI_1 h13
      obtain ⟨c, hc, rfl⟩ := inR_of (n := nC (F.1 0).1) (by rw [← eC]; exact h5) (by omega)
      have hc6 : c < 6 := by omega
      obtain ⟨j, hj, rfl⟩ := inR_of (n := nS (F.1 0).1) (by rw [← eS]; exact h13) (by omega)
      have hj6 : j < 6 := by omega
      refine z_aload_n C 0 dX6_trust_23 rfl ?_
      refine xg_0_3 C kf_X6_26 dX6_trust_24 ?_
      refine z_aload_n C 0 dX6_trust_27 rfl ?_
      refine xg_0_2 C kf_X6_22 dX6_trust_28 ?_
      refine z_callV1 C (cg_X1_takeAll l E _ (gi := 1) (by decide) (gj := 0) (by decide) (by decide) hz) ⟨(by decide), rfl⟩ rfl rfl q_X6_192 ⟨by decide, by decide⟩ (Nat.le_of_ble_eq_true rfl) dX6_trust_31 (fun v F9 hp => ?_)
      obtain ⟨rfl, e9⟩ := hp
      rw [e9]
      clear e9 F9
      have eT := lay_eqv (F.1 0).1 (F.1 1).1
      refine z_aload_n C 0 dX6_trust_34 rfl ?_
      refine xg_0_2 C kf_X6_22 dX6_trust_35 ?_
      refine xg_3s C (by decide) kf_X6_104 dX6_trust_38 ?_
      refine z_iload_n C 2 dX6_trust_41 rfl ?_
      refine xa_4 C (by decide) j rfl (by first | assumption | omega) dX6_trust_42 ?_
      refine z_callV0 C (c_X4_asksNow l E _ (by first | assumption | omega) (by first | assumption | omega)) ⟨(by decide), (by first | assumption | omega)⟩ rfl rfl q_X6_145 ⟨by decide, by decide⟩ (Nat.le_of_ble_eq_true rfl) dX6_trust_43 (fun v F9 hp => ?_)
      obtain ⟨rfl, e9⟩ := hp
      rw [e9]
      clear e9 F9
      refine z_istore_n (i := 3) C dX6_trust_46 rfl (by decide) ?_
      refine z_iconst C (v := 0) dX6_trust_47 rfl ?_
      refine z_istore C dX6_trust_48 (by decide) ?_
      refine z_pick [2, 3, 1, 0] rfl ?_
      have hk0 : kTrust (F.1 0).1 (nI c) (nI j) = 0 := by simp [kTrust, h5, h13]
      exact lp_X6_trust F hI (nI c) (nI j) rfl rfl hc hj hk0 C0 242 0 _ (by omega) (by omega) (show eqv (layG (F.1 0).1 (F.1 1).1) (F.1 0).1 from eT) rfl
    · skip
      have h13 := bI_0 h13
      refine z_aload_n C 0 dX6_trust_16 rfl ?_
      refine z_bipush C (v := (-11)) dX6_trust_17 rfl ?_
      refine z_callV1 C (c_X6_refuse l E _ _) ⟨by decide, rfl, rfl⟩ rfl rfl q_X6_51 ⟨by decide, by decide⟩ (Nat.le_of_ble_eq_true rfl) dX6_trust_19 (fun v F9 hp => ?_)
      obtain ⟨rfl, e9⟩ := hp
      rw [e9]
      clear e9 F9
      refine z_iret C0 dX6_trust_22 ?_
      exact xpo.ref (by simp [kTrust, h5, h13]) (by decide)
set_option maxRecDepth 100000 in
set_option maxHeartbeats 4000000 in
theorem lp_X6_heap {l : Launch} {E : zE} {K : zK} {s : State} (F : zF) (hI : XI F) (rule v : Int32) (hk0 : kHeap rule v = 0) (C0 : XR l E K cX6_heap RX6 7 s 4 (some .int) (xpo F (kHeap rule v) (oI (heapN rule v (F.1 0).1 241)) (thO F))) : ∀ (n2 : Nat) (t : Nat) (X : zGf), (240 - t < n2) → (t ≤ 240) → (eqv X.1 (run rule t (F.1 0).1)) → (heapN rule v (F.1 0).1 t = none) → Z K (XP E (sG F 1 X) s) 31 [(0, .ref (xadr E.2.2.1 (0, 0, 0))), (1, .int (rule)), (2, .int (v)), (3, .int (nI t))] [] := by
  have C := C0.c
  intro n2
  induction n2 with
  | zero => intro t X hk hkl hX hN; exact absurd hk (Nat.not_lt_zero _)
  | succ n2 ih =>
    intro t X hk hkl hX hN
    obtain ⟨hz, hw, hsh⟩ := id hI
    obtain ⟨⟨eS, lS⟩, ⟨eC, lC⟩⟩ := id hz
    obtain ⟨zX, wX⟩ : gz X.1 ∧ wn X.1 := ⟨hX.z (sk_run.z hz), hX.w (sk_run.w hw)⟩
    have eL : X.1.1 3 = (run rule t (F.1 0).1).1 3 := hX.1 3 (by omega)
    refine z_iload_n C 3 dX6_heap_31 rfl ?_
    refine z_sipush C (v := 240) dX6_heap_32 rfl ?_
    refine z_icmp_ge C 66 dX6_heap_35 (by decide) (fun h35 => ?_) (fun h35 => ?_)
    · skip
      refine z_aload_n C 0 dX6_heap_66 rfl ?_
      refine xg_0_3 C kf_X6_26 dX6_heap_67 ?_
      refine xg_3 (k := 3) C (by decide) (by decide) kf_X6_208 dX6_heap_70 ?_
      refine z_iload_n C 2 dX6_heap_73 rfl ?_
      refine z_icmp_lt C 83 dX6_heap_74 (by decide) (fun h74 => ?_) (fun h74 => ?_)
      · skip
        refine z_iconst C (v := (-1)) dX6_heap_83 rfl ?_
        refine z_iret C0 dX6_heap_84 ?_
        have e : t = 240 := by
          rcases Nat.lt_or_ge t (240) with q | q
          · exact absurd h35 (nI_ge (b := 240) q (by omega))
          · omega
        subst e
        exact xpo.ok hk0 (by rw [show (241 : Nat) = 240 + 1 from rfl, heapN_s hN, if_neg (by rw [← eL]; exact Int32.not_le.mpr h74)]; rfl) ⟨X, rfl⟩
      · skip
        refine z_sipush C (v := 240) dX6_heap_77 rfl ?_
        refine z_goto C 84 dX6_heap_80 (by decide) ?_
        refine z_iret C0 dX6_heap_84 ?_
        have e : t = 240 := by
          rcases Nat.lt_or_ge t (240) with q | q
          · exact absurd h35 (nI_ge (b := 240) q (by omega))
          · omega
        subst e
        exact xpo.ok hk0 (by rw [show (241 : Nat) = 240 + 1 from rfl, heapN_s hN, if_pos (by rw [← eL]; exact Int32.not_lt.mp h74)]; rfl) ⟨X, rfl⟩
    · skip
      have ht2 : t < 240 := by
        rcases Nat.lt_or_ge t (240) with q | q
        · exact q
        · exact absurd (nI_le (a := 240) q (by omega)) h35
      refine z_aload_n C 0 dX6_heap_38 rfl ?_
      refine xg_0_3 C kf_X6_26 dX6_heap_39 ?_
      refine xg_3 (k := 3) C (by decide) (by decide) kf_X6_208 dX6_heap_42 ?_
      refine z_iload_n C 2 dX6_heap_45 rfl ?_
      refine z_icmp_lt C 51 dX6_heap_46 (by decide) (fun h46 => ?_) (fun h46 => ?_)
      · skip
        refine z_aload_n C 0 dX6_heap_51 rfl ?_
        refine xg_0_3 C kf_X6_26 dX6_heap_52 ?_
        refine z_iload_n C 1 dX6_heap_55 rfl ?_
        refine z_iconst C (v := 1) dX6_heap_56 rfl ?_
        refine z_top (nI 1) (rfl) ?_
        refine z_callV2 C (cg_X1_passMinutes l E (sG F 1 X) (gi := 1) (by decide) zX wX (by omega)) ⟨(by decide), rfl⟩ rfl rfl q_X6_222 ⟨by decide, by decide⟩ (Nat.le_of_ble_eq_true rfl) dX6_heap_57 (fun v F9 hp => ?_)
        obtain ⟨rfl, e9⟩ := hp
        rw [e9]
        clear e9 F9
        have eR := e_run1 hX hz
        refine z_iinc C (v := nI (t + 1)) 3 dX6_heap_60 rfl (nI_1 _) (by decide) ?_
        refine z_goto C 31 dX6_heap_63 (by decide) ?_
        refine z_pick [1, 2, 3, 0] rfl ?_
        rw [sG_sG]
        refine ih (t + 1) _ (by omega) (by omega) eR ?_
        simp only [heapN, hN]
        rw [if_neg (by rw [← eL]; exact Int32.not_le.mpr h46)]
      · skip
        refine z_iload_n C 3 dX6_heap_49 rfl ?_
        refine z_iret C0 dX6_heap_50 ?_
        have e : heapN rule v (F.1 0).1 (t + 1) = some t := by
          simp only [heapN, hN]
          rw [if_pos (by rw [← eL]; exact Int32.not_lt.mp h46)]
        exact xpo.ok hk0 (by rw [heapN_up e (show t + 1 ≤ 241 by omega)]; rfl) ⟨X, rfl⟩
set_option maxRecDepth 100000 in
set_option maxHeartbeats 4000000 in
theorem c_X6_heap (l : Launch) (E : zE) (F : zF) (hI : XI F) (rule v : Int32) : XM l E yX6_heap cX6_heap 4 (some .int) 7 [.ref (xadr E.2.2.1 (0, 0, 0)), .int (rule), .int (v)] (F) (xpo F (kHeap rule v) (oI (heapN rule v (F.1 0).1 241)) (thO F)) := by
  refine XM.mk kq_X6 (Nat.le_of_ble_eq_true rfl) (fun K s C0 => ?_)
  have C := C0.c
  obtain ⟨hz, hw, hsh⟩ := id hI
  obtain ⟨⟨eS, lS⟩, ⟨eC, lC⟩⟩ := id hz
  refine z_iload_n C 1 dX6_heap_0 rfl ?_
  refine z_callS1 C (c_X6_isRule l E _ _) q_X6_199 ⟨by decide, by decide⟩ (Nat.le_of_ble_eq_true rfl) dX6_heap_1 (fun v F9 hp => ?_)
  obtain ⟨rfl, e9⟩ := hp
  rw [e9]
  clear e9 F9
  refine z_if_eq C 11 dX6_heap_4 (by decide) (fun h4 => ?_) (fun h4 => ?_)
  · skip
    have h4 := bI_0 h4
    refine z_aload_n C 0 dX6_heap_11 rfl ?_
    refine z_bipush C (v := (-16)) dX6_heap_12 rfl ?_
    refine z_callV1 C (c_X6_refuse l E _ _) ⟨by decide, rfl, rfl⟩ rfl rfl q_X6_51 ⟨by decide, by decide⟩ (Nat.le_of_ble_eq_true rfl) dX6_heap_14 (fun v F9 hp => ?_)
    obtain ⟨rfl, e9⟩ := hp
    rw [e9]
    clear e9 F9
    refine z_iret C0 dX6_heap_17 ?_
    exact xpo.ref (by simp [kHeap, h4]) (by decide)
  · skip
    have h4 := bI_1 h4
    refine z_iload_n C 2 dX6_heap_7 rfl ?_
    refine z_if_ge C 18 dX6_heap_8 (by decide) (fun h8 => ?_) (fun h8 => ?_)
    · skip
      refine z_aload_n C 0 dX6_heap_18 rfl ?_
      refine xg_0_3 C kf_X6_26 dX6_heap_19 ?_
      refine z_aload_n C 0 dX6_heap_22 rfl ?_
      refine xg_0_2 C kf_X6_22 dX6_heap_23 ?_
      refine z_callV1 C (cg_X1_takeAll l E _ (gi := 1) (by decide) (gj := 0) (by decide) (by decide) hz) ⟨(by decide), rfl⟩ rfl rfl q_X6_192 ⟨by decide, by decide⟩ (Nat.le_of_ble_eq_true rfl) dX6_heap_26 (fun v F9 hp => ?_)
      obtain ⟨rfl, e9⟩ := hp
      rw [e9]
      clear e9 F9
      have eT := lay_eqv (F.1 0).1 (F.1 1).1
      refine z_iconst C (v := 0) dX6_heap_29 rfl ?_
      refine z_istore_n (i := 3) C dX6_heap_30 rfl (by decide) ?_
      refine z_pick [1, 2, 3, 0] rfl ?_
      have hk0 : kHeap rule v = 0 := by simp [kHeap, h4, h8, Int32.not_lt.mpr h8]
      exact lp_X6_heap F hI rule v hk0 C0 241 0 _ (by omega) (by omega) (show eqv (layG (F.1 0).1 (F.1 1).1) (F.1 0).1 from eT) rfl
    · skip
      refine z_aload_n C 0 dX6_heap_11 rfl ?_
      refine z_bipush C (v := (-16)) dX6_heap_12 rfl ?_
      refine z_callV1 C (c_X6_refuse l E _ _) ⟨by decide, rfl, rfl⟩ rfl rfl q_X6_51 ⟨by decide, by decide⟩ (Nat.le_of_ble_eq_true rfl) dX6_heap_14 (fun v F9 hp => ?_)
      obtain ⟨rfl, e9⟩ := hp
      rw [e9]
      clear e9 F9
      refine z_iret C0 dX6_heap_17 ?_
      exact xpo.ref (by simp [kHeap, h4, h8, Int32.not_le.mp h8]) (by decide)
