/-! the class: told afternoons -/
def wrK (d : Nat → Int32) (base : Nat) : Nat → zGf → Option Nat × zGf
  | 0, G => (none, G)
  | c + 1, G => match wrK d base c G with
    | (some w, G2) => (some w, G2)
    | (none, G2) => if can G2.1 c (d (base + c)) = true then (none, perf G2 c (d (base + c))) else (some (base + c), G2)
def wrM (d : Nat → Int32) (m : Nat) : Nat → zGf → Option Nat × zGf
  | 0, G => (none, G)
  | t + 1, G => match wrM d m t G with
    | (some w, G2) => (some w, G2)
    | (none, G2) => match wrK d (m * t) m (begM G2) with
      | (some w, G3) => (some w, G3)
      | (none, G3) => (none, endM G3)
def wrA (g : zGc) (d : Nat → Int32) (n : Nat) : Option Nat × zGf := if nC g = 0 then (none, (g, fun _ => 0, fun _ => 0)) else wrM d (nC g) (n / nC g) (g, fun _ => 0, fun _ => 0)
def dD (F : zF) (j i : Nat) : Int32 := asI (F.2.1 j 1) (F.2.2.1 j) (nI i)
theorem wrK_up {d : Nat → Int32} {base c w : Nat} {G G2 : zGf} (h : wrK d base c G = (some w, G2)) : ∀ {m : Nat}, c ≤ m → wrK d base m G = (some w, G2) := by
  intro m
  induction m with
  | zero => intro hm; have : c = 0 := by omega
            subst this; cases h
  | succ m ih =>
    intro hm
    rcases Nat.lt_or_ge m c with z | z
    · have : c = m + 1 := by omega
      rw [← this]; exact h
    · simp only [wrK, ih z]
theorem wrM_up {d : Nat → Int32} {q t w : Nat} {G G2 : zGf} (h : wrM d q t G = (some w, G2)) : ∀ {m : Nat}, t ≤ m → wrM d q m G = (some w, G2) := by
  intro m
  induction m with
  | zero => intro hm; have : t = 0 := by omega
            subst this; cases h
  | succ m ih =>
    intro hm
    rcases Nat.lt_or_ge m t with z | z
    · have : t = m + 1 := by omega
      rw [← this]; exact h
    · simp only [wrM, ih z]
set_option maxRecDepth 100000 in
set_option maxHeartbeats 4000000 in
theorem lp_X6_wrongDeed_49 {l : Launch} {E : zE} {K : zK} {s : State} (F : zF) (hI : XI F) {j : Nat} (hj : j < 8) {nn len : Nat} (hnn : nn ≤ 160) (hlen : F.2.1 j 1 = nI len) (hl : len ≤ 160) (hm : 0 < nC (F.1 0).1) {t : Nat} (ht2 : t < nn / nC (F.1 0).1) {Yt : zGf} (hYt : wrM (dD F j) (nC (F.1 0).1) t ((F.1 0).1, fun _ => 0, fun _ => 0) = (none, Yt)) (hout : ∀ (X2 Y2 : zGf), wrM (dD F j) (nC (F.1 0).1) (t + 1) ((F.1 0).1, fun _ => 0, fun _ => 0) = (none, Y2) → eqv X2.1 Y2.1 → sk (F.1 0).1 Y2.1 → Z K (XP E (sG F 1 X2) s) 34 [(0, .ref (xadr E.2.2.1 (0, 0, 0))), (1, .int (nI j)), (3, .int (nI (nC (F.1 0).1))), (4, .int (nI (nC (F.1 0).1 * (t + 1)))), (5, .int (nI (nn / nC (F.1 0).1 - (t + 1))))] []) (C0 : XR l E K cX6_wrongDeed RX6 6 s 8 (some .int) (fun v F2 => v = some (.int (oI (wrA (F.1 0).1 (dD F j) nn).1)) ∧ ∃ X, F2 = sG F 1 X ∧ eqv X.1 (wrA (F.1 0).1 (dD F j) nn).2.1)) : ∀ (n2 : Nat) (c : Nat) (X Y : zGf), (nC (F.1 0).1 - c < n2) → (c ≤ nC (F.1 0).1) → (wrK (dD F j) (nC (F.1 0).1 * t) c (begM Yt) = (none, Y)) → (eqf X Y) → (sk (F.1 0).1 Y.1) → Z K (XP E (sG F 1 X) s) 49 [(0, .ref (xadr E.2.2.1 (0, 0, 0))), (1, .int (nI j)), (3, .int (nI (nC (F.1 0).1))), (4, .int (nI (nC (F.1 0).1 * t + c))), (5, .int (nI (nn / nC (F.1 0).1 - t))), (6, .int (nI c))] [] := by
  have C := C0.c
  intro n2
  induction n2 with
  | zero => intro c X Y hkk hkl hY hX hk; exact absurd hkk (Nat.not_lt_zero _)
  | succ n2 ih =>
    intro c X Y hkk hkl hY hX hk
    obtain ⟨hz, hw, hsh⟩ := id hI
    obtain ⟨⟨eS, lS⟩, ⟨eC, lC⟩⟩ := id hz
    have hQ : nn / nC (F.1 0).1 ≤ 160 := Nat.le_trans (Nat.div_le_self _ _) hnn
    have hQ0 : 0 ≤ nn / nC (F.1 0).1 := Nat.zero_le _
    refine z_iload C 5 dX6_wrongDeed_49 rfl ?_
    refine z_iload_n C 2 dX6_wrongDeed_51 rfl ?_
    refine z_icmp_ge C 105 dX6_wrongDeed_52 (by decide) (fun h52 => ?_) (fun h52 => ?_)
    · skip
      have ec : c = nC (F.1 0).1 := by
        rcases Nat.lt_or_ge c (nC (F.1 0).1) with q | q
        · exact absurd h52 (nI_ge q (by omega))
        · omega
      have zX : gz X.1 := hX.1.z (hk.z hz)
      refine z_aload_n C 0 dX6_wrongDeed_105 rfl ?_
      refine xg_0_3 C kf_X6_26 dX6_wrongDeed_106 ?_
      refine z_callV0 C (cg_X1_endMinute l E (sG F 1 X) (gi := 1) (by decide) zX) ⟨(by decide), rfl⟩ rfl rfl q_X6_293 ⟨by decide, by decide⟩ (Nat.le_of_ble_eq_true rfl) dX6_wrongDeed_109 (fun v F9 hp => ?_)
      obtain ⟨rfl, e9⟩ := hp
      rw [e9]
      clear e9 F9
      refine z_iinc C (v := nI (nn / nC (F.1 0).1 - (t + 1))) 4 dX6_wrongDeed_112 rfl (by rw [show nn / nC (F.1 0).1 - t = (nn / nC (F.1 0).1 - (t + 1)) + 1 by omega]; exact pk_m1 _) (by decide) ?_
      refine z_goto C 34 dX6_wrongDeed_115 (by decide) ?_
      refine z_pick [1, 2, 3, 4, 0] rfl ?_
      subst ec
      rw [sG_sG]
      have e1 : wrM (dD F j) (nC (F.1 0).1) (t + 1) ((F.1 0).1, fun _ => 0, fun _ => 0) = (none, endM Y) := by simp only [wrM, hYt, hY]
      exact hout (endM X) (endM Y) e1 (e_endM hX) (hk.tr sk_endM)
    · skip
      have hc : c < nC (F.1 0).1 := by
        rcases Nat.lt_or_ge c (nC (F.1 0).1) with q | q
        · exact q
        · exact absurd (nI_le q (by omega)) h52
      have hc6 : c < 6 := by omega
      have zY : gz Y.1 := hk.z hz
      have zX : gz X.1 := hX.1.z zY
      have cY : c < nC Y.1 := by rw [hk.C]; exact hc
      have cX : c < nC X.1 := by rw [hX.1.C]; exact cY
      refine z_aload_n C 0 dX6_wrongDeed_55 rfl ?_
      refine xg_0_0 C kf_X6_11 dX6_wrongDeed_56 ?_
      refine z_iload_n C 1 dX6_wrongDeed_59 rfl ?_
      refine xa_1 C j rfl (by first | assumption | omega) dX6_wrongDeed_60 ?_
      refine z_iload C 3 dX6_wrongDeed_61 rfl ?_
      refine z_callV1 C (c_X3_asInt l E (sG F 1 X) hj (len := len) hlen hl _) ⟨(by first | assumption | omega), rfl⟩ rfl rfl q_X6_290 ⟨by decide, by decide⟩ (Nat.le_of_ble_eq_true rfl) dX6_wrongDeed_63 (fun v F9 hp => ?_)
      obtain ⟨rfl, e9⟩ := hp
      rw [e9]
      clear e9 F9
      refine z_top (dD F j (nC (F.1 0).1 * t + c)) rfl ?_
      refine z_istore C dX6_wrongDeed_66 (by decide) ?_
      refine z_aload_n C 1 dX6_wrongDeed_68 rfl ?_
      refine xg_0_3 C kf_X6_26 dX6_wrongDeed_69 ?_
      refine z_iload C 6 dX6_wrongDeed_72 rfl ?_
      refine z_iload C 0 dX6_wrongDeed_74 rfl ?_
      refine z_callV2 C (cg_X1_can l E (sG F 1 X) (gi := 1) (by decide) zX cX _) ⟨(by decide), rfl⟩ rfl rfl q_X6_196 ⟨by decide, by decide⟩ (Nat.le_of_ble_eq_true rfl) dX6_wrongDeed_76 (fun v F9 hp => ?_)
      obtain ⟨rfl, e9⟩ := hp
      rw [e9]
      clear e9 F9
      refine z_if_ne C 85 dX6_wrongDeed_79 (by decide) (fun h79 => ?_) (fun h79 => ?_)
      · skip
        have h79 := bI_1 h79
        have hdX := can_dd zX h79
        have hcY : can Y.1 c (dD F j (nC (F.1 0).1 * t + c)) = true := by rw [← e_can hX.1 zY cY]; exact h79
        have hdY := can_dd zY hcY
        refine z_aload_n C 1 dX6_wrongDeed_85 rfl ?_
        refine xg_0_3 C kf_X6_26 dX6_wrongDeed_86 ?_
        refine z_iload C 6 dX6_wrongDeed_89 rfl ?_
        refine z_iload C 0 dX6_wrongDeed_91 rfl ?_
        refine z_callV2 C (cg_X1_perform l E (sG F 1 X) (gi := 1) (by decide) zX cX hdX) ⟨(by decide), rfl⟩ rfl rfl q_X6_245 ⟨by decide, by decide⟩ (Nat.le_of_ble_eq_true rfl) dX6_wrongDeed_93 (fun v F9 hp => ?_)
        obtain ⟨rfl, e9⟩ := hp
        rw [e9]
        clear e9 F9
        refine z_iinc C (v := nI (nC (F.1 0).1 * t + (c + 1))) 4 dX6_wrongDeed_96 rfl (by rw [← Nat.add_assoc]; exact nI_1 _) (by decide) ?_
        refine z_iinc C (v := nI (c + 1)) 6 dX6_wrongDeed_99 rfl (nI_1 _) (by decide) ?_
        refine z_goto C 49 dX6_wrongDeed_102 (by decide) ?_
        refine z_pick [3, 4, 5, 1, 6, 0] rfl ?_
        rw [sG_sG]
        refine ih (c + 1) _ (perf Y c (dD F j (nC (F.1 0).1 * t + c))) (by omega) (by omega) ?_ (e_perf hX zY cY hdY) (hk.tr sk_perf)
        simp only [wrK, hY]
        rw [if_pos hcY]
      · skip
        have h79 := bI_0 h79
        refine z_iload C 4 dX6_wrongDeed_82 rfl ?_
        refine z_iret C0 dX6_wrongDeed_84 ?_
        have hcX : can X.1 c (dD F j (nC (F.1 0).1 * t + c)) = false := h79
        have hcY : ¬ can Y.1 c (dD F j (nC (F.1 0).1 * t + c)) = true := by rw [← e_can hX.1 zY cY, hcX]; decide
        have e1 : wrK (dD F j) (nC (F.1 0).1 * t) (c + 1) (begM Yt) = (some (nC (F.1 0).1 * t + c), Y) := by simp only [wrK, hY]; rw [if_neg hcY]
        have e2 := wrK_up e1 (show c + 1 ≤ nC (F.1 0).1 by omega)
        have e3 : wrM (dD F j) (nC (F.1 0).1) (t + 1) ((F.1 0).1, fun _ => 0, fun _ => 0) = (some (nC (F.1 0).1 * t + c), Y) := by simp only [wrM, hYt, e2]
        have e4 := wrM_up e3 (show t + 1 ≤ nn / nC (F.1 0).1 by omega)
        refine ⟨?_, X, rfl, ?_⟩
        · unfold wrA; rw [if_neg (by omega), e4]; rfl
        · unfold wrA; rw [if_neg (by omega), e4]; exact hX.1
set_option maxRecDepth 100000 in
set_option maxHeartbeats 4000000 in
theorem lp_X6_wrongDeed_34 {l : Launch} {E : zE} {K : zK} {s : State} (F : zF) (hI : XI F) {j : Nat} (hj : j < 8) {nn len : Nat} (hnn : nn ≤ 160) (hlen : F.2.1 j 1 = nI len) (hl : len ≤ 160) (hm : 0 < nC (F.1 0).1) (C0 : XR l E K cX6_wrongDeed RX6 6 s 8 (some .int) (fun v F2 => v = some (.int (oI (wrA (F.1 0).1 (dD F j) nn).1)) ∧ ∃ X, F2 = sG F 1 X ∧ eqv X.1 (wrA (F.1 0).1 (dD F j) nn).2.1)) : ∀ (n2 : Nat) (t : Nat) (X Y : zGf), (nn / nC (F.1 0).1 - t < n2) → (t ≤ nn / nC (F.1 0).1) → (wrM (dD F j) (nC (F.1 0).1) t ((F.1 0).1, fun _ => 0, fun _ => 0) = (none, Y)) → (eqv X.1 Y.1) → (sk (F.1 0).1 Y.1) → Z K (XP E (sG F 1 X) s) 34 [(0, .ref (xadr E.2.2.1 (0, 0, 0))), (1, .int (nI j)), (3, .int (nI (nC (F.1 0).1))), (4, .int (nI (nC (F.1 0).1 * t))), (5, .int (nI (nn / nC (F.1 0).1 - t)))] [] := by
  have C := C0.c
  intro n2
  induction n2 with
  | zero => intro t X Y hkk hkl hY hX hk; exact absurd hkk (Nat.not_lt_zero _)
  | succ n2 ih =>
    intro t X Y hkk hkl hY hX hk
    obtain ⟨hz, hw, hsh⟩ := id hI
    obtain ⟨⟨eS, lS⟩, ⟨eC, lC⟩⟩ := id hz
    have hQ : nn / nC (F.1 0).1 ≤ 160 := Nat.le_trans (Nat.div_le_self _ _) hnn
    have hQ0 : 0 ≤ nn / nC (F.1 0).1 := Nat.zero_le _
    refine z_iload C 4 dX6_wrongDeed_34 rfl ?_
    refine z_if_le C 118 dX6_wrongDeed_36 (by decide) (fun h36 => ?_) (fun h36 => ?_)
    · skip
      refine z_iconst C (v := (-1)) dX6_wrongDeed_118 rfl ?_
      refine z_iret C0 dX6_wrongDeed_119 ?_
      have e : t = nn / nC (F.1 0).1 := by
        rcases Nat.lt_or_ge t (nn / nC (F.1 0).1) with q | q
        · exact absurd h36 (nI_nle (by omega) (by omega))
        · omega
      subst e
      refine ⟨?_, X, rfl, ?_⟩
      · unfold wrA; rw [if_neg (by omega), hY]; rfl
      · unfold wrA; rw [if_neg (by omega), hY]; exact hX
    · skip
      have ht2 : t < nn / nC (F.1 0).1 := by
        rcases Nat.lt_or_ge t (nn / nC (F.1 0).1) with q | q
        · exact q
        · exact absurd (by rw [show nn / nC (F.1 0).1 - t = 0 by omega]; decide) h36
      refine z_aload_n C 0 dX6_wrongDeed_39 rfl ?_
      refine xg_0_3 C kf_X6_26 dX6_wrongDeed_40 ?_
      refine z_callV0 C (cg_X1_beginMinute l E (sG F 1 X) (gi := 1) (by decide) (hX.z (hk.z hz))) ⟨(by decide), rfl⟩ rfl rfl q_X6_287 ⟨by decide, by decide⟩ (Nat.le_of_ble_eq_true rfl) dX6_wrongDeed_43 (fun v F9 hp => ?_)
      obtain ⟨rfl, e9⟩ := hp
      rw [e9]
      clear e9 F9
      refine z_iconst C (v := 0) dX6_wrongDeed_46 rfl ?_
      refine z_istore C dX6_wrongDeed_47 (by decide) ?_
      refine z_pick [1, 2, 3, 4, 5, 0] rfl ?_
      rw [sG_sG]
      exact lp_X6_wrongDeed_49 F hI hj hnn hlen hl hm ht2 hY (fun X2 Y2 a b c2 => ih (t + 1) X2 Y2 (by omega) (by omega) a b c2) C0 (nC (F.1 0).1 + 1) 0 _ _ (by omega) (by omega) rfl (e_begM (A := X) (B := Y) hX) (show sk (F.1 0).1 (begM Y).1 from hk)
set_option maxRecDepth 100000 in
set_option maxHeartbeats 4000000 in
theorem c_X6_wrongDeed (l : Launch) (E : zE) (F : zF) (hI : XI F) {j : Nat} (hj : j < 8) {nn len : Nat} (hnn : nn ≤ 160) (hlen : F.2.1 j 1 = nI len) (hl : len ≤ 160) : XM l E yX6_wrongDeed cX6_wrongDeed 8 (some .int) 6 [.ref (xadr E.2.2.1 (0, 0, 0)), .int (nI j), .int (nI nn)] (F) (fun v F2 => v = some (.int (oI (wrA (F.1 0).1 (dD F j) nn).1)) ∧ ∃ X, F2 = sG F 1 X ∧ eqv X.1 (wrA (F.1 0).1 (dD F j) nn).2.1) := by
  refine XM.mk kq_X6 (Nat.le_of_ble_eq_true rfl) (fun K s C0 => ?_)
  have C := C0.c
  obtain ⟨hz, hw, hsh⟩ := id hI
  obtain ⟨⟨eS, lS⟩, ⟨eC, lC⟩⟩ := id hz
  have hQ : nn / nC (F.1 0).1 ≤ 160 := Nat.le_trans (Nat.div_le_self _ _) hnn
  have hQ0 : 0 ≤ nn / nC (F.1 0).1 := Nat.zero_le _
  refine z_aload_n C 0 dX6_wrongDeed_0 rfl ?_
  refine xg_0_3 C kf_X6_26 dX6_wrongDeed_1 ?_
  refine z_aload_n C 0 dX6_wrongDeed_4 rfl ?_
  refine xg_0_2 C kf_X6_22 dX6_wrongDeed_5 ?_
  refine z_callV1 C (cg_X1_takeAll l E F (gi := 1) (by decide) (gj := 0) (by decide) (by decide) hz) ⟨(by decide), rfl⟩ rfl rfl q_X6_192 ⟨by decide, by decide⟩ (Nat.le_of_ble_eq_true rfl) dX6_wrongDeed_8 (fun v F9 hp => ?_)
  obtain ⟨rfl, e9⟩ := hp
  rw [e9]
  clear e9 F9
  have eT := lay_eqv (F.1 0).1 (F.1 1).1
  refine z_aload_n C 0 dX6_wrongDeed_11 rfl ?_
  refine xg_0_3 C kf_X6_26 dX6_wrongDeed_12 ?_
  refine xg_3 (k := 1) C (by decide) (by decide) kf_X6_123 dX6_wrongDeed_15 ?_
  refine z_top (nI (nC (F.1 0).1)) (show (layG (F.1 0).1 (F.1 1).1).1 1 = _ by rw [eT.1 1 (by omega), eC]) ?_
  refine z_istore_n (i := 3) C dX6_wrongDeed_18 rfl (by decide) ?_
  refine z_iload_n C 0 dX6_wrongDeed_19 rfl ?_
  refine z_iconst C (v := 1) dX6_wrongDeed_20 rfl ?_
  refine z_icmp_ge C 26 dX6_wrongDeed_21 (by decide) (fun h21 => ?_) (fun h21 => ?_)
  · skip
    have hm : 0 < nC (F.1 0).1 := by
      rcases Nat.eq_zero_or_pos (nC (F.1 0).1) with q | q
      · rw [q] at h21; exact absurd h21 (by decide)
      · exact q
    refine z_iconst C (v := 0) dX6_wrongDeed_26 rfl ?_
    refine z_istore C dX6_wrongDeed_27 (by decide) ?_
    refine z_iload_n C 4 dX6_wrongDeed_29 rfl ?_
    refine z_iload_n C 1 dX6_wrongDeed_30 rfl ?_
    refine z_idiv C dX6_wrongDeed_31 (fun z => absurd h21 (by rw [z]; decide)) ?_
    refine z_top (nI (nn / nC (F.1 0).1)) (pk_div (by omega) hm (by omega)) ?_
    refine z_istore C dX6_wrongDeed_32 (by decide) ?_
    refine z_pick [3, 4, 2, 1, 0] rfl ?_
    exact lp_X6_wrongDeed_34 F hI hj hnn hlen hl hm C0 (nn / nC (F.1 0).1 + 1) 0 _ _ (by omega) (by omega) rfl (show eqv (layG (F.1 0).1 (F.1 1).1) (F.1 0).1 from eT) (sk.rf _)
  · skip
    refine z_iconst C (v := (-1)) dX6_wrongDeed_24 rfl ?_
    refine z_iret C0 dX6_wrongDeed_25 ?_
    have hm : nC (F.1 0).1 = 0 := by
      rcases Nat.eq_zero_or_pos (nC (F.1 0).1) with q | q
      · exact q
      · exact absurd (show (1 : Int32) ≤ nI (nC (F.1 0).1) from nI_le (a := 1) q (by omega)) h21
    refine ⟨?_, _, rfl, ?_⟩
    · unfold wrA; rw [if_pos hm]; rfl
    · unfold wrA; rw [if_pos hm]; exact eT
