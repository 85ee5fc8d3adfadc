/-! the class: told afternoons, the calls -/
theorem tTr_cs (F : zF) (s n : Int32) : tTr F s n = 0 ∨ tTr F s n = -1 ∨ tTr F s n = -2 ∨ tTr F s n = -3 ∨ tTr F s n = -4 ∨ tTr F s n = -5 := by
  have h : rTr F s = 0 ∨ rTr F s = -1 ∨ rTr F s = -2 ∨ rTr F s = -3 := by
    unfold rTr sTr
    repeat' split
    all_goals simp
  unfold tTr
  split
  · split
    · simp
    · split <;> simp
  · rcases h with h | h | h | h
    · contradiction
    all_goals (rw [h]; simp)
theorem tTr_m10 {F : zF} {s n : Int32} (h : ¬ tTr F s n = 0) : ¬ -10 + tTr F s n = 0 := by
  rcases tTr_cs F s n with e | e | e | e | e | e
  · exact absurd e h
  all_goals (rw [e]; decide)
theorem tTr_0 {F : zF} {s n : Int32} (hI : XI F) (h : tTr F s n = 0) : ∃ j nn len, j < 8 ∧ s = nI j ∧ n = nI nn ∧ nn ≤ len ∧ F.2.1 j 1 = nI len ∧ len ≤ 160 := by
  unfold tTr at h
  split at h
  · rename_i h0
    obtain ⟨j, hj, rfl⟩ := rTr_in h0
    obtain ⟨⟨len, hl, el⟩, -⟩ := hI.2.2 j hj
    rw [nI_clamp (by omega)] at h
    split at h
    · exact absurd h (by decide)
    · rename_i h1
      split at h
      · exact absurd h (by decide)
      · rename_i h2
        rw [el] at h2
        obtain ⟨q, hq, rfl⟩ := inT_of (n := len) (inT_t h1 (Int32.not_lt.mp h2)) (by omega)
        exact ⟨j, q, len, hj, rfl, rfl, hq, el, hl⟩
  · contradiction
theorem wrK_lt {d : Nat → Int32} {base w : Nat} {G G2 : zGf} : ∀ {c : Nat}, wrK d base c G = (some w, G2) → w < base + c
  | 0, h => by cases h
  | c + 1, h => by
    simp only [wrK] at h
    split at h
    · rename_i w2 G3 hq
      cases h
      have := wrK_lt hq; omega
    · split at h
      · cases h
      · cases h; omega
theorem wrM_lt {d : Nat → Int32} {m w : Nat} {G G2 : zGf} : ∀ {t : Nat}, wrM d m t G = (some w, G2) → w < m * t
  | 0, h => by cases h
  | t + 1, h => by
    simp only [wrM] at h
    have e : m * (t + 1) = m * t + m := Nat.mul_succ m t
    split at h
    · rename_i w2 G3 hq
      cases h
      have := wrM_lt hq; omega
    · split at h
      · rename_i hq
        cases h
        have := wrK_lt hq; omega
      · cases h
theorem wrA_lt {g : zGc} {d : Nat → Int32} {n w : Nat} (h : (wrA g d n).1 = some w) : w < n + 1 := by
  unfold wrA at h
  split at h
  · cases h
  · have e : wrM d (nC g) (n / nC g) (g, fun _ => 0, fun _ => 0) = (some w, (wrM d (nC g) (n / nC g) (g, fun _ => 0, fun _ => 0)).2) := Prod.ext h rfl
    have h1 := wrM_lt e
    have h2 := Nat.mul_div_le n (nC g)
    omega
theorem sk_wrK {d : Nat → Int32} {base : Nat} {G : zGf} : ∀ {c : Nat}, sk G.1 (wrK d base c G).2.1
  | 0 => sk.rf _
  | c + 1 => by
    have ih := sk_wrK (d := d) (base := base) (G := G) (c := c)
    simp only [wrK]
    split
    · rename_i hq; rw [hq] at ih; exact ih
    · rename_i hq; rw [hq] at ih
      split
      · exact ih.tr sk_perf
      · exact ih
theorem sk_wrM {d : Nat → Int32} {m : Nat} {G : zGf} : ∀ {t : Nat}, sk G.1 (wrM d m t G).2.1
  | 0 => sk.rf _
  | t + 1 => by
    have ih := sk_wrM (d := d) (m := m) (G := G) (t := t)
    simp only [wrM]
    split
    · rename_i hq; rw [hq] at ih; exact ih
    · rename_i G2 hq; rw [hq] at ih
      have ih2 := sk_wrK (d := d) (base := m * t) (G := begM G2) (c := m)
      split
      · rename_i hr; rw [hr] at ih2; exact ih.tr ih2
      · rename_i hr; rw [hr] at ih2; exact (ih.tr ih2).tr sk_endM
theorem sk_wrA {g : zGc} {d : Nat → Int32} {n : Nat} : sk g (wrA g d n).2.1 := by
  unfold wrA
  split
  · exact sk.rf _
  · exact sk_wrM (G := (g, fun _ => 0, fun _ => 0))
theorem oI_m1 {x : Option Nat} {n : Nat} (h : ∀ {w}, x = some w → w < n) (h2 : oI x = -1) (hn : n ≤ 1000) : x = none := by
  cases hx : x with
  | none => rfl
  | some q =>
    rw [hx] at h2
    have := h hx
    exact absurd (nI_pos (n := q) (by omega)) (by rw [show nI q = -1 from h2]; decide)
/-- the same where a refusal may leave another garden in thought -/
def xpt (F : zF) (k ans : Int32) (P : zF → Prop) : Option Value → zF → Prop := fun v F2 => v = some (.int (if k = 0 then ans else k)) ∧ (k = 0 → P F2) ∧ (¬ k = 0 → thO (rfu F k) F2)
theorem xpt.ref {F F2 : zF} {k ans c : Int32} {P : zF → Prop} (ht : thO (rfu F c) F2) (hk : k = c) (hc : ¬ c = 0) : xpt F k ans P (some (.int c)) F2 := by
  subst hk
  exact ⟨by rw [if_neg hc], fun h => absurd h hc, fun _ => ht⟩
theorem xpt.ok {F F2 : zF} {k ans r : Int32} {P : zF → Prop} (hk : k = 0) (hr : r = ans) (hP : P F2) : xpt F k ans P (some (.int r)) F2 := ⟨by rw [if_pos hk, hr], fun _ => hP, fun h => absurd hk h⟩
theorem rfu_th {F : zF} {X : zGf} {c : Int32} : thO (rfu F c) (rfu (sG F 1 X) c) := by
  refine ⟨X, ?_⟩
  unfold rfu
  split <;> rfl
def kJudge (t : Int32) : Int32 := if t = 0 then 0 else -10 + t
def ofC (g : zGc) (w : Int32) : Bool := !decide (w < 10) && decide (w - 10 < g.1 1)
theorem ofC_f1 {g : zGc} {w : Int32} (h : w < 10) : ofC g w = false := by simp [ofC, h]
theorem ofC_f2 {g : zGc} {w : Int32} (h : g.1 1 ≤ w - 10) : ofC g w = false := by
  have := Int32.not_lt.mpr h
  simp only [ofC, decide_eq_false this, Bool.and_false]
theorem ofC_t {g : zGc} {w : Int32} (h : ¬ w < 10) (h2 : ¬ g.1 1 ≤ w - 10) : ofC g w = true := by
  simp only [ofC, decide_eq_false h, decide_eq_true (Int32.not_le.mp h2)]; rfl
def kTold (g : zGc) (t w : Int32) (wr : Option Nat) : Int32 := if ¬ t = 0 then t else if ¬ (w = 0 ∨ w = 1 ∨ ofC g w = true) then -5 else if wr = none then 0 else -6
def aTold (g g2 : zGc) (w : Int32) : Int32 := if ofC g w = true then g2.2.2 (w - 10).toNatClampNeg 4 else if w = 0 then g2.1 6 - g.1 6 else g2.1 3
def kDone (t : Int32) (wr : Option Nat) : Int32 := if ¬ t = 0 then t else if wr = none then 0 else -6
set_option maxRecDepth 100000 in
set_option maxHeartbeats 4000000 in
theorem c_X6_judge (l : Launch) (E : zE) (F : zF) (hI : XI F) (s n : Int32) : XM l E yX6_judge cX6_judge 4 (some .int) 7 [.ref (xadr E.2.2.1 (0, 0, 0)), .int (s), .int (n)] (F) (xpo F (kJudge (tTr F s n)) (oI (wrA (F.1 0).1 (dD F s.toNatClampNeg) n.toNatClampNeg).1) (thO F)) := by
  refine XM.mk kq_X6 (Nat.le_of_ble_eq_true rfl) (fun K s C0 => ?_)
  have C := C0.c
  obtain ⟨hz, hw, hsh⟩ := id hI
  obtain ⟨⟨eS, lS⟩, ⟨eC, lC⟩⟩ := id hz
  refine z_aload_n C 0 dX6_judge_0 rfl ?_
  refine z_iload_n C 1 dX6_judge_1 rfl ?_
  refine z_iload_n C 2 dX6_judge_2 rfl ?_
  refine z_callV2 C (c_X6_toldTrouble l E _ _ _) ⟨by decide, rfl, rfl⟩ rfl rfl q_X6_248 ⟨by decide, by decide⟩ (Nat.le_of_ble_eq_true rfl) dX6_judge_3 (fun v F9 hp => ?_)
  obtain ⟨rfl, e9⟩ := hp
  rw [e9]
  clear e9 F9
  refine z_istore_n (i := 3) C dX6_judge_6 rfl (by decide) ?_
  refine z_iload_n C 0 dX6_judge_7 rfl ?_
  refine z_if_eq C 20 dX6_judge_8 (by decide) (fun h8 => ?_) (fun h8 => ?_)
  · skip
    obtain ⟨j, nn, len, hj, rfl, rfl, hnl, hlen, hl⟩ := tTr_0 hI h8
    have ej : (nI j).toNatClampNeg = j := nI_clamp (by omega)
    have en : (nI nn).toNatClampNeg = nn := nI_clamp (by omega)
    refine z_aload_n C 1 dX6_judge_20 rfl ?_
    refine z_iload_n C 2 dX6_judge_21 rfl ?_
    refine z_iload_n C 3 dX6_judge_22 rfl ?_
    refine z_callV2 C (c_X6_wrongDeed l E F hI hj (nn := nn) (len := len) (by omega) hlen hl) ⟨by decide, rfl, rfl⟩ rfl rfl q_X6_251 ⟨by decide, by decide⟩ (Nat.le_of_ble_eq_true rfl) dX6_judge_23 (fun v F9 hp => ?_)
    obtain ⟨rfl, X, e9, hX⟩ := hp
    rw [e9]
    clear e9 F9
    refine z_iret C0 dX6_judge_26 ?_
    exact xpo.ok (by unfold kJudge; rw [if_pos h8]) (by rw [ej, en]) ⟨X, rfl⟩
  · skip
    refine z_aload_n C 1 dX6_judge_11 rfl ?_
    refine z_bipush C (v := (-10)) dX6_judge_12 rfl ?_
    refine z_iload_n C 0 dX6_judge_14 rfl ?_
    refine z_iadd C dX6_judge_15 ?_
    refine z_callV1 C (c_X6_refuse l E _ _) ⟨by decide, rfl, rfl⟩ rfl rfl q_X6_51 ⟨by decide, by decide⟩ (Nat.le_of_ble_eq_true rfl) dX6_judge_16 (fun v F9 hp => ?_)
    obtain ⟨rfl, e9⟩ := hp
    rw [e9]
    clear e9 F9
    refine z_iret C0 dX6_judge_19 ?_
    exact xpo.ref (by unfold kJudge; rw [if_neg h8]) (tTr_m10 h8)
set_option maxRecDepth 100000 in
set_option maxHeartbeats 4000000 in
theorem c_X6_told (l : Launch) (E : zE) (F : zF) (hI : XI F) (s n w : Int32) : XM l E yX6_told cX6_told 6 (some .int) 7 [.ref (xadr E.2.2.1 (0, 0, 0)), .int (s), .int (n), .int (w)] (F) (xpt F (kTold (F.1 0).1 (tTr F s n) w (wrA (F.1 0).1 (dD F s.toNatClampNeg) n.toNatClampNeg).1) (aTold (F.1 0).1 (wrA (F.1 0).1 (dD F s.toNatClampNeg) n.toNatClampNeg).2.1 w) (thO F)) := by
  refine XM.mk kq_X6 (Nat.le_of_ble_eq_true rfl) (fun K s C0 => ?_)
  have C := C0.c
  obtain ⟨hz, hw, hsh⟩ := id hI
  obtain ⟨⟨eS, lS⟩, ⟨eC, lC⟩⟩ := id hz
  refine z_aload_n C 0 dX6_told_0 rfl ?_
  refine z_iload_n C 1 dX6_told_1 rfl ?_
  refine z_iload_n C 2 dX6_told_2 rfl ?_
  refine z_callV2 C (c_X6_toldTrouble l E _ _ _) ⟨by decide, rfl, rfl⟩ rfl rfl q_X6_248 ⟨by decide, by decide⟩ (Nat.le_of_ble_eq_true rfl) dX6_told_3 (fun v F9 hp => ?_)
  obtain ⟨rfl, e9⟩ := hp
  rw [e9]
  clear e9 F9
  refine z_istore C dX6_told_6 (by decide) ?_
  refine z_iload C 0 dX6_told_8 rfl ?_
  refine z_if_eq C 20 dX6_told_10 (by decide) (fun h10 => ?_) (fun h10 => ?_)
  · skip
    refine z_iload_n C 4 dX6_told_20 rfl ?_
    refine z_bipush C (v := 10) dX6_told_21 rfl ?_
    refine z_icmp_lt C 44 dX6_told_23 (by decide) (fun h23 => ?_) (fun h23 => ?_)
    · skip
      refine z_iconst C (v := 0) dX6_told_44 rfl ?_
      refine z_istore C dX6_told_45 (by decide) ?_
      refine z_iload_n C 5 dX6_told_47 rfl ?_
      refine z_if_eq C 68 dX6_told_48 (by decide) (fun h48 => ?_) (fun h48 => ?_)
      · skip
        obtain ⟨j, nn, len, hj, rfl, rfl, hnl, hlen, hl⟩ := tTr_0 hI h10
        have ej : (nI j).toNatClampNeg = j := nI_clamp (by omega)
        have en : (nI nn).toNatClampNeg = nn := nI_clamp (by omega)
        refine z_aload_n C 2 dX6_told_68 rfl ?_
        refine z_iload_n C 3 dX6_told_69 rfl ?_
        refine z_iload_n C 4 dX6_told_70 rfl ?_
        refine z_callV2 C (c_X6_wrongDeed l E F hI hj (nn := nn) (len := len) (by omega) hlen hl) ⟨by decide, rfl, rfl⟩ rfl rfl q_X6_251 ⟨by decide, by decide⟩ (Nat.le_of_ble_eq_true rfl) dX6_told_71 (fun v F9 hp => ?_)
        obtain ⟨rfl, X, e9, hX⟩ := hp
        rw [e9]
        clear e9 F9
        refine z_iconst C (v := (-1)) dX6_told_74 rfl ?_
        refine z_icmp_eq C 85 dX6_told_75 (by decide) (fun h75 => ?_) (fun h75 => ?_)
        · skip
          refine z_iload C 0 dX6_told_85 rfl ?_
          refine z_if_eq C 106 dX6_told_87 (by decide) (fun h87 => ?_) (fun h87 => ?_)
          · skip
            refine z_iload_n C 5 dX6_told_106 rfl ?_
            refine z_if_ne C 128 dX6_told_107 (by decide) (fun h107 => ?_) (fun h107 => ?_)
            · skip
              refine z_aload_n C 2 dX6_told_128 rfl ?_
              refine xg_0_3 C kf_X6_26 dX6_told_129 ?_
              refine xg_3 (k := 3) C (by decide) (by decide) kf_X6_208 dX6_told_132 ?_
              refine z_iret C0 dX6_told_135 ?_
              have e0 := oI_m1 wrA_lt h75 (by omega)
              exact xpt.ok (by unfold kTold; rw [if_neg (fun z => z h10), if_neg (fun z => z (Or.inl h48)), ej, en, if_pos e0]) (by rw [ej, en]; unfold aTold; rw [if_neg (by rw [ofC_f1 h23]; decide), if_neg h107, ← hX.1 3 (by omega)]; rfl) ⟨X, rfl⟩
            · skip
              refine z_aload_n C 2 dX6_told_110 rfl ?_
              refine xg_0_3 C kf_X6_26 dX6_told_111 ?_
              refine xg_3 (k := 6) C (by decide) (by decide) kf_X6_225 dX6_told_114 ?_
              refine z_aload_n C 2 dX6_told_117 rfl ?_
              refine xg_0_2 C kf_X6_22 dX6_told_118 ?_
              refine xg_3 (k := 6) C (by decide) (by decide) kf_X6_225 dX6_told_121 ?_
              refine z_isub C dX6_told_124 ?_
              refine z_goto C 135 dX6_told_125 (by decide) ?_
              refine z_iret C0 dX6_told_135 ?_
              have e0 := oI_m1 wrA_lt h75 (by omega)
              exact xpt.ok (by unfold kTold; rw [if_neg (fun z => z h10), if_neg (fun z => z (Or.inl h48)), ej, en, if_pos e0]) (by rw [ej, en]; unfold aTold; rw [if_neg (by rw [ofC_f1 h23]; decide), if_pos h107, ← hX.1 6 (by omega)]; rfl) ⟨X, rfl⟩
          · exact absurd h87 (by decide)
        · skip
          refine z_aload_n C 2 dX6_told_78 rfl ?_
          refine z_bipush C (v := (-6)) dX6_told_79 rfl ?_
          refine z_callV1 C (c_X6_refuse l E _ _) ⟨by decide, rfl, rfl⟩ rfl rfl q_X6_51 ⟨by decide, by decide⟩ (Nat.le_of_ble_eq_true rfl) dX6_told_81 (fun v F9 hp => ?_)
          obtain ⟨rfl, e9⟩ := hp
          rw [e9]
          clear e9 F9
          refine z_iret C0 dX6_told_84 ?_
          exact xpt.ref rfu_th (by unfold kTold; rw [if_neg (fun z => z h10), if_neg (fun z => z (Or.inl h48)), ej, en, if_neg (fun z => h75 (by rw [z]; rfl))]) (by decide)
      · skip
        refine z_iload_n C 5 dX6_told_51 rfl ?_
        refine z_iconst C (v := 1) dX6_told_52 rfl ?_
        refine z_icmp_eq C 68 dX6_told_53 (by decide) (fun h53 => ?_) (fun h53 => ?_)
        · skip
          obtain ⟨j, nn, len, hj, rfl, rfl, hnl, hlen, hl⟩ := tTr_0 hI h10
          have ej : (nI j).toNatClampNeg = j := nI_clamp (by omega)
          have en : (nI nn).toNatClampNeg = nn := nI_clamp (by omega)
          refine z_aload_n C 2 dX6_told_68 rfl ?_
          refine z_iload_n C 3 dX6_told_69 rfl ?_
          refine z_iload_n C 4 dX6_told_70 rfl ?_
          refine z_callV2 C (c_X6_wrongDeed l E F hI hj (nn := nn) (len := len) (by omega) hlen hl) ⟨by decide, rfl, rfl⟩ rfl rfl q_X6_251 ⟨by decide, by decide⟩ (Nat.le_of_ble_eq_true rfl) dX6_told_71 (fun v F9 hp => ?_)
          obtain ⟨rfl, X, e9, hX⟩ := hp
          rw [e9]
          clear e9 F9
          refine z_iconst C (v := (-1)) dX6_told_74 rfl ?_
          refine z_icmp_eq C 85 dX6_told_75 (by decide) (fun h75 => ?_) (fun h75 => ?_)
          · skip
            refine z_iload C 0 dX6_told_85 rfl ?_
            refine z_if_eq C 106 dX6_told_87 (by decide) (fun h87 => ?_) (fun h87 => ?_)
            · skip
              refine z_iload_n C 5 dX6_told_106 rfl ?_
              refine z_if_ne C 128 dX6_told_107 (by decide) (fun h107 => ?_) (fun h107 => ?_)
              · skip
                refine z_aload_n C 2 dX6_told_128 rfl ?_
                refine xg_0_3 C kf_X6_26 dX6_told_129 ?_
                refine xg_3 (k := 3) C (by decide) (by decide) kf_X6_208 dX6_told_132 ?_
                refine z_iret C0 dX6_told_135 ?_
                have e0 := oI_m1 wrA_lt h75 (by omega)
                exact xpt.ok (by unfold kTold; rw [if_neg (fun z => z h10), if_neg (fun z => z (Or.inr (Or.inl h53))), ej, en, if_pos e0]) (by rw [ej, en]; unfold aTold; rw [if_neg (by rw [ofC_f1 h23]; decide), if_neg h107, ← hX.1 3 (by omega)]; rfl) ⟨X, rfl⟩
              · skip
                refine z_aload_n C 2 dX6_told_110 rfl ?_
                refine xg_0_3 C kf_X6_26 dX6_told_111 ?_
                refine xg_3 (k := 6) C (by decide) (by decide) kf_X6_225 dX6_told_114 ?_
                refine z_aload_n C 2 dX6_told_117 rfl ?_
                refine xg_0_2 C kf_X6_22 dX6_told_118 ?_
                refine xg_3 (k := 6) C (by decide) (by decide) kf_X6_225 dX6_told_121 ?_
                refine z_isub C dX6_told_124 ?_
                refine z_goto C 135 dX6_told_125 (by decide) ?_
                refine z_iret C0 dX6_told_135 ?_
                have e0 := oI_m1 wrA_lt h75 (by omega)
                exact xpt.ok (by unfold kTold; rw [if_neg (fun z => z h10), if_neg (fun z => z (Or.inr (Or.inl h53))), ej, en, if_pos e0]) (by rw [ej, en]; unfold aTold; rw [if_neg (by rw [ofC_f1 h23]; decide), if_pos h107, ← hX.1 6 (by omega)]; rfl) ⟨X, rfl⟩
            · exact absurd h87 (by decide)
          · skip
            refine z_aload_n C 2 dX6_told_78 rfl ?_
            refine z_bipush C (v := (-6)) dX6_told_79 rfl ?_
            refine z_callV1 C (c_X6_refuse l E _ _) ⟨by decide, rfl, rfl⟩ rfl rfl q_X6_51 ⟨by decide, by decide⟩ (Nat.le_of_ble_eq_true rfl) dX6_told_81 (fun v F9 hp => ?_)
            obtain ⟨rfl, e9⟩ := hp
            rw [e9]
            clear e9 F9
            refine z_iret C0 dX6_told_84 ?_
            exact xpt.ref rfu_th (by unfold kTold; rw [if_neg (fun z => z h10), if_neg (fun z => z (Or.inr (Or.inl h53))), ej, en, if_neg (fun z => h75 (by rw [z]; rfl))]) (by decide)
        · skip
          refine z_iload C 0 dX6_told_56 rfl ?_
          refine z_if_ne C 68 dX6_told_58 (by decide) (fun h58 => ?_) (fun h58 => ?_)
          · exact absurd h58 (by decide)
          · skip
            refine z_aload_n C 2 dX6_told_61 rfl ?_
            refine z_bipush C (v := (-5)) dX6_told_62 rfl ?_
            refine z_callV1 C (c_X6_refuse l E _ _) ⟨by decide, rfl, rfl⟩ rfl rfl q_X6_51 ⟨by decide, by decide⟩ (Nat.le_of_ble_eq_true rfl) dX6_told_64 (fun v F9 hp => ?_)
            obtain ⟨rfl, e9⟩ := hp
            rw [e9]
            clear e9 F9
            refine z_iret C0 dX6_told_67 ?_
            exact xpt.ref (thO.rf _) (by unfold kTold; rw [if_neg (fun z => z h10), if_pos (by rintro (z | z | z); exact h48 z; exact h53 z; exact absurd (z.symm.trans (ofC_f1 h23)) (by decide))]) (by decide)
    · skip
      refine z_iload_n C 4 dX6_told_26 rfl ?_
      refine z_bipush C (v := 10) dX6_told_27 rfl ?_
      refine z_isub C dX6_told_29 ?_
      refine z_aload_n C 1 dX6_told_30 rfl ?_
      refine xg_0_2 C kf_X6_22 dX6_told_31 ?_
      refine xg_3 (k := 1) C (by decide) (by decide) kf_X6_123 dX6_told_34 ?_
      refine z_icmp_ge C 44 dX6_told_37 (by decide) (fun h37 => ?_) (fun h37 => ?_)
      · skip
        refine z_iconst C (v := 0) dX6_told_44 rfl ?_
        refine z_istore C dX6_told_45 (by decide) ?_
        refine z_iload_n C 5 dX6_told_47 rfl ?_
        refine z_if_eq C 68 dX6_told_48 (by decide) (fun h48 => ?_) (fun h48 => ?_)
        · skip
          obtain ⟨j, nn, len, hj, rfl, rfl, hnl, hlen, hl⟩ := tTr_0 hI h10
          have ej : (nI j).toNatClampNeg = j := nI_clamp (by omega)
          have en : (nI nn).toNatClampNeg = nn := nI_clamp (by omega)
          refine z_aload_n C 2 dX6_told_68 rfl ?_
          refine z_iload_n C 3 dX6_told_69 rfl ?_
          refine z_iload_n C 4 dX6_told_70 rfl ?_
          refine z_callV2 C (c_X6_wrongDeed l E F hI hj (nn := nn) (len := len) (by omega) hlen hl) ⟨by decide, rfl, rfl⟩ rfl rfl q_X6_251 ⟨by decide, by decide⟩ (Nat.le_of_ble_eq_true rfl) dX6_told_71 (fun v F9 hp => ?_)
          obtain ⟨rfl, X, e9, hX⟩ := hp
          rw [e9]
          clear e9 F9
          refine z_iconst C (v := (-1)) dX6_told_74 rfl ?_
          refine z_icmp_eq C 85 dX6_told_75 (by decide) (fun h75 => ?_) (fun h75 => ?_)
          · skip
            refine z_iload C 0 dX6_told_85 rfl ?_
            refine z_if_eq C 106 dX6_told_87 (by decide) (fun h87 => ?_) (fun h87 => ?_)
            · skip
              refine z_iload_n C 5 dX6_told_106 rfl ?_
              refine z_if_ne C 128 dX6_told_107 (by decide) (fun h107 => ?_) (fun h107 => ?_)
              · skip
                refine z_aload_n C 2 dX6_told_128 rfl ?_
                refine xg_0_3 C kf_X6_26 dX6_told_129 ?_
                refine xg_3 (k := 3) C (by decide) (by decide) kf_X6_208 dX6_told_132 ?_
                refine z_iret C0 dX6_told_135 ?_
                have e0 := oI_m1 wrA_lt h75 (by omega)
                exact xpt.ok (by unfold kTold; rw [if_neg (fun z => z h10), if_neg (fun z => z (Or.inl h48)), ej, en, if_pos e0]) (by rw [ej, en]; unfold aTold; rw [if_neg (by rw [ofC_f2 h37]; decide), if_neg h107, ← hX.1 3 (by omega)]; rfl) ⟨X, rfl⟩
              · skip
                refine z_aload_n C 2 dX6_told_110 rfl ?_
                refine xg_0_3 C kf_X6_26 dX6_told_111 ?_
                refine xg_3 (k := 6) C (by decide) (by decide) kf_X6_225 dX6_told_114 ?_
                refine z_aload_n C 2 dX6_told_117 rfl ?_
                refine xg_0_2 C kf_X6_22 dX6_told_118 ?_
                refine xg_3 (k := 6) C (by decide) (by decide) kf_X6_225 dX6_told_121 ?_
                refine z_isub C dX6_told_124 ?_
                refine z_goto C 135 dX6_told_125 (by decide) ?_
                refine z_iret C0 dX6_told_135 ?_
                have e0 := oI_m1 wrA_lt h75 (by omega)
                exact xpt.ok (by unfold kTold; rw [if_neg (fun z => z h10), if_neg (fun z => z (Or.inl h48)), ej, en, if_pos e0]) (by rw [ej, en]; unfold aTold; rw [if_neg (by rw [ofC_f2 h37]; decide), if_pos h107, ← hX.1 6 (by omega)]; rfl) ⟨X, rfl⟩
            · exact absurd h87 (by decide)
          · skip
            refine z_aload_n C 2 dX6_told_78 rfl ?_
            refine z_bipush C (v := (-6)) dX6_told_79 rfl ?_
            refine z_callV1 C (c_X6_refuse l E _ _) ⟨by decide, rfl, rfl⟩ rfl rfl q_X6_51 ⟨by decide, by decide⟩ (Nat.le_of_ble_eq_true rfl) dX6_told_81 (fun v F9 hp => ?_)
            obtain ⟨rfl, e9⟩ := hp
            rw [e9]
            clear e9 F9
            refine z_iret C0 dX6_told_84 ?_
            exact xpt.ref rfu_th (by unfold kTold; rw [if_neg (fun z => z h10), if_neg (fun z => z (Or.inl h48)), ej, en, if_neg (fun z => h75 (by rw [z]; rfl))]) (by decide)
        · skip
          refine z_iload_n C 5 dX6_told_51 rfl ?_
          refine z_iconst C (v := 1) dX6_told_52 rfl ?_
          refine z_icmp_eq C 68 dX6_told_53 (by decide) (fun h53 => ?_) (fun h53 => ?_)
          · skip
            obtain ⟨j, nn, len, hj, rfl, rfl, hnl, hlen, hl⟩ := tTr_0 hI h10
            have ej : (nI j).toNatClampNeg = j := nI_clamp (by omega)
            have en : (nI nn).toNatClampNeg = nn := nI_clamp (by omega)
            refine z_aload_n C 2 dX6_told_68 rfl ?_
            refine z_iload_n C 3 dX6_told_69 rfl ?_
            refine z_iload_n C 4 dX6_told_70 rfl ?_
            refine z_callV2 C (c_X6_wrongDeed l E F hI hj (nn := nn) (len := len) (by omega) hlen hl) ⟨by decide, rfl, rfl⟩ rfl rfl q_X6_251 ⟨by decide, by decide⟩ (Nat.le_of_ble_eq_true rfl) dX6_told_71 (fun v F9 hp => ?_)
            obtain ⟨rfl, X, e9, hX⟩ := hp
            rw [e9]
            clear e9 F9
            refine z_iconst C (v := (-1)) dX6_told_74 rfl ?_
            refine z_icmp_eq C 85 dX6_told_75 (by decide) (fun h75 => ?_) (fun h75 => ?_)
            · skip
              refine z_iload C 0 dX6_told_85 rfl ?_
              refine z_if_eq C 106 dX6_told_87 (by decide) (fun h87 => ?_) (fun h87 => ?_)
              · skip
                refine z_iload_n C 5 dX6_told_106 rfl ?_
                refine z_if_ne C 128 dX6_told_107 (by decide) (fun h107 => ?_) (fun h107 => ?_)
                · skip
                  refine z_aload_n C 2 dX6_told_128 rfl ?_
                  refine xg_0_3 C kf_X6_26 dX6_told_129 ?_
                  refine xg_3 (k := 3) C (by decide) (by decide) kf_X6_208 dX6_told_132 ?_
                  refine z_iret C0 dX6_told_135 ?_
                  have e0 := oI_m1 wrA_lt h75 (by omega)
                  exact xpt.ok (by unfold kTold; rw [if_neg (fun z => z h10), if_neg (fun z => z (Or.inr (Or.inl h53))), ej, en, if_pos e0]) (by rw [ej, en]; unfold aTold; rw [if_neg (by rw [ofC_f2 h37]; decide), if_neg h107, ← hX.1 3 (by omega)]; rfl) ⟨X, rfl⟩
                · skip
                  refine z_aload_n C 2 dX6_told_110 rfl ?_
                  refine xg_0_3 C kf_X6_26 dX6_told_111 ?_
                  refine xg_3 (k := 6) C (by decide) (by decide) kf_X6_225 dX6_told_114 ?_
                  refine z_aload_n C 2 dX6_told_117 rfl ?_
                  refine xg_0_2 C kf_X6_22 dX6_told_118 ?_
                  refine xg_3 (k := 6) C (by decide) (by decide) kf_X6_225 dX6_told_121 ?_
                  refine z_isub C dX6_told_124 ?_
                  refine z_goto C 135 dX6_told_125 (by decide) ?_
                  refine z_iret C0 dX6_told_135 ?_
                  have e0 := oI_m1 wrA_lt h75 (by omega)
                  exact xpt.ok (by unfold kTold; rw [if_neg (fun z => z h10), if_neg (fun z => z (Or.inr (Or.inl h53))), ej, en, if_pos e0]) (by rw [ej, en]; unfold aTold; rw [if_neg (by rw [ofC_f2 h37]; decide), if_pos h107, ← hX.1 6 (by omega)]; rfl) ⟨X, rfl⟩
              · exact absurd h87 (by decide)
            · skip
              refine z_aload_n C 2 dX6_told_78 rfl ?_
              refine z_bipush C (v := (-6)) dX6_told_79 rfl ?_
              refine z_callV1 C (c_X6_refuse l E _ _) ⟨by decide, rfl, rfl⟩ rfl rfl q_X6_51 ⟨by decide, by decide⟩ (Nat.le_of_ble_eq_true rfl) dX6_told_81 (fun v F9 hp => ?_)
              obtain ⟨rfl, e9⟩ := hp
              rw [e9]
              clear e9 F9
              refine z_iret C0 dX6_told_84 ?_
              exact xpt.ref rfu_th (by unfold kTold; rw [if_neg (fun z => z h10), if_neg (fun z => z (Or.inr (Or.inl h53))), ej, en, if_neg (fun z => h75 (by rw [z]; rfl))]) (by decide)
          · skip
            refine z_iload C 0 dX6_told_56 rfl ?_
            refine z_if_ne C 68 dX6_told_58 (by decide) (fun h58 => ?_) (fun h58 => ?_)
            · exact absurd h58 (by decide)
            · skip
              refine z_aload_n C 2 dX6_told_61 rfl ?_
              refine z_bipush C (v := (-5)) dX6_told_62 rfl ?_
              refine z_callV1 C (c_X6_refuse l E _ _) ⟨by decide, rfl, rfl⟩ rfl rfl q_X6_51 ⟨by decide, by decide⟩ (Nat.le_of_ble_eq_true rfl) dX6_told_64 (fun v F9 hp => ?_)
              obtain ⟨rfl, e9⟩ := hp
              rw [e9]
              clear e9 F9
              refine z_iret C0 dX6_told_67 ?_
              exact xpt.ref (thO.rf _) (by unfold kTold; rw [if_neg (fun z => z h10), if_pos (by rintro (z | z | z); exact h48 z; exact h53 z; exact absurd (z.symm.trans (ofC_f2 h37)) (by decide))]) (by decide)
      · skip
        refine z_iconst C (v := 1) dX6_told_40 rfl ?_
        refine z_goto C 45 dX6_told_41 (by decide) ?_
        refine z_istore C dX6_told_45 (by decide) ?_
        refine z_iload_n C 5 dX6_told_47 rfl ?_
        refine z_if_eq C 68 dX6_told_48 (by decide) (fun h48 => ?_) (fun h48 => ?_)
        · skip
          obtain ⟨j, nn, len, hj, rfl, rfl, hnl, hlen, hl⟩ := tTr_0 hI h10
          have ej : (nI j).toNatClampNeg = j := nI_clamp (by omega)
          have en : (nI nn).toNatClampNeg = nn := nI_clamp (by omega)
          refine z_aload_n C 2 dX6_told_68 rfl ?_
          refine z_iload_n C 3 dX6_told_69 rfl ?_
          refine z_iload_n C 4 dX6_told_70 rfl ?_
          refine z_callV2 C (c_X6_wrongDeed l E F hI hj (nn := nn) (len := len) (by omega) hlen hl) ⟨by decide, rfl, rfl⟩ rfl rfl q_X6_251 ⟨by decide, by decide⟩ (Nat.le_of_ble_eq_true rfl) dX6_told_71 (fun v F9 hp => ?_)
          obtain ⟨rfl, X, e9, hX⟩ := hp
          rw [e9]
          clear e9 F9
          refine z_iconst C (v := (-1)) dX6_told_74 rfl ?_
          refine z_icmp_eq C 85 dX6_told_75 (by decide) (fun h75 => ?_) (fun h75 => ?_)
          · skip
            refine z_iload C 0 dX6_told_85 rfl ?_
            refine z_if_eq C 106 dX6_told_87 (by decide) (fun h87 => ?_) (fun h87 => ?_)
            · exact absurd h87 (by decide)
            · skip
              obtain ⟨c, hc, ec⟩ := i_sub10 h23 (by rw [← eC]; exact Int32.not_le.mp h37) lC
              have hc6 : c < 6 := by omega
              have zX : nC (wrA (F.1 0).1 (dD F j) nn).2.1 = nC (F.1 0).1 := sk_wrA.C
              refine z_aload_n C 2 dX6_told_90 rfl ?_
              refine xg_0_3 C kf_X6_26 dX6_told_91 ?_
              refine xg_3c C (by decide) kf_X6_152 dX6_told_94 ?_
              refine z_iload_n C 5 dX6_told_97 rfl ?_
              refine z_bipush C (v := 10) dX6_told_98 rfl ?_
              refine z_isub C dX6_told_100 ?_
              refine xa_5 C (by decide) c ec hc6 dX6_told_101 ?_
              refine xg_7 (k := 4) C (by decide) (by first | assumption | omega) (by decide) kf_X6_170 dX6_told_102 ?_
              refine z_iret C0 dX6_told_105 ?_
              have e0 := oI_m1 wrA_lt h75 (by omega)
              exact xpt.ok (by unfold kTold; rw [if_neg (fun z => z h10), if_neg (fun z => z (Or.inl h48)), ej, en, if_pos e0]) (by rw [ej, en]; unfold aTold; rw [if_pos (ofC_t h23 h37), ec, nI_clamp (by omega)]; exact hX.2.2 c (by rw [zX]; exact hc) 4 (by omega)) ⟨X, rfl⟩
          · skip
            refine z_aload_n C 2 dX6_told_78 rfl ?_
            refine z_bipush C (v := (-6)) dX6_told_79 rfl ?_
            refine z_callV1 C (c_X6_refuse l E _ _) ⟨by decide, rfl, rfl⟩ rfl rfl q_X6_51 ⟨by decide, by decide⟩ (Nat.le_of_ble_eq_true rfl) dX6_told_81 (fun v F9 hp => ?_)
            obtain ⟨rfl, e9⟩ := hp
            rw [e9]
            clear e9 F9
            refine z_iret C0 dX6_told_84 ?_
            exact xpt.ref rfu_th (by unfold kTold; rw [if_neg (fun z => z h10), if_neg (fun z => z (Or.inl h48)), ej, en, if_neg (fun z => h75 (by rw [z]; rfl))]) (by decide)
        · skip
          refine z_iload_n C 5 dX6_told_51 rfl ?_
          refine z_iconst C (v := 1) dX6_told_52 rfl ?_
          refine z_icmp_eq C 68 dX6_told_53 (by decide) (fun h53 => ?_) (fun h53 => ?_)
          · skip
            obtain ⟨j, nn, len, hj, rfl, rfl, hnl, hlen, hl⟩ := tTr_0 hI h10
            have ej : (nI j).toNatClampNeg = j := nI_clamp (by omega)
            have en : (nI nn).toNatClampNeg = nn := nI_clamp (by omega)
            refine z_aload_n C 2 dX6_told_68 rfl ?_
            refine z_iload_n C 3 dX6_told_69 rfl ?_
            refine z_iload_n C 4 dX6_told_70 rfl ?_
            refine z_callV2 C (c_X6_wrongDeed l E F hI hj (nn := nn) (len := len) (by omega) hlen hl) ⟨by decide, rfl, rfl⟩ rfl rfl q_X6_251 ⟨by decide, by decide⟩ (Nat.le_of_ble_eq_true rfl) dX6_told_71 (fun v F9 hp => ?_)
            obtain ⟨rfl, X, e9, hX⟩ := hp
            rw [e9]
            clear e9 F9
            refine z_iconst C (v := (-1)) dX6_told_74 rfl ?_
            refine z_icmp_eq C 85 dX6_told_75 (by decide) (fun h75 => ?_) (fun h75 => ?_)
            · skip
              refine z_iload C 0 dX6_told_85 rfl ?_
              refine z_if_eq C 106 dX6_told_87 (by decide) (fun h87 => ?_) (fun h87 => ?_)
              · exact absurd h87 (by decide)
              · skip
                obtain ⟨c, hc, ec⟩ := i_sub10 h23 (by rw [← eC]; exact Int32.not_le.mp h37) lC
                have hc6 : c < 6 := by omega
                have zX : nC (wrA (F.1 0).1 (dD F j) nn).2.1 = nC (F.1 0).1 := sk_wrA.C
                refine z_aload_n C 2 dX6_told_90 rfl ?_
                refine xg_0_3 C kf_X6_26 dX6_told_91 ?_
                refine xg_3c C (by decide) kf_X6_152 dX6_told_94 ?_
                refine z_iload_n C 5 dX6_told_97 rfl ?_
                refine z_bipush C (v := 10) dX6_told_98 rfl ?_
                refine z_isub C dX6_told_100 ?_
                refine xa_5 C (by decide) c ec hc6 dX6_told_101 ?_
                refine xg_7 (k := 4) C (by decide) (by first | assumption | omega) (by decide) kf_X6_170 dX6_told_102 ?_
                refine z_iret C0 dX6_told_105 ?_
                have e0 := oI_m1 wrA_lt h75 (by omega)
                exact xpt.ok (by unfold kTold; rw [if_neg (fun z => z h10), if_neg (fun z => z (Or.inr (Or.inl h53))), ej, en, if_pos e0]) (by rw [ej, en]; unfold aTold; rw [if_pos (ofC_t h23 h37), ec, nI_clamp (by omega)]; exact hX.2.2 c (by rw [zX]; exact hc) 4 (by omega)) ⟨X, rfl⟩
            · skip
              refine z_aload_n C 2 dX6_told_78 rfl ?_
              refine z_bipush C (v := (-6)) dX6_told_79 rfl ?_
              refine z_callV1 C (c_X6_refuse l E _ _) ⟨by decide, rfl, rfl⟩ rfl rfl q_X6_51 ⟨by decide, by decide⟩ (Nat.le_of_ble_eq_true rfl) dX6_told_81 (fun v F9 hp => ?_)
              obtain ⟨rfl, e9⟩ := hp
              rw [e9]
              clear e9 F9
              refine z_iret C0 dX6_told_84 ?_
              exact xpt.ref rfu_th (by unfold kTold; rw [if_neg (fun z => z h10), if_neg (fun z => z (Or.inr (Or.inl h53))), ej, en, if_neg (fun z => h75 (by rw [z]; rfl))]) (by decide)
          · skip
            refine z_iload C 0 dX6_told_56 rfl ?_
            refine z_if_ne C 68 dX6_told_58 (by decide) (fun h58 => ?_) (fun h58 => ?_)
            · skip
              obtain ⟨j, nn, len, hj, rfl, rfl, hnl, hlen, hl⟩ := tTr_0 hI h10
              have ej : (nI j).toNatClampNeg = j := nI_clamp (by omega)
              have en : (nI nn).toNatClampNeg = nn := nI_clamp (by omega)
              refine z_aload_n C 2 dX6_told_68 rfl ?_
              refine z_iload_n C 3 dX6_told_69 rfl ?_
              refine z_iload_n C 4 dX6_told_70 rfl ?_
              refine z_callV2 C (c_X6_wrongDeed l E F hI hj (nn := nn) (len := len) (by omega) hlen hl) ⟨by decide, rfl, rfl⟩ rfl rfl q_X6_251 ⟨by decide, by decide⟩ (Nat.le_of_ble_eq_true rfl) dX6_told_71 (fun v F9 hp => ?_)
              obtain ⟨rfl, X, e9, hX⟩ := hp
              rw [e9]
              clear e9 F9
              refine z_iconst C (v := (-1)) dX6_told_74 rfl ?_
              refine z_icmp_eq C 85 dX6_told_75 (by decide) (fun h75 => ?_) (fun h75 => ?_)
              · skip
                refine z_iload C 0 dX6_told_85 rfl ?_
                refine z_if_eq C 106 dX6_told_87 (by decide) (fun h87 => ?_) (fun h87 => ?_)
                · exact absurd h87 (by decide)
                · skip
                  obtain ⟨c, hc, ec⟩ := i_sub10 h23 (by rw [← eC]; exact Int32.not_le.mp h37) lC
                  have hc6 : c < 6 := by omega
                  have zX : nC (wrA (F.1 0).1 (dD F j) nn).2.1 = nC (F.1 0).1 := sk_wrA.C
                  refine z_aload_n C 2 dX6_told_90 rfl ?_
                  refine xg_0_3 C kf_X6_26 dX6_told_91 ?_
                  refine xg_3c C (by decide) kf_X6_152 dX6_told_94 ?_
                  refine z_iload_n C 5 dX6_told_97 rfl ?_
                  refine z_bipush C (v := 10) dX6_told_98 rfl ?_
                  refine z_isub C dX6_told_100 ?_
                  refine xa_5 C (by decide) c ec hc6 dX6_told_101 ?_
                  refine xg_7 (k := 4) C (by decide) (by first | assumption | omega) (by decide) kf_X6_170 dX6_told_102 ?_
                  refine z_iret C0 dX6_told_105 ?_
                  have e0 := oI_m1 wrA_lt h75 (by omega)
                  exact xpt.ok (by unfold kTold; rw [if_neg (fun z => z h10), if_neg (fun z => z (Or.inr (Or.inr (ofC_t h23 h37)))), ej, en, if_pos e0]) (by rw [ej, en]; unfold aTold; rw [if_pos (ofC_t h23 h37), ec, nI_clamp (by omega)]; exact hX.2.2 c (by rw [zX]; exact hc) 4 (by omega)) ⟨X, rfl⟩
              · skip
                refine z_aload_n C 2 dX6_told_78 rfl ?_
                refine z_bipush C (v := (-6)) dX6_told_79 rfl ?_
                refine z_callV1 C (c_X6_refuse l E _ _) ⟨by decide, rfl, rfl⟩ rfl rfl q_X6_51 ⟨by decide, by decide⟩ (Nat.le_of_ble_eq_true rfl) dX6_told_81 (fun v F9 hp => ?_)
                obtain ⟨rfl, e9⟩ := hp
                rw [e9]
                clear e9 F9
                refine z_iret C0 dX6_told_84 ?_
                exact xpt.ref rfu_th (by unfold kTold; rw [if_neg (fun z => z h10), if_neg (fun z => z (Or.inr (Or.inr (ofC_t h23 h37)))), ej, en, if_neg (fun z => h75 (by rw [z]; rfl))]) (by decide)
            · exact absurd h58 (by decide)
  · skip
    refine z_aload_n C 1 dX6_told_13 rfl ?_
    refine z_iload C 0 dX6_told_14 rfl ?_
    refine z_callV1 C (c_X6_refuse l E _ _) ⟨by decide, rfl, rfl⟩ rfl rfl q_X6_51 ⟨by decide, by decide⟩ (Nat.le_of_ble_eq_true rfl) dX6_told_16 (fun v F9 hp => ?_)
    obtain ⟨rfl, e9⟩ := hp
    rw [e9]
    clear e9 F9
    refine z_iret C0 dX6_told_19 ?_
    exact xpt.ref (thO.rf _) (by unfold kTold; rw [if_pos h10]) h10
set_option maxRecDepth 100000 in
set_option maxHeartbeats 4000000 in
theorem c_X6_done (l : Launch) (E : zE) (F : zF) (hI : XI F) (s n : Int32) : XM l E yX6_done cX6_done 4 (some .int) 7 [.ref (xadr E.2.2.1 (0, 0, 0)), .int (s), .int (n)] (F) (xpt F (kDone (tTr F s n) (wrA (F.1 0).1 (dD F s.toNatClampNeg) n.toNatClampNeg).1) ((wrA (F.1 0).1 (dD F s.toNatClampNeg) n.toNatClampNeg).2.1.1 2) (fun F2 => ∃ X G, F2 = sG (sG F 1 X) 0 (G, (F.1 0).2) ∧ eqv G (wrA (F.1 0).1 (dD F s.toNatClampNeg) n.toNatClampNeg).2.1)) := by
  refine XM.mk kq_X6 (Nat.le_of_ble_eq_true rfl) (fun K s C0 => ?_)
  have C := C0.c
  obtain ⟨hz, hw, hsh⟩ := id hI
  obtain ⟨⟨eS, lS⟩, ⟨eC, lC⟩⟩ := id hz
  refine z_aload_n C 0 dX6_done_0 rfl ?_
  refine z_iload_n C 1 dX6_done_1 rfl ?_
  refine z_iload_n C 2 dX6_done_2 rfl ?_
  refine z_callV2 C (c_X6_toldTrouble l E _ _ _) ⟨by decide, rfl, rfl⟩ rfl rfl q_X6_248 ⟨by decide, by decide⟩ (Nat.le_of_ble_eq_true rfl) dX6_done_3 (fun v F9 hp => ?_)
  obtain ⟨rfl, e9⟩ := hp
  rw [e9]
  clear e9 F9
  refine z_istore_n (i := 3) C dX6_done_6 rfl (by decide) ?_
  refine z_iload_n C 0 dX6_done_7 rfl ?_
  refine z_if_eq C 17 dX6_done_8 (by decide) (fun h8 => ?_) (fun h8 => ?_)
  · skip
    obtain ⟨j, nn, len, hj, rfl, rfl, hnl, hlen, hl⟩ := tTr_0 hI h8
    have ej : (nI j).toNatClampNeg = j := nI_clamp (by omega)
    have en : (nI nn).toNatClampNeg = nn := nI_clamp (by omega)
    refine z_aload_n C 1 dX6_done_17 rfl ?_
    refine z_iload_n C 2 dX6_done_18 rfl ?_
    refine z_iload_n C 3 dX6_done_19 rfl ?_
    refine z_callV2 C (c_X6_wrongDeed l E F hI hj (nn := nn) (len := len) (by omega) hlen hl) ⟨by decide, rfl, rfl⟩ rfl rfl q_X6_251 ⟨by decide, by decide⟩ (Nat.le_of_ble_eq_true rfl) dX6_done_20 (fun v F9 hp => ?_)
    obtain ⟨rfl, X, e9, hX⟩ := hp
    rw [e9]
    clear e9 F9
    refine z_iconst C (v := (-1)) dX6_done_23 rfl ?_
    refine z_icmp_eq C 34 dX6_done_24 (by decide) (fun h24 => ?_) (fun h24 => ?_)
    · skip
      have zX : gz X.1 := hX.z (sk_wrA.z hz)
      refine z_aload_n C 1 dX6_done_34 rfl ?_
      refine xg_0_2 C kf_X6_22 dX6_done_35 ?_
      refine z_aload_n C 1 dX6_done_38 rfl ?_
      refine xg_0_3 C kf_X6_26 dX6_done_39 ?_
      refine z_callV1 C (cg_X1_takeAll l E (sG F 1 X) (gi := 0) (by decide) (gj := 1) (by decide) (by decide) zX) ⟨(by decide), rfl⟩ rfl rfl q_X6_192 ⟨by decide, by decide⟩ (Nat.le_of_ble_eq_true rfl) dX6_done_42 (fun v F9 hp => ?_)
      obtain ⟨rfl, e9⟩ := hp
      rw [e9]
      clear e9 F9
      refine z_aload_n C 1 dX6_done_45 rfl ?_
      refine xg_0_2 C kf_X6_22 dX6_done_46 ?_
      refine xg_3 (k := 2) C (by decide) (by decide) kf_X6_254 dX6_done_49 ?_
      refine z_iret C0 dX6_done_52 ?_
      have e0 := oI_m1 wrA_lt h24 (by omega)
      have eG : eqv (layG X.1 (F.1 0).1) (wrA (F.1 0).1 (dD F j) nn).2.1 := (lay_eqv X.1 (F.1 0).1).tr hX
      exact xpt.ok (by unfold kDone; rw [if_neg (fun z => z h8), ej, en, if_pos e0]) (by rw [ej, en]; exact eG.1 2 (by omega)) (by rw [ej, en]; exact ⟨X, layG X.1 (F.1 0).1, rfl, eG⟩)
    · skip
      refine z_aload_n C 1 dX6_done_27 rfl ?_
      refine z_bipush C (v := (-6)) dX6_done_28 rfl ?_
      refine z_callV1 C (c_X6_refuse l E _ _) ⟨by decide, rfl, rfl⟩ rfl rfl q_X6_51 ⟨by decide, by decide⟩ (Nat.le_of_ble_eq_true rfl) dX6_done_30 (fun v F9 hp => ?_)
      obtain ⟨rfl, e9⟩ := hp
      rw [e9]
      clear e9 F9
      refine z_iret C0 dX6_done_33 ?_
      exact xpt.ref rfu_th (by unfold kDone; rw [if_neg (fun z => z h8), ej, en, if_neg (fun z => h24 (by rw [z]; rfl))]) (by decide)
  · skip
    refine z_aload_n C 1 dX6_done_11 rfl ?_
    refine z_iload_n C 0 dX6_done_12 rfl ?_
    refine z_callV1 C (c_X6_refuse l E _ _) ⟨by decide, rfl, rfl⟩ rfl rfl q_X6_51 ⟨by decide, by decide⟩ (Nat.le_of_ble_eq_true rfl) dX6_done_13 (fun v F9 hp => ?_)
    obtain ⟨rfl, e9⟩ := hp
    rw [e9]
    clear e9 F9
    refine z_iret C0 dX6_done_16 ?_
    exact xpt.ref (thO.rf _) (by unfold kDone; rw [if_pos h8]) h8
