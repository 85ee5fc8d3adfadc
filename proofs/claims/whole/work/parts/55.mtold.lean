/-! the reference: draws, told afternoons -/
theorem i_of32 (x : Int32) : ∃ n, n < 2 ^ 32 ∧ x = nI n := ⟨x.toBitVec.toNat, x.toBitVec.isLt, Int32.toBitVec_inj.mp (by show _ = BitVec.ofNat 32 _; simp)⟩
theorem drawG_7 {Y : zGf} : (drawG Y).1.1 7 = nextSeed (Y.1.1 7) := rfl
theorem drawD_1 {g : zGc} {c : Nat} (h : draw4 (g.1 7) = 1) : drawD g c = (if can g c 1 = true then 1 else 0) := by
  unfold drawD
  rw [h]
  rfl
theorem drawD_2 {g : zGc} {c : Nat} (h : draw4 (g.1 7) = 2) : drawD g c = (if can g c 2 = true then 2 else 0) := by
  unfold drawD
  rw [h]
  rfl
theorem draw4_r (x : Int32) : draw4 x = 0 ∨ draw4 x = 1 ∨ draw4 x = 2 ∨ draw4 x = 3 := by
  obtain ⟨n, hn, rfl⟩ := i_of32 x
  have e1 : drawR (nI n) = nI (n / 2 ^ 16) := pk_ushrN hn 16 16 (by decide)
  have h2 : n / 2 ^ 16 < 65536 := by omega
  have e2 : draw4 (nI n) = nI (n / 2 ^ 16 % 4) := by
    unfold draw4
    rw [e1]
    exact pk_rem (d := 4) (by omega) (by omega) (by omega)
  rw [e2]
  have h4 : n / 2 ^ 16 % 4 = 0 ∨ n / 2 ^ 16 % 4 = 1 ∨ n / 2 ^ 16 % 4 = 2 ∨ n / 2 ^ 16 % 4 = 3 := by omega
  rcases h4 with h | h | h | h <;> rw [h]
  · exact Or.inl rfl
  · exact Or.inr (Or.inl rfl)
  · exact Or.inr (Or.inr (Or.inl rfl))
  · exact Or.inr (Or.inr (Or.inr rfl))
theorem drawD_o {g : zGc} {c : Nat} {q : Int32} (h : draw4 (g.1 7) = q) (h1 : ¬ q = 1) (h2 : ¬ q = 2) : drawD g c = deedBy g q c := by
  rcases draw4_r (g.1 7) with e | e | e | e
  · unfold drawD
    rw [if_pos e, ← h, e]
  · exact absurd (h.symm.trans e) h1
  · exact absurd (h.symm.trans e) h2
  · unfold drawD
    rw [e, ← h, e]
    rfl
theorem rg_kidsD {N : Nat} {G : zGf} (hz : gz G.1) (h : rg N G.1) : ∀ {n : Nat}, n ≤ nC G.1 → N + n ≤ 134217728 → rg (N + n) (kidsD n G).1
  | 0, _, _ => h
  | n + 1, hn, hN => by
    have ih := rg_kidsD hz h (n := n) (by omega) (by omega)
    have hk : sk G.1 (drawG (kidsD n G)).1 := sk_kidsD.tr sk_drawG
    have hc : n < nC (drawG (kidsD n G)).1 := by rw [hk.C]; omega
    have r1 : rg (N + n) (drawG (kidsD n G)).1 := rg_k ih (by decide)
    exact rg_makes (N := N + n) (hk.z hz) r1 (by omega) hc (drawD_can (hk.z hz) r1 hc)
theorem rg_endM {N : Nat} {G : zGf} (h : rg N G.1) : rg N (endM G).1 := rg_k (rg_endN h) (by decide)
theorem rg_minD {N : Nat} {G : zGf} (hz : gz G.1) (h : rg N G.1) (hN : N + 6 ≤ 134217728) : rg (N + 6) (minD G).1 := by
  have h6 := hz.2.2
  have hk := rg_kidsD (G := begM G) hz h (n := nC G.1) (Nat.le_refl _) (by omega)
  exact rg_endM (hk.up (by omega))
theorem rg_minsD {N : Nat} {g : zGc} (hz : gz g) (h : rg N g) : ∀ {n : Nat}, N + 6 * n ≤ 134217728 → rg (N + 6 * n) (minsD n (g, fun _ => 0, fun _ => 0)).1
  | 0, _ => h
  | n + 1, hN => by
    have ih := rg_minsD hz h (n := n) (by omega)
    exact rg_minD (G := minsD n (g, fun _ => 0, fun _ => 0)) (sk_minsD.z hz) ih (by omega)
def dM (M : zM) (j i : Nat) : Int32 := (M.2.2.2 25 (160 * j + i)).toInt32
theorem mt_lt {m n t c : Nat} (h : t < n / m) (hc : c < m) : m * t + c < n := by
  have h1 : m * (t + 1) ≤ m * (n / m) := Nat.mul_le_mul_left m h
  have h2 := Nat.mul_div_le n m
  have h3 : m * (t + 1) = m * t + m := Nat.mul_succ m t
  omega
theorem m_pos {x : Int32} {m : Nat} (e : x = nI m) (h : ¬ x = 0) : 0 < m := by
  rcases Nat.eq_zero_or_pos m with q | q
  · exact absurd (e.trans (by rw [q]; rfl)) h
  · exact q
theorem m_zero {x : Int32} {m : Nat} (e : x = nI m) (hm : m ≤ 6) (h : x = 0) : m = 0 := by
  rw [e] at h
  exact (nI_eq (b := 0) (by omega) (by omega)).mp h
theorem sk_of {a b c : zGc} (h : sk a b) (h2 : sk a c) : sk b c := ⟨h2.1.trans h.1.symm, h2.2.1.trans h.2.1.symm, fun q => (h2.2.2 q).trans (h.2.2 q).symm⟩
theorem wrA_e {g : zGc} {d : Nat → Int32} {n : Nat} {Y : zGf} (h : wrM d (nC g) (n / nC g) (g, fun _ => 0, fun _ => 0) = (none, Y)) : wrA g d n = (none, Y) := by
  unfold wrA
  by_cases hm : nC g = 0
  · rw [if_pos hm]
    rw [hm, Nat.div_zero] at h
    exact h
  · rw [if_neg hm]; exact h
set_option maxRecDepth 100000 in
set_option maxHeartbeats 4000000 in
theorem c_X7_draw (l : Launch) (E : zE) (M : zM) : MM l E yX7_draw cX7_draw 2 (some .int) 1 [.ref (madr E.2.2.1 (0, 0, 0)), .int (4)] (M) (fun v M2 => v = some (.int (draw4 (nextSeed (M.1.1 7)))) ∧ M2 = mG M (gSc M.1 7 (nextSeed (M.1.1 7)))) := by
  refine MM.mk kq_X7 (Nat.le_of_ble_eq_true rfl) (fun K s C0 => ?_)
  have C := C0.c
  refine z_aload_n C 0 dX7_draw_0 rfl ?_
  refine z_aload_n C 0 dX7_draw_1 rfl ?_
  refine mg_7 C dX7_draw_2 ?_
  refine z_ldcw C dX7_draw_5 q_X7_290 ?_
  refine z_imul C dX7_draw_8 ?_
  refine z_sipush C (v := 12345) dX7_draw_9 rfl ?_
  refine z_iadd C dX7_draw_12 ?_
  refine z_top (nextSeed (M.1.1 7)) rfl ?_
  refine mp_7 C dX7_draw_13 ?_
  refine z_eq (P2 := MP E (mG M (gSc M.1 7 (nextSeed (M.1.1 7)))) s) rfl rfl rfl rfl ?_
  refine z_aload_n C 0 dX7_draw_16 rfl ?_
  refine mg_7 C dX7_draw_17 ?_
  refine z_top (nextSeed (M.1.1 7)) rfl ?_
  refine z_bipush C (v := 16) dX7_draw_20 rfl ?_
  refine z_iushr C dX7_draw_22 rfl ?_
  refine z_top (drawR (nextSeed (M.1.1 7))) rfl ?_
  refine z_iload_n C 1 dX7_draw_23 rfl ?_
  refine z_irem C dX7_draw_24 (by decide) ?_
  refine z_top (draw4 (nextSeed (M.1.1 7))) rfl ?_
  refine z_iret C0 dX7_draw_25 ?_
  exact ⟨rfl, rfl⟩
set_option maxRecDepth 100000 in
set_option maxHeartbeats 4000000 in
theorem lp_X7_aft_38 {l : Launch} {E : zE} {K : zK} {s : State} (M : zM) (hz : gz M.1) {N : Nat} (h : rg N M.1) (hN : N ≤ 100000000) (n9 : Int32) {n t : Nat} (hn : n ≤ 240) (ht2 : t < n) {B : Nat → Int32} (hB : ∀ s, s < nS (minsD t (M.1, fun _ => 0, fun _ => 0)).1 → B s = (minsD t (M.1, fun _ => 0, fun _ => 0)).1.2.1 s 3) (rT : rg (N + 6 * t) (minsD t (M.1, fun _ => 0, fun _ => 0)).1) (hout : ∀ B2, Z K (MP E (mB M (minsD (t + 1) (M.1, fun _ => 0, fun _ => 0)).1 B2) s) 26 [(0, .ref (madr E.2.2.1 (0, 0, 0))), (1, .int (nI n)), (2, .int (M.1.1 6)), (3, .int (nI (t + 1)))] []) (C0 : MR l E K cX7_afternoon RX7 6 s 7 (some .int) (mpo M (kAft n9) ((minsD n9.toNatClampNeg (M.1, fun _ => 0, fun _ => 0)).1.1 6 - M.1.1 6) (fun M2 => ∃ B, M2 = mB M (minsD n9.toNatClampNeg (M.1, fun _ => 0, fun _ => 0)).1 B))) : ∀ (n2 : Nat) (c : Nat), (nC M.1 - c < n2) → (c ≤ nC M.1) → (rg (N + 6 * t + c) (kidsD c (begM (minsD t (M.1, fun _ => 0, fun _ => 0)))).1) → (soldSo (minsD t (M.1, fun _ => 0, fun _ => 0)).1 c (kidsD c (begM (minsD t (M.1, fun _ => 0, fun _ => 0))))) → Z K (MP E (mB M (kidsD c (begM (minsD t (M.1, fun _ => 0, fun _ => 0)))).1 B) s) 38 [(0, .ref (madr E.2.2.1 (0, 0, 0))), (1, .int (nI n)), (2, .int (M.1.1 6)), (3, .int (nI t)), (4, .int (nI c))] [] := by
  have C := C0.c
  intro n2
  induction n2 with
  | zero => intro c hk hkl rI hso; exact absurd hk (Nat.not_lt_zero _)
  | succ n2 ih =>
    intro c hk hkl rI hso
    obtain ⟨⟨eS, lS⟩, ⟨eC, lC⟩⟩ := id hz
    have hsm : sms M.1 := h.sm (by omega)
    have sI : sk M.1 (kidsD c (begM (minsD t (M.1, fun _ => 0, fun _ => 0)))).1 := (sk_minsD (n := t) (G := (M.1, fun _ => 0, fun _ => 0))).tr (sk_kidsD (G := begM (minsD t (M.1, fun _ => 0, fun _ => 0))) (n := c))
    have sT : sk M.1 (minsD t (M.1, fun _ => 0, fun _ => 0)).1 := sk_minsD (n := t) (G := (M.1, fun _ => 0, fun _ => 0))
    refine z_iload C 4 dX7_afternoon_38 rfl ?_
    refine z_aload_n C 0 dX7_afternoon_40 rfl ?_
    refine mg_1 C dX7_afternoon_41 ?_
    refine z_top (nI (nC M.1)) (by show (kidsD c (begM (minsD t (M.1, fun _ => 0, fun _ => 0)))).1.1 1 = _; rw [sI.2.1]; exact eC) ?_
    refine z_icmp_ge C 113 dX7_afternoon_44 (by decide) (fun h44 => ?_) (fun h44 => ?_)
    · skip
      have ec : c = nC M.1 := by
        rcases Nat.lt_or_ge c (nC M.1) with q | q
        · exact absurd h44 (nI_ge q (by omega))
        · omega
      have zI : gz (kidsD c (begM (minsD t (M.1, fun _ => 0, fun _ => 0)))).1 := sI.z hz
      refine z_aload_n C 0 dX7_afternoon_113 rfl ?_
      refine z_callV0 C (c_X7_ends l E (mB M (kidsD c (begM (minsD t (M.1, fun _ => 0, fun _ => 0)))).1 B) zI) ⟨rfl, rfl⟩ rfl rfl q_X7_240 ⟨by decide, by decide⟩ (Nat.le_of_ble_eq_true rfl) dX7_afternoon_114 (fun v F9 hp => ?_)
      obtain ⟨rfl, e9⟩ := hp
      rw [e9]
      clear e9 F9
      refine z_iinc C (v := nI (t + 1)) 3 dX7_afternoon_117 rfl (nI_1 _) (by decide) ?_
      refine z_goto C 26 dX7_afternoon_120 (by decide) ?_
      refine z_pick [1, 2, 3, 0] rfl ?_
      subst ec
      have sK : sk (minsD t (M.1, fun _ => 0, fun _ => 0)).1 (kidsD (nC M.1) (begM (minsD t (M.1, fun _ => 0, fun _ => 0)))).1 := sk_kidsD (G := begM (minsD t (M.1, fun _ => 0, fun _ => 0)))
      have hk2 : (kidsD (nC M.1) (begM (minsD t (M.1, fun _ => 0, fun _ => 0)))).1.1 2 = (minsD t (M.1, fun _ => 0, fun _ => 0)).1.1 2 := kidsD_2 (G := begM (minsD t (M.1, fun _ => 0, fun _ => 0))) _
      have e := ed_endM (Y := (kidsD (nC M.1) (begM (minsD t (M.1, fun _ => 0, fun _ => 0))))) (B := B) hB sK hk2 hso (by omega) rI
      have e1 : (minsD (t + 1) (M.1, fun _ => 0, fun _ => 0)).1 = (endM (kidsD (nC M.1) (begM (minsD t (M.1, fun _ => 0, fun _ => 0))))).1 := by
        show (endM (kidsD (nC (minsD t (M.1, fun _ => 0, fun _ => 0)).1) (begM (minsD t (M.1, fun _ => 0, fun _ => 0))))).1 = _
        rw [show nC (minsD t (M.1, fun _ => 0, fun _ => 0)).1 = nC M.1 from sT.C]
      have e2 : mG (mB M (kidsD (nC M.1) (begM (minsD t (M.1, fun _ => 0, fun _ => 0)))).1 B) (gSc (edN B (nS (kidsD (nC M.1) (begM (minsD t (M.1, fun _ => 0, fun _ => 0)))).1) (kidsD (nC M.1) (begM (minsD t (M.1, fun _ => 0, fun _ => 0)))).1) 2 ((kidsD (nC M.1) (begM (minsD t (M.1, fun _ => 0, fun _ => 0)))).1.1 2 + 1)) = mB M (minsD (t + 1) (M.1, fun _ => 0, fun _ => 0)).1 B := by
        rw [e1, ← e, sK.S, hk2]
        rfl
      exact z_eq (congrArg (fun z => MP E z s) e2) rfl rfl rfl (hout B)
    · skip
      have hc2 : c < nC M.1 := by
        rcases Nat.lt_or_ge c (nC M.1) with q | q
        · exact q
        · exact absurd (nI_le q (by omega)) h44
      have hcI : c < nC (kidsD c (begM (minsD t (M.1, fun _ => 0, fun _ => 0)))).1 := by rw [sI.C]; exact hc2
      have zI : gz (kidsD c (begM (minsD t (M.1, fun _ => 0, fun _ => 0)))).1 := sI.z hz
      refine z_aload_n C 0 dX7_afternoon_47 rfl ?_
      refine z_iconst C (v := 4) dX7_afternoon_48 rfl ?_
      refine z_callV1 C (c_X7_draw l E (mB M (kidsD c (begM (minsD t (M.1, fun _ => 0, fun _ => 0)))).1 B)) ⟨rfl, rfl⟩ rfl rfl q_X7_291 ⟨by decide, by decide⟩ (Nat.le_of_ble_eq_true rfl) dX7_afternoon_49 (fun v F9 hp => ?_)
      obtain ⟨rfl, e9⟩ := hp
      rw [e9.trans (show _ = (mB M (drawG (kidsD c (begM (minsD t (M.1, fun _ => 0, fun _ => 0))))).1 B) from rfl)]
      clear e9 F9
      have zJ : gz (drawG (kidsD c (begM (minsD t (M.1, fun _ => 0, fun _ => 0))))).1 := sk_drawG.z zI
      have rJ : rg (N + 6 * t + c) (drawG (kidsD c (begM (minsD t (M.1, fun _ => 0, fun _ => 0))))).1 := rg_k rI (by decide)
      have mJ : sms (drawG (kidsD c (begM (minsD t (M.1, fun _ => 0, fun _ => 0))))).1 := rJ.sm (by omega)
      have hcJ : c < nC (drawG (kidsD c (begM (minsD t (M.1, fun _ => 0, fun _ => 0))))).1 := by rw [sk_drawG.C]; exact hcI
      have e4 : (drawG (kidsD c (begM (minsD t (M.1, fun _ => 0, fun _ => 0))))).1.1 7 = nextSeed ((kidsD c (begM (minsD t (M.1, fun _ => 0, fun _ => 0)))).1.1 7) := drawG_7
      generalize ed4 : draw4 (nextSeed ((mB M (kidsD c (begM (minsD t (M.1, fun _ => 0, fun _ => 0)))).1 B).1.1 7)) = q4
      have hd4 : draw4 ((drawG (kidsD c (begM (minsD t (M.1, fun _ => 0, fun _ => 0))))).1.1 7) = q4 := by rw [e4]; exact ed4
      refine z_istore C dX7_afternoon_52 (by decide) ?_
      refine z_iload C 0 dX7_afternoon_54 rfl ?_
      refine z_iconst C (v := 1) dX7_afternoon_56 rfl ?_
      refine z_icmp_ne C 64 dX7_afternoon_57 (by decide) (fun h57 => ?_) (fun h57 => ?_)
      · skip
        refine z_iload C 0 dX7_afternoon_64 rfl ?_
        refine z_iconst C (v := 2) dX7_afternoon_66 rfl ?_
        refine z_icmp_ne C 74 dX7_afternoon_67 (by decide) (fun h67 => ?_) (fun h67 => ?_)
        · skip
          refine z_aload_n C 1 dX7_afternoon_74 rfl ?_
          refine z_iload C 0 dX7_afternoon_75 rfl ?_
          refine z_iload C 5 dX7_afternoon_77 rfl ?_
          refine z_callV2 C (c_X7_ruled l E (mB M (drawG (kidsD c (begM (minsD t (M.1, fun _ => 0, fun _ => 0))))).1 B) zJ mJ rJ hcJ q4) ⟨rfl, rfl⟩ rfl rfl q_X7_237 ⟨by decide, by decide⟩ (Nat.le_of_ble_eq_true rfl) dX7_afternoon_79 (fun v F9 hp => ?_)
          obtain ⟨rfl, e9⟩ := hp
          rw [e9]
          clear e9 F9
          refine z_istore C dX7_afternoon_82 (by decide) ?_
          refine z_aload_n C 2 dX7_afternoon_84 rfl ?_
          refine z_iload C 6 dX7_afternoon_85 rfl ?_
          refine z_aload_n C 2 dX7_afternoon_87 rfl ?_
          refine z_iload C 6 dX7_afternoon_88 rfl ?_
          refine z_iload C 0 dX7_afternoon_90 rfl ?_
          refine z_callV2 C (c_X7_mayBe l E (mB M (drawG (kidsD c (begM (minsD t (M.1, fun _ => 0, fun _ => 0))))).1 B) zJ mJ (by omega) _) ⟨rfl, rfl⟩ rfl rfl q_X7_170 ⟨by decide, by decide⟩ (Nat.le_of_ble_eq_true rfl) dX7_afternoon_92 (fun v F9 hp => ?_)
          obtain ⟨rfl, e9⟩ := hp
          rw [e9]
          clear e9 F9
          refine z_if_eq C 103 dX7_afternoon_95 (by decide) (fun h95 => ?_) (fun h95 => ?_)
          · exact absurd ((deed_can zJ rJ hcJ).symm.trans (bI_0 h95)) (by decide)
          · skip
            have h95 := bI_1 h95
            refine z_iload C 0 dX7_afternoon_98 rfl ?_
            refine z_goto C 104 dX7_afternoon_100 (by decide) ?_
            refine z_top (drawD (drawG (kidsD c (begM (minsD t (M.1, fun _ => 0, fun _ => 0))))).1 c) (drawD_o hd4 h57 h67).symm ?_
            refine z_callV2 C (c_X7_makes l E (mB M (drawG (kidsD c (begM (minsD t (M.1, fun _ => 0, fun _ => 0))))).1 B) zJ mJ rJ hcJ (d := drawD (drawG (kidsD c (begM (minsD t (M.1, fun _ => 0, fun _ => 0))))).1 c) drawD_dd) ⟨rfl, rfl⟩ rfl rfl q_X7_187 ⟨by decide, by decide⟩ (Nat.le_of_ble_eq_true rfl) dX7_afternoon_104 (fun v F9 hp => ?_)
            obtain ⟨rfl, e9⟩ := hp
            rw [e9]
            clear e9 F9
            refine z_iinc C (v := nI (c + 1)) 6 dX7_afternoon_107 rfl (nI_1 _) (by decide) ?_
            refine z_goto C 38 dX7_afternoon_110 (by decide) ?_
            refine z_pick [3, 4, 5, 6, 0] rfl ?_
            exact ih (c + 1) (by omega) (by omega) (rg_makes (N := N + 6 * t + c) zJ rJ (by omega) hcJ (drawD_can zJ rJ hcJ)) (so_perf (so_drawG hso) ((sk_kidsD (G := begM (minsD t (M.1, fun _ => 0, fun _ => 0))) (n := c)).tr sk_drawG) (sT.z hz) drawD_dd)
        · skip
          refine z_iconst C (v := 2) dX7_afternoon_70 rfl ?_
          refine z_goto C 82 dX7_afternoon_71 (by decide) ?_
          refine z_istore C dX7_afternoon_82 (by decide) ?_
          refine z_aload_n C 2 dX7_afternoon_84 rfl ?_
          refine z_iload C 6 dX7_afternoon_85 rfl ?_
          refine z_aload_n C 2 dX7_afternoon_87 rfl ?_
          refine z_iload C 6 dX7_afternoon_88 rfl ?_
          refine z_iload C 0 dX7_afternoon_90 rfl ?_
          refine z_callV2 C (c_X7_mayBe l E (mB M (drawG (kidsD c (begM (minsD t (M.1, fun _ => 0, fun _ => 0))))).1 B) zJ mJ (by omega) _) ⟨rfl, rfl⟩ rfl rfl q_X7_170 ⟨by decide, by decide⟩ (Nat.le_of_ble_eq_true rfl) dX7_afternoon_92 (fun v F9 hp => ?_)
          obtain ⟨rfl, e9⟩ := hp
          rw [e9]
          clear e9 F9
          refine z_if_eq C 103 dX7_afternoon_95 (by decide) (fun h95 => ?_) (fun h95 => ?_)
          · skip
            have h95 := bI_0 h95
            refine z_iconst C (v := 0) dX7_afternoon_103 rfl ?_
            refine z_top (drawD (drawG (kidsD c (begM (minsD t (M.1, fun _ => 0, fun _ => 0))))).1 c) ((drawD_2 (hd4.trans h67)).trans (if_neg (show ¬ can (drawG (kidsD c (begM (minsD t (M.1, fun _ => 0, fun _ => 0))))).1 c 2 = true from fun z => absurd (z.symm.trans h95) (by decide)))).symm ?_
            refine z_callV2 C (c_X7_makes l E (mB M (drawG (kidsD c (begM (minsD t (M.1, fun _ => 0, fun _ => 0))))).1 B) zJ mJ rJ hcJ (d := drawD (drawG (kidsD c (begM (minsD t (M.1, fun _ => 0, fun _ => 0))))).1 c) drawD_dd) ⟨rfl, rfl⟩ rfl rfl q_X7_187 ⟨by decide, by decide⟩ (Nat.le_of_ble_eq_true rfl) dX7_afternoon_104 (fun v F9 hp => ?_)
            obtain ⟨rfl, e9⟩ := hp
            rw [e9]
            clear e9 F9
            refine z_iinc C (v := nI (c + 1)) 6 dX7_afternoon_107 rfl (nI_1 _) (by decide) ?_
            refine z_goto C 38 dX7_afternoon_110 (by decide) ?_
            refine z_pick [3, 4, 5, 6, 0] rfl ?_
            exact ih (c + 1) (by omega) (by omega) (rg_makes (N := N + 6 * t + c) zJ rJ (by omega) hcJ (drawD_can zJ rJ hcJ)) (so_perf (so_drawG hso) ((sk_kidsD (G := begM (minsD t (M.1, fun _ => 0, fun _ => 0))) (n := c)).tr sk_drawG) (sT.z hz) drawD_dd)
          · skip
            have h95 := bI_1 h95
            refine z_iload C 0 dX7_afternoon_98 rfl ?_
            refine z_goto C 104 dX7_afternoon_100 (by decide) ?_
            refine z_top (drawD (drawG (kidsD c (begM (minsD t (M.1, fun _ => 0, fun _ => 0))))).1 c) ((drawD_2 (hd4.trans h67)).trans (if_pos h95)).symm ?_
            refine z_callV2 C (c_X7_makes l E (mB M (drawG (kidsD c (begM (minsD t (M.1, fun _ => 0, fun _ => 0))))).1 B) zJ mJ rJ hcJ (d := drawD (drawG (kidsD c (begM (minsD t (M.1, fun _ => 0, fun _ => 0))))).1 c) drawD_dd) ⟨rfl, rfl⟩ rfl rfl q_X7_187 ⟨by decide, by decide⟩ (Nat.le_of_ble_eq_true rfl) dX7_afternoon_104 (fun v F9 hp => ?_)
            obtain ⟨rfl, e9⟩ := hp
            rw [e9]
            clear e9 F9
            refine z_iinc C (v := nI (c + 1)) 6 dX7_afternoon_107 rfl (nI_1 _) (by decide) ?_
            refine z_goto C 38 dX7_afternoon_110 (by decide) ?_
            refine z_pick [3, 4, 5, 6, 0] rfl ?_
            exact ih (c + 1) (by omega) (by omega) (rg_makes (N := N + 6 * t + c) zJ rJ (by omega) hcJ (drawD_can zJ rJ hcJ)) (so_perf (so_drawG hso) ((sk_kidsD (G := begM (minsD t (M.1, fun _ => 0, fun _ => 0))) (n := c)).tr sk_drawG) (sT.z hz) drawD_dd)
      · skip
        refine z_iconst C (v := 1) dX7_afternoon_60 rfl ?_
        refine z_goto C 82 dX7_afternoon_61 (by decide) ?_
        refine z_istore C dX7_afternoon_82 (by decide) ?_
        refine z_aload_n C 2 dX7_afternoon_84 rfl ?_
        refine z_iload C 6 dX7_afternoon_85 rfl ?_
        refine z_aload_n C 2 dX7_afternoon_87 rfl ?_
        refine z_iload C 6 dX7_afternoon_88 rfl ?_
        refine z_iload C 0 dX7_afternoon_90 rfl ?_
        refine z_callV2 C (c_X7_mayBe l E (mB M (drawG (kidsD c (begM (minsD t (M.1, fun _ => 0, fun _ => 0))))).1 B) zJ mJ (by omega) _) ⟨rfl, rfl⟩ rfl rfl q_X7_170 ⟨by decide, by decide⟩ (Nat.le_of_ble_eq_true rfl) dX7_afternoon_92 (fun v F9 hp => ?_)
        obtain ⟨rfl, e9⟩ := hp
        rw [e9]
        clear e9 F9
        refine z_if_eq C 103 dX7_afternoon_95 (by decide) (fun h95 => ?_) (fun h95 => ?_)
        · skip
          have h95 := bI_0 h95
          refine z_iconst C (v := 0) dX7_afternoon_103 rfl ?_
          refine z_top (drawD (drawG (kidsD c (begM (minsD t (M.1, fun _ => 0, fun _ => 0))))).1 c) ((drawD_1 (hd4.trans h57)).trans (if_neg (show ¬ can (drawG (kidsD c (begM (minsD t (M.1, fun _ => 0, fun _ => 0))))).1 c 1 = true from fun z => absurd (z.symm.trans h95) (by decide)))).symm ?_
          refine z_callV2 C (c_X7_makes l E (mB M (drawG (kidsD c (begM (minsD t (M.1, fun _ => 0, fun _ => 0))))).1 B) zJ mJ rJ hcJ (d := drawD (drawG (kidsD c (begM (minsD t (M.1, fun _ => 0, fun _ => 0))))).1 c) drawD_dd) ⟨rfl, rfl⟩ rfl rfl q_X7_187 ⟨by decide, by decide⟩ (Nat.le_of_ble_eq_true rfl) dX7_afternoon_104 (fun v F9 hp => ?_)
          obtain ⟨rfl, e9⟩ := hp
          rw [e9]
          clear e9 F9
          refine z_iinc C (v := nI (c + 1)) 6 dX7_afternoon_107 rfl (nI_1 _) (by decide) ?_
          refine z_goto C 38 dX7_afternoon_110 (by decide) ?_
          refine z_pick [3, 4, 5, 6, 0] rfl ?_
          exact ih (c + 1) (by omega) (by omega) (rg_makes (N := N + 6 * t + c) zJ rJ (by omega) hcJ (drawD_can zJ rJ hcJ)) (so_perf (so_drawG hso) ((sk_kidsD (G := begM (minsD t (M.1, fun _ => 0, fun _ => 0))) (n := c)).tr sk_drawG) (sT.z hz) drawD_dd)
        · skip
          have h95 := bI_1 h95
          refine z_iload C 0 dX7_afternoon_98 rfl ?_
          refine z_goto C 104 dX7_afternoon_100 (by decide) ?_
          refine z_top (drawD (drawG (kidsD c (begM (minsD t (M.1, fun _ => 0, fun _ => 0))))).1 c) ((drawD_1 (hd4.trans h57)).trans (if_pos h95)).symm ?_
          refine z_callV2 C (c_X7_makes l E (mB M (drawG (kidsD c (begM (minsD t (M.1, fun _ => 0, fun _ => 0))))).1 B) zJ mJ rJ hcJ (d := drawD (drawG (kidsD c (begM (minsD t (M.1, fun _ => 0, fun _ => 0))))).1 c) drawD_dd) ⟨rfl, rfl⟩ rfl rfl q_X7_187 ⟨by decide, by decide⟩ (Nat.le_of_ble_eq_true rfl) dX7_afternoon_104 (fun v F9 hp => ?_)
          obtain ⟨rfl, e9⟩ := hp
          rw [e9]
          clear e9 F9
          refine z_iinc C (v := nI (c + 1)) 6 dX7_afternoon_107 rfl (nI_1 _) (by decide) ?_
          refine z_goto C 38 dX7_afternoon_110 (by decide) ?_
          refine z_pick [3, 4, 5, 6, 0] rfl ?_
          exact ih (c + 1) (by omega) (by omega) (rg_makes (N := N + 6 * t + c) zJ rJ (by omega) hcJ (drawD_can zJ rJ hcJ)) (so_perf (so_drawG hso) ((sk_kidsD (G := begM (minsD t (M.1, fun _ => 0, fun _ => 0))) (n := c)).tr sk_drawG) (sT.z hz) drawD_dd)
set_option maxRecDepth 100000 in
set_option maxHeartbeats 4000000 in
theorem lp_X7_aft_26 {l : Launch} {E : zE} {K : zK} {s : State} (M : zM) (hz : gz M.1) {N : Nat} (h : rg N M.1) (hN : N ≤ 100000000) (n9 : Int32) {n : Nat} (en0 : n9 = nI n) (hn : n ≤ 240) (hk0 : kAft n9 = 0) (C0 : MR l E K cX7_afternoon RX7 6 s 7 (some .int) (mpo M (kAft n9) ((minsD n9.toNatClampNeg (M.1, fun _ => 0, fun _ => 0)).1.1 6 - M.1.1 6) (fun M2 => ∃ B, M2 = mB M (minsD n9.toNatClampNeg (M.1, fun _ => 0, fun _ => 0)).1 B))) : ∀ (n2 : Nat) (t : Nat) (B0 : Nat → Int32), (n - t < n2) → (t ≤ n) → Z K (MP E (mB M (minsD t (M.1, fun _ => 0, fun _ => 0)).1 B0) s) 26 [(0, .ref (madr E.2.2.1 (0, 0, 0))), (1, .int (nI n)), (2, .int (M.1.1 6)), (3, .int (nI t))] [] := by
  have C := C0.c
  intro n2
  induction n2 with
  | zero => intro t B0 hk htl; exact absurd hk (Nat.not_lt_zero _)
  | succ n2 ih =>
    intro t B0 hk htl
    obtain ⟨⟨eS, lS⟩, ⟨eC, lC⟩⟩ := id hz
    have hsm : sms M.1 := h.sm (by omega)
    have sT : sk M.1 (minsD t (M.1, fun _ => 0, fun _ => 0)).1 := sk_minsD (n := t) (G := (M.1, fun _ => 0, fun _ => 0))
    refine z_iload_n C 3 dX7_afternoon_26 rfl ?_
    refine z_iload_n C 1 dX7_afternoon_27 rfl ?_
    refine z_icmp_ge C 123 dX7_afternoon_28 (by decide) (fun h28 => ?_) (fun h28 => ?_)
    · skip
      refine z_aload_n C 0 dX7_afternoon_123 rfl ?_
      refine mg_6 C dX7_afternoon_124 ?_
      refine z_iload_n C 2 dX7_afternoon_127 rfl ?_
      refine z_isub C dX7_afternoon_128 ?_
      refine z_iret C0 dX7_afternoon_129 ?_
      have e : t = n := by
        rcases Nat.lt_or_ge t (n) with q | q
        · exact absurd h28 (nI_ge q (by omega))
        · omega
      subst e en0
      exact mpo.ok hk0 (by rw [nI_clamp (by omega)]; rfl) ⟨B0, by rw [nI_clamp (by omega)]⟩
    · skip
      have ht2 : t < n := by
        rcases Nat.lt_or_ge t (n) with q | q
        · exact q
        · exact absurd (nI_le q (by omega)) h28
      have zT : gz (minsD t (M.1, fun _ => 0, fun _ => 0)).1 := sT.z hz
      have rT : rg (N + 6 * t) (minsD t (M.1, fun _ => 0, fun _ => 0)).1 := rg_minsD hz h (by omega)
      refine z_aload_n C 0 dX7_afternoon_31 rfl ?_
      refine z_callV0 C (c_X7_begins l E (mB M (minsD t (M.1, fun _ => 0, fun _ => 0)).1 B0) zT) ⟨rfl, rfl⟩ rfl rfl q_X7_234 ⟨by decide, by decide⟩ (Nat.le_of_ble_eq_true rfl) dX7_afternoon_32 (fun v F9 hp => ?_)
      obtain ⟨rfl, e9⟩ := hp
      rw [e9, mB_mB]
      clear e9 F9
      refine z_iconst C (v := 0) dX7_afternoon_35 rfl ?_
      refine z_istore C dX7_afternoon_36 (by decide) ?_
      refine z_pick [1, 2, 3, 4, 0] rfl ?_
      exact lp_X7_aft_38 M hz h hN n9 hn ht2 (B := bgN (minsD t (M.1, fun _ => 0, fun _ => 0)).1 B0 (nS (minsD t (M.1, fun _ => 0, fun _ => 0)).1)) (fun s hs => if_pos hs) rT (fun B2 => ih (t + 1) B2 (by omega) (by omega)) C0 (nC M.1 + 1) 0 (by omega) (by omega) rT so_beg
set_option maxRecDepth 100000 in
set_option maxHeartbeats 4000000 in
theorem c_X7_afternoon (l : Launch) (E : zE) (M : zM) (hz : gz M.1) {N : Nat} (h : rg N M.1) (hN : N ≤ 100000000) (n9 : Int32) : MM l E yX7_afternoon cX7_afternoon 7 (some .int) 6 [.ref (madr E.2.2.1 (0, 0, 0)), .int (n9)] (M) (mpo M (kAft n9) ((minsD n9.toNatClampNeg (M.1, fun _ => 0, fun _ => 0)).1.1 6 - M.1.1 6) (fun M2 => ∃ B, M2 = mB M (minsD n9.toNatClampNeg (M.1, fun _ => 0, fun _ => 0)).1 B)) := by
  refine MM.mk kq_X7 (Nat.le_of_ble_eq_true rfl) (fun K s C0 => ?_)
  have C := C0.c
  obtain ⟨⟨eS, lS⟩, ⟨eC, lC⟩⟩ := id hz
  have hsm : sms M.1 := h.sm (by omega)
  refine z_iload_n C 1 dX7_afternoon_0 rfl ?_
  refine z_iconst C (v := 1) dX7_afternoon_1 rfl ?_
  refine z_icmp_lt C 12 dX7_afternoon_2 (by decide) (fun h2 => ?_) (fun h2 => ?_)
  · skip
    refine z_aload_n C 0 dX7_afternoon_12 rfl ?_
    refine z_bipush C (v := (-6)) dX7_afternoon_13 rfl ?_
    refine z_callV1 C (c_X7_no l E _ (-6) 6 (by decide) (by decide) (by decide)) ⟨rfl, rfl⟩ rfl rfl q_X7_124 ⟨by decide, by decide⟩ (Nat.le_of_ble_eq_true rfl) dX7_afternoon_15 (fun v F9 hp => ?_)
    obtain ⟨rfl, e9⟩ := hp
    rw [e9]
    clear e9 F9
    refine z_iret C0 dX7_afternoon_18 ?_
    exact mpo.ref (by simp [kAft, h2, Int32.not_le.mpr h2]) (by decide)
  · skip
    refine z_iload_n C 1 dX7_afternoon_5 rfl ?_
    refine z_sipush C (v := 240) dX7_afternoon_6 rfl ?_
    refine z_icmp_le C 19 dX7_afternoon_9 (by decide) (fun h9 => ?_) (fun h9 => ?_)
    · skip
      have hk0 : kAft n9 = 0 := by simp [kAft, h2, Int32.not_lt.mpr h9]
      obtain ⟨n, hn, rfl⟩ := i_aft h2 h9
      have en : (nI n).toNatClampNeg = n := nI_clamp (by omega)
      refine z_aload_n C 0 dX7_afternoon_19 rfl ?_
      refine mg_6 C dX7_afternoon_20 ?_
      refine z_istore_n (i := 2) C dX7_afternoon_23 rfl (by decide) ?_
      refine z_iconst C (v := 0) dX7_afternoon_24 rfl ?_
      refine z_istore_n (i := 3) C dX7_afternoon_25 rfl (by decide) ?_
      refine z_pick [2, 3, 1, 0] rfl ?_
      have q := lp_X7_aft_26 M hz h hN (nI n) rfl hn hk0 C0 (n + 1) 0 (M.2.2.1 38) (by omega) (by omega)
      rw [show mB M (minsD 0 (M.1, fun _ => 0, fun _ => 0)).1 (M.2.2.1 38) = M from mB_id] at q
      exact q
    · skip
      refine z_aload_n C 0 dX7_afternoon_12 rfl ?_
      refine z_bipush C (v := (-6)) dX7_afternoon_13 rfl ?_
      refine z_callV1 C (c_X7_no l E _ (-6) 6 (by decide) (by decide) (by decide)) ⟨rfl, rfl⟩ rfl rfl q_X7_124 ⟨by decide, by decide⟩ (Nat.le_of_ble_eq_true rfl) dX7_afternoon_15 (fun v F9 hp => ?_)
      obtain ⟨rfl, e9⟩ := hp
      rw [e9]
      clear e9 F9
      refine z_iret C0 dX7_afternoon_18 ?_
      exact mpo.ref (by simp [kAft, h2, Int32.not_lt.mp h2, h9, Int32.not_le.mp h9]) (by decide)
set_option maxRecDepth 100000 in
set_option maxHeartbeats 4000000 in
theorem lp_X7_wrong_34 {l : Launch} {E : zE} {K : zK} {s : State} (M : zM) (hz : gz M.1) {N : Nat} (h : rg N M.1) (hN : N ≤ 100000000) {j nn : Nat} (hj : j < 8) (hnn : nn ≤ 160) {t : Nat} (ht2 : t < nn / nC M.1) {Yt : zGf} (hYt : wrM (dM M j) (nC M.1) t (M.1, fun _ => 0, fun _ => 0) = (none, Yt)) (hkt : sk M.1 Yt.1) {B : Nat → Int32} (hB : ∀ s, s < nS Yt.1 → B s = Yt.1.2.1 s 3) (hout : ∀ (Y2 : zGf) (B2 : Nat → Int32), wrM (dM M j) (nC M.1) (t + 1) (M.1, fun _ => 0, fun _ => 0) = (none, Y2) → sk M.1 Y2.1 → rg (N + 6 * (t + 1)) Y2.1 → Z K (MP E (mB M Y2.1 B2) s) 21 [(0, .ref (madr E.2.2.1 (0, 0, 0))), (1, .int (nI j)), (3, .int (nI (nn / nC M.1))), (4, .int (nI (t + 1)))] []) (C0 : MR l E K cX7_wrongIn RX7 6 s 7 (some .int) (fun v M2 => v = some (.int (oI (wrA M.1 (dM M j) nn).1)) ∧ ∃ B, M2 = mB M (wrA M.1 (dM M j) nn).2.1 B)) : ∀ (n2 : Nat) (c : Nat) (Y : zGf), (nC M.1 - c < n2) → (c ≤ nC M.1) → (wrK (dM M j) (nC M.1 * t) c (begM Yt) = (none, Y)) → (sk M.1 Y.1) → (rg (N + 6 * t + c) Y.1) → (soldSo Yt.1 c Y) → (Y.1.1 2 = Yt.1.1 2) → Z K (MP E (mB M Y.1 B) s) 34 [(0, .ref (madr E.2.2.1 (0, 0, 0))), (1, .int (nI j)), (3, .int (nI (nn / nC M.1))), (4, .int (nI t)), (5, .int (nI c))] [] := by
  have C := C0.c
  intro n2
  induction n2 with
  | zero => intro c Y hk hkl hY hkY rI hso hY2; exact absurd hk (Nat.not_lt_zero _)
  | succ n2 ih =>
    intro c Y hk hkl hY hkY rI hso hY2
    obtain ⟨⟨eS, lS⟩, ⟨eC, lC⟩⟩ := id hz
    have hsm : sms M.1 := h.sm (by omega)
    have hQ0 : nn / nC M.1 ≤ 160 := Nat.le_trans (Nat.div_le_self _ _) hnn
    have hQ1 : 0 ≤ nn / nC M.1 := Nat.zero_le _
    refine z_iload C 4 dX7_wrongIn_34 rfl ?_
    refine z_aload_n C 0 dX7_wrongIn_36 rfl ?_
    refine mg_1 C dX7_wrongIn_37 ?_
    refine z_top (nI (nC M.1)) (by show Y.1.1 1 = _; rw [hkY.2.1]; exact eC) ?_
    refine z_icmp_ge C 96 dX7_wrongIn_40 (by decide) (fun h40 => ?_) (fun h40 => ?_)
    · skip
      have ec : c = nC M.1 := by
        rcases Nat.lt_or_ge c (nC M.1) with q | q
        · exact absurd h40 (nI_ge q (by omega))
        · omega
      have zY : gz Y.1 := hkY.z hz
      refine z_aload_n C 0 dX7_wrongIn_96 rfl ?_
      refine z_callV0 C (c_X7_ends l E (mB M Y.1 B) zY) ⟨rfl, rfl⟩ rfl rfl q_X7_240 ⟨by decide, by decide⟩ (Nat.le_of_ble_eq_true rfl) dX7_wrongIn_97 (fun v F9 hp => ?_)
      obtain ⟨rfl, e9⟩ := hp
      rw [e9]
      clear e9 F9
      refine z_iinc C (v := nI (t + 1)) 3 dX7_wrongIn_100 rfl (nI_1 _) (by decide) ?_
      refine z_goto C 21 dX7_wrongIn_103 (by decide) ?_
      refine z_pick [1, 2, 3, 0] rfl ?_
      subst ec
      have sK : sk Yt.1 Y.1 := sk_of hkt hkY
      have e := ed_endM (Y := Y) (B := B) hB sK hY2 hso (by omega) rI
      have e1 : wrM (dM M j) (nC M.1) (t + 1) (M.1, fun _ => 0, fun _ => 0) = (none, endM Y) := by simp only [wrM, hYt, hY]
      have e2 : mG (mB M Y.1 B) (gSc (edN B (nS Y.1) Y.1) 2 (Y.1.1 2 + 1)) = mB M (endM Y).1 B := by
        rw [← e, sK.S, hY2]
        rfl
      exact z_eq (congrArg (fun z => MP E z s) e2) rfl rfl rfl (hout (endM Y) B e1 (hkY.tr sk_endM) ((rg_endM rI).up (by omega)))
    · skip
      have hc2 : c < nC M.1 := by
        rcases Nat.lt_or_ge c (nC M.1) with q | q
        · exact q
        · exact absurd (nI_le q (by omega)) h40
      have hcY : c < nC Y.1 := by rw [hkY.C]; exact hc2
      have zY : gz Y.1 := hkY.z hz
      have sY : sms Y.1 := rI.sm (by omega)
      have hix : nC M.1 * t + c < nn := mt_lt ht2 hc2
      refine z_aload_n C 0 dX7_wrongIn_43 rfl ?_
      refine z_iload_n C 1 dX7_wrongIn_44 rfl ?_
      refine z_aload_n C 0 dX7_wrongIn_45 rfl ?_
      refine mg_1 C dX7_wrongIn_46 ?_
      refine z_iload C 3 dX7_wrongIn_49 rfl ?_
      refine z_imul C dX7_wrongIn_51 ?_
      refine z_iload C 4 dX7_wrongIn_52 rfl ?_
      refine z_iadd C dX7_wrongIn_54 ?_
      refine z_top (nI (nC M.1 * t + c)) (by show Y.1.1 1 * nI t + nI c = _; rw [hkY.2.1, eC, pk_mul, nI_add]) ?_
      refine z_callV2 C (c_X7_intAt l E (mB M Y.1 B) hj (i := nC M.1 * t + c) (by omega)) ⟨rfl, rfl⟩ rfl rfl q_X7_281 ⟨by decide, by decide⟩ (Nat.le_of_ble_eq_true rfl) dX7_wrongIn_55 (fun v F9 hp => ?_)
      obtain ⟨rfl, e9⟩ := hp
      rw [e9]
      clear e9 F9
      refine z_top ((dM M j) (nC M.1 * t + c)) rfl ?_
      refine z_istore C dX7_wrongIn_58 (by decide) ?_
      refine z_aload_n C 1 dX7_wrongIn_60 rfl ?_
      refine z_iload C 5 dX7_wrongIn_61 rfl ?_
      refine z_iload C 0 dX7_wrongIn_63 rfl ?_
      refine z_callV2 C (c_X7_mayBe l E (mB M Y.1 B) zY sY (by omega) _) ⟨rfl, rfl⟩ rfl rfl q_X7_170 ⟨by decide, by decide⟩ (Nat.le_of_ble_eq_true rfl) dX7_wrongIn_65 (fun v F9 hp => ?_)
      obtain ⟨rfl, e9⟩ := hp
      rw [e9]
      clear e9 F9
      refine z_if_ne C 82 dX7_wrongIn_68 (by decide) (fun h68 => ?_) (fun h68 => ?_)
      · skip
        have h68 := bI_1 h68
        refine z_aload_n C 1 dX7_wrongIn_82 rfl ?_
        refine z_iload C 5 dX7_wrongIn_83 rfl ?_
        refine z_iload C 0 dX7_wrongIn_85 rfl ?_
        refine z_callV2 C (c_X7_makes l E (mB M Y.1 B) zY sY rI hcY (can_dd zY h68)) ⟨rfl, rfl⟩ rfl rfl q_X7_187 ⟨by decide, by decide⟩ (Nat.le_of_ble_eq_true rfl) dX7_wrongIn_87 (fun v F9 hp => ?_)
        obtain ⟨rfl, e9⟩ := hp
        rw [e9]
        clear e9 F9
        refine z_iinc C (v := nI (c + 1)) 5 dX7_wrongIn_90 rfl (nI_1 _) (by decide) ?_
        refine z_goto C 34 dX7_wrongIn_93 (by decide) ?_
        refine z_pick [2, 3, 4, 5, 0] rfl ?_
        refine ih (c + 1) (perf Y c ((dM M j) (nC M.1 * t + c))) (by omega) (by omega) ?_ (hkY.tr sk_perf) (rg_makes (N := N + 6 * t + c) zY rI (by omega) hcY h68) (so_perf hso (sk_of hkt hkY) (hkt.z hz) (can_dd zY h68)) (perf_2.trans hY2)
        simp only [wrK, hY]
        rw [if_pos (show can Y.1 c ((dM M j) (nC M.1 * t + c)) = true from h68)]
      · skip
        have h68 := bI_0 h68
        refine z_aload_n C 1 dX7_wrongIn_71 rfl ?_
        refine mg_1 C dX7_wrongIn_72 ?_
        refine z_iload C 4 dX7_wrongIn_75 rfl ?_
        refine z_imul C dX7_wrongIn_77 ?_
        refine z_iload C 5 dX7_wrongIn_78 rfl ?_
        refine z_iadd C dX7_wrongIn_80 ?_
        refine z_top (nI (nC M.1 * t + c)) (by show Y.1.1 1 * nI t + nI c = _; rw [hkY.2.1, eC, pk_mul, nI_add]) ?_
        refine z_iret C0 dX7_wrongIn_81 ?_
        have hcY2 : ¬ can Y.1 c ((dM M j) (nC M.1 * t + c)) = true := by rw [show can Y.1 c ((dM M j) (nC M.1 * t + c)) = false from h68]; decide
        have e1 : wrK (dM M j) (nC M.1 * t) (c + 1) (begM Yt) = (some (nC M.1 * t + c), Y) := by simp only [wrK, hY]; rw [if_neg hcY2]
        have e2 := wrK_up e1 (show c + 1 ≤ nC M.1 by omega)
        have e3 : wrM (dM M j) (nC M.1) (t + 1) (M.1, fun _ => 0, fun _ => 0) = (some (nC M.1 * t + c), Y) := by simp only [wrM, hYt, e2]
        have e4 := wrM_up e3 (show t + 1 ≤ nn / nC M.1 by omega)
        refine ⟨?_, B, ?_⟩
        · unfold wrA; rw [if_neg (by omega), e4]; rfl
        · unfold wrA; rw [if_neg (by omega), e4]
set_option maxRecDepth 100000 in
set_option maxHeartbeats 4000000 in
theorem lp_X7_wrong_21 {l : Launch} {E : zE} {K : zK} {s : State} (M : zM) (hz : gz M.1) {N : Nat} (h : rg N M.1) (hN : N ≤ 100000000) {j nn : Nat} (hj : j < 8) (hnn : nn ≤ 160) (C0 : MR l E K cX7_wrongIn RX7 6 s 7 (some .int) (fun v M2 => v = some (.int (oI (wrA M.1 (dM M j) nn).1)) ∧ ∃ B, M2 = mB M (wrA M.1 (dM M j) nn).2.1 B)) : ∀ (n2 : Nat) (t : Nat) (Y : zGf) (B0 : Nat → Int32), (nn / nC M.1 - t < n2) → (t ≤ nn / nC M.1) → (wrM (dM M j) (nC M.1) t (M.1, fun _ => 0, fun _ => 0) = (none, Y)) → (sk M.1 Y.1) → (rg (N + 6 * t) Y.1) → Z K (MP E (mB M Y.1 B0) s) 21 [(0, .ref (madr E.2.2.1 (0, 0, 0))), (1, .int (nI j)), (3, .int (nI (nn / nC M.1))), (4, .int (nI t))] [] := by
  have C := C0.c
  intro n2
  induction n2 with
  | zero => intro t Y B0 hk htl hY hkY rY; exact absurd hk (Nat.not_lt_zero _)
  | succ n2 ih =>
    intro t Y B0 hk htl hY hkY rY
    obtain ⟨⟨eS, lS⟩, ⟨eC, lC⟩⟩ := id hz
    have hsm : sms M.1 := h.sm (by omega)
    have hQ0 : nn / nC M.1 ≤ 160 := Nat.le_trans (Nat.div_le_self _ _) hnn
    have hQ1 : 0 ≤ nn / nC M.1 := Nat.zero_le _
    refine z_iload C 3 dX7_wrongIn_21 rfl ?_
    refine z_iload_n C 2 dX7_wrongIn_23 rfl ?_
    refine z_icmp_ge C 106 dX7_wrongIn_24 (by decide) (fun h24 => ?_) (fun h24 => ?_)
    · skip
      refine z_iconst C (v := (-1)) dX7_wrongIn_106 rfl ?_
      refine z_iret C0 dX7_wrongIn_107 ?_
      have e : t = (nn / nC M.1) := by
        rcases Nat.lt_or_ge t ((nn / nC M.1)) with q | q
        · exact absurd h24 (nI_ge q (by omega))
        · omega
      subst e
      refine ⟨?_, B0, ?_⟩
      · rw [wrA_e hY]; rfl
      · rw [wrA_e hY]
    · skip
      have ht2 : t < (nn / nC M.1) := by
        rcases Nat.lt_or_ge t ((nn / nC M.1)) with q | q
        · exact q
        · exact absurd (nI_le q (by omega)) h24
      have zY : gz Y.1 := hkY.z hz
      refine z_aload_n C 0 dX7_wrongIn_27 rfl ?_
      refine z_callV0 C (c_X7_begins l E (mB M Y.1 B0) zY) ⟨rfl, rfl⟩ rfl rfl q_X7_234 ⟨by decide, by decide⟩ (Nat.le_of_ble_eq_true rfl) dX7_wrongIn_28 (fun v F9 hp => ?_)
      obtain ⟨rfl, e9⟩ := hp
      rw [e9, mB_mB]
      clear e9 F9
      refine z_iconst C (v := 0) dX7_wrongIn_31 rfl ?_
      refine z_istore C dX7_wrongIn_32 (by decide) ?_
      refine z_pick [1, 2, 3, 4, 0] rfl ?_
      exact lp_X7_wrong_34 M hz h hN hj hnn ht2 hY hkY (B := bgN Y.1 B0 (nS Y.1)) (fun s hs => if_pos hs) (fun Y2 B2 a b c2 => ih (t + 1) Y2 B2 (by omega) (by omega) a b c2) C0 (nC M.1 + 1) 0 (begM Y) (by omega) (by omega) rfl hkY rY so_beg rfl
set_option maxRecDepth 100000 in
set_option maxHeartbeats 4000000 in
theorem c_X7_wrongIn (l : Launch) (E : zE) (M : zM) (hz : gz M.1) {N : Nat} (h : rg N M.1) (hN : N ≤ 100000000) {j nn : Nat} (hj : j < 8) (hnn : nn ≤ 160) : MM l E yX7_wrongIn cX7_wrongIn 7 (some .int) 6 [.ref (madr E.2.2.1 (0, 0, 0)), .int (nI j), .int (nI nn)] (M) (fun v M2 => v = some (.int (oI (wrA M.1 (dM M j) nn).1)) ∧ ∃ B, M2 = mB M (wrA M.1 (dM M j) nn).2.1 B) := by
  refine MM.mk kq_X7 (Nat.le_of_ble_eq_true rfl) (fun K s C0 => ?_)
  have C := C0.c
  obtain ⟨⟨eS, lS⟩, ⟨eC, lC⟩⟩ := id hz
  have hsm : sms M.1 := h.sm (by omega)
  have hQ0 : nn / nC M.1 ≤ 160 := Nat.le_trans (Nat.div_le_self _ _) hnn
  have hQ1 : 0 ≤ nn / nC M.1 := Nat.zero_le _
  refine z_aload_n C 0 dX7_wrongIn_0 rfl ?_
  refine mg_1 C dX7_wrongIn_1 ?_
  refine z_if_ne C 11 dX7_wrongIn_4 (by decide) (fun h4 => ?_) (fun h4 => ?_)
  · skip
    refine z_iload_n C 2 dX7_wrongIn_11 rfl ?_
    refine z_aload_n C 0 dX7_wrongIn_12 rfl ?_
    refine mg_1 C dX7_wrongIn_13 ?_
    refine z_idiv C dX7_wrongIn_16 (fun z => h4 z) ?_
    refine z_top (nI (nn / nC M.1)) (by rw [eC]; exact pk_div (by omega) (m_pos eC h4) (by omega)) ?_
    refine z_istore_n (i := 3) C dX7_wrongIn_17 rfl (by decide) ?_
    refine z_iconst C (v := 0) dX7_wrongIn_18 rfl ?_
    refine z_istore C dX7_wrongIn_19 (by decide) ?_
    refine z_pick [2, 3, 1, 0] rfl ?_
    have q := lp_X7_wrong_21 M hz h hN hj hnn C0 (nn / nC M.1 + 1) 0 (M.1, fun _ => 0, fun _ => 0) (M.2.2.1 38) (by omega) (by omega) rfl (sk.rf _) h
    exact z_eq (congrArg (fun z => MP E z s) (mB_id (M := M)).symm) rfl rfl rfl q
  · skip
    refine z_iconst C (v := 0) dX7_wrongIn_7 rfl ?_
    refine z_goto C 17 dX7_wrongIn_8 (by decide) ?_
    refine z_top (nI (nn / nC M.1)) (by rw [show nC M.1 = 0 from m_zero eC lC h4, Nat.div_zero]; rfl) ?_
    refine z_istore_n (i := 3) C dX7_wrongIn_17 rfl (by decide) ?_
    refine z_iconst C (v := 0) dX7_wrongIn_18 rfl ?_
    refine z_istore C dX7_wrongIn_19 (by decide) ?_
    refine z_pick [2, 3, 1, 0] rfl ?_
    have q := lp_X7_wrong_21 M hz h hN hj hnn C0 (nn / nC M.1 + 1) 0 (M.1, fun _ => 0, fun _ => 0) (M.2.2.1 38) (by omega) (by omega) rfl (sk.rf _) h
    exact z_eq (congrArg (fun z => MP E z s) (mB_id (M := M)).symm) rfl rfl rfl q
