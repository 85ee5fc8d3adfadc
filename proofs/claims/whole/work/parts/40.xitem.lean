/-! the class: items of a text -/
theorem blF_some (f : Option Nat) (p : Nat) : ∃ q, blF f p = some q := by
  cases f with
  | none => exact ⟨p, rfl⟩
  | some q => exact ⟨q, rfl⟩
theorem blF_le {f : Option Nat} {p len : Nat} (h : ∀ q, f = some q → q ≤ len) (hp : p ≤ len) {q : Nat} (z : blF f p = some q) : q ≤ len := by
  cases f with
  | none => cases z; exact hp
  | some r => cases z; exact h _ rfl
theorem nmP_nn {lo hi : Int32} {n : Int32 × (Nat × Option Nat)} {s e : Nat × Option Nat} (h : (∃ q, n.2.2 = some q ∧ n.1 = 0) ∨ (n.2.2 = none ∧ s.2 = none ∧ e.2 = none ∧ ¬ n.1 < lo ∧ ¬ hi < n.1)) (hn : n.2.2 = none) : s.2 = none := by
  rcases h with ⟨q, hq, -⟩ | h
  · rw [hn] at hq; cases hq
  · exact h.2.1
theorem nmP_nx {lo hi : Int32} {n : Int32 × (Nat × Option Nat)} {s e : Nat × Option Nat} (h : (∃ q, n.2.2 = some q ∧ n.1 = 0) ∨ (n.2.2 = none ∧ s.2 = none ∧ e.2 = none ∧ ¬ n.1 < lo ∧ ¬ hi < n.1)) (hn : n.2.2 = none) : e.2 = none := by
  rcases h with ⟨q, hq, -⟩ | h
  · rw [hn] at hq; cases hq
  · exact h.2.2.1
theorem nmP_in {lo hi : Int32} {n : Int32 × (Nat × Option Nat)} {s e : Nat × Option Nat} (h : (∃ q, n.2.2 = some q ∧ n.1 = 0) ∨ (n.2.2 = none ∧ s.2 = none ∧ e.2 = none ∧ ¬ n.1 < lo ∧ ¬ hi < n.1)) (hn : n.2.2 = none) : ¬ n.1 < lo ∧ ¬ hi < n.1 := by
  rcases h with ⟨q, hq, -⟩ | h
  · rw [hn] at hq; cases hq
  · exact h.2.2.2
theorem i_idx {x : Int32} {m : Nat} (hm : m ≤ 6) (h : ¬ x < 0) (h2 : ¬ nI m - 1 < x) : ∃ c, c < m ∧ x = nI c := by
  have e0 : (0 : Int32).toInt = 0 := rfl
  have e1 : (1 : Int32).toInt = 1 := rfl
  have em := nI_toInt (n := m) (by omega)
  rw [i_lt, e0] at h
  rw [i_lt, i_sub (by rw [em, e1]; omega) (by rw [em, e1]; omega), em, e1] at h2
  exact ⟨x.toInt.toNat, by omega, i_nat (by omega)⟩
def wdI (T : Nat → Int32) (len k : Nat) (s : Nat × Option Nat) : Nat × Option Nat := wdP T len (zByt.getD k []) (zLen.getD k 0) s
def itC0 (T : Nat → Int32) (len : Nat) (g : zGc) (s : Nat × Option Nat) : zGc × (Nat × Option Nat) :=
  let s1 := wdP T len (zByt.getD 0 []) (zLen.getD 0 0) s
  let s2 := if g.1 0 < 6 then s1 else (s1.1, blF s1.2 s.1)
  let n1 := nmP T len 0 6 s2
  let n2 := nmP T len 0 9 n1.2
  let n3 := nmP T len 1 999 n2.2
  (if n3.2.2 = none then addSh g n1.1 n2.1 n3.1 else g, n3.2)
def itC1 (T : Nat → Int32) (len : Nat) (g : zGc) (s : Nat × Option Nat) : zGc × (Nat × Option Nat) :=
  let s1 := wdP T len (zByt.getD 1 []) (zLen.getD 1 0) s
  let s2 := if g.1 1 < 6 then s1 else (s1.1, blF s1.2 s.1)
  let n1 := nmP T len 1 99 s2
  let n2 := nmP T len 0 9999 n1.2
  (if n2.2.2 = none then addCh g n1.1 n2.1 else g, n2.2)
def itC2 (T : Nat → Int32) (len : Nat) (g : zGc) (s : Nat × Option Nat) : zGc × (Nat × Option Nat) :=
  let s1 := wdP T len (zByt.getD 2 []) (zLen.getD 2 0) s
  let n1 := nmP T len 0 (g.1 1 - 1) s1
  let n2 := nmP T len 0 99 n1.2
  (if n2.2.2 = none then gCh g n1.1.toNatClampNeg 3 n2.1 else g, n2.2)
def itC3 (T : Nat → Int32) (len : Nat) (g : zGc) (s : Nat × Option Nat) : zGc × (Nat × Option Nat) :=
  let s1 := wdP T len (zByt.getD 3 []) (zLen.getD 3 0) s
  let n1 := nmP T len 0 (g.1 1 - 1) s1
  let n2 := nmP T len 0 (g.1 0 - 1) n1.2
  (if n2.2.2 = none then gCh g n1.1.toNatClampNeg 5 n2.1 else g, n2.2)
def itC4 (T : Nat → Int32) (len : Nat) (g : zGc) (s : Nat × Option Nat) : zGc × (Nat × Option Nat) :=
  let s1 := wdP T len (zByt.getD 4 []) (zLen.getD 4 0) s
  let n1 := nmP T len 0 99 s1
  (if n1.2.2 = none then gSc g 4 n1.1 else g, n1.2)
def itC5 (T : Nat → Int32) (len : Nat) (g : zGc) (s : Nat × Option Nat) : zGc × (Nat × Option Nat) :=
  let s1 := wdP T len (zByt.getD 5 []) (zLen.getD 5 0) s
  let n1 := nmP T len 0 9999 s1
  (if n1.2.2 = none then gSc g 5 n1.1 else g, n1.2)
def itC6 (T : Nat → Int32) (len : Nat) (g : zGc) (s : Nat × Option Nat) : zGc × (Nat × Option Nat) :=
  let s1 := wdP T len (zByt.getD 6 []) (zLen.getD 6 0) s
  let n1 := nmP T len 0 (g.1 1 - 1) s1
  let n2 := nmP T len 0 9999 n1.2
  if n2.2.2 = none then (if can g n1.1.toNatClampNeg n2.1 = true then (makes g n1.1.toNatClampNeg n2.1, n2.2) else (g, (n2.2.1, some (exP T len 32 n1.2).1))) else (g, n2.2)
def itC7 (T : Nat → Int32) (len : Nat) (g : zGc) (s : Nat × Option Nat) : zGc × (Nat × Option Nat) :=
  let s1 := wdP T len (zByt.getD 7 []) (zLen.getD 7 0) s
  (if s1.2 = none then nightG g else g, s1)
def itC (T : Nat → Int32) (len : Nat) (g : zGc) (s : Nat × Option Nat) : zGc × (Nat × Option Nat) :=
  if nxP T len s.1 = 115 then itC0 T len g s
  else if nxP T len s.1 = 99 then itC1 T len g s
  else if nxP T len s.1 = 102 then itC2 T len g s
  else if nxP T len s.1 = 107 then itC3 T len g s
  else if nxP T len s.1 = 105 then itC4 T len g s
  else if nxP T len s.1 = 116 then itC5 T len g s
  else if nxP T len s.1 = 100 then itC6 T len g s
  else if nxP T len s.1 = 110 then itC7 T len g s
  else (g, (s.1, blF s.2 s.1))
set_option maxRecDepth 100000 in
set_option maxHeartbeats 4000000 in
theorem c_X2_readShop (l : Launch) (E : zE) (F : zF) (G : zGf) {len : Nat} (hl : len ≤ 160) (ps : Nat × Option Nat) (hs : okS len ps) (np : Int32) (hz : gz G.1) : XM l E yX2_readShop cX2_readShop 5 none 6 [.ref (xadr E.2.2.1 (8, 0, 0))] (rS F G len ps.1 ps.2 np) (fun v F2 => v = none ∧ ∃ G2 np2, F2 = rS F G2 len (itC0 (F.2.2.2 2) len G.1 ps).2.1 (itC0 (F.2.2.2 2) len G.1 ps).2.2 np2 ∧ G2.1 = (itC0 (F.2.2.2 2) len G.1 ps).1) := by
  refine XM.mk kq_X2 (Nat.le_of_ble_eq_true rfl) (fun K s C0 => ?_)
  have C := C0.c
  obtain ⟨⟨eS, lS⟩, ⟨eC, lC⟩⟩ := id hz
  refine z_aload_n C 0 dX2_readShop_0 rfl ?_
  refine xg_8 (k := 1) C (by decide) kf_X2_40 dX2_readShop_1 ?_
  refine z_top (nI ps.1) (rfl) ?_
  refine z_istore_n (i := 1) C dX2_readShop_4 rfl (by decide) ?_
  refine z_aload_n C 1 dX2_readShop_5 rfl ?_
  refine z_ldcS C (fun u h => h.2.2 0 (by decide)) dX2_readShop_6 ?_
  refine z_callV1 C (c_X2_readWord l E F G hl ps hs np (i := 0) (by decide)) ⟨by decide, rfl, rfl⟩ rfl rfl q_X2_94 ⟨by decide, by decide⟩ (Nat.le_of_ble_eq_true rfl) dX2_readShop_8 (fun v F9 hp => ?_)
  obtain ⟨rfl, e9⟩ := hp
  rw [e9]
  clear e9 F9
  have o_s1 : okS len (wdP (F.2.2.2 2) len (zByt.getD 0 []) (zLen.getD 0 0) ps) := wdP_ok hs (by decide)
  generalize e_s1 : wdP (F.2.2.2 2) len (zByt.getD 0 []) (zLen.getD 0 0) ps = s1 at o_s1 ⊢
  refine z_aload_n C 1 dX2_readShop_11 rfl ?_
  refine z_aload_n C 1 dX2_readShop_12 rfl ?_
  refine xg_8d C kf_X2_12 dX2_readShop_13 ?_
  refine xg_3 (k := 0) C (by decide) (by decide) kf_X2_98 dX2_readShop_16 ?_
  refine z_top (G.1.1 0) (rfl) ?_
  refine z_bipush C (v := 6) dX2_readShop_19 rfl ?_
  refine z_icmp_ge C 28 dX2_readShop_21 (by decide) (fun h21 => ?_) (fun h21 => ?_)
  · skip
    refine z_iconst C (v := 0) dX2_readShop_28 rfl ?_
    refine z_iload_n C 0 dX2_readShop_29 rfl ?_
    refine z_callV2 C (c_X2_wantRoom l E F G hl s1.1 s1.2 (okS_bf o_s1 hl) np 0 ps.1) ⟨by decide, rfl, rfl⟩ rfl rfl q_X2_101 ⟨by decide, by decide⟩ (Nat.le_of_ble_eq_true rfl) dX2_readShop_30 (fun v F9 hp => ?_)
    obtain ⟨rfl, e9⟩ := hp
    rw [e9]
    clear e9 F9
    have o_s2 : okS len (s1.1, blF s1.2 ps.1) := ⟨o_s1.1, fun q z => blF_le o_s1.2 hs.1 z⟩
    generalize e_s2 : (s1.1, blF s1.2 ps.1) = s2 at o_s2
    refine z_eq (P2 := XP E (rS F G len s2.1 s2.2 np) s) (by rw [← e_s2]; rfl) rfl rfl rfl ?_
    have b_s2 : ∃ q, s2.2 = some q := by rw [← e_s2]; exact blF_some _ _
    refine z_aload_n C 1 dX2_readShop_33 rfl ?_
    refine z_iconst C (v := 0) dX2_readShop_34 rfl ?_
    refine z_bipush C (v := 6) dX2_readShop_35 rfl ?_
    refine z_callV2 C (c_X2_readNumber l E F G hl s2 o_s2 _ 0 6) ⟨by decide, rfl, rfl⟩ rfl rfl q_X2_105 ⟨by decide, by decide⟩ (Nat.le_of_ble_eq_true rfl) dX2_readShop_37 (fun v F9 hp => ?_)
    obtain ⟨rfl, e9⟩ := hp
    rw [e9]
    clear e9 F9
    have o_n1 : okS len (nmP (F.2.2.2 2) len 0 6 s2).2 := nmP_ok o_s2
    have x_n1 := nmP_cs (F.2.2.2 2) len 0 6 s2
    generalize e_n1 : nmP (F.2.2.2 2) len 0 6 s2 = n1 at o_n1 x_n1 ⊢
    generalize nmN (F.2.2.2 2) len s2 _ = p1
    refine z_istore_n (i := 2) C dX2_readShop_40 rfl (by decide) ?_
    refine z_aload_n C 2 dX2_readShop_41 rfl ?_
    refine z_iconst C (v := 0) dX2_readShop_42 rfl ?_
    refine z_bipush C (v := 9) dX2_readShop_43 rfl ?_
    refine z_callV2 C (c_X2_readNumber l E F G hl n1.2 o_n1 _ 0 9) ⟨by decide, rfl, rfl⟩ rfl rfl q_X2_105 ⟨by decide, by decide⟩ (Nat.le_of_ble_eq_true rfl) dX2_readShop_45 (fun v F9 hp => ?_)
    obtain ⟨rfl, e9⟩ := hp
    rw [e9]
    clear e9 F9
    have o_n2 : okS len (nmP (F.2.2.2 2) len 0 9 n1.2).2 := nmP_ok o_n1
    have x_n2 := nmP_cs (F.2.2.2 2) len 0 9 n1.2
    generalize e_n2 : nmP (F.2.2.2 2) len 0 9 n1.2 = n2 at o_n2 x_n2 ⊢
    generalize nmN (F.2.2.2 2) len n1.2 _ = p2
    refine z_istore_n (i := 3) C dX2_readShop_48 rfl (by decide) ?_
    refine z_aload_n C 3 dX2_readShop_49 rfl ?_
    refine z_iconst C (v := 1) dX2_readShop_50 rfl ?_
    refine z_sipush C (v := 999) dX2_readShop_51 rfl ?_
    refine z_callV2 C (c_X2_readNumber l E F G hl n2.2 o_n2 _ 1 999) ⟨by decide, rfl, rfl⟩ rfl rfl q_X2_105 ⟨by decide, by decide⟩ (Nat.le_of_ble_eq_true rfl) dX2_readShop_54 (fun v F9 hp => ?_)
    obtain ⟨rfl, e9⟩ := hp
    rw [e9]
    clear e9 F9
    have o_n3 : okS len (nmP (F.2.2.2 2) len 1 999 n2.2).2 := nmP_ok o_n2
    have x_n3 := nmP_cs (F.2.2.2 2) len 1 999 n2.2
    generalize e_n3 : nmP (F.2.2.2 2) len 1 999 n2.2 = n3 at o_n3 x_n3 ⊢
    generalize nmN (F.2.2.2 2) len n2.2 _ = p3
    refine z_istore C dX2_readShop_57 (by decide) ?_
    refine z_aload_n C 4 dX2_readShop_59 rfl ?_
    refine xg_8 (k := 2) C (by decide) kf_X2_22 dX2_readShop_60 ?_
    refine z_top (oI n3.2.2) (rfl) ?_
    refine z_iconst C (v := (-1)) dX2_readShop_63 rfl ?_
    refine z_icmp_ne C 79 dX2_readShop_64 (by decide) (fun h64 => ?_) (fun h64 => ?_)
    · skip
      refine z_vret C0 dX2_readShop_79 ?_
      have hf : ¬ n3.2.2 = none := fun z => h64 (by rw [z]; rfl)
      refine ⟨rfl, G, p3, ?_, ?_⟩
      · simp only [itC0, e_s1, if_neg (Int32.not_lt.mpr h21), e_s2, e_n1, e_n2, e_n3, if_neg hf]
      · simp only [itC0, e_s1, if_neg (Int32.not_lt.mpr h21), e_s2, e_n1, e_n2, e_n3, if_neg hf]
    · exact (by
  have z : n3.2.2 = none := oI_none (okS_bf o_n3 hl) h64
  obtain ⟨q, hq⟩ := b_s2
  have y_n3 := nmP_nn x_n3 z
  have y_n2 := nmP_nn x_n2 y_n3
  have y_n1 := nmP_nn x_n1 y_n2
  rw [hq] at y_n1
  cases y_n1)
  · skip
    refine z_iconst C (v := 1) dX2_readShop_24 rfl ?_
    refine z_goto C 29 dX2_readShop_25 (by decide) ?_
    refine z_iload_n C 0 dX2_readShop_29 rfl ?_
    refine z_callV2 C (c_X2_wantRoom l E F G hl s1.1 s1.2 (okS_bf o_s1 hl) np 1 ps.1) ⟨by decide, rfl, rfl⟩ rfl rfl q_X2_101 ⟨by decide, by decide⟩ (Nat.le_of_ble_eq_true rfl) dX2_readShop_30 (fun v F9 hp => ?_)
    obtain ⟨rfl, e9⟩ := hp
    rw [e9]
    clear e9 F9
    have o_s2 := o_s1
    generalize e_s2 : s1 = s2 at o_s2 ⊢
    refine z_aload_n C 1 dX2_readShop_33 rfl ?_
    refine z_iconst C (v := 0) dX2_readShop_34 rfl ?_
    refine z_bipush C (v := 6) dX2_readShop_35 rfl ?_
    refine z_callV2 C (c_X2_readNumber l E F G hl s2 o_s2 _ 0 6) ⟨by decide, rfl, rfl⟩ rfl rfl q_X2_105 ⟨by decide, by decide⟩ (Nat.le_of_ble_eq_true rfl) dX2_readShop_37 (fun v F9 hp => ?_)
    obtain ⟨rfl, e9⟩ := hp
    rw [e9]
    clear e9 F9
    have o_n1 : okS len (nmP (F.2.2.2 2) len 0 6 s2).2 := nmP_ok o_s2
    have x_n1 := nmP_cs (F.2.2.2 2) len 0 6 s2
    generalize e_n1 : nmP (F.2.2.2 2) len 0 6 s2 = n1 at o_n1 x_n1 ⊢
    generalize nmN (F.2.2.2 2) len s2 _ = p1
    refine z_istore_n (i := 2) C dX2_readShop_40 rfl (by decide) ?_
    refine z_aload_n C 2 dX2_readShop_41 rfl ?_
    refine z_iconst C (v := 0) dX2_readShop_42 rfl ?_
    refine z_bipush C (v := 9) dX2_readShop_43 rfl ?_
    refine z_callV2 C (c_X2_readNumber l E F G hl n1.2 o_n1 _ 0 9) ⟨by decide, rfl, rfl⟩ rfl rfl q_X2_105 ⟨by decide, by decide⟩ (Nat.le_of_ble_eq_true rfl) dX2_readShop_45 (fun v F9 hp => ?_)
    obtain ⟨rfl, e9⟩ := hp
    rw [e9]
    clear e9 F9
    have o_n2 : okS len (nmP (F.2.2.2 2) len 0 9 n1.2).2 := nmP_ok o_n1
    have x_n2 := nmP_cs (F.2.2.2 2) len 0 9 n1.2
    generalize e_n2 : nmP (F.2.2.2 2) len 0 9 n1.2 = n2 at o_n2 x_n2 ⊢
    generalize nmN (F.2.2.2 2) len n1.2 _ = p2
    refine z_istore_n (i := 3) C dX2_readShop_48 rfl (by decide) ?_
    refine z_aload_n C 3 dX2_readShop_49 rfl ?_
    refine z_iconst C (v := 1) dX2_readShop_50 rfl ?_
    refine z_sipush C (v := 999) dX2_readShop_51 rfl ?_
    refine z_callV2 C (c_X2_readNumber l E F G hl n2.2 o_n2 _ 1 999) ⟨by decide, rfl, rfl⟩ rfl rfl q_X2_105 ⟨by decide, by decide⟩ (Nat.le_of_ble_eq_true rfl) dX2_readShop_54 (fun v F9 hp => ?_)
    obtain ⟨rfl, e9⟩ := hp
    rw [e9]
    clear e9 F9
    have o_n3 : okS len (nmP (F.2.2.2 2) len 1 999 n2.2).2 := nmP_ok o_n2
    have x_n3 := nmP_cs (F.2.2.2 2) len 1 999 n2.2
    generalize e_n3 : nmP (F.2.2.2 2) len 1 999 n2.2 = n3 at o_n3 x_n3 ⊢
    generalize nmN (F.2.2.2 2) len n2.2 _ = p3
    refine z_istore C dX2_readShop_57 (by decide) ?_
    refine z_aload_n C 4 dX2_readShop_59 rfl ?_
    refine xg_8 (k := 2) C (by decide) kf_X2_22 dX2_readShop_60 ?_
    refine z_top (oI n3.2.2) (rfl) ?_
    refine z_iconst C (v := (-1)) dX2_readShop_63 rfl ?_
    refine z_icmp_ne C 79 dX2_readShop_64 (by decide) (fun h64 => ?_) (fun h64 => ?_)
    · skip
      refine z_vret C0 dX2_readShop_79 ?_
      have hf : ¬ n3.2.2 = none := fun z => h64 (by rw [z]; rfl)
      refine ⟨rfl, G, p3, ?_, ?_⟩
      · simp only [itC0, e_s1, if_pos (Int32.not_le.mp h21), e_s2, e_n1, e_n2, e_n3, if_neg hf]
      · simp only [itC0, e_s1, if_pos (Int32.not_le.mp h21), e_s2, e_n1, e_n2, e_n3, if_neg hf]
    · skip
      refine z_aload_n C 4 dX2_readShop_67 rfl ?_
      refine xg_8d C kf_X2_12 dX2_readShop_68 ?_
      refine z_iload_n C 2 dX2_readShop_71 rfl ?_
      refine z_iload_n C 1 dX2_readShop_72 rfl ?_
      refine z_iload C 0 dX2_readShop_73 rfl ?_
      refine z_callV3 C (cg_X1_addShop l E (rS F G len n3.2.1 n3.2.2 p3) (gi := 3) (by decide) hz (show nS G.1 < 6 from by have h := Int32.not_le.mp h21; rw [eS] at h; exact (nI_ltI (b := 6) (by omega) (by omega)).mp h) n1.1 n2.1 n3.1) ⟨(by decide), rfl⟩ rfl rfl q_X2_109 ⟨by decide, by decide⟩ (Nat.le_of_ble_eq_true rfl) dX2_readShop_75 (fun v F9 hp => ?_)
      obtain ⟨rfl, e9⟩ := hp
      rw [e9, rS_G]
      clear e9 F9
      refine z_pop C dX2_readShop_78 rfl ?_
      refine z_vret C0 dX2_readShop_79 ?_
      have hf : n3.2.2 = none := oI_none (okS_bf o_n3 hl) h64
      refine ⟨rfl, (addSh G.1 n1.1 n2.1 n3.1, G.2), p3, ?_, ?_⟩
      · simp only [itC0, e_s1, if_pos (Int32.not_le.mp h21), e_s2, e_n1, e_n2, e_n3, if_pos hf] <;> rfl
      · simp only [itC0, e_s1, if_pos (Int32.not_le.mp h21), e_s2, e_n1, e_n2, e_n3, if_pos hf] <;> rfl
set_option maxRecDepth 100000 in
set_option maxHeartbeats 4000000 in
theorem c_X2_readChild (l : Launch) (E : zE) (F : zF) (G : zGf) {len : Nat} (hl : len ≤ 160) (ps : Nat × Option Nat) (hs : okS len ps) (np : Int32) (hz : gz G.1) : XM l E yX2_readChild cX2_readChild 4 none 6 [.ref (xadr E.2.2.1 (8, 0, 0))] (rS F G len ps.1 ps.2 np) (fun v F2 => v = none ∧ ∃ G2 np2, F2 = rS F G2 len (itC1 (F.2.2.2 2) len G.1 ps).2.1 (itC1 (F.2.2.2 2) len G.1 ps).2.2 np2 ∧ G2.1 = (itC1 (F.2.2.2 2) len G.1 ps).1) := by
  refine XM.mk kq_X2 (Nat.le_of_ble_eq_true rfl) (fun K s C0 => ?_)
  have C := C0.c
  obtain ⟨⟨eS, lS⟩, ⟨eC, lC⟩⟩ := id hz
  refine z_aload_n C 0 dX2_readChild_0 rfl ?_
  refine xg_8 (k := 1) C (by decide) kf_X2_40 dX2_readChild_1 ?_
  refine z_top (nI ps.1) (rfl) ?_
  refine z_istore_n (i := 1) C dX2_readChild_4 rfl (by decide) ?_
  refine z_aload_n C 1 dX2_readChild_5 rfl ?_
  refine z_ldcS C (fun u h => h.2.2 1 (by decide)) dX2_readChild_6 ?_
  refine z_callV1 C (c_X2_readWord l E F G hl ps hs np (i := 1) (by decide)) ⟨by decide, rfl, rfl⟩ rfl rfl q_X2_94 ⟨by decide, by decide⟩ (Nat.le_of_ble_eq_true rfl) dX2_readChild_8 (fun v F9 hp => ?_)
  obtain ⟨rfl, e9⟩ := hp
  rw [e9]
  clear e9 F9
  have o_s1 : okS len (wdP (F.2.2.2 2) len (zByt.getD 1 []) (zLen.getD 1 0) ps) := wdP_ok hs (by decide)
  generalize e_s1 : wdP (F.2.2.2 2) len (zByt.getD 1 []) (zLen.getD 1 0) ps = s1 at o_s1 ⊢
  refine z_aload_n C 1 dX2_readChild_11 rfl ?_
  refine z_aload_n C 1 dX2_readChild_12 rfl ?_
  refine xg_8d C kf_X2_12 dX2_readChild_13 ?_
  refine xg_3 (k := 1) C (by decide) (by decide) kf_X2_115 dX2_readChild_16 ?_
  refine z_top (G.1.1 1) (rfl) ?_
  refine z_bipush C (v := 6) dX2_readChild_19 rfl ?_
  refine z_icmp_ge C 28 dX2_readChild_21 (by decide) (fun h21 => ?_) (fun h21 => ?_)
  · skip
    refine z_iconst C (v := 0) dX2_readChild_28 rfl ?_
    refine z_iload_n C 0 dX2_readChild_29 rfl ?_
    refine z_callV2 C (c_X2_wantRoom l E F G hl s1.1 s1.2 (okS_bf o_s1 hl) np 0 ps.1) ⟨by decide, rfl, rfl⟩ rfl rfl q_X2_101 ⟨by decide, by decide⟩ (Nat.le_of_ble_eq_true rfl) dX2_readChild_30 (fun v F9 hp => ?_)
    obtain ⟨rfl, e9⟩ := hp
    rw [e9]
    clear e9 F9
    have o_s2 : okS len (s1.1, blF s1.2 ps.1) := ⟨o_s1.1, fun q z => blF_le o_s1.2 hs.1 z⟩
    generalize e_s2 : (s1.1, blF s1.2 ps.1) = s2 at o_s2
    refine z_eq (P2 := XP E (rS F G len s2.1 s2.2 np) s) (by rw [← e_s2]; rfl) rfl rfl rfl ?_
    have b_s2 : ∃ q, s2.2 = some q := by rw [← e_s2]; exact blF_some _ _
    refine z_aload_n C 1 dX2_readChild_33 rfl ?_
    refine z_iconst C (v := 1) dX2_readChild_34 rfl ?_
    refine z_bipush C (v := 99) dX2_readChild_35 rfl ?_
    refine z_callV2 C (c_X2_readNumber l E F G hl s2 o_s2 _ 1 99) ⟨by decide, rfl, rfl⟩ rfl rfl q_X2_105 ⟨by decide, by decide⟩ (Nat.le_of_ble_eq_true rfl) dX2_readChild_37 (fun v F9 hp => ?_)
    obtain ⟨rfl, e9⟩ := hp
    rw [e9]
    clear e9 F9
    have o_n1 : okS len (nmP (F.2.2.2 2) len 1 99 s2).2 := nmP_ok o_s2
    have x_n1 := nmP_cs (F.2.2.2 2) len 1 99 s2
    generalize e_n1 : nmP (F.2.2.2 2) len 1 99 s2 = n1 at o_n1 x_n1 ⊢
    generalize nmN (F.2.2.2 2) len s2 _ = p1
    refine z_istore_n (i := 2) C dX2_readChild_40 rfl (by decide) ?_
    refine z_aload_n C 2 dX2_readChild_41 rfl ?_
    refine z_iconst C (v := 0) dX2_readChild_42 rfl ?_
    refine z_sipush C (v := 9999) dX2_readChild_43 rfl ?_
    refine z_callV2 C (c_X2_readNumber l E F G hl n1.2 o_n1 _ 0 9999) ⟨by decide, rfl, rfl⟩ rfl rfl q_X2_105 ⟨by decide, by decide⟩ (Nat.le_of_ble_eq_true rfl) dX2_readChild_46 (fun v F9 hp => ?_)
    obtain ⟨rfl, e9⟩ := hp
    rw [e9]
    clear e9 F9
    have o_n2 : okS len (nmP (F.2.2.2 2) len 0 9999 n1.2).2 := nmP_ok o_n1
    have x_n2 := nmP_cs (F.2.2.2 2) len 0 9999 n1.2
    generalize e_n2 : nmP (F.2.2.2 2) len 0 9999 n1.2 = n2 at o_n2 x_n2 ⊢
    generalize nmN (F.2.2.2 2) len n1.2 _ = p2
    refine z_istore_n (i := 3) C dX2_readChild_49 rfl (by decide) ?_
    refine z_aload_n C 3 dX2_readChild_50 rfl ?_
    refine xg_8 (k := 2) C (by decide) kf_X2_22 dX2_readChild_51 ?_
    refine z_top (oI n2.2.2) (rfl) ?_
    refine z_iconst C (v := (-1)) dX2_readChild_54 rfl ?_
    refine z_icmp_ne C 68 dX2_readChild_55 (by decide) (fun h55 => ?_) (fun h55 => ?_)
    · skip
      refine z_vret C0 dX2_readChild_68 ?_
      have hf : ¬ n2.2.2 = none := fun z => h55 (by rw [z]; rfl)
      refine ⟨rfl, G, p2, ?_, ?_⟩
      · simp only [itC1, e_s1, if_neg (Int32.not_lt.mpr h21), e_s2, e_n1, e_n2, if_neg hf]
      · simp only [itC1, e_s1, if_neg (Int32.not_lt.mpr h21), e_s2, e_n1, e_n2, if_neg hf]
    · exact (by
  have z : n2.2.2 = none := oI_none (okS_bf o_n2 hl) h55
  obtain ⟨q, hq⟩ := b_s2
  have y_n2 := nmP_nn x_n2 z
  have y_n1 := nmP_nn x_n1 y_n2
  rw [hq] at y_n1
  cases y_n1)
  · skip
    refine z_iconst C (v := 1) dX2_readChild_24 rfl ?_
    refine z_goto C 29 dX2_readChild_25 (by decide) ?_
    refine z_iload_n C 0 dX2_readChild_29 rfl ?_
    refine z_callV2 C (c_X2_wantRoom l E F G hl s1.1 s1.2 (okS_bf o_s1 hl) np 1 ps.1) ⟨by decide, rfl, rfl⟩ rfl rfl q_X2_101 ⟨by decide, by decide⟩ (Nat.le_of_ble_eq_true rfl) dX2_readChild_30 (fun v F9 hp => ?_)
    obtain ⟨rfl, e9⟩ := hp
    rw [e9]
    clear e9 F9
    have o_s2 := o_s1
    generalize e_s2 : s1 = s2 at o_s2 ⊢
    refine z_aload_n C 1 dX2_readChild_33 rfl ?_
    refine z_iconst C (v := 1) dX2_readChild_34 rfl ?_
    refine z_bipush C (v := 99) dX2_readChild_35 rfl ?_
    refine z_callV2 C (c_X2_readNumber l E F G hl s2 o_s2 _ 1 99) ⟨by decide, rfl, rfl⟩ rfl rfl q_X2_105 ⟨by decide, by decide⟩ (Nat.le_of_ble_eq_true rfl) dX2_readChild_37 (fun v F9 hp => ?_)
    obtain ⟨rfl, e9⟩ := hp
    rw [e9]
    clear e9 F9
    have o_n1 : okS len (nmP (F.2.2.2 2) len 1 99 s2).2 := nmP_ok o_s2
    have x_n1 := nmP_cs (F.2.2.2 2) len 1 99 s2
    generalize e_n1 : nmP (F.2.2.2 2) len 1 99 s2 = n1 at o_n1 x_n1 ⊢
    generalize nmN (F.2.2.2 2) len s2 _ = p1
    refine z_istore_n (i := 2) C dX2_readChild_40 rfl (by decide) ?_
    refine z_aload_n C 2 dX2_readChild_41 rfl ?_
    refine z_iconst C (v := 0) dX2_readChild_42 rfl ?_
    refine z_sipush C (v := 9999) dX2_readChild_43 rfl ?_
    refine z_callV2 C (c_X2_readNumber l E F G hl n1.2 o_n1 _ 0 9999) ⟨by decide, rfl, rfl⟩ rfl rfl q_X2_105 ⟨by decide, by decide⟩ (Nat.le_of_ble_eq_true rfl) dX2_readChild_46 (fun v F9 hp => ?_)
    obtain ⟨rfl, e9⟩ := hp
    rw [e9]
    clear e9 F9
    have o_n2 : okS len (nmP (F.2.2.2 2) len 0 9999 n1.2).2 := nmP_ok o_n1
    have x_n2 := nmP_cs (F.2.2.2 2) len 0 9999 n1.2
    generalize e_n2 : nmP (F.2.2.2 2) len 0 9999 n1.2 = n2 at o_n2 x_n2 ⊢
    generalize nmN (F.2.2.2 2) len n1.2 _ = p2
    refine z_istore_n (i := 3) C dX2_readChild_49 rfl (by decide) ?_
    refine z_aload_n C 3 dX2_readChild_50 rfl ?_
    refine xg_8 (k := 2) C (by decide) kf_X2_22 dX2_readChild_51 ?_
    refine z_top (oI n2.2.2) (rfl) ?_
    refine z_iconst C (v := (-1)) dX2_readChild_54 rfl ?_
    refine z_icmp_ne C 68 dX2_readChild_55 (by decide) (fun h55 => ?_) (fun h55 => ?_)
    · skip
      refine z_vret C0 dX2_readChild_68 ?_
      have hf : ¬ n2.2.2 = none := fun z => h55 (by rw [z]; rfl)
      refine ⟨rfl, G, p2, ?_, ?_⟩
      · simp only [itC1, e_s1, if_pos (Int32.not_le.mp h21), e_s2, e_n1, e_n2, if_neg hf]
      · simp only [itC1, e_s1, if_pos (Int32.not_le.mp h21), e_s2, e_n1, e_n2, if_neg hf]
    · skip
      refine z_aload_n C 3 dX2_readChild_58 rfl ?_
      refine xg_8d C kf_X2_12 dX2_readChild_59 ?_
      refine z_iload_n C 1 dX2_readChild_62 rfl ?_
      refine z_iload_n C 0 dX2_readChild_63 rfl ?_
      refine z_callV2 C (cg_X1_addChild l E (rS F G len n2.2.1 n2.2.2 p2) (gi := 3) (by decide) hz (show nC G.1 < 6 from by have h := Int32.not_le.mp h21; rw [eC] at h; exact (nI_ltI (b := 6) (by omega) (by omega)).mp h) n1.1 n2.1) ⟨(by decide), rfl⟩ rfl rfl q_X2_118 ⟨by decide, by decide⟩ (Nat.le_of_ble_eq_true rfl) dX2_readChild_64 (fun v F9 hp => ?_)
      obtain ⟨rfl, e9⟩ := hp
      rw [e9, rS_G]
      clear e9 F9
      refine z_pop C dX2_readChild_67 rfl ?_
      refine z_vret C0 dX2_readChild_68 ?_
      have hf : n2.2.2 = none := oI_none (okS_bf o_n2 hl) h55
      refine ⟨rfl, (addCh G.1 n1.1 n2.1, G.2), p2, ?_, ?_⟩
      · simp only [itC1, e_s1, if_pos (Int32.not_le.mp h21), e_s2, e_n1, e_n2, if_pos hf] <;> rfl
      · simp only [itC1, e_s1, if_pos (Int32.not_le.mp h21), e_s2, e_n1, e_n2, if_pos hf] <;> rfl
set_option maxRecDepth 100000 in
set_option maxHeartbeats 4000000 in
theorem c_X2_readFeathers (l : Launch) (E : zE) (F : zF) (G : zGf) {len : Nat} (hl : len ≤ 160) (ps : Nat × Option Nat) (hs : okS len ps) (np : Int32) (hz : gz G.1) : XM l E yX2_readFeathers cX2_readFeathers 3 none 6 [.ref (xadr E.2.2.1 (8, 0, 0))] (rS F G len ps.1 ps.2 np) (fun v F2 => v = none ∧ ∃ G2 np2, F2 = rS F G2 len (itC2 (F.2.2.2 2) len G.1 ps).2.1 (itC2 (F.2.2.2 2) len G.1 ps).2.2 np2 ∧ G2.1 = (itC2 (F.2.2.2 2) len G.1 ps).1) := by
  refine XM.mk kq_X2 (Nat.le_of_ble_eq_true rfl) (fun K s C0 => ?_)
  have C := C0.c
  obtain ⟨⟨eS, lS⟩, ⟨eC, lC⟩⟩ := id hz
  refine z_aload_n C 0 dX2_readFeathers_0 rfl ?_
  refine z_ldcS C (fun u h => h.2.2 2 (by decide)) dX2_readFeathers_1 ?_
  refine z_callV1 C (c_X2_readWord l E F G hl ps hs np (i := 2) (by decide)) ⟨by decide, rfl, rfl⟩ rfl rfl q_X2_94 ⟨by decide, by decide⟩ (Nat.le_of_ble_eq_true rfl) dX2_readFeathers_3 (fun v F9 hp => ?_)
  obtain ⟨rfl, e9⟩ := hp
  rw [e9]
  clear e9 F9
  have o_s1 : okS len (wdP (F.2.2.2 2) len (zByt.getD 2 []) (zLen.getD 2 0) ps) := wdP_ok hs (by decide)
  generalize e_s1 : wdP (F.2.2.2 2) len (zByt.getD 2 []) (zLen.getD 2 0) ps = s1 at o_s1 ⊢
  refine z_aload_n C 0 dX2_readFeathers_6 rfl ?_
  refine z_iconst C (v := 0) dX2_readFeathers_7 rfl ?_
  refine z_aload_n C 0 dX2_readFeathers_8 rfl ?_
  refine xg_8d C kf_X2_12 dX2_readFeathers_9 ?_
  refine xg_3 (k := 1) C (by decide) (by decide) kf_X2_115 dX2_readFeathers_12 ?_
  refine z_top (G.1.1 1) (rfl) ?_
  refine z_iconst C (v := 1) dX2_readFeathers_15 rfl ?_
  refine z_isub C dX2_readFeathers_16 ?_
  refine z_callV2 C (c_X2_readNumber l E F G hl s1 o_s1 _ 0 (G.1.1 1 - 1)) ⟨by decide, rfl, rfl⟩ rfl rfl q_X2_105 ⟨by decide, by decide⟩ (Nat.le_of_ble_eq_true rfl) dX2_readFeathers_17 (fun v F9 hp => ?_)
  obtain ⟨rfl, e9⟩ := hp
  rw [e9]
  clear e9 F9
  have o_n1 : okS len (nmP (F.2.2.2 2) len 0 (G.1.1 1 - 1) s1).2 := nmP_ok o_s1
  have x_n1 := nmP_cs (F.2.2.2 2) len 0 (G.1.1 1 - 1) s1
  generalize e_n1 : nmP (F.2.2.2 2) len 0 (G.1.1 1 - 1) s1 = n1 at o_n1 x_n1 ⊢
  generalize nmN (F.2.2.2 2) len s1 _ = p1
  refine z_istore_n (i := 1) C dX2_readFeathers_20 rfl (by decide) ?_
  refine z_aload_n C 1 dX2_readFeathers_21 rfl ?_
  refine z_iconst C (v := 0) dX2_readFeathers_22 rfl ?_
  refine z_bipush C (v := 99) dX2_readFeathers_23 rfl ?_
  refine z_callV2 C (c_X2_readNumber l E F G hl n1.2 o_n1 _ 0 99) ⟨by decide, rfl, rfl⟩ rfl rfl q_X2_105 ⟨by decide, by decide⟩ (Nat.le_of_ble_eq_true rfl) dX2_readFeathers_25 (fun v F9 hp => ?_)
  obtain ⟨rfl, e9⟩ := hp
  rw [e9]
  clear e9 F9
  have o_n2 : okS len (nmP (F.2.2.2 2) len 0 99 n1.2).2 := nmP_ok o_n1
  have x_n2 := nmP_cs (F.2.2.2 2) len 0 99 n1.2
  generalize e_n2 : nmP (F.2.2.2 2) len 0 99 n1.2 = n2 at o_n2 x_n2 ⊢
  generalize nmN (F.2.2.2 2) len n1.2 _ = p2
  refine z_istore_n (i := 2) C dX2_readFeathers_28 rfl (by decide) ?_
  refine z_aload_n C 2 dX2_readFeathers_29 rfl ?_
  refine xg_8 (k := 2) C (by decide) kf_X2_22 dX2_readFeathers_30 ?_
  refine z_top (oI n2.2.2) (rfl) ?_
  refine z_iconst C (v := (-1)) dX2_readFeathers_33 rfl ?_
  refine z_icmp_ne C 50 dX2_readFeathers_34 (by decide) (fun h34 => ?_) (fun h34 => ?_)
  · skip
    refine z_vret C0 dX2_readFeathers_50 ?_
    have hf : ¬ n2.2.2 = none := fun z => h34 (by rw [z]; rfl)
    refine ⟨rfl, G, p2, ?_, ?_⟩
    · simp only [itC2, e_s1, e_n1, e_n2, if_neg hf]
    · simp only [itC2, e_s1, e_n1, e_n2, if_neg hf]
  · skip
    have hf : n2.2.2 = none := oI_none (okS_bf o_n2 hl) h34
    have hy := nmP_nn x_n2 hf
    obtain ⟨hx1, hx2⟩ := nmP_in x_n1 hy
    rw [eC] at hx2
    obtain ⟨c, hc, ec⟩ := i_idx lC hx1 hx2
    have hc6 : c < 6 := by omega
    refine z_aload_n C 2 dX2_readFeathers_37 rfl ?_
    refine xg_8d C kf_X2_12 dX2_readFeathers_38 ?_
    refine xg_3c C (by decide) kf_X2_123 dX2_readFeathers_41 ?_
    refine z_iload_n C 1 dX2_readFeathers_44 rfl ?_
    refine xa_5 C (by decide) c ec hc6 dX2_readFeathers_45 ?_
    refine z_iload_n C 0 dX2_readFeathers_46 rfl ?_
    refine xp_7 (k := 3) C (by decide) (by first | assumption | omega) (by decide) kf_X2_127 dX2_readFeathers_47 ?_
    refine z_vret C0 dX2_readFeathers_50 ?_
    rw [rS_G]
    refine ⟨rfl, fCh G c 3 n2.1, p2, ?_, ?_⟩
    · simp only [itC2, e_s1, e_n1, e_n2, if_pos hf] <;> rfl
    · simp only [itC2, e_s1, e_n1, e_n2, if_pos hf, ec, nI_clamp (show c < 2 ^ 31 by omega)] <;> rfl
set_option maxRecDepth 100000 in
set_option maxHeartbeats 4000000 in
theorem c_X2_readKeeps (l : Launch) (E : zE) (F : zF) (G : zGf) {len : Nat} (hl : len ≤ 160) (ps : Nat × Option Nat) (hs : okS len ps) (np : Int32) (hz : gz G.1) : XM l E yX2_readKeeps cX2_readKeeps 3 none 6 [.ref (xadr E.2.2.1 (8, 0, 0))] (rS F G len ps.1 ps.2 np) (fun v F2 => v = none ∧ ∃ G2 np2, F2 = rS F G2 len (itC3 (F.2.2.2 2) len G.1 ps).2.1 (itC3 (F.2.2.2 2) len G.1 ps).2.2 np2 ∧ G2.1 = (itC3 (F.2.2.2 2) len G.1 ps).1) := by
  refine XM.mk kq_X2 (Nat.le_of_ble_eq_true rfl) (fun K s C0 => ?_)
  have C := C0.c
  obtain ⟨⟨eS, lS⟩, ⟨eC, lC⟩⟩ := id hz
  refine z_aload_n C 0 dX2_readKeeps_0 rfl ?_
  refine z_ldcS C (fun u h => h.2.2 3 (by decide)) dX2_readKeeps_1 ?_
  refine z_callV1 C (c_X2_readWord l E F G hl ps hs np (i := 3) (by decide)) ⟨by decide, rfl, rfl⟩ rfl rfl q_X2_94 ⟨by decide, by decide⟩ (Nat.le_of_ble_eq_true rfl) dX2_readKeeps_3 (fun v F9 hp => ?_)
  obtain ⟨rfl, e9⟩ := hp
  rw [e9]
  clear e9 F9
  have o_s1 : okS len (wdP (F.2.2.2 2) len (zByt.getD 3 []) (zLen.getD 3 0) ps) := wdP_ok hs (by decide)
  generalize e_s1 : wdP (F.2.2.2 2) len (zByt.getD 3 []) (zLen.getD 3 0) ps = s1 at o_s1 ⊢
  refine z_aload_n C 0 dX2_readKeeps_6 rfl ?_
  refine z_iconst C (v := 0) dX2_readKeeps_7 rfl ?_
  refine z_aload_n C 0 dX2_readKeeps_8 rfl ?_
  refine xg_8d C kf_X2_12 dX2_readKeeps_9 ?_
  refine xg_3 (k := 1) C (by decide) (by decide) kf_X2_115 dX2_readKeeps_12 ?_
  refine z_top (G.1.1 1) (rfl) ?_
  refine z_iconst C (v := 1) dX2_readKeeps_15 rfl ?_
  refine z_isub C dX2_readKeeps_16 ?_
  refine z_callV2 C (c_X2_readNumber l E F G hl s1 o_s1 _ 0 (G.1.1 1 - 1)) ⟨by decide, rfl, rfl⟩ rfl rfl q_X2_105 ⟨by decide, by decide⟩ (Nat.le_of_ble_eq_true rfl) dX2_readKeeps_17 (fun v F9 hp => ?_)
  obtain ⟨rfl, e9⟩ := hp
  rw [e9]
  clear e9 F9
  have o_n1 : okS len (nmP (F.2.2.2 2) len 0 (G.1.1 1 - 1) s1).2 := nmP_ok o_s1
  have x_n1 := nmP_cs (F.2.2.2 2) len 0 (G.1.1 1 - 1) s1
  generalize e_n1 : nmP (F.2.2.2 2) len 0 (G.1.1 1 - 1) s1 = n1 at o_n1 x_n1 ⊢
  generalize nmN (F.2.2.2 2) len s1 _ = p1
  refine z_istore_n (i := 1) C dX2_readKeeps_20 rfl (by decide) ?_
  refine z_aload_n C 1 dX2_readKeeps_21 rfl ?_
  refine z_iconst C (v := 0) dX2_readKeeps_22 rfl ?_
  refine z_aload_n C 1 dX2_readKeeps_23 rfl ?_
  refine xg_8d C kf_X2_12 dX2_readKeeps_24 ?_
  refine xg_3 (k := 0) C (by decide) (by decide) kf_X2_98 dX2_readKeeps_27 ?_
  refine z_top (G.1.1 0) (rfl) ?_
  refine z_iconst C (v := 1) dX2_readKeeps_30 rfl ?_
  refine z_isub C dX2_readKeeps_31 ?_
  refine z_callV2 C (c_X2_readNumber l E F G hl n1.2 o_n1 _ 0 (G.1.1 0 - 1)) ⟨by decide, rfl, rfl⟩ rfl rfl q_X2_105 ⟨by decide, by decide⟩ (Nat.le_of_ble_eq_true rfl) dX2_readKeeps_32 (fun v F9 hp => ?_)
  obtain ⟨rfl, e9⟩ := hp
  rw [e9]
  clear e9 F9
  have o_n2 : okS len (nmP (F.2.2.2 2) len 0 (G.1.1 0 - 1) n1.2).2 := nmP_ok o_n1
  have x_n2 := nmP_cs (F.2.2.2 2) len 0 (G.1.1 0 - 1) n1.2
  generalize e_n2 : nmP (F.2.2.2 2) len 0 (G.1.1 0 - 1) n1.2 = n2 at o_n2 x_n2 ⊢
  generalize nmN (F.2.2.2 2) len n1.2 _ = p2
  refine z_istore_n (i := 2) C dX2_readKeeps_35 rfl (by decide) ?_
  refine z_aload_n C 2 dX2_readKeeps_36 rfl ?_
  refine xg_8 (k := 2) C (by decide) kf_X2_22 dX2_readKeeps_37 ?_
  refine z_top (oI n2.2.2) (rfl) ?_
  refine z_iconst C (v := (-1)) dX2_readKeeps_40 rfl ?_
  refine z_icmp_ne C 57 dX2_readKeeps_41 (by decide) (fun h41 => ?_) (fun h41 => ?_)
  · skip
    refine z_vret C0 dX2_readKeeps_57 ?_
    have hf : ¬ n2.2.2 = none := fun z => h41 (by rw [z]; rfl)
    refine ⟨rfl, G, p2, ?_, ?_⟩
    · simp only [itC3, e_s1, e_n1, e_n2, if_neg hf]
    · simp only [itC3, e_s1, e_n1, e_n2, if_neg hf]
  · skip
    have hf : n2.2.2 = none := oI_none (okS_bf o_n2 hl) h41
    have hy := nmP_nn x_n2 hf
    obtain ⟨hx1, hx2⟩ := nmP_in x_n1 hy
    rw [eC] at hx2
    obtain ⟨c, hc, ec⟩ := i_idx lC hx1 hx2
    have hc6 : c < 6 := by omega
    refine z_aload_n C 2 dX2_readKeeps_44 rfl ?_
    refine xg_8d C kf_X2_12 dX2_readKeeps_45 ?_
    refine xg_3c C (by decide) kf_X2_123 dX2_readKeeps_48 ?_
    refine z_iload_n C 1 dX2_readKeeps_51 rfl ?_
    refine xa_5 C (by decide) c ec hc6 dX2_readKeeps_52 ?_
    refine z_iload_n C 0 dX2_readKeeps_53 rfl ?_
    refine xp_7 (k := 5) C (by decide) (by first | assumption | omega) (by decide) kf_X2_133 dX2_readKeeps_54 ?_
    refine z_vret C0 dX2_readKeeps_57 ?_
    rw [rS_G]
    refine ⟨rfl, fCh G c 5 n2.1, p2, ?_, ?_⟩
    · simp only [itC3, e_s1, e_n1, e_n2, if_pos hf] <;> rfl
    · simp only [itC3, e_s1, e_n1, e_n2, if_pos hf, ec, nI_clamp (show c < 2 ^ 31 by omega)] <;> rfl
set_option maxRecDepth 100000 in
set_option maxHeartbeats 4000000 in
theorem c_X2_readInk (l : Launch) (E : zE) (F : zF) (G : zGf) {len : Nat} (hl : len ≤ 160) (ps : Nat × Option Nat) (hs : okS len ps) (np : Int32) (hz : gz G.1) : XM l E yX2_readInk cX2_readInk 2 none 6 [.ref (xadr E.2.2.1 (8, 0, 0))] (rS F G len ps.1 ps.2 np) (fun v F2 => v = none ∧ ∃ G2 np2, F2 = rS F G2 len (itC4 (F.2.2.2 2) len G.1 ps).2.1 (itC4 (F.2.2.2 2) len G.1 ps).2.2 np2 ∧ G2.1 = (itC4 (F.2.2.2 2) len G.1 ps).1) := by
  refine XM.mk kq_X2 (Nat.le_of_ble_eq_true rfl) (fun K s C0 => ?_)
  have C := C0.c
  obtain ⟨⟨eS, lS⟩, ⟨eC, lC⟩⟩ := id hz
  refine z_aload_n C 0 dX2_readInk_0 rfl ?_
  refine z_ldcS C (fun u h => h.2.2 4 (by decide)) dX2_readInk_1 ?_
  refine z_callV1 C (c_X2_readWord l E F G hl ps hs np (i := 4) (by decide)) ⟨by decide, rfl, rfl⟩ rfl rfl q_X2_94 ⟨by decide, by decide⟩ (Nat.le_of_ble_eq_true rfl) dX2_readInk_3 (fun v F9 hp => ?_)
  obtain ⟨rfl, e9⟩ := hp
  rw [e9]
  clear e9 F9
  have o_s1 : okS len (wdP (F.2.2.2 2) len (zByt.getD 4 []) (zLen.getD 4 0) ps) := wdP_ok hs (by decide)
  generalize e_s1 : wdP (F.2.2.2 2) len (zByt.getD 4 []) (zLen.getD 4 0) ps = s1 at o_s1 ⊢
  refine z_aload_n C 0 dX2_readInk_6 rfl ?_
  refine z_iconst C (v := 0) dX2_readInk_7 rfl ?_
  refine z_bipush C (v := 99) dX2_readInk_8 rfl ?_
  refine z_callV2 C (c_X2_readNumber l E F G hl s1 o_s1 _ 0 99) ⟨by decide, rfl, rfl⟩ rfl rfl q_X2_105 ⟨by decide, by decide⟩ (Nat.le_of_ble_eq_true rfl) dX2_readInk_10 (fun v F9 hp => ?_)
  obtain ⟨rfl, e9⟩ := hp
  rw [e9]
  clear e9 F9
  have o_n1 : okS len (nmP (F.2.2.2 2) len 0 99 s1).2 := nmP_ok o_s1
  have x_n1 := nmP_cs (F.2.2.2 2) len 0 99 s1
  generalize e_n1 : nmP (F.2.2.2 2) len 0 99 s1 = n1 at o_n1 x_n1 ⊢
  generalize nmN (F.2.2.2 2) len s1 _ = p1
  refine z_istore_n (i := 1) C dX2_readInk_13 rfl (by decide) ?_
  refine z_aload_n C 1 dX2_readInk_14 rfl ?_
  refine xg_8 (k := 2) C (by decide) kf_X2_22 dX2_readInk_15 ?_
  refine z_top (oI n1.2.2) (rfl) ?_
  refine z_iconst C (v := (-1)) dX2_readInk_18 rfl ?_
  refine z_icmp_ne C 30 dX2_readInk_19 (by decide) (fun h19 => ?_) (fun h19 => ?_)
  · skip
    refine z_vret C0 dX2_readInk_30 ?_
    have hf : ¬ n1.2.2 = none := fun z => h19 (by rw [z]; rfl)
    refine ⟨rfl, G, p1, ?_, ?_⟩
    · simp only [itC4, e_s1, e_n1, if_neg hf]
    · simp only [itC4, e_s1, e_n1, if_neg hf]
  · skip
    have hf : n1.2.2 = none := oI_none (okS_bf o_n1 hl) h19
    refine z_aload_n C 1 dX2_readInk_22 rfl ?_
    refine xg_8d C kf_X2_12 dX2_readInk_23 ?_
    refine z_iload_n C 0 dX2_readInk_26 rfl ?_
    refine xp_3 (k := 4) C (by decide) (by decide) kf_X2_138 dX2_readInk_27 ?_
    refine z_vret C0 dX2_readInk_30 ?_
    rw [rS_G]
    refine ⟨rfl, fSc G 4 n1.1, p1, ?_, ?_⟩
    · simp only [itC4, e_s1, e_n1, if_pos hf] <;> rfl
    · simp only [itC4, e_s1, e_n1, if_pos hf] <;> rfl
set_option maxRecDepth 100000 in
set_option maxHeartbeats 4000000 in
theorem c_X2_readTree (l : Launch) (E : zE) (F : zF) (G : zGf) {len : Nat} (hl : len ≤ 160) (ps : Nat × Option Nat) (hs : okS len ps) (np : Int32) (hz : gz G.1) : XM l E yX2_readTree cX2_readTree 2 none 6 [.ref (xadr E.2.2.1 (8, 0, 0))] (rS F G len ps.1 ps.2 np) (fun v F2 => v = none ∧ ∃ G2 np2, F2 = rS F G2 len (itC5 (F.2.2.2 2) len G.1 ps).2.1 (itC5 (F.2.2.2 2) len G.1 ps).2.2 np2 ∧ G2.1 = (itC5 (F.2.2.2 2) len G.1 ps).1) := by
  refine XM.mk kq_X2 (Nat.le_of_ble_eq_true rfl) (fun K s C0 => ?_)
  have C := C0.c
  obtain ⟨⟨eS, lS⟩, ⟨eC, lC⟩⟩ := id hz
  refine z_aload_n C 0 dX2_readTree_0 rfl ?_
  refine z_ldcS C (fun u h => h.2.2 5 (by decide)) dX2_readTree_1 ?_
  refine z_callV1 C (c_X2_readWord l E F G hl ps hs np (i := 5) (by decide)) ⟨by decide, rfl, rfl⟩ rfl rfl q_X2_94 ⟨by decide, by decide⟩ (Nat.le_of_ble_eq_true rfl) dX2_readTree_3 (fun v F9 hp => ?_)
  obtain ⟨rfl, e9⟩ := hp
  rw [e9]
  clear e9 F9
  have o_s1 : okS len (wdP (F.2.2.2 2) len (zByt.getD 5 []) (zLen.getD 5 0) ps) := wdP_ok hs (by decide)
  generalize e_s1 : wdP (F.2.2.2 2) len (zByt.getD 5 []) (zLen.getD 5 0) ps = s1 at o_s1 ⊢
  refine z_aload_n C 0 dX2_readTree_6 rfl ?_
  refine z_iconst C (v := 0) dX2_readTree_7 rfl ?_
  refine z_sipush C (v := 9999) dX2_readTree_8 rfl ?_
  refine z_callV2 C (c_X2_readNumber l E F G hl s1 o_s1 _ 0 9999) ⟨by decide, rfl, rfl⟩ rfl rfl q_X2_105 ⟨by decide, by decide⟩ (Nat.le_of_ble_eq_true rfl) dX2_readTree_11 (fun v F9 hp => ?_)
  obtain ⟨rfl, e9⟩ := hp
  rw [e9]
  clear e9 F9
  have o_n1 : okS len (nmP (F.2.2.2 2) len 0 9999 s1).2 := nmP_ok o_s1
  have x_n1 := nmP_cs (F.2.2.2 2) len 0 9999 s1
  generalize e_n1 : nmP (F.2.2.2 2) len 0 9999 s1 = n1 at o_n1 x_n1 ⊢
  generalize nmN (F.2.2.2 2) len s1 _ = p1
  refine z_istore_n (i := 1) C dX2_readTree_14 rfl (by decide) ?_
  refine z_aload_n C 1 dX2_readTree_15 rfl ?_
  refine xg_8 (k := 2) C (by decide) kf_X2_22 dX2_readTree_16 ?_
  refine z_top (oI n1.2.2) (rfl) ?_
  refine z_iconst C (v := (-1)) dX2_readTree_19 rfl ?_
  refine z_icmp_ne C 31 dX2_readTree_20 (by decide) (fun h20 => ?_) (fun h20 => ?_)
  · skip
    refine z_vret C0 dX2_readTree_31 ?_
    have hf : ¬ n1.2.2 = none := fun z => h20 (by rw [z]; rfl)
    refine ⟨rfl, G, p1, ?_, ?_⟩
    · simp only [itC5, e_s1, e_n1, if_neg hf]
    · simp only [itC5, e_s1, e_n1, if_neg hf]
  · skip
    have hf : n1.2.2 = none := oI_none (okS_bf o_n1 hl) h20
    refine z_aload_n C 1 dX2_readTree_23 rfl ?_
    refine xg_8d C kf_X2_12 dX2_readTree_24 ?_
    refine z_iload_n C 0 dX2_readTree_27 rfl ?_
    refine xp_3 (k := 5) C (by decide) (by decide) kf_X2_142 dX2_readTree_28 ?_
    refine z_vret C0 dX2_readTree_31 ?_
    rw [rS_G]
    refine ⟨rfl, fSc G 5 n1.1, p1, ?_, ?_⟩
    · simp only [itC5, e_s1, e_n1, if_pos hf] <;> rfl
    · simp only [itC5, e_s1, e_n1, if_pos hf] <;> rfl
set_option maxRecDepth 100000 in
set_option maxHeartbeats 4000000 in
theorem c_X2_readDeed (l : Launch) (E : zE) (F : zF) (G : zGf) {len : Nat} (hl : len ≤ 160) (ps : Nat × Option Nat) (hs : okS len ps) (np : Int32) (hz : gz G.1) : XM l E yX2_readDeed cX2_readDeed 3 none 6 [.ref (xadr E.2.2.1 (8, 0, 0))] (rS F G len ps.1 ps.2 np) (fun v F2 => v = none ∧ ∃ G2 np2, F2 = rS F G2 len (itC6 (F.2.2.2 2) len G.1 ps).2.1 (itC6 (F.2.2.2 2) len G.1 ps).2.2 np2 ∧ G2.1 = (itC6 (F.2.2.2 2) len G.1 ps).1) := by
  refine XM.mk kq_X2 (Nat.le_of_ble_eq_true rfl) (fun K s C0 => ?_)
  have C := C0.c
  obtain ⟨⟨eS, lS⟩, ⟨eC, lC⟩⟩ := id hz
  refine z_aload_n C 0 dX2_readDeed_0 rfl ?_
  refine z_ldcS C (fun u h => h.2.2 6 (by decide)) dX2_readDeed_1 ?_
  refine z_callV1 C (c_X2_readWord l E F G hl ps hs np (i := 6) (by decide)) ⟨by decide, rfl, rfl⟩ rfl rfl q_X2_94 ⟨by decide, by decide⟩ (Nat.le_of_ble_eq_true rfl) dX2_readDeed_3 (fun v F9 hp => ?_)
  obtain ⟨rfl, e9⟩ := hp
  rw [e9]
  clear e9 F9
  have o_s1 : okS len (wdP (F.2.2.2 2) len (zByt.getD 6 []) (zLen.getD 6 0) ps) := wdP_ok hs (by decide)
  generalize e_s1 : wdP (F.2.2.2 2) len (zByt.getD 6 []) (zLen.getD 6 0) ps = s1 at o_s1 ⊢
  refine z_aload_n C 0 dX2_readDeed_6 rfl ?_
  refine z_iconst C (v := 0) dX2_readDeed_7 rfl ?_
  refine z_aload_n C 0 dX2_readDeed_8 rfl ?_
  refine xg_8d C kf_X2_12 dX2_readDeed_9 ?_
  refine xg_3 (k := 1) C (by decide) (by decide) kf_X2_115 dX2_readDeed_12 ?_
  refine z_top (G.1.1 1) (rfl) ?_
  refine z_iconst C (v := 1) dX2_readDeed_15 rfl ?_
  refine z_isub C dX2_readDeed_16 ?_
  refine z_callV2 C (c_X2_readNumber l E F G hl s1 o_s1 _ 0 (G.1.1 1 - 1)) ⟨by decide, rfl, rfl⟩ rfl rfl q_X2_105 ⟨by decide, by decide⟩ (Nat.le_of_ble_eq_true rfl) dX2_readDeed_17 (fun v F9 hp => ?_)
  obtain ⟨rfl, e9⟩ := hp
  rw [e9]
  clear e9 F9
  have o_n1 : okS len (nmP (F.2.2.2 2) len 0 (G.1.1 1 - 1) s1).2 := nmP_ok o_s1
  have x_n1 := nmP_cs (F.2.2.2 2) len 0 (G.1.1 1 - 1) s1
  generalize e_n1 : nmP (F.2.2.2 2) len 0 (G.1.1 1 - 1) s1 = n1 at o_n1 x_n1 ⊢
  generalize nmN (F.2.2.2 2) len s1 _ = p1
  refine z_istore_n (i := 1) C dX2_readDeed_20 rfl (by decide) ?_
  refine z_aload_n C 1 dX2_readDeed_21 rfl ?_
  refine z_iconst C (v := 0) dX2_readDeed_22 rfl ?_
  refine z_sipush C (v := 9999) dX2_readDeed_23 rfl ?_
  refine z_callV2 C (c_X2_readNumber l E F G hl n1.2 o_n1 _ 0 9999) ⟨by decide, rfl, rfl⟩ rfl rfl q_X2_105 ⟨by decide, by decide⟩ (Nat.le_of_ble_eq_true rfl) dX2_readDeed_26 (fun v F9 hp => ?_)
  obtain ⟨rfl, e9⟩ := hp
  rw [e9]
  clear e9 F9
  have o_n2 : okS len (nmP (F.2.2.2 2) len 0 9999 n1.2).2 := nmP_ok o_n1
  have x_n2 := nmP_cs (F.2.2.2 2) len 0 9999 n1.2
  generalize e_n2 : nmP (F.2.2.2 2) len 0 9999 n1.2 = n2 at o_n2 x_n2 ⊢
  generalize e_p2 : nmN (F.2.2.2 2) len n1.2 _ = p2
  refine z_istore_n (i := 2) C dX2_readDeed_29 rfl (by decide) ?_
  refine z_aload_n C 2 dX2_readDeed_30 rfl ?_
  refine xg_8 (k := 2) C (by decide) kf_X2_22 dX2_readDeed_31 ?_
  refine z_top (oI n2.2.2) (rfl) ?_
  refine z_iconst C (v := (-1)) dX2_readDeed_34 rfl ?_
  refine z_icmp_eq C 39 dX2_readDeed_35 (by decide) (fun h35 => ?_) (fun h35 => ?_)
  · skip
    have hf : n2.2.2 = none := oI_none (okS_bf o_n2 hl) h35
    have hy := nmP_nn x_n2 hf
    obtain ⟨hx1, hx2⟩ := nmP_in x_n1 hy
    rw [eC] at hx2
    obtain ⟨c, hc, ec⟩ := i_idx lC hx1 hx2
    have hc6 : c < 6 := by omega
    refine z_aload_n C 2 dX2_readDeed_39 rfl ?_
    refine xg_8d C kf_X2_12 dX2_readDeed_40 ?_
    refine z_iload_n C 1 dX2_readDeed_43 rfl ?_
    refine z_top (nI c) (ec) ?_
    refine z_iload_n C 0 dX2_readDeed_44 rfl ?_
    refine z_callV2 C (cg_X1_can l E (rS F G len n2.2.1 n2.2.2 p2) (gi := 3) (by decide) hz hc n2.1) ⟨(by decide), rfl⟩ rfl rfl q_X2_146 ⟨by decide, by decide⟩ (Nat.le_of_ble_eq_true rfl) dX2_readDeed_45 (fun v F9 hp => ?_)
    obtain ⟨rfl, e9⟩ := hp
    rw [e9]
    clear e9 F9
    refine z_if_eq C 63 dX2_readDeed_48 (by decide) (fun h48 => ?_) (fun h48 => ?_)
    · skip
      have h48 := bI_0 h48
      refine z_aload_n C 2 dX2_readDeed_63 rfl ?_
      refine z_aload_n C 2 dX2_readDeed_64 rfl ?_
      refine xg_8 (k := 3) C (by decide) kf_X2_89 dX2_readDeed_65 ?_
      refine z_top (nI (exP (F.2.2.2 2) len 32 n1.2).1) ((show _ = p2 from rfl).trans (e_p2.symm.trans (nmN_t (nmP_nx x_n2 hf)))) ?_
      refine z_callV1 C (c_X2_blame l E F G hl n2.2.1 n2.2.2 (okS_bf o_n2 hl) p2 (exP (F.2.2.2 2) len 32 n1.2).1) ⟨by decide, rfl, rfl⟩ rfl rfl q_X2_54 ⟨by decide, by decide⟩ (Nat.le_of_ble_eq_true rfl) dX2_readDeed_68 (fun v F9 hp => ?_)
      obtain ⟨rfl, e9⟩ := hp
      rw [e9]
      clear e9 F9
      refine z_vret C0 dX2_readDeed_71 ?_
      have h48b : ¬ can G.1 c n2.1 = true := fun z => absurd (h48.symm.trans z) (by decide)
      refine ⟨rfl, G, p2, ?_, ?_⟩
      · simp only [itC6, e_s1, e_n1, e_n2, if_pos hf, ec, nI_clamp (show c < 2 ^ 31 by omega), if_neg h48b]
        rw [hf]
        rfl
      · simp only [itC6, e_s1, e_n1, e_n2, if_pos hf, ec, nI_clamp (show c < 2 ^ 31 by omega), if_neg h48b]
    · skip
      have h48 := bI_1 h48
      refine z_aload_n C 2 dX2_readDeed_51 rfl ?_
      refine xg_8d C kf_X2_12 dX2_readDeed_52 ?_
      refine z_iload_n C 1 dX2_readDeed_55 rfl ?_
      refine z_top (nI c) (ec) ?_
      refine z_iload_n C 0 dX2_readDeed_56 rfl ?_
      refine z_callV2 C (cg_X1_perform l E (rS F G len n2.2.1 n2.2.2 p2) (gi := 3) (by decide) hz hc (can_dd hz h48)) ⟨(by decide), rfl⟩ rfl rfl q_X2_150 ⟨by decide, by decide⟩ (Nat.le_of_ble_eq_true rfl) dX2_readDeed_57 (fun v F9 hp => ?_)
      obtain ⟨rfl, e9⟩ := hp
      rw [e9, rS_G]
      clear e9 F9
      refine z_goto C 71 dX2_readDeed_60 (by decide) ?_
      refine z_vret C0 dX2_readDeed_71 ?_
      refine ⟨rfl, perf G c n2.1, p2, ?_, ?_⟩
      · simp only [itC6, e_s1, e_n1, e_n2, if_pos hf, ec, nI_clamp (show c < 2 ^ 31 by omega), if_pos (show can G.1 c n2.1 = true from h48)] <;> rfl
      · simp only [itC6, e_s1, e_n1, e_n2, if_pos hf, ec, nI_clamp (show c < 2 ^ 31 by omega), if_pos (show can G.1 c n2.1 = true from h48)] <;> rfl
  · skip
    refine z_vret C0 dX2_readDeed_38 ?_
    have hf : ¬ n2.2.2 = none := fun z => h35 (by rw [z]; rfl)
    refine ⟨rfl, G, p2, ?_, ?_⟩
    · simp only [itC6, e_s1, e_n1, e_n2, if_neg hf]
    · simp only [itC6, e_s1, e_n1, e_n2, if_neg hf]
set_option maxRecDepth 100000 in
set_option maxHeartbeats 4000000 in
theorem c_X2_readNight (l : Launch) (E : zE) (F : zF) (G : zGf) {len : Nat} (hl : len ≤ 160) (ps : Nat × Option Nat) (hs : okS len ps) (np : Int32) (hz : gz G.1) : XM l E yX2_readNight cX2_readNight 1 none 6 [.ref (xadr E.2.2.1 (8, 0, 0))] (rS F G len ps.1 ps.2 np) (fun v F2 => v = none ∧ ∃ G2 np2, F2 = rS F G2 len (itC7 (F.2.2.2 2) len G.1 ps).2.1 (itC7 (F.2.2.2 2) len G.1 ps).2.2 np2 ∧ G2.1 = (itC7 (F.2.2.2 2) len G.1 ps).1) := by
  refine XM.mk kq_X2 (Nat.le_of_ble_eq_true rfl) (fun K s C0 => ?_)
  have C := C0.c
  obtain ⟨⟨eS, lS⟩, ⟨eC, lC⟩⟩ := id hz
  refine z_aload_n C 0 dX2_readNight_0 rfl ?_
  refine z_ldcS C (fun u h => h.2.2 7 (by decide)) dX2_readNight_1 ?_
  refine z_callV1 C (c_X2_readWord l E F G hl ps hs np (i := 7) (by decide)) ⟨by decide, rfl, rfl⟩ rfl rfl q_X2_94 ⟨by decide, by decide⟩ (Nat.le_of_ble_eq_true rfl) dX2_readNight_3 (fun v F9 hp => ?_)
  obtain ⟨rfl, e9⟩ := hp
  rw [e9]
  clear e9 F9
  have o_s1 : okS len (wdP (F.2.2.2 2) len (zByt.getD 7 []) (zLen.getD 7 0) ps) := wdP_ok hs (by decide)
  generalize e_s1 : wdP (F.2.2.2 2) len (zByt.getD 7 []) (zLen.getD 7 0) ps = s1 at o_s1 ⊢
  refine z_aload_n C 0 dX2_readNight_6 rfl ?_
  refine xg_8 (k := 2) C (by decide) kf_X2_22 dX2_readNight_7 ?_
  refine z_top (oI s1.2) (rfl) ?_
  refine z_iconst C (v := (-1)) dX2_readNight_10 rfl ?_
  refine z_icmp_ne C 22 dX2_readNight_11 (by decide) (fun h11 => ?_) (fun h11 => ?_)
  · skip
    refine z_vret C0 dX2_readNight_22 ?_
    have hf : ¬ s1.2 = none := fun z => h11 (by rw [z]; rfl)
    refine ⟨rfl, G, np, ?_, ?_⟩
    · simp only [itC7, e_s1, if_neg hf]
    · simp only [itC7, e_s1, if_neg hf]
  · skip
    refine z_aload_n C 0 dX2_readNight_14 rfl ?_
    refine xg_8d C kf_X2_12 dX2_readNight_15 ?_
    refine z_callV0 C (cg_X1_passNight l E (rS F G len s1.1 s1.2 np) (gi := 3) (by decide) hz) ⟨(by decide), rfl⟩ rfl rfl q_X2_156 ⟨by decide, by decide⟩ (Nat.le_of_ble_eq_true rfl) dX2_readNight_18 (fun v F9 hp => ?_)
    obtain ⟨rfl, e9⟩ := hp
    rw [e9, rS_G]
    clear e9 F9
    refine z_pop C dX2_readNight_21 rfl ?_
    refine z_vret C0 dX2_readNight_22 ?_
    have hf : s1.2 = none := oI_none (okS_bf o_s1 hl) h11
    refine ⟨rfl, (nightG G.1, G.2), np, ?_, ?_⟩
    · simp only [itC7, e_s1, if_pos hf] <;> rfl
    · simp only [itC7, e_s1, if_pos hf] <;> rfl
set_option maxRecDepth 100000 in
set_option maxHeartbeats 4000000 in
theorem c_X2_readItem (l : Launch) (E : zE) (F : zF) (G : zGf) {len : Nat} (hl : len ≤ 160) (ps : Nat × Option Nat) (hs : okS len ps) (np : Int32) (hz : gz G.1) : XM l E yX2_readItem cX2_readItem 1 none 7 [.ref (xadr E.2.2.1 (8, 0, 0))] (rS F G len ps.1 ps.2 np) (fun v F2 => v = none ∧ ∃ G2 np2, F2 = rS F G2 len (itC (F.2.2.2 2) len G.1 ps).2.1 (itC (F.2.2.2 2) len G.1 ps).2.2 np2 ∧ G2.1 = (itC (F.2.2.2 2) len G.1 ps).1) := by
  refine XM.mk kq_X2 (Nat.le_of_ble_eq_true rfl) (fun K s C0 => ?_)
  have C := C0.c
  refine z_aload_n C 0 dX2_readItem_0 rfl ?_
  refine z_callV0 C (c_X2_next l E F G hl hs.1 _ _) ⟨by decide, rfl, rfl⟩ rfl rfl q_X2_50 ⟨by decide, by decide⟩ (Nat.le_of_ble_eq_true rfl) dX2_readItem_1 (fun v F9 hp => ?_)
  obtain ⟨rfl, e9⟩ := hp
  rw [e9]
  clear e9 F9
  refine z_case (99) (fun h4_99 => ?_) (fun h4_99 => ?_)
  · refine z_tabIn C (99) (95) 99 h4_99 dX2_readItem_4 (by decide) (by decide) ?_
    refine z_aload_n C 0 dX2_readItem_99 rfl ?_
    refine z_callV0 C (c_X2_readChild l E F G hl ps hs np hz) ⟨by decide, rfl, rfl⟩ rfl rfl q_X2_60 ⟨by decide, by decide⟩ (Nat.le_of_ble_eq_true rfl) dX2_readItem_100 (fun v F9 hp => ?_)
    obtain ⟨rfl, G2, np2, e9, eG⟩ := hp
    rw [e9]
    clear e9 F9
    refine z_goto C 156 dX2_readItem_103 (by decide) ?_
    refine z_vret C0 dX2_readItem_156 ?_
    have e : itC (F.2.2.2 2) len G.1 ps = itC1 (F.2.2.2 2) len G.1 ps := by
      unfold itC
      rw [h4_99]
      rfl
    rw [e]
    exact ⟨rfl, G2, np2, rfl, eG⟩
  refine z_case (100) (fun h4_100 => ?_) (fun h4_100 => ?_)
  · refine z_tabIn C (100) (130) 134 h4_100 dX2_readItem_4 (by decide) (by decide) ?_
    refine z_aload_n C 0 dX2_readItem_134 rfl ?_
    refine z_callV0 C (c_X2_readDeed l E F G hl ps hs np hz) ⟨by decide, rfl, rfl⟩ rfl rfl q_X2_75 ⟨by decide, by decide⟩ (Nat.le_of_ble_eq_true rfl) dX2_readItem_135 (fun v F9 hp => ?_)
    obtain ⟨rfl, G2, np2, e9, eG⟩ := hp
    rw [e9]
    clear e9 F9
    refine z_goto C 156 dX2_readItem_138 (by decide) ?_
    refine z_vret C0 dX2_readItem_156 ?_
    have e : itC (F.2.2.2 2) len G.1 ps = itC6 (F.2.2.2 2) len G.1 ps := by
      unfold itC
      rw [h4_100]
      rfl
    rw [e]
    exact ⟨rfl, G2, np2, rfl, eG⟩
  refine z_case (101) (fun h4_101 => ?_) (fun h4_101 => ?_)
  · refine z_tabIn C (101) (144) 148 h4_101 dX2_readItem_4 (by decide) (by decide) ?_
    refine z_aload_n C 0 dX2_readItem_148 rfl ?_
    refine z_aload_n C 0 dX2_readItem_149 rfl ?_
    refine xg_8 (k := 1) C (by decide) kf_X2_40 dX2_readItem_150 ?_
    refine z_top (nI ps.1) (rfl) ?_
    refine z_callV1 C (c_X2_blame l E F G hl ps.1 ps.2 (okS_bf hs hl) np ps.1) ⟨by decide, rfl, rfl⟩ rfl rfl q_X2_54 ⟨by decide, by decide⟩ (Nat.le_of_ble_eq_true rfl) dX2_readItem_153 (fun v F9 hp => ?_)
    obtain ⟨rfl, e9⟩ := hp
    rw [e9]
    clear e9 F9
    refine z_vret C0 dX2_readItem_156 ?_
    have e : itC (F.2.2.2 2) len G.1 ps = (G.1, (ps.1, blF ps.2 ps.1)) := by
      unfold itC
      rw [h4_101]
      rfl
    rw [e]
    exact ⟨rfl, G, np, rfl, rfl⟩
  refine z_case (102) (fun h4_102 => ?_) (fun h4_102 => ?_)
  · refine z_tabIn C (102) (102) 106 h4_102 dX2_readItem_4 (by decide) (by decide) ?_
    refine z_aload_n C 0 dX2_readItem_106 rfl ?_
    refine z_callV0 C (c_X2_readFeathers l E F G hl ps hs np hz) ⟨by decide, rfl, rfl⟩ rfl rfl q_X2_63 ⟨by decide, by decide⟩ (Nat.le_of_ble_eq_true rfl) dX2_readItem_107 (fun v F9 hp => ?_)
    obtain ⟨rfl, G2, np2, e9, eG⟩ := hp
    rw [e9]
    clear e9 F9
    refine z_goto C 156 dX2_readItem_110 (by decide) ?_
    refine z_vret C0 dX2_readItem_156 ?_
    have e : itC (F.2.2.2 2) len G.1 ps = itC2 (F.2.2.2 2) len G.1 ps := by
      unfold itC
      rw [h4_102]
      rfl
    rw [e]
    exact ⟨rfl, G2, np2, rfl, eG⟩
  refine z_case (103) (fun h4_103 => ?_) (fun h4_103 => ?_)
  · refine z_tabIn C (103) (144) 148 h4_103 dX2_readItem_4 (by decide) (by decide) ?_
    refine z_aload_n C 0 dX2_readItem_148 rfl ?_
    refine z_aload_n C 0 dX2_readItem_149 rfl ?_
    refine xg_8 (k := 1) C (by decide) kf_X2_40 dX2_readItem_150 ?_
    refine z_top (nI ps.1) (rfl) ?_
    refine z_callV1 C (c_X2_blame l E F G hl ps.1 ps.2 (okS_bf hs hl) np ps.1) ⟨by decide, rfl, rfl⟩ rfl rfl q_X2_54 ⟨by decide, by decide⟩ (Nat.le_of_ble_eq_true rfl) dX2_readItem_153 (fun v F9 hp => ?_)
    obtain ⟨rfl, e9⟩ := hp
    rw [e9]
    clear e9 F9
    refine z_vret C0 dX2_readItem_156 ?_
    have e : itC (F.2.2.2 2) len G.1 ps = (G.1, (ps.1, blF ps.2 ps.1)) := by
      unfold itC
      rw [h4_103]
      rfl
    rw [e]
    exact ⟨rfl, G, np, rfl, rfl⟩
  refine z_case (104) (fun h4_104 => ?_) (fun h4_104 => ?_)
  · refine z_tabIn C (104) (144) 148 h4_104 dX2_readItem_4 (by decide) (by decide) ?_
    refine z_aload_n C 0 dX2_readItem_148 rfl ?_
    refine z_aload_n C 0 dX2_readItem_149 rfl ?_
    refine xg_8 (k := 1) C (by decide) kf_X2_40 dX2_readItem_150 ?_
    refine z_top (nI ps.1) (rfl) ?_
    refine z_callV1 C (c_X2_blame l E F G hl ps.1 ps.2 (okS_bf hs hl) np ps.1) ⟨by decide, rfl, rfl⟩ rfl rfl q_X2_54 ⟨by decide, by decide⟩ (Nat.le_of_ble_eq_true rfl) dX2_readItem_153 (fun v F9 hp => ?_)
    obtain ⟨rfl, e9⟩ := hp
    rw [e9]
    clear e9 F9
    refine z_vret C0 dX2_readItem_156 ?_
    have e : itC (F.2.2.2 2) len G.1 ps = (G.1, (ps.1, blF ps.2 ps.1)) := by
      unfold itC
      rw [h4_104]
      rfl
    rw [e]
    exact ⟨rfl, G, np, rfl, rfl⟩
  refine z_case (105) (fun h4_105 => ?_) (fun h4_105 => ?_)
  · refine z_tabIn C (105) (116) 120 h4_105 dX2_readItem_4 (by decide) (by decide) ?_
    refine z_aload_n C 0 dX2_readItem_120 rfl ?_
    refine z_callV0 C (c_X2_readInk l E F G hl ps hs np hz) ⟨by decide, rfl, rfl⟩ rfl rfl q_X2_69 ⟨by decide, by decide⟩ (Nat.le_of_ble_eq_true rfl) dX2_readItem_121 (fun v F9 hp => ?_)
    obtain ⟨rfl, G2, np2, e9, eG⟩ := hp
    rw [e9]
    clear e9 F9
    refine z_goto C 156 dX2_readItem_124 (by decide) ?_
    refine z_vret C0 dX2_readItem_156 ?_
    have e : itC (F.2.2.2 2) len G.1 ps = itC4 (F.2.2.2 2) len G.1 ps := by
      unfold itC
      rw [h4_105]
      rfl
    rw [e]
    exact ⟨rfl, G2, np2, rfl, eG⟩
  refine z_case (106) (fun h4_106 => ?_) (fun h4_106 => ?_)
  · refine z_tabIn C (106) (144) 148 h4_106 dX2_readItem_4 (by decide) (by decide) ?_
    refine z_aload_n C 0 dX2_readItem_148 rfl ?_
    refine z_aload_n C 0 dX2_readItem_149 rfl ?_
    refine xg_8 (k := 1) C (by decide) kf_X2_40 dX2_readItem_150 ?_
    refine z_top (nI ps.1) (rfl) ?_
    refine z_callV1 C (c_X2_blame l E F G hl ps.1 ps.2 (okS_bf hs hl) np ps.1) ⟨by decide, rfl, rfl⟩ rfl rfl q_X2_54 ⟨by decide, by decide⟩ (Nat.le_of_ble_eq_true rfl) dX2_readItem_153 (fun v F9 hp => ?_)
    obtain ⟨rfl, e9⟩ := hp
    rw [e9]
    clear e9 F9
    refine z_vret C0 dX2_readItem_156 ?_
    have e : itC (F.2.2.2 2) len G.1 ps = (G.1, (ps.1, blF ps.2 ps.1)) := by
      unfold itC
      rw [h4_106]
      rfl
    rw [e]
    exact ⟨rfl, G, np, rfl, rfl⟩
  refine z_case (107) (fun h4_107 => ?_) (fun h4_107 => ?_)
  · refine z_tabIn C (107) (109) 113 h4_107 dX2_readItem_4 (by decide) (by decide) ?_
    refine z_aload_n C 0 dX2_readItem_113 rfl ?_
    refine z_callV0 C (c_X2_readKeeps l E F G hl ps hs np hz) ⟨by decide, rfl, rfl⟩ rfl rfl q_X2_66 ⟨by decide, by decide⟩ (Nat.le_of_ble_eq_true rfl) dX2_readItem_114 (fun v F9 hp => ?_)
    obtain ⟨rfl, G2, np2, e9, eG⟩ := hp
    rw [e9]
    clear e9 F9
    refine z_goto C 156 dX2_readItem_117 (by decide) ?_
    refine z_vret C0 dX2_readItem_156 ?_
    have e : itC (F.2.2.2 2) len G.1 ps = itC3 (F.2.2.2 2) len G.1 ps := by
      unfold itC
      rw [h4_107]
      rfl
    rw [e]
    exact ⟨rfl, G2, np2, rfl, eG⟩
  refine z_case (108) (fun h4_108 => ?_) (fun h4_108 => ?_)
  · refine z_tabIn C (108) (144) 148 h4_108 dX2_readItem_4 (by decide) (by decide) ?_
    refine z_aload_n C 0 dX2_readItem_148 rfl ?_
    refine z_aload_n C 0 dX2_readItem_149 rfl ?_
    refine xg_8 (k := 1) C (by decide) kf_X2_40 dX2_readItem_150 ?_
    refine z_top (nI ps.1) (rfl) ?_
    refine z_callV1 C (c_X2_blame l E F G hl ps.1 ps.2 (okS_bf hs hl) np ps.1) ⟨by decide, rfl, rfl⟩ rfl rfl q_X2_54 ⟨by decide, by decide⟩ (Nat.le_of_ble_eq_true rfl) dX2_readItem_153 (fun v F9 hp => ?_)
    obtain ⟨rfl, e9⟩ := hp
    rw [e9]
    clear e9 F9
    refine z_vret C0 dX2_readItem_156 ?_
    have e : itC (F.2.2.2 2) len G.1 ps = (G.1, (ps.1, blF ps.2 ps.1)) := by
      unfold itC
      rw [h4_108]
      rfl
    rw [e]
    exact ⟨rfl, G, np, rfl, rfl⟩
  refine z_case (109) (fun h4_109 => ?_) (fun h4_109 => ?_)
  · refine z_tabIn C (109) (144) 148 h4_109 dX2_readItem_4 (by decide) (by decide) ?_
    refine z_aload_n C 0 dX2_readItem_148 rfl ?_
    refine z_aload_n C 0 dX2_readItem_149 rfl ?_
    refine xg_8 (k := 1) C (by decide) kf_X2_40 dX2_readItem_150 ?_
    refine z_top (nI ps.1) (rfl) ?_
    refine z_callV1 C (c_X2_blame l E F G hl ps.1 ps.2 (okS_bf hs hl) np ps.1) ⟨by decide, rfl, rfl⟩ rfl rfl q_X2_54 ⟨by decide, by decide⟩ (Nat.le_of_ble_eq_true rfl) dX2_readItem_153 (fun v F9 hp => ?_)
    obtain ⟨rfl, e9⟩ := hp
    rw [e9]
    clear e9 F9
    refine z_vret C0 dX2_readItem_156 ?_
    have e : itC (F.2.2.2 2) len G.1 ps = (G.1, (ps.1, blF ps.2 ps.1)) := by
      unfold itC
      rw [h4_109]
      rfl
    rw [e]
    exact ⟨rfl, G, np, rfl, rfl⟩
  refine z_case (110) (fun h4_110 => ?_) (fun h4_110 => ?_)
  · refine z_tabIn C (110) (137) 141 h4_110 dX2_readItem_4 (by decide) (by decide) ?_
    refine z_aload_n C 0 dX2_readItem_141 rfl ?_
    refine z_callV0 C (c_X2_readNight l E F G hl ps hs np hz) ⟨by decide, rfl, rfl⟩ rfl rfl q_X2_78 ⟨by decide, by decide⟩ (Nat.le_of_ble_eq_true rfl) dX2_readItem_142 (fun v F9 hp => ?_)
    obtain ⟨rfl, G2, np2, e9, eG⟩ := hp
    rw [e9]
    clear e9 F9
    refine z_goto C 156 dX2_readItem_145 (by decide) ?_
    refine z_vret C0 dX2_readItem_156 ?_
    have e : itC (F.2.2.2 2) len G.1 ps = itC7 (F.2.2.2 2) len G.1 ps := by
      unfold itC
      rw [h4_110]
      rfl
    rw [e]
    exact ⟨rfl, G2, np2, rfl, eG⟩
  refine z_case (111) (fun h4_111 => ?_) (fun h4_111 => ?_)
  · refine z_tabIn C (111) (144) 148 h4_111 dX2_readItem_4 (by decide) (by decide) ?_
    refine z_aload_n C 0 dX2_readItem_148 rfl ?_
    refine z_aload_n C 0 dX2_readItem_149 rfl ?_
    refine xg_8 (k := 1) C (by decide) kf_X2_40 dX2_readItem_150 ?_
    refine z_top (nI ps.1) (rfl) ?_
    refine z_callV1 C (c_X2_blame l E F G hl ps.1 ps.2 (okS_bf hs hl) np ps.1) ⟨by decide, rfl, rfl⟩ rfl rfl q_X2_54 ⟨by decide, by decide⟩ (Nat.le_of_ble_eq_true rfl) dX2_readItem_153 (fun v F9 hp => ?_)
    obtain ⟨rfl, e9⟩ := hp
    rw [e9]
    clear e9 F9
    refine z_vret C0 dX2_readItem_156 ?_
    have e : itC (F.2.2.2 2) len G.1 ps = (G.1, (ps.1, blF ps.2 ps.1)) := by
      unfold itC
      rw [h4_111]
      rfl
    rw [e]
    exact ⟨rfl, G, np, rfl, rfl⟩
  refine z_case (112) (fun h4_112 => ?_) (fun h4_112 => ?_)
  · refine z_tabIn C (112) (144) 148 h4_112 dX2_readItem_4 (by decide) (by decide) ?_
    refine z_aload_n C 0 dX2_readItem_148 rfl ?_
    refine z_aload_n C 0 dX2_readItem_149 rfl ?_
    refine xg_8 (k := 1) C (by decide) kf_X2_40 dX2_readItem_150 ?_
    refine z_top (nI ps.1) (rfl) ?_
    refine z_callV1 C (c_X2_blame l E F G hl ps.1 ps.2 (okS_bf hs hl) np ps.1) ⟨by decide, rfl, rfl⟩ rfl rfl q_X2_54 ⟨by decide, by decide⟩ (Nat.le_of_ble_eq_true rfl) dX2_readItem_153 (fun v F9 hp => ?_)
    obtain ⟨rfl, e9⟩ := hp
    rw [e9]
    clear e9 F9
    refine z_vret C0 dX2_readItem_156 ?_
    have e : itC (F.2.2.2 2) len G.1 ps = (G.1, (ps.1, blF ps.2 ps.1)) := by
      unfold itC
      rw [h4_112]
      rfl
    rw [e]
    exact ⟨rfl, G, np, rfl, rfl⟩
  refine z_case (113) (fun h4_113 => ?_) (fun h4_113 => ?_)
  · refine z_tabIn C (113) (144) 148 h4_113 dX2_readItem_4 (by decide) (by decide) ?_
    refine z_aload_n C 0 dX2_readItem_148 rfl ?_
    refine z_aload_n C 0 dX2_readItem_149 rfl ?_
    refine xg_8 (k := 1) C (by decide) kf_X2_40 dX2_readItem_150 ?_
    refine z_top (nI ps.1) (rfl) ?_
    refine z_callV1 C (c_X2_blame l E F G hl ps.1 ps.2 (okS_bf hs hl) np ps.1) ⟨by decide, rfl, rfl⟩ rfl rfl q_X2_54 ⟨by decide, by decide⟩ (Nat.le_of_ble_eq_true rfl) dX2_readItem_153 (fun v F9 hp => ?_)
    obtain ⟨rfl, e9⟩ := hp
    rw [e9]
    clear e9 F9
    refine z_vret C0 dX2_readItem_156 ?_
    have e : itC (F.2.2.2 2) len G.1 ps = (G.1, (ps.1, blF ps.2 ps.1)) := by
      unfold itC
      rw [h4_113]
      rfl
    rw [e]
    exact ⟨rfl, G, np, rfl, rfl⟩
  refine z_case (114) (fun h4_114 => ?_) (fun h4_114 => ?_)
  · refine z_tabIn C (114) (144) 148 h4_114 dX2_readItem_4 (by decide) (by decide) ?_
    refine z_aload_n C 0 dX2_readItem_148 rfl ?_
    refine z_aload_n C 0 dX2_readItem_149 rfl ?_
    refine xg_8 (k := 1) C (by decide) kf_X2_40 dX2_readItem_150 ?_
    refine z_top (nI ps.1) (rfl) ?_
    refine z_callV1 C (c_X2_blame l E F G hl ps.1 ps.2 (okS_bf hs hl) np ps.1) ⟨by decide, rfl, rfl⟩ rfl rfl q_X2_54 ⟨by decide, by decide⟩ (Nat.le_of_ble_eq_true rfl) dX2_readItem_153 (fun v F9 hp => ?_)
    obtain ⟨rfl, e9⟩ := hp
    rw [e9]
    clear e9 F9
    refine z_vret C0 dX2_readItem_156 ?_
    have e : itC (F.2.2.2 2) len G.1 ps = (G.1, (ps.1, blF ps.2 ps.1)) := by
      unfold itC
      rw [h4_114]
      rfl
    rw [e]
    exact ⟨rfl, G, np, rfl, rfl⟩
  refine z_case (115) (fun h4_115 => ?_) (fun h4_115 => ?_)
  · refine z_tabIn C (115) (88) 92 h4_115 dX2_readItem_4 (by decide) (by decide) ?_
    refine z_aload_n C 0 dX2_readItem_92 rfl ?_
    refine z_callV0 C (c_X2_readShop l E F G hl ps hs np hz) ⟨by decide, rfl, rfl⟩ rfl rfl q_X2_57 ⟨by decide, by decide⟩ (Nat.le_of_ble_eq_true rfl) dX2_readItem_93 (fun v F9 hp => ?_)
    obtain ⟨rfl, G2, np2, e9, eG⟩ := hp
    rw [e9]
    clear e9 F9
    refine z_goto C 156 dX2_readItem_96 (by decide) ?_
    refine z_vret C0 dX2_readItem_156 ?_
    have e : itC (F.2.2.2 2) len G.1 ps = itC0 (F.2.2.2 2) len G.1 ps := by
      unfold itC
      rw [h4_115]
      rfl
    rw [e]
    exact ⟨rfl, G2, np2, rfl, eG⟩
  refine z_case (116) (fun h4_116 => ?_) (fun h4_116 => ?_)
  · refine z_tabIn C (116) (123) 127 h4_116 dX2_readItem_4 (by decide) (by decide) ?_
    refine z_aload_n C 0 dX2_readItem_127 rfl ?_
    refine z_callV0 C (c_X2_readTree l E F G hl ps hs np hz) ⟨by decide, rfl, rfl⟩ rfl rfl q_X2_72 ⟨by decide, by decide⟩ (Nat.le_of_ble_eq_true rfl) dX2_readItem_128 (fun v F9 hp => ?_)
    obtain ⟨rfl, G2, np2, e9, eG⟩ := hp
    rw [e9]
    clear e9 F9
    refine z_goto C 156 dX2_readItem_131 (by decide) ?_
    refine z_vret C0 dX2_readItem_156 ?_
    have e : itC (F.2.2.2 2) len G.1 ps = itC5 (F.2.2.2 2) len G.1 ps := by
      unfold itC
      rw [h4_116]
      rfl
    rw [e]
    exact ⟨rfl, G2, np2, rfl, eG⟩
  refine z_tabOut C 148 (by have q0 := lv_neT (a := (99)) h4_99 rfl; have q1 := lv_neT (a := (100)) h4_100 rfl; have q2 := lv_neT (a := (101)) h4_101 rfl; have q3 := lv_neT (a := (102)) h4_102 rfl; have q4 := lv_neT (a := (103)) h4_103 rfl; have q5 := lv_neT (a := (104)) h4_104 rfl; have q6 := lv_neT (a := (105)) h4_105 rfl; have q7 := lv_neT (a := (106)) h4_106 rfl; have q8 := lv_neT (a := (107)) h4_107 rfl; have q9 := lv_neT (a := (108)) h4_108 rfl; have q10 := lv_neT (a := (109)) h4_109 rfl; have q11 := lv_neT (a := (110)) h4_110 rfl; have q12 := lv_neT (a := (111)) h4_111 rfl; have q13 := lv_neT (a := (112)) h4_112 rfl; have q14 := lv_neT (a := (113)) h4_113 rfl; have q15 := lv_neT (a := (114)) h4_114 rfl; have q16 := lv_neT (a := (115)) h4_115 rfl; have q17 := lv_neT (a := (116)) h4_116 rfl; omega) dX2_readItem_4 (by decide) ?_
  refine z_aload_n C 0 dX2_readItem_148 rfl ?_
  refine z_aload_n C 0 dX2_readItem_149 rfl ?_
  refine xg_8 (k := 1) C (by decide) kf_X2_40 dX2_readItem_150 ?_
  refine z_top (nI ps.1) (rfl) ?_
  refine z_callV1 C (c_X2_blame l E F G hl ps.1 ps.2 (okS_bf hs hl) np ps.1) ⟨by decide, rfl, rfl⟩ rfl rfl q_X2_54 ⟨by decide, by decide⟩ (Nat.le_of_ble_eq_true rfl) dX2_readItem_153 (fun v F9 hp => ?_)
  obtain ⟨rfl, e9⟩ := hp
  rw [e9]
  clear e9 F9
  refine z_vret C0 dX2_readItem_156 ?_
  have e : itC (F.2.2.2 2) len G.1 ps = (G.1, (ps.1, blF ps.2 ps.1)) := by
    unfold itC
    rw [if_neg h4_115, if_neg h4_99, if_neg h4_102, if_neg h4_107, if_neg h4_105, if_neg h4_116, if_neg h4_100, if_neg h4_110]
  rw [e]
  exact ⟨rfl, G, np, rfl, rfl⟩
