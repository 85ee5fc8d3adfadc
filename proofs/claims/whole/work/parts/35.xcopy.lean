/-! the class: copy -/
theorem xkey_un : ((List.range 83).all fun n => decide (xadr 0 (xkey n) = n) && (xkb (xkey n).1 (xkey n).2.1 (xkey n).2.2 && (decide ((xkey n).1 < 14) && (decide ((xkey n).2.1 < 8) && decide ((xkey n).2.2 < 6))))) = true := by decide +kernel
theorem xok_of {f i j : Nat} (hf : f < 14) (h : xkb f i j = true) : xok (f, i, j) := by
  have hf : f = 0 ∨ f = 1 ∨ f = 2 ∨ f = 3 ∨ f = 4 ∨ f = 5 ∨ f = 6 ∨ f = 7 ∨ f = 8 ∨ f = 9 ∨ f = 10 ∨ f = 11 ∨ f = 12 ∨ f = 13 := by omega
  rcases hf with rfl | rfl | rfl | rfl | rfl | rfl | rfl | rfl | rfl | rfl | rfl | rfl | rfl | rfl <;> (simp [xkb] at h; simp [xok, h])
theorem xkey_ok {n : Nat} (h : n < 83) : xok (xkey n) ∧ xadr 0 (xkey n) = n := by
  have h1 := List.all_eq_true.mp xkey_un n (List.mem_range.mpr h)
  simp only [Bool.and_eq_true, decide_eq_true_eq] at h1
  exact ⟨xok_of h1.2.2.1 h1.2.1, h1.1⟩
theorem xkey_in {k : zKey} (h : xok k) : xkey (xadr 0 k) = k ∧ xadr 0 k < 83 := by
  obtain ⟨f, i, j⟩ := k
  obtain ⟨h1, h2, h3, h4⟩ := xok_kb h
  exact xkey_of h1 h2 h3 h4
/-- all cells of the class, in a row -/
def xws (E : zE) (F : zF) : va_W := (List.range 83).map fun n => (xadr E.2.2.1 (xkey n), xcell E F (xkey n))
theorem xws_at {E : zE} {F : zF} {n : Nat} (h : n < 83) : (xws E F)[n]? = some (xadr E.2.2.1 (xkey n), xcell E F (xkey n)) := by
  simp [xws, List.getElem?_map, List.getElem?_range h]
theorem xws_lt {E : zE} {F : zF} {n : Nat} {q : Nat × va_E} (h : (xws E F)[n]? = some q) : n < 83 ∧ q = (xadr E.2.2.1 (xkey n), xcell E F (xkey n)) := by
  have h1 := (List.getElem?_eq_some_iff.mp h).1
  simp only [xws, List.length_map, List.length_range] at h1
  rw [xws_at h1] at h
  exact ⟨h1, (Option.some.inj h).symm⟩
theorem xws_P {E : zE} {F : zF} {H : Heap} (h : zCel E (xadr E.2.2.1) (xcell E) xok F H) : va_P E.1 zcl (xws E F) H := by
  intro n q hq
  obtain ⟨h1, rfl⟩ := xws_lt hq
  exact h _ (xkey_ok h1).1
theorem xws_D {E : zE} {F : zF} : va_D (xA E) (xws E F) := by
  refine ⟨fun i j p q hp hq e => ?_, fun n q hq => ?_⟩
  · obtain ⟨h1, rfl⟩ := xws_lt hp
    obtain ⟨h2, rfl⟩ := xws_lt hq
    have := xinj (xkey_ok h1).1 (xkey_ok h2).1 e
    rw [← (xkey_ok h1).2, ← (xkey_ok h2).2, this]
  · obtain ⟨h1, rfl⟩ := xws_lt hq
    exact xin (xkey_ok h1).1
theorem kw_copy : Cond.methodLink RX6 88 arraycopyName ∈ zTB ∧ Cond.native arraycopyName ∈ zTB ∧ Cond.static arraycopyName ∈ zTB ∧ Cond.initialized "java/lang/System" ∈ zTB := ⟨zi 300 (by decide +kernel) (by decide +kernel), zi 302 (by decide +kernel) (by decide +kernel), zi 301 (by decide +kernel) (by decide +kernel), zi 10 (by decide +kernel) (by decide +kernel)⟩
theorem sE_oth {E : zE} {F : zF} {q : Nat} {f : Nat → Int64} {k : zKey} (hk : xok k) (hne : k ≠ (13, q, 0)) : xcell E (sE F q f) k = xcell E F k := xo_E k hk hne
theorem x_acopy {l : Launch} {E : zE} {K : zK} {cc : ByteArray} {s : State} {mL d : Nat} {F : zF} {pc : Nat} {L : List (Nat × Value)} {st : List Value} (C : XC l E K cc RX6 (zRM d) s mL) {pp qq n sp dp : Nat} (hp : pp < 8) (hq : qq < 8) {i j x : Int32} (ei : i = nI sp) (ej : j = nI dp) (ex : x = nI n) (h4 : sp + n ≤ 160) (h5 : dp + n ≤ 160) (hd1 : 1 ≤ d) (hroom : (st.map fun v => v.category).sum ≤ 8) (hd : decode cc pc = .ok (.invokestatic 88, 3))
    (kk : Z K (XP E (sE F qq (va_cpy (F.2.2.1 pp) (F.2.2.1 qq) sp dp n)) s) (pc + 3) L st) : Z K (XP E F s) pc L (.int x :: .int j :: .ref (xadr E.2.2.1 (13, qq, 0)) :: .int i :: .ref (xadr E.2.2.1 (13, pp, 0)) :: st) := by
  obtain ⟨p, e, m, args, below, meth, c, n1, n2, Q, rfl, hx, hb, hml, hown, hts, hK, he, hs, hc1, hc2⟩ := C
  subst ei ej ex
  intro H locs ls hS hP hl
  have c1 : (nI sp).toNatClampNeg = sp := nI_clamp (by omega)
  have c2 : (nI dp).toNatClampNeg = dp := nI_clamp (by omega)
  have c3 : (nI n).toNatClampNeg = n := nI_clamp (by omega)
  have ok1 : xok (13, pp, 0) := ⟨hp, rfl⟩
  have ok2 : xok (13, qq, 0) := ⟨hq, rfl⟩
  have k1 := xkey_in ok1
  have k2 := xkey_in ok2
  have w1 := xws_at (E := E) (F := F) k1.2
  have w2 := xws_at (E := E) (F := F) k2.2
  rw [k1.1] at w1
  rw [k2.1] at w2
  refine va_copyl (A := xA E) (H0 := H) hx hb (hml.trans hl.1.symm) hown (hts _ kw_copy.1) (hts _ kw_copy.2.1) (hts _ kw_copy.2.2.1) (hts _ kw_copy.2.2.2) hK (xws_P hP.2) xws_D ⟨Nat.le_refl _, fun _ _ _ => rfl, hS.2.2⟩ (xadr 0 (13, pp, 0)) (xadr 0 (13, qq, 0)) 1 1 w1 w2 rfl rfl rfl (nI_pos (by omega)) (nI_pos (by omega)) (nI_pos (by omega)) (by rw [c1, c3]; exact h4) (by rw [c2, c3]; exact h5) (fun _ _ => rfl) hd1 ?_ hd fun H1 locs1 hP1 hD1 hS1 => ?_
  · have e1 : nativeFrameWords "java/lang/System" "arraycopy" 5 = 7 := by decide
    rw [e1]
    show _ ≤ 40 * d
    omega
  · rw [c1, c2, c3] at hP1
    refine kk H1 locs1 ls ⟨Nat.le_trans hS.1 hS1.1, fun q g1 g2 => (hS1.2.1 q (Nat.lt_of_lt_of_le g1 hS.1) g2).trans (hS.2.1 q g1 g2), hS1.2.2⟩ ⟨hs.2.2.2.1 s H H1 hP.1 hS1.1 hS1.2.1, fun k hk => ?_⟩ hl
    have kn := xkey_in hk
    by_cases hne : k = (13, qq, 0)
    · subst hne
      have := hP1 (xadr 0 (13, qq, 0)) _ (List.getElem?_set_self (by simp only [xws, List.length_map, List.length_range]; exact k2.2))
      have e3 : xcell E (sE F qq (va_cpy (F.2.2.1 pp) (F.2.2.1 qq) sp dp n)) (13, qq, 0) = .inl (E.2.1 1, (160, .inr (.inl (va_cpy (F.2.2.1 pp) (F.2.2.1 qq) sp dp n)))) := by unfold xcell; simp only [sE, va_up_self]
      rw [e3]
      exact this
    · rw [sE_oth hk hne]
      have h6 : (xws E F)[xadr 0 k]? = some (xadr E.2.2.1 k, xcell E F k) := by rw [xws_at kn.2, kn.1]
      have h7 : xadr 0 (13, qq, 0) ≠ xadr 0 k := fun z => hne (xinj hk ok2 z.symm)
      exact hP1 (xadr 0 k) _ ((List.getElem?_set_ne h7).trans h6)
theorem L_nI {n : Nat} (h : n < 2 ^ 31) : (nI n).toInt64.toInt = (n : Int) := by rw [Int32.toInt_toInt64, nI_toInt h]
theorem hPart_of {i n : Int32} {L : Nat} (hL : L ≤ 160) (hn : ¬ n < 0) (h : hPart i n (nI L) = true) : ∃ a b, i = nI a ∧ n = nI b ∧ a + b ≤ L := by
  simp only [hPart, Bool.and_eq_true, Bool.not_eq_true', decide_eq_false_iff_not] at h
  obtain ⟨a, ha, rfl⟩ := nI_of h.1
  obtain ⟨b, hb, rfl⟩ := nI_of hn
  refine ⟨a, b, rfl, rfl, ?_⟩
  have h2 := h.2
  have e : ((nI a).toInt64 + (nI b).toInt64).toInt = (a : Int) + b := by
    rw [Int64.toInt_add, L_nI ha, L_nI hb]; simp only [Int.bmod]; split <;> omega
  unfold lg_cmp at h2
  by_cases hc : (nI a).toInt64 + (nI b).toInt64 > (nI L).toInt64
  · rw [if_pos hc] at h2; exact absurd (by decide) h2
  · have h3 := Int64.not_lt.mp hc
    rw [Int64.le_iff_toInt_le, e, L_nI (by omega)] at h3
    omega
theorem nI_inj2 {x : Int32} {a b c d L M : Nat} (h : x = nI b) (h2 : x = nI d) (hb : a + b ≤ L) (hd : c + d ≤ M) (hL : L ≤ 160 := by omega) (hM : M ≤ 160 := by omega) : b = d := by
  have e := h.symm.trans h2
  have e2 := congrArg Int32.toNatClampNeg e
  rw [nI_clamp (by omega), nI_clamp (by omega)] at e2
  exact e2
def kCopy (F : zF) (p q i j n : Int32) : Int32 := if inR p 8 = false then -1 else if inR q 8 = false then -1 else if hShop (F.2.1 p.toNatClampNeg 0) = true then -2 else if hShop (F.2.1 q.toNatClampNeg 0) = true then -2
  else if hRow (F.2.1 p.toNatClampNeg 0) = true ∧ hRow (F.2.1 q.toNatClampNeg 0) = true ∧ ¬ F.2.1 p.toNatClampNeg 0 = F.2.1 q.toNatClampNeg 0 then -2 else if hRow (F.2.1 p.toNatClampNeg 0) = false then -3 else if hRow (F.2.1 q.toNatClampNeg 0) = false then -3
  else if n < 0 then -4 else if hPart i n (F.2.1 p.toNatClampNeg 1) = false then -5 else if hPart j n (F.2.1 q.toNatClampNeg 1) = false then -5 else 0
set_option maxRecDepth 100000 in
set_option maxHeartbeats 4000000 in
theorem c_X6_copy (l : Launch) (E : zE) (F : zF) (hI : XI F) (p q i j n : Int32) : XM l E yX6_copy cX6_copy 8 (some .int) 3 [.ref (xadr E.2.2.1 (0, 0, 0)), .int (p), .int (q), .int (i), .int (j), .int (n)] (F) (xpo F (kCopy F p q i j n) 1 (fun F2 => F2 = sE F q.toNatClampNeg (va_cpy (F.2.2.1 p.toNatClampNeg) (F.2.2.1 q.toNatClampNeg) i.toNatClampNeg j.toNatClampNeg n.toNatClampNeg))) := by
  refine XM.mk kq_X6 (Nat.le_of_ble_eq_true rfl) (fun K s C0 => ?_)
  have C := C0.c
  obtain ⟨hz, hw, hsh⟩ := id hI
  obtain ⟨⟨eS, lS⟩, ⟨eC, lC⟩⟩ := id hz
  refine z_iload_n C 1 dX6_copy_0 rfl ?_
  refine z_callS1 C (c_X6_isShelf l E _ _) q_X6_47 ⟨by decide, by decide⟩ (Nat.le_of_ble_eq_true rfl) dX6_copy_1 (fun v F9 hp => ?_)
  obtain ⟨rfl, e9⟩ := hp
  rw [e9]
  clear e9 F9
  refine z_if_eq C 14 dX6_copy_4 (by decide) (fun h4 => ?_) (fun h4 => ?_)
  · skip
    have h4 := bI_0 h4
    refine z_aload_n C 0 dX6_copy_14 rfl ?_
    refine z_iconst C (v := (-1)) dX6_copy_15 rfl ?_
    refine z_callV1 C (c_X6_refuse l E _ _) ⟨by decide, rfl, rfl⟩ rfl rfl q_X6_51 ⟨by decide, by decide⟩ (Nat.le_of_ble_eq_true rfl) dX6_copy_16 (fun v F9 hp => ?_)
    obtain ⟨rfl, e9⟩ := hp
    rw [e9]
    clear e9 F9
    refine z_iret C0 dX6_copy_19 ?_
    exact xpo.ref (by simp [kCopy, h4]) (by decide)
  · skip
    have h4 := bI_1 h4
    refine z_iload_n C 2 dX6_copy_7 rfl ?_
    refine z_callS1 C (c_X6_isShelf l E _ _) q_X6_47 ⟨by decide, by decide⟩ (Nat.le_of_ble_eq_true rfl) dX6_copy_8 (fun v F9 hp => ?_)
    obtain ⟨rfl, e9⟩ := hp
    rw [e9]
    clear e9 F9
    refine z_if_ne C 20 dX6_copy_11 (by decide) (fun h11 => ?_) (fun h11 => ?_)
    · skip
      have h11 := bI_1 h11
      obtain ⟨pp, hpp, rfl⟩ := inR_of (n := 8) h4 (by omega)
      obtain ⟨qq, hqq, rfl⟩ := inR_of (n := 8) h11 (by omega)
      have ep : (nI pp).toNatClampNeg = pp := nI_clamp (by omega)
      have eq : (nI qq).toNatClampNeg = qq := nI_clamp (by omega)
      refine z_aload_n C 0 dX6_copy_20 rfl ?_
      refine xg_0_0 C kf_X6_11 dX6_copy_21 ?_
      refine z_iload_n C 1 dX6_copy_24 rfl ?_
      refine xa_1 C pp rfl (by first | assumption | omega) dX6_copy_25 ?_
      refine z_astore C dX6_copy_26 (by decide) ?_
      refine z_aload_n C 1 dX6_copy_28 rfl ?_
      refine xg_0_0 C kf_X6_11 dX6_copy_29 ?_
      refine z_iload_n C 3 dX6_copy_32 rfl ?_
      refine xa_1 C qq rfl (by first | assumption | omega) dX6_copy_33 ?_
      refine z_astore C dX6_copy_34 (by decide) ?_
      refine z_aload C 1 dX6_copy_36 rfl ?_
      refine z_callV0 C (c_X3_hasShop l E _ (by first | assumption | omega)) ⟨(by first | assumption | omega), rfl⟩ rfl rfl q_X6_70 ⟨by decide, by decide⟩ (Nat.le_of_ble_eq_true rfl) dX6_copy_38 (fun v F9 hp => ?_)
      obtain ⟨rfl, e9⟩ := hp
      rw [e9]
      clear e9 F9
      refine z_if_ne C 52 dX6_copy_41 (by decide) (fun h41 => ?_) (fun h41 => ?_)
      · skip
        have h41 := bI_1 h41
        refine z_aload_n C 2 dX6_copy_52 rfl ?_
        refine z_bipush C (v := (-2)) dX6_copy_53 rfl ?_
        refine z_callV1 C (c_X6_refuse l E _ _) ⟨by decide, rfl, rfl⟩ rfl rfl q_X6_51 ⟨by decide, by decide⟩ (Nat.le_of_ble_eq_true rfl) dX6_copy_55 (fun v F9 hp => ?_)
        obtain ⟨rfl, e9⟩ := hp
        rw [e9]
        clear e9 F9
        refine z_iret C0 dX6_copy_58 ?_
        exact xpo.ref (by simp [kCopy, ep, eq, h4, h11, h41]) (by decide)
      · skip
        have h41 := bI_0 h41
        refine z_aload C 0 dX6_copy_44 rfl ?_
        refine z_callV0 C (c_X3_hasShop l E _ (by first | assumption | omega)) ⟨(by first | assumption | omega), rfl⟩ rfl rfl q_X6_70 ⟨by decide, by decide⟩ (Nat.le_of_ble_eq_true rfl) dX6_copy_46 (fun v F9 hp => ?_)
        obtain ⟨rfl, e9⟩ := hp
        rw [e9]
        clear e9 F9
        refine z_if_eq C 59 dX6_copy_49 (by decide) (fun h49 => ?_) (fun h49 => ?_)
        · skip
          have h49 := bI_0 h49
          refine z_aload C 1 dX6_copy_59 rfl ?_
          refine z_callV0 C (c_X3_hasRow l E _ (by first | assumption | omega)) ⟨(by first | assumption | omega), rfl⟩ rfl rfl q_X6_74 ⟨by decide, by decide⟩ (Nat.le_of_ble_eq_true rfl) dX6_copy_61 (fun v F9 hp => ?_)
          obtain ⟨rfl, e9⟩ := hp
          rw [e9]
          clear e9 F9
          refine z_if_eq C 95 dX6_copy_64 (by decide) (fun h64 => ?_) (fun h64 => ?_)
          · skip
            have h64 := bI_0 h64
            refine z_aload C 1 dX6_copy_95 rfl ?_
            refine z_callV0 C (c_X3_hasRow l E _ (by first | assumption | omega)) ⟨(by first | assumption | omega), rfl⟩ rfl rfl q_X6_74 ⟨by decide, by decide⟩ (Nat.le_of_ble_eq_true rfl) dX6_copy_97 (fun v F9 hp => ?_)
            obtain ⟨rfl, e9⟩ := hp
            rw [e9]
            clear e9 F9
            refine z_if_eq C 111 dX6_copy_100 (by decide) (fun h100 => ?_) (fun h100 => ?_)
            · skip
              have h100 := bI_0 h100
              refine z_aload_n C 2 dX6_copy_111 rfl ?_
              refine z_bipush C (v := (-3)) dX6_copy_112 rfl ?_
              refine z_callV1 C (c_X6_refuse l E _ _) ⟨by decide, rfl, rfl⟩ rfl rfl q_X6_51 ⟨by decide, by decide⟩ (Nat.le_of_ble_eq_true rfl) dX6_copy_114 (fun v F9 hp => ?_)
              obtain ⟨rfl, e9⟩ := hp
              rw [e9]
              clear e9 F9
              refine z_iret C0 dX6_copy_117 ?_
              exact xpo.ref (by simp [kCopy, ep, eq, h4, h11, h41, h49, h64, h100]) (by decide)
            · exact absurd (h64.symm.trans (bI_1 h100)) (by decide)
          · skip
            have h64 := bI_1 h64
            refine z_aload C 0 dX6_copy_67 rfl ?_
            refine z_callV0 C (c_X3_hasRow l E _ (by first | assumption | omega)) ⟨(by first | assumption | omega), rfl⟩ rfl rfl q_X6_74 ⟨by decide, by decide⟩ (Nat.le_of_ble_eq_true rfl) dX6_copy_69 (fun v F9 hp => ?_)
            obtain ⟨rfl, e9⟩ := hp
            rw [e9]
            clear e9 F9
            refine z_if_eq C 95 dX6_copy_72 (by decide) (fun h72 => ?_) (fun h72 => ?_)
            · skip
              have h72 := bI_0 h72
              refine z_aload C 1 dX6_copy_95 rfl ?_
              refine z_callV0 C (c_X3_hasRow l E _ (by first | assumption | omega)) ⟨(by first | assumption | omega), rfl⟩ rfl rfl q_X6_74 ⟨by decide, by decide⟩ (Nat.le_of_ble_eq_true rfl) dX6_copy_97 (fun v F9 hp => ?_)
              obtain ⟨rfl, e9⟩ := hp
              rw [e9]
              clear e9 F9
              refine z_if_eq C 111 dX6_copy_100 (by decide) (fun h100 => ?_) (fun h100 => ?_)
              · exact absurd (h64.symm.trans (bI_0 h100)) (by decide)
              · skip
                have h100 := bI_1 h100
                refine z_aload C 0 dX6_copy_103 rfl ?_
                refine z_callV0 C (c_X3_hasRow l E _ (by first | assumption | omega)) ⟨(by first | assumption | omega), rfl⟩ rfl rfl q_X6_74 ⟨by decide, by decide⟩ (Nat.le_of_ble_eq_true rfl) dX6_copy_105 (fun v F9 hp => ?_)
                obtain ⟨rfl, e9⟩ := hp
                rw [e9]
                clear e9 F9
                refine z_if_ne C 118 dX6_copy_108 (by decide) (fun h108 => ?_) (fun h108 => ?_)
                · exact absurd (h72.symm.trans (bI_1 h108)) (by decide)
                · skip
                  have h108 := bI_0 h108
                  refine z_aload_n C 2 dX6_copy_111 rfl ?_
                  refine z_bipush C (v := (-3)) dX6_copy_112 rfl ?_
                  refine z_callV1 C (c_X6_refuse l E _ _) ⟨by decide, rfl, rfl⟩ rfl rfl q_X6_51 ⟨by decide, by decide⟩ (Nat.le_of_ble_eq_true rfl) dX6_copy_114 (fun v F9 hp => ?_)
                  obtain ⟨rfl, e9⟩ := hp
                  rw [e9]
                  clear e9 F9
                  refine z_iret C0 dX6_copy_117 ?_
                  exact xpo.ref (by simp [kCopy, ep, eq, h4, h11, h41, h49, h64, h72, h100, h108]) (by decide)
            · skip
              have h72 := bI_1 h72
              refine z_aload C 1 dX6_copy_75 rfl ?_
              refine xg_12 (k := 0) C (by first | assumption | omega) (by decide) kf_X6_77 dX6_copy_77 ?_
              refine z_aload C 0 dX6_copy_80 rfl ?_
              refine xg_12 (k := 0) C (by first | assumption | omega) (by decide) kf_X6_77 dX6_copy_82 ?_
              refine z_icmp_eq C 95 dX6_copy_85 (by decide) (fun h85 => ?_) (fun h85 => ?_)
              · skip
                refine z_aload C 1 dX6_copy_95 rfl ?_
                refine z_callV0 C (c_X3_hasRow l E _ (by first | assumption | omega)) ⟨(by first | assumption | omega), rfl⟩ rfl rfl q_X6_74 ⟨by decide, by decide⟩ (Nat.le_of_ble_eq_true rfl) dX6_copy_97 (fun v F9 hp => ?_)
                obtain ⟨rfl, e9⟩ := hp
                rw [e9]
                clear e9 F9
                refine z_if_eq C 111 dX6_copy_100 (by decide) (fun h100 => ?_) (fun h100 => ?_)
                · exact absurd (h64.symm.trans (bI_0 h100)) (by decide)
                · skip
                  have h100 := bI_1 h100
                  refine z_aload C 0 dX6_copy_103 rfl ?_
                  refine z_callV0 C (c_X3_hasRow l E _ (by first | assumption | omega)) ⟨(by first | assumption | omega), rfl⟩ rfl rfl q_X6_74 ⟨by decide, by decide⟩ (Nat.le_of_ble_eq_true rfl) dX6_copy_105 (fun v F9 hp => ?_)
                  obtain ⟨rfl, e9⟩ := hp
                  rw [e9]
                  clear e9 F9
                  refine z_if_ne C 118 dX6_copy_108 (by decide) (fun h108 => ?_) (fun h108 => ?_)
                  · skip
                    have h108 := bI_1 h108
                    refine z_iload C 7 dX6_copy_118 rfl ?_
                    refine z_if_ge C 130 dX6_copy_120 (by decide) (fun h120 => ?_) (fun h120 => ?_)
                    · skip
                      refine z_aload C 1 dX6_copy_130 rfl ?_
                      refine z_iload_n C 5 dX6_copy_132 rfl ?_
                      refine z_iload C 7 dX6_copy_133 rfl ?_
                      refine z_callV2 C (c_X3_hasPart l E _ (by first | assumption | omega) _ _) ⟨(by first | assumption | omega), rfl⟩ rfl rfl q_X6_80 ⟨by decide, by decide⟩ (Nat.le_of_ble_eq_true rfl) dX6_copy_135 (fun v F9 hp => ?_)
                      obtain ⟨rfl, e9⟩ := hp
                      rw [e9]
                      clear e9 F9
                      refine z_if_eq C 153 dX6_copy_138 (by decide) (fun h138 => ?_) (fun h138 => ?_)
                      · skip
                        have h138 := bI_0 h138
                        refine z_aload_n C 2 dX6_copy_153 rfl ?_
                        refine z_bipush C (v := (-5)) dX6_copy_154 rfl ?_
                        refine z_callV1 C (c_X6_refuse l E _ _) ⟨by decide, rfl, rfl⟩ rfl rfl q_X6_51 ⟨by decide, by decide⟩ (Nat.le_of_ble_eq_true rfl) dX6_copy_156 (fun v F9 hp => ?_)
                        obtain ⟨rfl, e9⟩ := hp
                        rw [e9]
                        clear e9 F9
                        refine z_iret C0 dX6_copy_159 ?_
                        exact xpo.ref (by simp [kCopy, ep, eq, h4, h11, h41, h49, h64, h72, h85, h100, h108, h120, Int32.not_lt.mpr h120, h138]) (by decide)
                      · skip
                        have h138 := bI_1 h138
                        refine z_aload C 0 dX6_copy_141 rfl ?_
                        refine z_iload C 6 dX6_copy_143 rfl ?_
                        refine z_iload C 7 dX6_copy_145 rfl ?_
                        refine z_callV2 C (c_X3_hasPart l E _ (by first | assumption | omega) _ _) ⟨(by first | assumption | omega), rfl⟩ rfl rfl q_X6_80 ⟨by decide, by decide⟩ (Nat.le_of_ble_eq_true rfl) dX6_copy_147 (fun v F9 hp => ?_)
                        obtain ⟨rfl, e9⟩ := hp
                        rw [e9]
                        clear e9 F9
                        refine z_if_ne C 160 dX6_copy_150 (by decide) (fun h150 => ?_) (fun h150 => ?_)
                        · skip
                          have h150 := bI_1 h150
                          obtain ⟨⟨lp, hlp, elp⟩, -⟩ := hsh pp hpp
                          obtain ⟨⟨lq, hlq, elq⟩, -⟩ := hsh qq hqq
                          obtain ⟨a, b, ea, eb, hab⟩ := hPart_of hlp (Int32.not_lt.mpr h120) (by rw [← elp]; exact h138)
                          obtain ⟨a2, b2, ea2, eb2, hab2⟩ := hPart_of hlq (Int32.not_lt.mpr h120) (by rw [← elq]; exact h150)
                          refine z_aload C 1 dX6_copy_160 rfl ?_
                          refine xg_12e C (by first | assumption | omega) kf_X6_84 dX6_copy_162 ?_
                          refine z_iload_n C 5 dX6_copy_165 rfl ?_
                          refine z_aload C 0 dX6_copy_166 rfl ?_
                          refine xg_12e C (by first | assumption | omega) kf_X6_84 dX6_copy_168 ?_
                          refine z_iload C 6 dX6_copy_171 rfl ?_
                          refine z_iload C 7 dX6_copy_173 rfl ?_
                          refine x_acopy C hpp hqq (n := b) (sp := a) (dp := a2) ea ea2 eb (by omega) (by have := nI_inj2 eb eb2 hab hab2; omega) (by decide) (Nat.le_of_ble_eq_true rfl) dX6_copy_175 ?_
                          refine z_iconst C (v := 1) dX6_copy_178 rfl ?_
                          refine z_iret C0 dX6_copy_179 ?_
                          refine xpo.ok (by simp [kCopy, ep, eq, h4, h11, h41, h49, h64, h72, h85, h100, h108, h120, Int32.not_lt.mpr h120, h138, h150]) rfl ?_
                          rw [ep, eq, ea, ea2, eb, nI_clamp (by omega), nI_clamp (by omega), nI_clamp (by omega)]
                        · skip
                          have h150 := bI_0 h150
                          refine z_aload_n C 2 dX6_copy_153 rfl ?_
                          refine z_bipush C (v := (-5)) dX6_copy_154 rfl ?_
                          refine z_callV1 C (c_X6_refuse l E _ _) ⟨by decide, rfl, rfl⟩ rfl rfl q_X6_51 ⟨by decide, by decide⟩ (Nat.le_of_ble_eq_true rfl) dX6_copy_156 (fun v F9 hp => ?_)
                          obtain ⟨rfl, e9⟩ := hp
                          rw [e9]
                          clear e9 F9
                          refine z_iret C0 dX6_copy_159 ?_
                          exact xpo.ref (by simp [kCopy, ep, eq, h4, h11, h41, h49, h64, h72, h85, h100, h108, h120, Int32.not_lt.mpr h120, h138, h150]) (by decide)
                    · skip
                      refine z_aload_n C 2 dX6_copy_123 rfl ?_
                      refine z_bipush C (v := (-4)) dX6_copy_124 rfl ?_
                      refine z_callV1 C (c_X6_refuse l E _ _) ⟨by decide, rfl, rfl⟩ rfl rfl q_X6_51 ⟨by decide, by decide⟩ (Nat.le_of_ble_eq_true rfl) dX6_copy_126 (fun v F9 hp => ?_)
                      obtain ⟨rfl, e9⟩ := hp
                      rw [e9]
                      clear e9 F9
                      refine z_iret C0 dX6_copy_129 ?_
                      exact xpo.ref (by simp [kCopy, ep, eq, h4, h11, h41, h49, h64, h72, h85, h100, h108, h120, Int32.not_le.mp h120]) (by decide)
                  · exact absurd (h72.symm.trans (bI_0 h108)) (by decide)
              · skip
                refine z_aload_n C 2 dX6_copy_88 rfl ?_
                refine z_bipush C (v := (-2)) dX6_copy_89 rfl ?_
                refine z_callV1 C (c_X6_refuse l E _ _) ⟨by decide, rfl, rfl⟩ rfl rfl q_X6_51 ⟨by decide, by decide⟩ (Nat.le_of_ble_eq_true rfl) dX6_copy_91 (fun v F9 hp => ?_)
                obtain ⟨rfl, e9⟩ := hp
                rw [e9]
                clear e9 F9
                refine z_iret C0 dX6_copy_94 ?_
                exact xpo.ref (by simp [kCopy, ep, eq, h4, h11, h41, h49, h64, h72, h85]) (by decide)
        · skip
          have h49 := bI_1 h49
          refine z_aload_n C 2 dX6_copy_52 rfl ?_
          refine z_bipush C (v := (-2)) dX6_copy_53 rfl ?_
          refine z_callV1 C (c_X6_refuse l E _ _) ⟨by decide, rfl, rfl⟩ rfl rfl q_X6_51 ⟨by decide, by decide⟩ (Nat.le_of_ble_eq_true rfl) dX6_copy_55 (fun v F9 hp => ?_)
          obtain ⟨rfl, e9⟩ := hp
          rw [e9]
          clear e9 F9
          refine z_iret C0 dX6_copy_58 ?_
          exact xpo.ref (by simp [kCopy, ep, eq, h4, h11, h41, h49]) (by decide)
    · skip
      have h11 := bI_0 h11
      refine z_aload_n C 0 dX6_copy_14 rfl ?_
      refine z_iconst C (v := (-1)) dX6_copy_15 rfl ?_
      refine z_callV1 C (c_X6_refuse l E _ _) ⟨by decide, rfl, rfl⟩ rfl rfl q_X6_51 ⟨by decide, by decide⟩ (Nat.le_of_ble_eq_true rfl) dX6_copy_16 (fun v F9 hp => ?_)
      obtain ⟨rfl, e9⟩ := hp
      rw [e9]
      clear e9 F9
      refine z_iret C0 dX6_copy_19 ?_
      exact xpo.ref (by simp [kCopy, h4, h11]) (by decide)
