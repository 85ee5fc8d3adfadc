/-! the law's loop -/
section ZT
variable {σ : Type} {l : Launch} {E : zE} {adr : zKey → Nat} {cell : σ → zKey → va_E} {ok : zKey → Prop} {eu : State → Prop} {ev : State → Heap → Prop} {A : Nat → Prop} {K : zK} {cc : ByteArray} {own : String} {R : Room} {s : State} {mL : Nat} {F : σ}
variable {pc : Nat} {L : List (Nat × Value)} {st : List Value}
theorem z_talen (C : zC (cell := cell) l E adr ok eu ev A K cc own R s mL) {ty : FieldType} {t N : Nat} {f : Nat → Value} {B : Nat → Prop} {v : Int32} (hT : ∀ H, zPP E adr cell ok ev F s H → va_T ty t N f B s H) (hv : Int32.ofNat N = v) (hd : decode cc pc = .ok (.arraylength, 1))
    (kk : Z K (zPP E adr cell ok ev F s) (pc + 1) L (.int v :: st)) : Z K (zPP E adr cell ok ev F s) pc L (.ref t :: st) := by
  obtain ⟨p, e, m, args, below, meth, c, n1, n2, Q, rfl, hx, hb, hml, hown, hts, hK, he, hs, hc1, hc2⟩ := C
  intro H locs ls hS hP hl
  obtain ⟨cel, h1, h2, h3, h4, h5, h6, h7⟩ := hT H hP
  exact W.alen hx hb h1 h2 (h5.trans hv) rfl rfl hd (kk H locs ls hS hP hl)
end ZT
theorem m32 (x : Int32) : ∃ m, m = x.toBitVec.toNat ∧ x = nI m := ⟨x.toBitVec.toNat, rfl, Int32.toBitVec_inj.mp (by show _ = BitVec.ofNat 32 _; simp)⟩
theorem m63 (x : Int32) : ∃ m, m < 64 ∧ x &&& 63 = nI m := by
  obtain ⟨m, h1, h2⟩ := m32 (x &&& 63)
  refine ⟨m, ?_, h2⟩
  rw [h1, Int32.toBitVec_and, BitVec.toNat_and]
  exact Nat.lt_of_le_of_lt Nat.and_le_right (by decide)
theorem m_n6 {i n : Nat} (hi : i ≤ 6000) (hn : n ≤ 3072) (h : ¬ nI n - 6 < nI i) : i + 6 ≤ n := by
  have e1 : (nI n).toInt = (n : Int) := nI_toInt (by omega)
  have e2 : (nI i).toInt = (i : Int) := nI_toInt (by omega)
  have e3 : (6 : Int32).toInt = 6 := by decide
  have e4 : (nI n - 6).toInt = (nI n).toInt - (6 : Int32).toInt := i_sub (by omega) (by omega)
  have h2 := Int32.not_lt.mp h
  rw [i_le, e4, e1, e2, e3] at h2
  omega
set_option maxRecDepth 100000 in
set_option maxHeartbeats 4000000 in
theorem lw_turn {l : Launch} {E : zE} {K : zK} {R : Room} {s : State} {mL : Nat} {q0 n : Nat} {sc : Nat → Int32} (C : zC (cell := cellC E) l E (adrC E) okC (xeu E) (evC q0 n sc E) (AC E) K cL_law RL R s mL) (hmL : 3 < mL) (hRm : 20 ≤ R.frames ∧ 2000 ≤ R.locals) (hn : n ≤ 3072) {N : Nat} {F : zF} {M : zM} (h : RR N F M) (hN : N ≤ 98000000) {i : Nat} (h6 : i ≤ 6000) (hex : Z K (zPP E (adrC E) (cellC E) okC (evC q0 n sc E) (F, M) s) 1680 [(0, .ref q0), (1, .ref (adrC E (0, 0, 0))), (2, .ref (adrC E (100, 0, 0))), (3, .int (nI i))] []) (next : i + 6 ≤ n → ∀ F2 M2, RR (N + 1500) F2 M2 → Z K (zPP E (adrC E) (cellC E) okC (evC q0 n sc E) (F2, M2) s) 18 [(0, .ref q0), (1, .ref (adrC E (0, 0, 0))), (2, .ref (adrC E (100, 0, 0))), (3, .int (nI (i + 6)))] []) : Z K (zPP E (adrC E) (cellC E) okC (evC q0 n sc E) (F, M) s) 18 [(0, .ref q0), (1, .ref (adrC E (0, 0, 0))), (2, .ref (adrC E (100, 0, 0))), (3, .int (nI i))] [] := by
  refine z_iload_n C 3 dL_law_18 rfl ?_
  refine z_aload_n C 0 dL_law_19 rfl ?_
  refine z_talen C (v := nI n) (fun H h => h.1.2) rfl dL_law_20 ?_
  refine z_bipush C (v := 6) dL_law_21 rfl ?_
  refine z_isub C dL_law_23 ?_
  refine z_icmp_gt C 1680 dL_law_24 (by decide) (fun _ => hex) (fun hc => ?_)
  have hi : i + 6 ≤ n := m_n6 h6 hn hc
  have next := next hi
  refine z_aload_n C 0 dL_law_27 rfl ?_
  refine z_iload_n C 3 dL_law_28 rfl ?_
  refine z_tald C i (fun H h => h.1.2) rfl (by omega) (by omega) rfl dL_law_29 ?_
  refine z_bipush C (v := 63) dL_law_30 rfl ?_
  refine z_iand C dL_law_32 ?_
  obtain ⟨m, hm, em⟩ := m63 (sc i)
  refine z_top (nI m) em ?_
  have nx : ∀ F2 M2, RR (N + 1500) F2 M2 → Z K (zPP E (adrC E) (cellC E) okC (evC q0 n sc E) (F2, M2) s) 1674 [(0, .ref q0), (1, .ref (adrC E (0, 0, 0))), (2, .ref (adrC E (100, 0, 0))), (3, .int (nI i))] [] := by
    intro F2 M2 h2
    refine z_iinc C (v := nI (i + 6)) 3 dL_law_1674 rfl (nI_add i 6) hmL ?_
    refine z_pick [1, 2, 3, 0] (L2 := [(0, .ref q0), (1, .ref (adrC E (0, 0, 0))), (2, .ref (adrC E (100, 0, 0))), (3, .int (nI (i + 6)))]) rfl ?_
    refine z_goto C 18 dL_law_1677 (by decide) ?_
    exact next F2 M2 h2
  by_cases h45 : m < 45
  · have hc45 : m = 0 ∨ m = 1 ∨ m = 2 ∨ m = 3 ∨ m = 4 ∨ m = 5 ∨ m = 6 ∨ m = 7 ∨ m = 8 ∨ m = 9 ∨ m = 10 ∨ m = 11 ∨ m = 12 ∨ m = 13 ∨ m = 14 ∨ m = 15 ∨ m = 16 ∨ m = 17 ∨ m = 18 ∨ m = 19 ∨ m = 20 ∨ m = 21 ∨ m = 22 ∨ m = 23 ∨ m = 24 ∨ m = 25 ∨ m = 26 ∨ m = 27 ∨ m = 28 ∨ m = 29 ∨ m = 30 ∨ m = 31 ∨ m = 32 ∨ m = 33 ∨ m = 34 ∨ m = 35 ∨ m = 36 ∨ m = 37 ∨ m = 38 ∨ m = 39 ∨ m = 40 ∨ m = 41 ∨ m = 42 ∨ m = 43 ∨ m = 44 := by omega
    clear em hm
    rcases hc45 with rfl | rfl | rfl | rfl | rfl | rfl | rfl | rfl | rfl | rfl | rfl | rfl | rfl | rfl | rfl | rfl | rfl | rfl | rfl | rfl | rfl | rfl | rfl | rfl | rfl | rfl | rfl | rfl | rfl | rfl | rfl | rfl | rfl | rfl | rfl | rfl | rfl | rfl | rfl | rfl | rfl | rfl | rfl | rfl | rfl
    · exact z_tabIn C 0 195 228 rfl dL_law_33 ⟨by decide, rfl⟩ (by decide) (lw_0 C hRm hn h hN hi nx)
    · exact z_tabIn C 1 238 271 rfl dL_law_33 ⟨by decide, rfl⟩ (by decide) (lw_1 C hRm hn h hN hi nx)
    · exact z_tabIn C 2 311 344 rfl dL_law_33 ⟨by decide, rfl⟩ (by decide) (lw_2 C hRm hn h hN hi nx)
    · exact z_tabIn C 3 374 407 rfl dL_law_33 ⟨by decide, rfl⟩ (by decide) (lw_3 C hRm hn h hN hi nx)
    · exact z_tabIn C 4 408 441 rfl dL_law_33 ⟨by decide, rfl⟩ (by decide) (lw_4 C hRm hn h hN hi nx)
    · exact z_tabIn C 5 441 474 rfl dL_law_33 ⟨by decide, rfl⟩ (by decide) (lw_5 C hRm hn h hN hi nx)
    · exact z_tabIn C 6 464 497 rfl dL_law_33 ⟨by decide, rfl⟩ (by decide) (lw_6 C hRm hn h hN hi nx)
    · exact z_tabIn C 7 497 530 rfl dL_law_33 ⟨by decide, rfl⟩ (by decide) (lw_7 C hRm hn h hN hi nx)
    · exact z_tabIn C 8 540 573 rfl dL_law_33 ⟨by decide, rfl⟩ (by decide) (lw_8 C hRm hn h hN hi nx)
    · exact z_tabIn C 9 573 606 rfl dL_law_33 ⟨by decide, rfl⟩ (by decide) (lw_9 C hRm hn h hN hi nx)
    · exact z_tabIn C 10 606 639 rfl dL_law_33 ⟨by decide, rfl⟩ (by decide) (lw_10 C hRm hn h hN hi nx)
    · exact z_tabIn C 11 639 672 rfl dL_law_33 ⟨by decide, rfl⟩ (by decide) (lw_11 C hRm hn h hN hi nx)
    · exact z_tabIn C 12 682 715 rfl dL_law_33 ⟨by decide, rfl⟩ (by decide) (lw_12 C hRm hn h hN hi nx)
    · exact z_tabIn C 13 715 748 rfl dL_law_33 ⟨by decide, rfl⟩ (by decide) (lw_13 C hRm hn h hN hi nx)
    · exact z_tabIn C 14 748 781 rfl dL_law_33 ⟨by decide, rfl⟩ (by decide) (lw_14 C hRm hn h hN hi nx)
    · exact z_tabIn C 15 771 804 rfl dL_law_33 ⟨by decide, rfl⟩ (by decide) (lw_15 C hRm hn h hN hi nx)
    · exact z_tabIn C 16 784 817 rfl dL_law_33 ⟨by decide, rfl⟩ (by decide) (lw_16 C hRm hn h hN hi nx)
    · exact z_tabIn C 17 807 840 rfl dL_law_33 ⟨by decide, rfl⟩ (by decide) (lw_17 C hRm hn h hN hi nx)
    · exact z_tabIn C 18 860 893 rfl dL_law_33 ⟨by decide, rfl⟩ (by decide) (lw_18 C hRm hn h hN hi nx)
    · exact z_tabIn C 19 903 936 rfl dL_law_33 ⟨by decide, rfl⟩ (by decide) (lw_19 C hRm hn h hN hi nx)
    · exact z_tabIn C 20 946 979 rfl dL_law_33 ⟨by decide, rfl⟩ (by decide) (lw_20 C hRm hn h hN hi nx)
    · exact z_tabIn C 21 989 1022 rfl dL_law_33 ⟨by decide, rfl⟩ (by decide) (lw_21 C hRm hn h hN hi nx)
    · exact z_tabIn C 22 1022 1055 rfl dL_law_33 ⟨by decide, rfl⟩ (by decide) (lw_22 C hRm hn h hN hi nx)
    · exact z_tabIn C 23 1055 1088 rfl dL_law_33 ⟨by decide, rfl⟩ (by decide) (lw_23 C hRm hn h hN hi nx)
    · exact z_tabIn C 24 1068 1101 rfl dL_law_33 ⟨by decide, rfl⟩ (by decide) (lw_24 C hRm hn h hN hi nx)
    · exact z_tabIn C 25 1091 1124 rfl dL_law_33 ⟨by decide, rfl⟩ (by decide) (lw_25 C hRm hn h hN hi nx)
    · exact z_tabIn C 26 1114 1147 rfl dL_law_33 ⟨by decide, rfl⟩ (by decide) (lw_26 C hRm hn h hN hi nx)
    · exact z_tabIn C 27 1147 1180 rfl dL_law_33 ⟨by decide, rfl⟩ (by decide) (lw_27 C hRm hn h hN hi nx)
    · exact z_tabIn C 28 1180 1213 rfl dL_law_33 ⟨by decide, rfl⟩ (by decide) (lw_28 C hRm hn h hN hi nx)
    · exact z_tabIn C 29 1203 1236 rfl dL_law_33 ⟨by decide, rfl⟩ (by decide) (lw_29 C hRm hn h hN hi nx)
    · exact z_tabIn C 30 1236 1269 rfl dL_law_33 ⟨by decide, rfl⟩ (by decide) (lw_30 C hRm hn h hN hi nx)
    · exact z_tabIn C 31 1269 1302 rfl dL_law_33 ⟨by decide, rfl⟩ (by decide) (lw_31 C hRm hn h hN hi nx)
    · exact z_tabIn C 32 1302 1335 rfl dL_law_33 ⟨by decide, rfl⟩ (by decide) (lw_32 C hRm hn h hN hi nx)
    · exact z_tabIn C 33 1345 1378 rfl dL_law_33 ⟨by decide, rfl⟩ (by decide) (lw_33 C hRm hn h hN hi nx)
    · exact z_tabIn C 34 1378 1411 rfl dL_law_33 ⟨by decide, rfl⟩ (by decide) (lw_34 C hRm hn h hN hi nx)
    · exact z_tabIn C 35 1411 1444 rfl dL_law_33 ⟨by decide, rfl⟩ (by decide) (lw_35 C hRm hn h hN hi nx)
    · exact z_tabIn C 36 1444 1477 rfl dL_law_33 ⟨by decide, rfl⟩ (by decide) (lw_36 C hRm hn h hN hi nx)
    · exact z_tabIn C 37 1467 1500 rfl dL_law_33 ⟨by decide, rfl⟩ (by decide) (lw_37 C hRm hn h hN hi nx)
    · exact z_tabIn C 38 1480 1513 rfl dL_law_33 ⟨by decide, rfl⟩ (by decide) (lw_38 C hRm hn h hN hi nx)
    · exact z_tabIn C 39 1503 1536 rfl dL_law_33 ⟨by decide, rfl⟩ (by decide) (lw_39 C hRm hn h hN hi nx)
    · exact z_tabIn C 40 1526 1559 rfl dL_law_33 ⟨by decide, rfl⟩ (by decide) (lw_40 C hRm hn h hN hi nx)
    · exact z_tabIn C 41 1569 1602 rfl dL_law_33 ⟨by decide, rfl⟩ (by decide) (lw_41 C hRm hn h hN hi nx)
    · exact z_tabIn C 42 1592 1625 rfl dL_law_33 ⟨by decide, rfl⟩ (by decide) (lw_42 C hRm hn h hN hi nx)
    · exact z_tabIn C 43 1605 1638 rfl dL_law_33 ⟨by decide, rfl⟩ (by decide) (lw_43 C hRm hn h hN hi nx)
    · exact z_tabIn C 44 1618 1651 rfl dL_law_33 ⟨by decide, rfl⟩ (by decide) (lw_44 C hRm hn h hN hi nx)
  · refine z_tabOut C 1674 (Or.inr ?_) dL_law_33 (by decide) (nx F M (h.up (by omega)))
    rw [nI_toInt (by omega)]
    omega
set_option maxRecDepth 100000 in
set_option maxHeartbeats 4000000 in
theorem lw_loop {l : Launch} {E : zE} {K : zK} {R : Room} {s : State} {mL : Nat} {q0 n : Nat} {sc : Nat → Int32} (C : zC (cell := cellC E) l E (adrC E) okC (xeu E) (evC q0 n sc E) (AC E) K cL_law RL R s mL) (hmL : 3 < mL) (hRm : 20 ≤ R.frames ∧ 2000 ≤ R.locals) (hn : n ≤ 3072) (hex : ∀ N F M i, RR N F M → Z K (zPP E (adrC E) (cellC E) okC (evC q0 n sc E) (F, M) s) 1680 [(0, .ref q0), (1, .ref (adrC E (0, 0, 0))), (2, .ref (adrC E (100, 0, 0))), (3, .int (nI i))] []) : ∀ (t k : Nat) (F : zF) (M : zM), 600 ≤ k + t → k ≤ 600 → RR (1500 * k) F M → Z K (zPP E (adrC E) (cellC E) okC (evC q0 n sc E) (F, M) s) 18 [(0, .ref q0), (1, .ref (adrC E (0, 0, 0))), (2, .ref (adrC E (100, 0, 0))), (3, .int (nI (6 * k)))] [] := by
  intro t
  induction t with
  | zero =>
    intro k F M h1 h2 h
    refine lw_turn C hmL hRm hn h (by omega) (by omega) (hex _ F M _ h) (fun hi => ?_)
    exfalso; omega
  | succ t ih =>
    intro k F M h1 h2 h
    refine lw_turn C hmL hRm hn h (by omega) (by omega) (hex _ F M _ h) (fun hi F2 M2 h3 => ?_)
    have e : 6 * k + 6 = 6 * (k + 1) := by omega
    have e2 : 1500 * k + 1500 = 1500 * (k + 1) := by omega
    rw [e]
    rw [e2] at h3
    exact ih (k + 1) F2 M2 (by omega) (by omega) h3
