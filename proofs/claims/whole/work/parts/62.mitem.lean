/-! the reference: an item of a text -/
theorem lt_m1 {y m : Nat} {x n : Int32} (hx : x = nI m) (hn : n = nI y) (hm : m ≤ 6) (hy : y ≤ 9999) : (¬ n < 0 ∧ ¬ x - 1 < n) ↔ n < x := by
  subst hx hn
  have e1 : (1 : Int32).toInt = 1 := rfl
  have e0 : (0 : Int32).toInt = 0 := rfl
  have em := nI_toInt (n := m) (by omega)
  have ey := nI_toInt (n := y) (by omega)
  rw [i_lt, i_lt, i_lt, i_sub (by rw [em, e1]; omega) (by rw [em, e1]; omega), em, ey, e0, e1]
  omega
theorem nn_9 {n : Int32} (h : ∃ y, y ≤ 9999 ∧ n = nI y) : ¬ n < 0 ∧ ¬ 9999 < n := by
  obtain ⟨y, hy, e⟩ := h
  subst e
  exact ⟨nI_pos (by omega), nI_nlt (a := 9999) (b := y) hy (by omega) |> fun z => z⟩
set_option maxRecDepth 100000 in
set_option maxHeartbeats 4000000 in
theorem c_isSo_0_0 (l : Launch) (E : zE) (M : zM) {b len : Nat} (hR : rdo M b len) (g : zGc) {a : Nat} (ha : a ≤ len) (n w : Int32) (tl : Nat → Int32) (hz : gz g) (hn : ∃ y, y ≤ 9999 ∧ n = nI y) : MM l E yX7_isSo cX7_isSo 3 (some .boolean) 5 [.ref (madr E.2.2.1 (0, 0, 0)), .int (0), .int (0)] (rM M g a n w tl) (fun v M2 => v = some (.int (bI (decide (¬ n < 0 ∧ ¬ 6 < n)))) ∧ M2 = rM M g a n w tl) := by
  refine MM.mk kq_X7 (Nat.le_of_ble_eq_true rfl) (fun K s C0 => ?_)
  have C := C0.c
  obtain ⟨hb, he, hbl, hl, hWd, hNm⟩ := id hR
  obtain ⟨⟨eS, lS⟩, ⟨eC, lC⟩⟩ := id hz
  refine z_iload_n C 1 dX7_isSo_0 rfl ?_
  refine z_tabIn C 0 (43) 44 rfl dX7_isSo_1 (by decide) (by decide) ?_
  refine z_iload_n C 2 dX7_isSo_44 rfl ?_
  refine z_if_ne C 65 dX7_isSo_45 (by decide) (fun h45 => ?_) (fun h45 => ?_)
  · exact absurd h45 (by decide)
  · skip
    refine z_aload_n C 0 dX7_isSo_48 rfl ?_
    refine mg_33 C dX7_isSo_49 ?_
    refine z_bipush C (v := 6) dX7_isSo_52 rfl ?_
    refine z_icmp_gt C 61 dX7_isSo_54 (by decide) (fun h54 => ?_) (fun h54 => ?_)
    · skip
      refine z_iconst C (v := 0) dX7_isSo_61 rfl ?_
      refine z_goto C 110 dX7_isSo_62 (by decide) ?_
      refine z_zret C0 rfl dX7_isSo_110 ?_
      refine ⟨?_, rfl⟩
      rw [decide_eq_false (fun z => z.2 h54)]
      rfl
    · skip
      refine z_iconst C (v := 1) dX7_isSo_57 rfl ?_
      refine z_goto C 110 dX7_isSo_58 (by decide) ?_
      refine z_zret C0 rfl dX7_isSo_110 ?_
      refine ⟨?_, rfl⟩
      rw [decide_eq_true (⟨(nn_9 hn).1, h54⟩)]
      rfl
set_option maxRecDepth 100000 in
set_option maxHeartbeats 4000000 in
theorem c_isSo_0_1 (l : Launch) (E : zE) (M : zM) {b len : Nat} (hR : rdo M b len) (g : zGc) {a : Nat} (ha : a ≤ len) (n w : Int32) (tl : Nat → Int32) (hz : gz g) (hn : ∃ y, y ≤ 9999 ∧ n = nI y) : MM l E yX7_isSo cX7_isSo 3 (some .boolean) 5 [.ref (madr E.2.2.1 (0, 0, 0)), .int (0), .int (1)] (rM M g a n w tl) (fun v M2 => v = some (.int (bI (decide (¬ n < 0 ∧ ¬ 9 < n)))) ∧ M2 = rM M g a n w tl) := by
  refine MM.mk kq_X7 (Nat.le_of_ble_eq_true rfl) (fun K s C0 => ?_)
  have C := C0.c
  obtain ⟨hb, he, hbl, hl, hWd, hNm⟩ := id hR
  obtain ⟨⟨eS, lS⟩, ⟨eC, lC⟩⟩ := id hz
  refine z_iload_n C 1 dX7_isSo_0 rfl ?_
  refine z_tabIn C 0 (43) 44 rfl dX7_isSo_1 (by decide) (by decide) ?_
  refine z_iload_n C 2 dX7_isSo_44 rfl ?_
  refine z_if_ne C 65 dX7_isSo_45 (by decide) (fun h45 => ?_) (fun h45 => ?_)
  · skip
    refine z_iload_n C 2 dX7_isSo_65 rfl ?_
    refine z_iconst C (v := 1) dX7_isSo_66 rfl ?_
    refine z_icmp_ne C 87 dX7_isSo_67 (by decide) (fun h67 => ?_) (fun h67 => ?_)
    · exact absurd h67 (by decide)
    · skip
      refine z_aload_n C 0 dX7_isSo_70 rfl ?_
      refine mg_33 C dX7_isSo_71 ?_
      refine z_bipush C (v := 9) dX7_isSo_74 rfl ?_
      refine z_icmp_gt C 83 dX7_isSo_76 (by decide) (fun h76 => ?_) (fun h76 => ?_)
      · skip
        refine z_iconst C (v := 0) dX7_isSo_83 rfl ?_
        refine z_goto C 110 dX7_isSo_84 (by decide) ?_
        refine z_zret C0 rfl dX7_isSo_110 ?_
        refine ⟨?_, rfl⟩
        rw [decide_eq_false (fun z => z.2 h76)]
        rfl
      · skip
        refine z_iconst C (v := 1) dX7_isSo_79 rfl ?_
        refine z_goto C 110 dX7_isSo_80 (by decide) ?_
        refine z_zret C0 rfl dX7_isSo_110 ?_
        refine ⟨?_, rfl⟩
        rw [decide_eq_true (⟨(nn_9 hn).1, h76⟩)]
        rfl
  · exact absurd h45 (by decide)
set_option maxRecDepth 100000 in
set_option maxHeartbeats 4000000 in
theorem c_isSo_0_2 (l : Launch) (E : zE) (M : zM) {b len : Nat} (hR : rdo M b len) (g : zGc) {a : Nat} (ha : a ≤ len) (n w : Int32) (tl : Nat → Int32) (hz : gz g) (hn : ∃ y, y ≤ 9999 ∧ n = nI y) : MM l E yX7_isSo cX7_isSo 3 (some .boolean) 5 [.ref (madr E.2.2.1 (0, 0, 0)), .int (0), .int (2)] (rM M g a n w tl) (fun v M2 => v = some (.int (bI (decide (¬ n < 1 ∧ ¬ 999 < n)))) ∧ M2 = rM M g a n w tl) := by
  refine MM.mk kq_X7 (Nat.le_of_ble_eq_true rfl) (fun K s C0 => ?_)
  have C := C0.c
  obtain ⟨hb, he, hbl, hl, hWd, hNm⟩ := id hR
  obtain ⟨⟨eS, lS⟩, ⟨eC, lC⟩⟩ := id hz
  refine z_iload_n C 1 dX7_isSo_0 rfl ?_
  refine z_tabIn C 0 (43) 44 rfl dX7_isSo_1 (by decide) (by decide) ?_
  refine z_iload_n C 2 dX7_isSo_44 rfl ?_
  refine z_if_ne C 65 dX7_isSo_45 (by decide) (fun h45 => ?_) (fun h45 => ?_)
  · skip
    refine z_iload_n C 2 dX7_isSo_65 rfl ?_
    refine z_iconst C (v := 1) dX7_isSo_66 rfl ?_
    refine z_icmp_ne C 87 dX7_isSo_67 (by decide) (fun h67 => ?_) (fun h67 => ?_)
    · skip
      refine z_aload_n C 0 dX7_isSo_87 rfl ?_
      refine mg_33 C dX7_isSo_88 ?_
      refine z_iconst C (v := 1) dX7_isSo_91 rfl ?_
      refine z_icmp_lt C 109 dX7_isSo_92 (by decide) (fun h92 => ?_) (fun h92 => ?_)
      · skip
        refine z_iconst C (v := 0) dX7_isSo_109 rfl ?_
        refine z_zret C0 rfl dX7_isSo_110 ?_
        refine ⟨?_, rfl⟩
        rw [decide_eq_false (fun z => z.1 h92)]
        rfl
      · skip
        refine z_aload_n C 0 dX7_isSo_95 rfl ?_
        refine mg_33 C dX7_isSo_96 ?_
        refine z_sipush C (v := 999) dX7_isSo_99 rfl ?_
        refine z_icmp_gt C 109 dX7_isSo_102 (by decide) (fun h102 => ?_) (fun h102 => ?_)
        · skip
          refine z_iconst C (v := 0) dX7_isSo_109 rfl ?_
          refine z_zret C0 rfl dX7_isSo_110 ?_
          refine ⟨?_, rfl⟩
          rw [decide_eq_false (fun z => z.2 h102)]
          rfl
        · skip
          refine z_iconst C (v := 1) dX7_isSo_105 rfl ?_
          refine z_goto C 110 dX7_isSo_106 (by decide) ?_
          refine z_zret C0 rfl dX7_isSo_110 ?_
          refine ⟨?_, rfl⟩
          rw [decide_eq_true (⟨h92, h102⟩)]
          rfl
    · exact absurd h67 (by decide)
  · exact absurd h45 (by decide)
set_option maxRecDepth 100000 in
set_option maxHeartbeats 4000000 in
theorem c_isSo_1_0 (l : Launch) (E : zE) (M : zM) {b len : Nat} (hR : rdo M b len) (g : zGc) {a : Nat} (ha : a ≤ len) (n w : Int32) (tl : Nat → Int32) (hz : gz g) (hn : ∃ y, y ≤ 9999 ∧ n = nI y) : MM l E yX7_isSo cX7_isSo 3 (some .boolean) 5 [.ref (madr E.2.2.1 (0, 0, 0)), .int (1), .int (0)] (rM M g a n w tl) (fun v M2 => v = some (.int (bI (decide (¬ n < 1 ∧ ¬ 99 < n)))) ∧ M2 = rM M g a n w tl) := by
  refine MM.mk kq_X7 (Nat.le_of_ble_eq_true rfl) (fun K s C0 => ?_)
  have C := C0.c
  obtain ⟨hb, he, hbl, hl, hWd, hNm⟩ := id hR
  obtain ⟨⟨eS, lS⟩, ⟨eC, lC⟩⟩ := id hz
  refine z_iload_n C 1 dX7_isSo_0 rfl ?_
  refine z_tabIn C 1 (110) 111 rfl dX7_isSo_1 (by decide) (by decide) ?_
  refine z_iload_n C 2 dX7_isSo_111 rfl ?_
  refine z_iconst C (v := 1) dX7_isSo_112 rfl ?_
  refine z_icmp_eq C 133 dX7_isSo_113 (by decide) (fun h113 => ?_) (fun h113 => ?_)
  · exact absurd h113 (by decide)
  · skip
    refine z_aload_n C 0 dX7_isSo_116 rfl ?_
    refine mg_33 C dX7_isSo_117 ?_
    refine z_iconst C (v := 1) dX7_isSo_120 rfl ?_
    refine z_icmp_lt C 137 dX7_isSo_121 (by decide) (fun h121 => ?_) (fun h121 => ?_)
    · skip
      refine z_iconst C (v := 0) dX7_isSo_137 rfl ?_
      refine z_zret C0 rfl dX7_isSo_138 ?_
      refine ⟨?_, rfl⟩
      rw [decide_eq_false (fun z => z.1 h121)]
      rfl
    · skip
      refine z_aload_n C 0 dX7_isSo_124 rfl ?_
      refine mg_33 C dX7_isSo_125 ?_
      refine z_bipush C (v := 99) dX7_isSo_128 rfl ?_
      refine z_icmp_gt C 137 dX7_isSo_130 (by decide) (fun h130 => ?_) (fun h130 => ?_)
      · skip
        refine z_iconst C (v := 0) dX7_isSo_137 rfl ?_
        refine z_zret C0 rfl dX7_isSo_138 ?_
        refine ⟨?_, rfl⟩
        rw [decide_eq_false (fun z => z.2 h130)]
        rfl
      · skip
        refine z_iconst C (v := 1) dX7_isSo_133 rfl ?_
        refine z_goto C 138 dX7_isSo_134 (by decide) ?_
        refine z_zret C0 rfl dX7_isSo_138 ?_
        refine ⟨?_, rfl⟩
        rw [decide_eq_true (⟨h121, h130⟩)]
        rfl
set_option maxRecDepth 100000 in
set_option maxHeartbeats 4000000 in
theorem c_isSo_1_1 (l : Launch) (E : zE) (M : zM) {b len : Nat} (hR : rdo M b len) (g : zGc) {a : Nat} (ha : a ≤ len) (n w : Int32) (tl : Nat → Int32) (hz : gz g) (hn : ∃ y, y ≤ 9999 ∧ n = nI y) : MM l E yX7_isSo cX7_isSo 3 (some .boolean) 5 [.ref (madr E.2.2.1 (0, 0, 0)), .int (1), .int (1)] (rM M g a n w tl) (fun v M2 => v = some (.int (bI (decide (¬ n < 0 ∧ ¬ 9999 < n)))) ∧ M2 = rM M g a n w tl) := by
  refine MM.mk kq_X7 (Nat.le_of_ble_eq_true rfl) (fun K s C0 => ?_)
  have C := C0.c
  obtain ⟨hb, he, hbl, hl, hWd, hNm⟩ := id hR
  obtain ⟨⟨eS, lS⟩, ⟨eC, lC⟩⟩ := id hz
  refine z_iload_n C 1 dX7_isSo_0 rfl ?_
  refine z_tabIn C 1 (110) 111 rfl dX7_isSo_1 (by decide) (by decide) ?_
  refine z_iload_n C 2 dX7_isSo_111 rfl ?_
  refine z_iconst C (v := 1) dX7_isSo_112 rfl ?_
  refine z_icmp_eq C 133 dX7_isSo_113 (by decide) (fun h113 => ?_) (fun h113 => ?_)
  · skip
    refine z_iconst C (v := 1) dX7_isSo_133 rfl ?_
    refine z_goto C 138 dX7_isSo_134 (by decide) ?_
    refine z_zret C0 rfl dX7_isSo_138 ?_
    refine ⟨?_, rfl⟩
    rw [decide_eq_true (nn_9 hn)]
    rfl
  · exact absurd h113 (by decide)
set_option maxRecDepth 100000 in
set_option maxHeartbeats 4000000 in
theorem c_isSo_2_0 (l : Launch) (E : zE) (M : zM) {b len : Nat} (hR : rdo M b len) (g : zGc) {a : Nat} (ha : a ≤ len) (n w : Int32) (tl : Nat → Int32) (hz : gz g) (hn : ∃ y, y ≤ 9999 ∧ n = nI y) : MM l E yX7_isSo cX7_isSo 3 (some .boolean) 5 [.ref (madr E.2.2.1 (0, 0, 0)), .int (2), .int (0)] (rM M g a n w tl) (fun v M2 => v = some (.int (bI (decide (¬ n < 0 ∧ ¬ (g.1 1 - 1) < n)))) ∧ M2 = rM M g a n w tl) := by
  refine MM.mk kq_X7 (Nat.le_of_ble_eq_true rfl) (fun K s C0 => ?_)
  have C := C0.c
  obtain ⟨hb, he, hbl, hl, hWd, hNm⟩ := id hR
  obtain ⟨⟨eS, lS⟩, ⟨eC, lC⟩⟩ := id hz
  refine z_iload_n C 1 dX7_isSo_0 rfl ?_
  refine z_tabIn C 2 (138) 139 rfl dX7_isSo_1 (by decide) (by decide) ?_
  refine z_iload_n C 2 dX7_isSo_139 rfl ?_
  refine z_if_ne C 162 dX7_isSo_140 (by decide) (fun h140 => ?_) (fun h140 => ?_)
  · exact absurd h140 (by decide)
  · skip
    refine z_aload_n C 0 dX7_isSo_143 rfl ?_
    refine mg_33 C dX7_isSo_144 ?_
    refine z_aload_n C 0 dX7_isSo_147 rfl ?_
    refine mg_1 C dX7_isSo_148 ?_
    refine z_icmp_ge C 158 dX7_isSo_151 (by decide) (fun h151 => ?_) (fun h151 => ?_)
    · skip
      refine z_iconst C (v := 0) dX7_isSo_158 rfl ?_
      refine z_goto C 176 dX7_isSo_159 (by decide) ?_
      refine z_zret C0 rfl dX7_isSo_176 ?_
      obtain ⟨y, hy, en⟩ := id hn
      refine ⟨?_, rfl⟩
      rw [decide_eq_false (fun z => absurd ((lt_m1 eC en lC hy).mp z) (Int32.not_lt.mpr h151))]
      rfl
    · skip
      refine z_iconst C (v := 1) dX7_isSo_154 rfl ?_
      refine z_goto C 176 dX7_isSo_155 (by decide) ?_
      refine z_zret C0 rfl dX7_isSo_176 ?_
      obtain ⟨y, hy, en⟩ := id hn
      refine ⟨?_, rfl⟩
      rw [decide_eq_true ((lt_m1 eC en lC hy).mpr (Int32.not_le.mp h151))]
      rfl
set_option maxRecDepth 100000 in
set_option maxHeartbeats 4000000 in
theorem c_isSo_2_1 (l : Launch) (E : zE) (M : zM) {b len : Nat} (hR : rdo M b len) (g : zGc) {a : Nat} (ha : a ≤ len) (n w : Int32) (tl : Nat → Int32) (hz : gz g) (hn : ∃ y, y ≤ 9999 ∧ n = nI y) : MM l E yX7_isSo cX7_isSo 3 (some .boolean) 5 [.ref (madr E.2.2.1 (0, 0, 0)), .int (2), .int (1)] (rM M g a n w tl) (fun v M2 => v = some (.int (bI (decide (¬ n < 0 ∧ ¬ 99 < n)))) ∧ M2 = rM M g a n w tl) := by
  refine MM.mk kq_X7 (Nat.le_of_ble_eq_true rfl) (fun K s C0 => ?_)
  have C := C0.c
  obtain ⟨hb, he, hbl, hl, hWd, hNm⟩ := id hR
  obtain ⟨⟨eS, lS⟩, ⟨eC, lC⟩⟩ := id hz
  refine z_iload_n C 1 dX7_isSo_0 rfl ?_
  refine z_tabIn C 2 (138) 139 rfl dX7_isSo_1 (by decide) (by decide) ?_
  refine z_iload_n C 2 dX7_isSo_139 rfl ?_
  refine z_if_ne C 162 dX7_isSo_140 (by decide) (fun h140 => ?_) (fun h140 => ?_)
  · skip
    refine z_aload_n C 0 dX7_isSo_162 rfl ?_
    refine mg_33 C dX7_isSo_163 ?_
    refine z_bipush C (v := 99) dX7_isSo_166 rfl ?_
    refine z_icmp_gt C 175 dX7_isSo_168 (by decide) (fun h168 => ?_) (fun h168 => ?_)
    · skip
      refine z_iconst C (v := 0) dX7_isSo_175 rfl ?_
      refine z_zret C0 rfl dX7_isSo_176 ?_
      refine ⟨?_, rfl⟩
      rw [decide_eq_false (fun z => z.2 h168)]
      rfl
    · skip
      refine z_iconst C (v := 1) dX7_isSo_171 rfl ?_
      refine z_goto C 176 dX7_isSo_172 (by decide) ?_
      refine z_zret C0 rfl dX7_isSo_176 ?_
      refine ⟨?_, rfl⟩
      rw [decide_eq_true (⟨(nn_9 hn).1, h168⟩)]
      rfl
  · exact absurd h140 (by decide)
set_option maxRecDepth 100000 in
set_option maxHeartbeats 4000000 in
theorem c_isSo_3_0 (l : Launch) (E : zE) (M : zM) {b len : Nat} (hR : rdo M b len) (g : zGc) {a : Nat} (ha : a ≤ len) (n w : Int32) (tl : Nat → Int32) (hz : gz g) (hn : ∃ y, y ≤ 9999 ∧ n = nI y) : MM l E yX7_isSo cX7_isSo 3 (some .boolean) 5 [.ref (madr E.2.2.1 (0, 0, 0)), .int (3), .int (0)] (rM M g a n w tl) (fun v M2 => v = some (.int (bI (decide (¬ n < 0 ∧ ¬ (g.1 1 - 1) < n)))) ∧ M2 = rM M g a n w tl) := by
  refine MM.mk kq_X7 (Nat.le_of_ble_eq_true rfl) (fun K s C0 => ?_)
  have C := C0.c
  obtain ⟨hb, he, hbl, hl, hWd, hNm⟩ := id hR
  obtain ⟨⟨eS, lS⟩, ⟨eC, lC⟩⟩ := id hz
  refine z_iload_n C 1 dX7_isSo_0 rfl ?_
  refine z_tabIn C 3 (176) 177 rfl dX7_isSo_1 (by decide) (by decide) ?_
  refine z_aload_n C 0 dX7_isSo_177 rfl ?_
  refine mg_33 C dX7_isSo_178 ?_
  refine z_iload_n C 2 dX7_isSo_181 rfl ?_
  refine z_if_ne C 192 dX7_isSo_182 (by decide) (fun h182 => ?_) (fun h182 => ?_)
  · exact absurd h182 (by decide)
  · skip
    refine z_aload_n C 0 dX7_isSo_185 rfl ?_
    refine mg_1 C dX7_isSo_186 ?_
    refine z_goto C 196 dX7_isSo_189 (by decide) ?_
    refine z_icmp_ge C 203 dX7_isSo_196 (by decide) (fun h196 => ?_) (fun h196 => ?_)
    · skip
      refine z_iconst C (v := 0) dX7_isSo_203 rfl ?_
      refine z_zret C0 rfl dX7_isSo_204 ?_
      obtain ⟨y, hy, en⟩ := id hn
      refine ⟨?_, rfl⟩
      rw [decide_eq_false (fun z => absurd ((lt_m1 eC en lC hy).mp z) (Int32.not_lt.mpr h196))]
      rfl
    · skip
      refine z_iconst C (v := 1) dX7_isSo_199 rfl ?_
      refine z_goto C 204 dX7_isSo_200 (by decide) ?_
      refine z_zret C0 rfl dX7_isSo_204 ?_
      obtain ⟨y, hy, en⟩ := id hn
      refine ⟨?_, rfl⟩
      rw [decide_eq_true ((lt_m1 eC en lC hy).mpr (Int32.not_le.mp h196))]
      rfl
set_option maxRecDepth 100000 in
set_option maxHeartbeats 4000000 in
theorem c_isSo_3_1 (l : Launch) (E : zE) (M : zM) {b len : Nat} (hR : rdo M b len) (g : zGc) {a : Nat} (ha : a ≤ len) (n w : Int32) (tl : Nat → Int32) (hz : gz g) (hn : ∃ y, y ≤ 9999 ∧ n = nI y) : MM l E yX7_isSo cX7_isSo 3 (some .boolean) 5 [.ref (madr E.2.2.1 (0, 0, 0)), .int (3), .int (1)] (rM M g a n w tl) (fun v M2 => v = some (.int (bI (decide (¬ n < 0 ∧ ¬ (g.1 0 - 1) < n)))) ∧ M2 = rM M g a n w tl) := by
  refine MM.mk kq_X7 (Nat.le_of_ble_eq_true rfl) (fun K s C0 => ?_)
  have C := C0.c
  obtain ⟨hb, he, hbl, hl, hWd, hNm⟩ := id hR
  obtain ⟨⟨eS, lS⟩, ⟨eC, lC⟩⟩ := id hz
  refine z_iload_n C 1 dX7_isSo_0 rfl ?_
  refine z_tabIn C 3 (176) 177 rfl dX7_isSo_1 (by decide) (by decide) ?_
  refine z_aload_n C 0 dX7_isSo_177 rfl ?_
  refine mg_33 C dX7_isSo_178 ?_
  refine z_iload_n C 2 dX7_isSo_181 rfl ?_
  refine z_if_ne C 192 dX7_isSo_182 (by decide) (fun h182 => ?_) (fun h182 => ?_)
  · skip
    refine z_aload_n C 0 dX7_isSo_192 rfl ?_
    refine mg_0 C dX7_isSo_193 ?_
    refine z_icmp_ge C 203 dX7_isSo_196 (by decide) (fun h196 => ?_) (fun h196 => ?_)
    · skip
      refine z_iconst C (v := 0) dX7_isSo_203 rfl ?_
      refine z_zret C0 rfl dX7_isSo_204 ?_
      obtain ⟨y, hy, en⟩ := id hn
      refine ⟨?_, rfl⟩
      rw [decide_eq_false (fun z => absurd ((lt_m1 eS en lS hy).mp z) (Int32.not_lt.mpr h196))]
      rfl
    · skip
      refine z_iconst C (v := 1) dX7_isSo_199 rfl ?_
      refine z_goto C 204 dX7_isSo_200 (by decide) ?_
      refine z_zret C0 rfl dX7_isSo_204 ?_
      obtain ⟨y, hy, en⟩ := id hn
      refine ⟨?_, rfl⟩
      rw [decide_eq_true ((lt_m1 eS en lS hy).mpr (Int32.not_le.mp h196))]
      rfl
  · exact absurd h182 (by decide)
set_option maxRecDepth 100000 in
set_option maxHeartbeats 4000000 in
theorem c_isSo_4_0 (l : Launch) (E : zE) (M : zM) {b len : Nat} (hR : rdo M b len) (g : zGc) {a : Nat} (ha : a ≤ len) (n w : Int32) (tl : Nat → Int32) (hz : gz g) (hn : ∃ y, y ≤ 9999 ∧ n = nI y) : MM l E yX7_isSo cX7_isSo 3 (some .boolean) 5 [.ref (madr E.2.2.1 (0, 0, 0)), .int (4), .int (0)] (rM M g a n w tl) (fun v M2 => v = some (.int (bI (decide (¬ n < 0 ∧ ¬ 99 < n)))) ∧ M2 = rM M g a n w tl) := by
  refine MM.mk kq_X7 (Nat.le_of_ble_eq_true rfl) (fun K s C0 => ?_)
  have C := C0.c
  obtain ⟨hb, he, hbl, hl, hWd, hNm⟩ := id hR
  obtain ⟨⟨eS, lS⟩, ⟨eC, lC⟩⟩ := id hz
  refine z_iload_n C 1 dX7_isSo_0 rfl ?_
  refine z_tabIn C 4 (204) 205 rfl dX7_isSo_1 (by decide) (by decide) ?_
  refine z_aload_n C 0 dX7_isSo_205 rfl ?_
  refine mg_33 C dX7_isSo_206 ?_
  refine z_bipush C (v := 99) dX7_isSo_209 rfl ?_
  refine z_icmp_gt C 218 dX7_isSo_211 (by decide) (fun h211 => ?_) (fun h211 => ?_)
  · skip
    refine z_iconst C (v := 0) dX7_isSo_218 rfl ?_
    refine z_zret C0 rfl dX7_isSo_219 ?_
    refine ⟨?_, rfl⟩
    rw [decide_eq_false (fun z => z.2 h211)]
    rfl
  · skip
    refine z_iconst C (v := 1) dX7_isSo_214 rfl ?_
    refine z_goto C 219 dX7_isSo_215 (by decide) ?_
    refine z_zret C0 rfl dX7_isSo_219 ?_
    refine ⟨?_, rfl⟩
    rw [decide_eq_true (⟨(nn_9 hn).1, h211⟩)]
    rfl
set_option maxRecDepth 100000 in
set_option maxHeartbeats 4000000 in
theorem c_isSo_5_0 (l : Launch) (E : zE) (M : zM) {b len : Nat} (hR : rdo M b len) (g : zGc) {a : Nat} (ha : a ≤ len) (n w : Int32) (tl : Nat → Int32) (hz : gz g) (hn : ∃ y, y ≤ 9999 ∧ n = nI y) : MM l E yX7_isSo cX7_isSo 3 (some .boolean) 5 [.ref (madr E.2.2.1 (0, 0, 0)), .int (5), .int (0)] (rM M g a n w tl) (fun v M2 => v = some (.int (bI (decide (¬ n < 0 ∧ ¬ 9999 < n)))) ∧ M2 = rM M g a n w tl) := by
  refine MM.mk kq_X7 (Nat.le_of_ble_eq_true rfl) (fun K s C0 => ?_)
  have C := C0.c
  obtain ⟨hb, he, hbl, hl, hWd, hNm⟩ := id hR
  obtain ⟨⟨eS, lS⟩, ⟨eC, lC⟩⟩ := id hz
  refine z_iload_n C 1 dX7_isSo_0 rfl ?_
  refine z_tabIn C 5 (257) 258 rfl dX7_isSo_1 (by decide) (by decide) ?_
  refine z_iconst C (v := 1) dX7_isSo_258 rfl ?_
  refine z_zret C0 rfl dX7_isSo_259 ?_
  refine ⟨?_, rfl⟩
  rw [decide_eq_true (nn_9 hn)]
  rfl
set_option maxRecDepth 100000 in
set_option maxHeartbeats 4000000 in
theorem c_isSo_6_0 (l : Launch) (E : zE) (M : zM) {b len : Nat} (hR : rdo M b len) (g : zGc) {a : Nat} (ha : a ≤ len) (n w : Int32) (tl : Nat → Int32) (hz : gz g) (hn : ∃ y, y ≤ 9999 ∧ n = nI y) : MM l E yX7_isSo cX7_isSo 3 (some .boolean) 5 [.ref (madr E.2.2.1 (0, 0, 0)), .int (6), .int (0)] (rM M g a n w tl) (fun v M2 => v = some (.int (bI (decide (¬ n < 0 ∧ ¬ (g.1 1 - 1) < n)))) ∧ M2 = rM M g a n w tl) := by
  refine MM.mk kq_X7 (Nat.le_of_ble_eq_true rfl) (fun K s C0 => ?_)
  have C := C0.c
  obtain ⟨hb, he, hbl, hl, hWd, hNm⟩ := id hR
  obtain ⟨⟨eS, lS⟩, ⟨eC, lC⟩⟩ := id hz
  refine z_iload_n C 1 dX7_isSo_0 rfl ?_
  refine z_tabIn C 6 (219) 220 rfl dX7_isSo_1 (by decide) (by decide) ?_
  refine z_iload_n C 2 dX7_isSo_220 rfl ?_
  refine z_if_ne C 243 dX7_isSo_221 (by decide) (fun h221 => ?_) (fun h221 => ?_)
  · exact absurd h221 (by decide)
  · skip
    refine z_aload_n C 0 dX7_isSo_224 rfl ?_
    refine mg_33 C dX7_isSo_225 ?_
    refine z_aload_n C 0 dX7_isSo_228 rfl ?_
    refine mg_1 C dX7_isSo_229 ?_
    refine z_icmp_ge C 239 dX7_isSo_232 (by decide) (fun h232 => ?_) (fun h232 => ?_)
    · skip
      refine z_iconst C (v := 0) dX7_isSo_239 rfl ?_
      refine z_goto C 257 dX7_isSo_240 (by decide) ?_
      refine z_zret C0 rfl dX7_isSo_257 ?_
      obtain ⟨y, hy, en⟩ := id hn
      refine ⟨?_, rfl⟩
      rw [decide_eq_false (fun z => absurd ((lt_m1 eC en lC hy).mp z) (Int32.not_lt.mpr h232))]
      rfl
    · skip
      refine z_iconst C (v := 1) dX7_isSo_235 rfl ?_
      refine z_goto C 257 dX7_isSo_236 (by decide) ?_
      refine z_zret C0 rfl dX7_isSo_257 ?_
      obtain ⟨y, hy, en⟩ := id hn
      refine ⟨?_, rfl⟩
      rw [decide_eq_true ((lt_m1 eC en lC hy).mpr (Int32.not_le.mp h232))]
      rfl
set_option maxRecDepth 100000 in
set_option maxHeartbeats 4000000 in
theorem c_isSo_6_1 (l : Launch) (E : zE) (M : zM) {b len : Nat} (hR : rdo M b len) (g : zGc) {a : Nat} (ha : a ≤ len) (n w : Int32) (tl : Nat → Int32) (hz : gz g) (hsm : sms g) {c : Nat} (hc6 : c < 6) (hc : tl 0 = nI c) : MM l E yX7_isSo cX7_isSo 3 (some .boolean) 5 [.ref (madr E.2.2.1 (0, 0, 0)), .int (6), .int (1)] (rM M g a n w tl) (fun v M2 => v = some (.int (bI (can g c n))) ∧ M2 = rM M g a n w tl) := by
  refine MM.mk kq_X7 (Nat.le_of_ble_eq_true rfl) (fun K s C0 => ?_)
  have C := C0.c
  obtain ⟨hb, he, hbl, hl, hWd, hNm⟩ := id hR
  refine z_iload_n C 1 dX7_isSo_0 rfl ?_
  refine z_tabIn C 6 (219) 220 rfl dX7_isSo_1 (by decide) (by decide) ?_
  refine z_iload_n C 2 dX7_isSo_220 rfl ?_
  refine z_if_ne C 243 dX7_isSo_221 (by decide) (fun h221 => ?_) (fun h221 => ?_)
  · skip
    refine z_aload_n C 0 dX7_isSo_243 rfl ?_
    refine z_aload_n C 0 dX7_isSo_244 rfl ?_
    refine mg_29 C dX7_isSo_245 ?_
    refine z_iconst C (v := 0) dX7_isSo_248 rfl ?_
    refine ml_29 C 0 rfl (by decide) dX7_isSo_249 ?_
    refine z_top (nI c) (by rw [rM_29]; exact hc) ?_
    refine z_aload_n C 0 dX7_isSo_250 rfl ?_
    refine mg_33 C dX7_isSo_251 ?_
    refine z_top (n) (rfl) ?_
    refine z_callV2 C (c_X7_mayBe l E _ hz hsm hc6 n) ⟨rfl, rfl⟩ rfl rfl q_X7_170 ⟨by decide, by decide⟩ (Nat.le_of_ble_eq_true rfl) dX7_isSo_254 (fun v F9 hp => ?_)
    obtain ⟨rfl, e9⟩ := hp
    rw [e9]
    clear e9 F9
    refine z_zret C0 (bI_nar _) dX7_isSo_257 ?_
    exact ⟨rfl, rfl⟩
  · exact absurd h221 (by decide)
def itQ (M : zM) (r : zGc × (Nat × Option Nat)) : Option Value → zM → Prop := fun v M2 => v = some (.int (bI (decide (r.2.2 = none)))) ∧ ∃ g2 a2 n2 w2 tl2, M2 = rM M g2 a2 n2 w2 tl2 ∧ (r.2.2 = none → g2 = r.1 ∧ a2 = r.2.1) ∧ (∀ q, r.2.2 = some q → w2 = nI q)
theorem itQ.bad {M : zM} {r : zGc × (Nat × Option Nat)} {q a2 : Nat} {g2 : zGc} {n2 : Int32} {tl2 : Nat → Int32} (h : r.2.2 = some q) : itQ M r (some (.int 0)) (rM M g2 a2 n2 (nI q) tl2) := by
  refine ⟨?_, g2, a2, n2, _, tl2, rfl, fun z => ?_, fun q2 z => ?_⟩
  · rw [h]; rfl
  · rw [h] at z; cases z
  · rw [h] at z; cases z; rfl
theorem itQ.good {M : zM} {r : zGc × (Nat × Option Nat)} {a2 : Nat} {g2 : zGc} {n2 w2 : Int32} {tl2 : Nat → Int32} (h : r = (g2, (a2, none))) : itQ M r (some (.int 1)) (rM M g2 a2 n2 w2 tl2) := by
  subst h
  exact ⟨rfl, g2, a2, n2, _, tl2, rfl, fun _ => ⟨rfl, rfl⟩, fun q2 z => by cases z⟩
theorem nmP_sm {T : Nat → Int32} {len x q : Nat} {lo hi : Int32} : nmP T len lo hi (x, some q) = (0, (x, some q)) := by
  have e : exP T len 32 (x, some q) = (x, some q) := exP_some rfl
  unfold nmP
  rw [e]
  exact if_pos (fun z => by cases z)
theorem or_nn {A B : Prop} (h : ¬ (¬ A ∧ ¬ B)) : A ∨ B := Classical.byContradiction (fun z => h ⟨fun a => z (Or.inl a), fun b => z (Or.inr b)⟩)
theorem ex_sp {T : Nat → Int32} {len a : Nat} (h : nxP T len a = 32) : exP T len 32 (a, none) = (a + 1, none) := exP_hit rfl (by decide) h
theorem ex_ns {T : Nat → Int32} {len a : Nat} (h : ¬ nxP T len a = 32) : exP T len 32 (a, none) = (a, some a) := exP_miss rfl (by decide) h
theorem fw_first {T : Nat → Int32} {len w a p : Nat} (hw : w < 8) (h : fwP T len w (fll w) (a, none) = (p, none)) : nxP T len a = wrd.getD (wofN w) 0 := by
  refine Decidable.byContradiction (fun z => ?_)
  have h0 : 0 < fll w := by
    have : ∀ w, w < 8 → 0 < fll w := by decide
    exact this w hw
  have hb := wr_b w hw
  have e := fw_end (T := T) (len := len) (w := w) (i := 0) (a := a) (p := a) h0 rfl (wr_m1 _ (by omega)) z
  rw [h] at e
  cases e
theorem fw_0 {T : Nat → Int32} {len : Nat} {s : Nat × Option Nat} : fwP T len 0 (fll 0) s = exP T len 32 (wdP T len (zByt.getD 0 []) (zLen.getD 0 0) s) := rfl
theorem it_0 {T : Nat → Int32} {len a : Nat} {g : zGc} (h : nxP T len a = 115) : itC T len g (a, none) = itC0 T len g (a, none) := by
  unfold itC
  rw [show nxP T len (a, (none : Option Nat)).1 = 115 from h, if_pos rfl]
theorem fw_1 {T : Nat → Int32} {len : Nat} {s : Nat × Option Nat} : fwP T len 1 (fll 1) s = exP T len 32 (wdP T len (zByt.getD 1 []) (zLen.getD 1 0) s) := rfl
theorem it_1 {T : Nat → Int32} {len a : Nat} {g : zGc} (h : nxP T len a = 99) : itC T len g (a, none) = itC1 T len g (a, none) := by
  unfold itC
  rw [show nxP T len (a, (none : Option Nat)).1 = 99 from h, if_neg (by decide), if_pos rfl]
theorem fw_2 {T : Nat → Int32} {len : Nat} {s : Nat × Option Nat} : fwP T len 2 (fll 2) s = exP T len 32 (wdP T len (zByt.getD 2 []) (zLen.getD 2 0) s) := rfl
theorem it_2 {T : Nat → Int32} {len a : Nat} {g : zGc} (h : nxP T len a = 102) : itC T len g (a, none) = itC2 T len g (a, none) := by
  unfold itC
  rw [show nxP T len (a, (none : Option Nat)).1 = 102 from h, if_neg (by decide), if_neg (by decide), if_pos rfl]
theorem fw_3 {T : Nat → Int32} {len : Nat} {s : Nat × Option Nat} : fwP T len 3 (fll 3) s = exP T len 32 (wdP T len (zByt.getD 3 []) (zLen.getD 3 0) s) := rfl
theorem it_3 {T : Nat → Int32} {len a : Nat} {g : zGc} (h : nxP T len a = 107) : itC T len g (a, none) = itC3 T len g (a, none) := by
  unfold itC
  rw [show nxP T len (a, (none : Option Nat)).1 = 107 from h, if_neg (by decide), if_neg (by decide), if_neg (by decide), if_pos rfl]
theorem fw_4 {T : Nat → Int32} {len : Nat} {s : Nat × Option Nat} : fwP T len 4 (fll 4) s = exP T len 32 (wdP T len (zByt.getD 4 []) (zLen.getD 4 0) s) := rfl
theorem it_4 {T : Nat → Int32} {len a : Nat} {g : zGc} (h : nxP T len a = 105) : itC T len g (a, none) = itC4 T len g (a, none) := by
  unfold itC
  rw [show nxP T len (a, (none : Option Nat)).1 = 105 from h, if_neg (by decide), if_neg (by decide), if_neg (by decide), if_neg (by decide), if_pos rfl]
theorem fw_5 {T : Nat → Int32} {len : Nat} {s : Nat × Option Nat} : fwP T len 5 (fll 5) s = exP T len 32 (wdP T len (zByt.getD 5 []) (zLen.getD 5 0) s) := rfl
theorem it_5 {T : Nat → Int32} {len a : Nat} {g : zGc} (h : nxP T len a = 116) : itC T len g (a, none) = itC5 T len g (a, none) := by
  unfold itC
  rw [show nxP T len (a, (none : Option Nat)).1 = 116 from h, if_neg (by decide), if_neg (by decide), if_neg (by decide), if_neg (by decide), if_neg (by decide), if_pos rfl]
theorem fw_6 {T : Nat → Int32} {len : Nat} {s : Nat × Option Nat} : fwP T len 6 (fll 6) s = exP T len 32 (wdP T len (zByt.getD 6 []) (zLen.getD 6 0) s) := rfl
theorem it_6 {T : Nat → Int32} {len a : Nat} {g : zGc} (h : nxP T len a = 100) : itC T len g (a, none) = itC6 T len g (a, none) := by
  unfold itC
  rw [show nxP T len (a, (none : Option Nat)).1 = 100 from h, if_neg (by decide), if_neg (by decide), if_neg (by decide), if_neg (by decide), if_neg (by decide), if_neg (by decide), if_pos rfl]
theorem fw_7 {T : Nat → Int32} {len : Nat} {s : Nat × Option Nat} : fwP T len 7 (fll 7) s = wdP T len (zByt.getD 7 []) (zLen.getD 7 0) s := rfl
theorem it_7 {T : Nat → Int32} {len a : Nat} {g : zGc} (h : nxP T len a = 110) : itC T len g (a, none) = itC7 T len g (a, none) := by
  unfold itC
  rw [show nxP T len (a, (none : Option Nat)).1 = 110 from h, if_neg (by decide), if_neg (by decide), if_neg (by decide), if_neg (by decide), if_neg (by decide), if_neg (by decide), if_neg (by decide), if_pos rfl]
set_option maxRecDepth 100000 in
set_option maxHeartbeats 4000000 in
theorem it_47_0 {l : Launch} {E : zE} {K : zK} {s : State} (M : zM) {b len : Nat} (hR : rdo M b len) (g : zGc) {a : Nat} (ha : a ≤ len) (n w : Int32) (tl : Nat → Int32) (hz : gz g) {N : Nat} (hrg : rg N g) (hN : N ≤ 100000000) {p : Nat} (hp2 : p ≤ len) (hF : fwP (cT M b) len 0 (fll 0) (a, none) = (p, none)) (hroom : nS g < 6) (C0 : MR l E K cX7_item RX7 8 s 4 (some .boolean) (itQ M (itC (cT M b) len g (a, none)))) : Z K (MP E (rM M g p n w tl) s) 47 [(0, .ref (madr E.2.2.1 (0, 0, 0)))] [.int 0] := by
  have C := C0.c
  obtain ⟨hb, he, hbl, hl, hWd, hNm⟩ := id hR
  obtain ⟨⟨eS, lS⟩, ⟨eC, lC⟩⟩ := id hz
  have hsm : sms g := hrg.sm (by omega)
  have hx : nxP (cT M b) len a = 115 := fw_first (by decide) hF
  have hF2 : exP (cT M b) len 32 (wdP (cT M b) len (zByt.getD 0 []) (zLen.getD 0 0) (a, none)) = (p, none) := fw_0.symm.trans hF
  have hroomI : g.1 0 < 6 := by rw [eS]; exact nI_lt (b := 6) hroom (by omega)
  refine z_istore_n (i := 1) C dX7_item_47 rfl (by decide) ?_
  refine z_iload_n C 0 dX7_item_48 rfl ?_
  refine z_iconst C (v := (-1)) dX7_item_49 rfl ?_
  refine z_icmp_ne C 55 dX7_item_50 (by decide) (fun h50 => ?_) (fun h50 => ?_)
  · skip
    refine z_iconst C (v := 0) dX7_item_55 rfl ?_
    refine z_istore_n (i := 2) C dX7_item_56 rfl (by decide) ?_
    refine z_pick (L2 := [(2, .int (0)), (1, .int (0)), (0, .ref (madr E.2.2.1 (0, 0, 0)))]) [0, 1, 2] rfl ?_
    refine z_iload_n C 0 dX7_item_57 rfl ?_
    refine z_aload_n C 2 dX7_item_58 rfl ?_
    refine mg_28 C dX7_item_59 ?_
    refine z_iload_n C 1 dX7_item_62 rfl ?_
    refine ml_28 C 0 rfl (by decide) dX7_item_63 ?_
    refine z_top (3) (by rw [rM_28]; exact hNm 0 (by decide)) ?_
    refine z_icmp_ge C 166 dX7_item_64 (by decide) (fun h64 => ?_) (fun h64 => ?_)
    · exact absurd h64 (by decide)
    · skip
      refine z_iload_n C 0 dX7_item_67 rfl ?_
      refine z_if_le C 121 dX7_item_68 (by decide) (fun h68 => ?_) (fun h68 => ?_)
      · skip
        
        refine z_aload_n C 2 dX7_item_121 rfl ?_
        refine mg_31 C dX7_item_122 ?_
        refine z_top (nI p) (rfl) ?_
        refine z_istore_n (i := 3) C dX7_item_125 rfl (by decide) ?_
        refine z_aload_n C 3 dX7_item_126 rfl ?_
        refine z_callV0 C (c_X7_reads l E M hR g hp2 n w tl) ⟨rfl, rfl⟩ rfl rfl q_X7_181 ⟨by decide, by decide⟩ (Nat.le_of_ble_eq_true rfl) dX7_item_127 (fun v F9 hp => ?_)
        obtain ⟨rfl, e9⟩ := hp
        rw [e9]
        clear e9 F9
        obtain ⟨y1, hy1, ey1⟩ := dg4 (T := (cT M b)) (len := len) (a := p)
        have hl1 := (dgP_le (T := (cT M b)) (len := len) (n := 4) (d := ((0 : Int32), p)) hp2).1
        generalize eD1 : dgP (cT M b) len 4 (0, p) = D1 at ey1 hl1 ⊢
        obtain ⟨d1, a1⟩ := D1
        dsimp only at ey1 hl1 ⊢
        refine z_if_ne C 135 dX7_item_130 (by decide) (fun h130 => ?_) (fun h130 => ?_)
        · skip
          have h130 := bI_1 h130
          have hne1 : ¬ a1 = p := of_decide_eq_true h130
          rw [if_neg hne1]
          refine z_aload_n C 3 dX7_item_135 rfl ?_
          refine z_iload_n C 2 dX7_item_136 rfl ?_
          refine z_iload_n C 1 dX7_item_137 rfl ?_
          refine z_callV2 C (c_isSo_0_0 l E M hR g hl1 d1 w tl hz ⟨y1, hy1, ey1⟩) ⟨rfl, rfl⟩ rfl rfl q_X7_184 ⟨by decide, by decide⟩ (Nat.le_of_ble_eq_true rfl) dX7_item_138 (fun v F9 hp => ?_)
          obtain ⟨rfl, e9⟩ := hp
          rw [e9]
          clear e9 F9
          refine z_if_ne C 150 dX7_item_141 (by decide) (fun h141 => ?_) (fun h141 => ?_)
          · skip
            have h141 := bI_1 h141
            have hso1 := of_decide_eq_true h141
            have en1 : nmP (cT M b) len 0 6 (wdP (cT M b) len (zByt.getD 0 []) (zLen.getD 0 0) (a, none)) = (d1, (a1, none)) := nmP_g (by rw [hF2]) (by rw [hF2]; exact eD1) (by rw [hF2]; exact hne1) hso1.1 hso1.2
            refine z_aload_n C 3 dX7_item_150 rfl ?_
            refine mg_29 C dX7_item_151 ?_
            refine z_iload_n C 1 dX7_item_154 rfl ?_
            refine z_aload_n C 3 dX7_item_155 rfl ?_
            refine mg_33 C dX7_item_156 ?_
            refine z_top (d1) (rfl) ?_
            refine ms_29 C 0 rfl (by decide) dX7_item_159 ?_
            rw [rM_t]
            refine z_iinc C (v := nI 1) 1 dX7_item_160 rfl rfl (by decide) ?_
            refine z_goto C 57 dX7_item_163 (by decide) ?_
            refine z_pick (L2 := [(2, .int (1)), (3, .int (nI p)), (1, .int (0)), (0, .ref (madr E.2.2.1 (0, 0, 0)))]) [0, 1, 2, 3] rfl ?_
            refine z_iload_n C 0 dX7_item_57 rfl ?_
            refine z_aload_n C 3 dX7_item_58 rfl ?_
            refine mg_28 C dX7_item_59 ?_
            refine z_iload_n C 2 dX7_item_62 rfl ?_
            refine ml_28 C 0 rfl (by decide) dX7_item_63 ?_
            refine z_top (3) (by rw [rM_28]; exact hNm 0 (by decide)) ?_
            refine z_icmp_ge C 166 dX7_item_64 (by decide) (fun h64 => ?_) (fun h64 => ?_)
            · exact absurd h64 (by decide)
            · skip
              refine z_iload_n C 0 dX7_item_67 rfl ?_
              refine z_if_le C 121 dX7_item_68 (by decide) (fun h68 => ?_) (fun h68 => ?_)
              · exact absurd h68 (by decide)
              · skip
                refine z_aload_n C 3 dX7_item_71 rfl ?_
                refine mg_31 C dX7_item_72 ?_
                refine z_top (nI a1) (rfl) ?_
                refine z_aload_n C 3 dX7_item_75 rfl ?_
                refine mg_32 C dX7_item_76 ?_
                rw [show (rM M g a1 d1 w (upd tl 0 d1)).2.1 32 = nI len from (rM_i (by decide)).trans he]
                refine z_icmp_ge C 102 dX7_item_79 (by decide) (fun h79 => ?_) (fun h79 => ?_)
                · skip
                  have hX2 : exP (cT M b) len 32 (a1, none) = (a1, some a1) := ex_ns (by rw [nx_no (fun z => absurd h79 (nI_ge z (by omega)))]; decide)
                  refine z_aload_n C 3 dX7_item_102 rfl ?_
                  refine z_aload_n C 3 dX7_item_103 rfl ?_
                  refine mg_31 C dX7_item_104 ?_
                  refine z_top (nI a1) (rfl) ?_
                  refine z_callV1 C (c_X7_wrong l E M hR g d1 w (upd tl 0 d1) (nI a1)) ⟨rfl, rfl⟩ rfl rfl q_X7_167 ⟨by decide, by decide⟩ (Nat.le_of_ble_eq_true rfl) dX7_item_107 (fun v F9 hp => ?_)
                  obtain ⟨rfl, e9⟩ := hp
                  rw [e9]
                  clear e9 F9
                  refine z_zret C0 rfl dX7_item_110 ?_
                  have en2 : nmP (cT M b) len 0 9 (a1, none) = (0, (a1, some a1)) := (nmP_f (by rw [hX2]; exact fun z => by cases z)).trans (by rw [hX2])
                  have er : (itC (cT M b) len g (a, none)).2.2 = some a1 := by
                    rw [it_0 hx]
                    simp only [itC0, if_pos hroomI, en1, en2, nmP_sm]
                  exact itQ.bad er
                · skip
                  have hsp2 : a1 < len := nI_lt_of h79 (by omega) (by omega)
                  refine z_aload_n C 3 dX7_item_82 rfl ?_
                  refine mg_25 C dX7_item_83 ?_
                  refine z_aload_n C 3 dX7_item_86 rfl ?_
                  refine mg_30 C dX7_item_87 ?_
                  refine z_top (nI b) ((rM_i (by decide)).trans hb) ?_
                  refine z_aload_n C 3 dX7_item_90 rfl ?_
                  refine mg_31 C dX7_item_91 ?_
                  refine z_top (nI a1) (rfl) ?_
                  refine z_iadd C dX7_item_94 ?_
                  refine z_top (nI (b + a1)) (nI_add _ _) ?_
                  refine ml_25 C (b + a1) rfl (by first | assumption | omega) dX7_item_95 ?_
                  refine z_l2i C dX7_item_96 ?_
                  refine z_top (nxP (cT M b) len a1) (nx_at hsp2) ?_
                  refine z_bipush C (v := 32) dX7_item_97 rfl ?_
                  refine z_icmp_eq C 111 dX7_item_99 (by decide) (fun h99 => ?_) (fun h99 => ?_)
                  · skip
                    refine z_aload_n C 3 dX7_item_111 rfl ?_
                    refine z_dup C dX7_item_112 rfl ?_
                    refine mg_31 C dX7_item_113 ?_
                    refine z_top (nI a1) (rfl) ?_
                    refine z_iconst C (v := 1) dX7_item_116 rfl ?_
                    refine z_iadd C dX7_item_117 ?_
                    refine z_top (nI (a1 + 1)) (nI_1 _) ?_
                    refine mp_31 C dX7_item_118 ?_
                    rw [rM_a]
                    have hX2 : exP (cT M b) len 32 (a1, none) = (a1 + 1, none) := ex_sp h99
                    have hl1x : a1 + 1 ≤ len := hsp2
                    refine z_aload_n C 3 dX7_item_121 rfl ?_
                    refine mg_31 C dX7_item_122 ?_
                    refine z_top (nI (a1 + 1)) (rfl) ?_
                    refine z_istore_n (i := 3) C dX7_item_125 rfl (by decide) ?_
                    refine z_aload_n C 3 dX7_item_126 rfl ?_
                    refine z_callV0 C (c_X7_reads l E M hR g hl1x d1 w (upd tl 0 d1)) ⟨rfl, rfl⟩ rfl rfl q_X7_181 ⟨by decide, by decide⟩ (Nat.le_of_ble_eq_true rfl) dX7_item_127 (fun v F9 hp => ?_)
                    obtain ⟨rfl, e9⟩ := hp
                    rw [e9]
                    clear e9 F9
                    obtain ⟨y2, hy2, ey2⟩ := dg4 (T := (cT M b)) (len := len) (a := (a1 + 1))
                    have hl2 := (dgP_le (T := (cT M b)) (len := len) (n := 4) (d := ((0 : Int32), (a1 + 1))) hl1x).1
                    generalize eD2 : dgP (cT M b) len 4 (0, (a1 + 1)) = D2 at ey2 hl2 ⊢
                    obtain ⟨d2, a2⟩ := D2
                    dsimp only at ey2 hl2 ⊢
                    refine z_if_ne C 135 dX7_item_130 (by decide) (fun h130 => ?_) (fun h130 => ?_)
                    · skip
                      have h130 := bI_1 h130
                      have hne2 : ¬ a2 = (a1 + 1) := of_decide_eq_true h130
                      rw [if_neg hne2]
                      refine z_aload_n C 3 dX7_item_135 rfl ?_
                      refine z_iload_n C 2 dX7_item_136 rfl ?_
                      refine z_iload_n C 1 dX7_item_137 rfl ?_
                      refine z_callV2 C (c_isSo_0_1 l E M hR g hl2 d2 w (upd tl 0 d1) hz ⟨y2, hy2, ey2⟩) ⟨rfl, rfl⟩ rfl rfl q_X7_184 ⟨by decide, by decide⟩ (Nat.le_of_ble_eq_true rfl) dX7_item_138 (fun v F9 hp => ?_)
                      obtain ⟨rfl, e9⟩ := hp
                      rw [e9]
                      clear e9 F9
                      refine z_if_ne C 150 dX7_item_141 (by decide) (fun h141 => ?_) (fun h141 => ?_)
                      · skip
                        have h141 := bI_1 h141
                        have hso2 := of_decide_eq_true h141
                        have en2 : nmP (cT M b) len 0 9 (a1, none) = (d2, (a2, none)) := nmP_g (by rw [hX2]) (by rw [hX2]; exact eD2) (by rw [hX2]; exact hne2) hso2.1 hso2.2
                        refine z_aload_n C 3 dX7_item_150 rfl ?_
                        refine mg_29 C dX7_item_151 ?_
                        refine z_iload_n C 1 dX7_item_154 rfl ?_
                        refine z_aload_n C 3 dX7_item_155 rfl ?_
                        refine mg_33 C dX7_item_156 ?_
                        refine z_top (d2) (rfl) ?_
                        refine ms_29 C 1 rfl (by decide) dX7_item_159 ?_
                        rw [rM_t]
                        refine z_iinc C (v := nI 2) 1 dX7_item_160 rfl rfl (by decide) ?_
                        refine z_goto C 57 dX7_item_163 (by decide) ?_
                        refine z_pick (L2 := [(2, .int (2)), (3, .int (nI (a1 + 1))), (1, .int (0)), (0, .ref (madr E.2.2.1 (0, 0, 0)))]) [0, 1, 2, 3] rfl ?_
                        refine z_iload_n C 0 dX7_item_57 rfl ?_
                        refine z_aload_n C 3 dX7_item_58 rfl ?_
                        refine mg_28 C dX7_item_59 ?_
                        refine z_iload_n C 2 dX7_item_62 rfl ?_
                        refine ml_28 C 0 rfl (by decide) dX7_item_63 ?_
                        refine z_top (3) (by rw [rM_28]; exact hNm 0 (by decide)) ?_
                        refine z_icmp_ge C 166 dX7_item_64 (by decide) (fun h64 => ?_) (fun h64 => ?_)
                        · exact absurd h64 (by decide)
                        · skip
                          refine z_iload_n C 0 dX7_item_67 rfl ?_
                          refine z_if_le C 121 dX7_item_68 (by decide) (fun h68 => ?_) (fun h68 => ?_)
                          · exact absurd h68 (by decide)
                          · skip
                            refine z_aload_n C 3 dX7_item_71 rfl ?_
                            refine mg_31 C dX7_item_72 ?_
                            refine z_top (nI a2) (rfl) ?_
                            refine z_aload_n C 3 dX7_item_75 rfl ?_
                            refine mg_32 C dX7_item_76 ?_
                            rw [show (rM M g a2 d2 w (upd (upd tl 0 d1) 1 d2)).2.1 32 = nI len from (rM_i (by decide)).trans he]
                            refine z_icmp_ge C 102 dX7_item_79 (by decide) (fun h79 => ?_) (fun h79 => ?_)
                            · skip
                              have hX3 : exP (cT M b) len 32 (a2, none) = (a2, some a2) := ex_ns (by rw [nx_no (fun z => absurd h79 (nI_ge z (by omega)))]; decide)
                              refine z_aload_n C 3 dX7_item_102 rfl ?_
                              refine z_aload_n C 3 dX7_item_103 rfl ?_
                              refine mg_31 C dX7_item_104 ?_
                              refine z_top (nI a2) (rfl) ?_
                              refine z_callV1 C (c_X7_wrong l E M hR g d2 w (upd (upd tl 0 d1) 1 d2) (nI a2)) ⟨rfl, rfl⟩ rfl rfl q_X7_167 ⟨by decide, by decide⟩ (Nat.le_of_ble_eq_true rfl) dX7_item_107 (fun v F9 hp => ?_)
                              obtain ⟨rfl, e9⟩ := hp
                              rw [e9]
                              clear e9 F9
                              refine z_zret C0 rfl dX7_item_110 ?_
                              have en3 : nmP (cT M b) len 1 999 (a2, none) = (0, (a2, some a2)) := (nmP_f (by rw [hX3]; exact fun z => by cases z)).trans (by rw [hX3])
                              have er : (itC (cT M b) len g (a, none)).2.2 = some a2 := by
                                rw [it_0 hx]
                                simp only [itC0, if_pos hroomI, en1, en2, en3, nmP_sm]
                              exact itQ.bad er
                            · skip
                              have hsp3 : a2 < len := nI_lt_of h79 (by omega) (by omega)
                              refine z_aload_n C 3 dX7_item_82 rfl ?_
                              refine mg_25 C dX7_item_83 ?_
                              refine z_aload_n C 3 dX7_item_86 rfl ?_
                              refine mg_30 C dX7_item_87 ?_
                              refine z_top (nI b) ((rM_i (by decide)).trans hb) ?_
                              refine z_aload_n C 3 dX7_item_90 rfl ?_
                              refine mg_31 C dX7_item_91 ?_
                              refine z_top (nI a2) (rfl) ?_
                              refine z_iadd C dX7_item_94 ?_
                              refine z_top (nI (b + a2)) (nI_add _ _) ?_
                              refine ml_25 C (b + a2) rfl (by first | assumption | omega) dX7_item_95 ?_
                              refine z_l2i C dX7_item_96 ?_
                              refine z_top (nxP (cT M b) len a2) (nx_at hsp3) ?_
                              refine z_bipush C (v := 32) dX7_item_97 rfl ?_
                              refine z_icmp_eq C 111 dX7_item_99 (by decide) (fun h99 => ?_) (fun h99 => ?_)
                              · skip
                                refine z_aload_n C 3 dX7_item_111 rfl ?_
                                refine z_dup C dX7_item_112 rfl ?_
                                refine mg_31 C dX7_item_113 ?_
                                refine z_top (nI a2) (rfl) ?_
                                refine z_iconst C (v := 1) dX7_item_116 rfl ?_
                                refine z_iadd C dX7_item_117 ?_
                                refine z_top (nI (a2 + 1)) (nI_1 _) ?_
                                refine mp_31 C dX7_item_118 ?_
                                rw [rM_a]
                                have hX3 : exP (cT M b) len 32 (a2, none) = (a2 + 1, none) := ex_sp h99
                                have hl2x : a2 + 1 ≤ len := hsp3
                                refine z_aload_n C 3 dX7_item_121 rfl ?_
                                refine mg_31 C dX7_item_122 ?_
                                refine z_top (nI (a2 + 1)) (rfl) ?_
                                refine z_istore_n (i := 3) C dX7_item_125 rfl (by decide) ?_
                                refine z_aload_n C 3 dX7_item_126 rfl ?_
                                refine z_callV0 C (c_X7_reads l E M hR g hl2x d2 w (upd (upd tl 0 d1) 1 d2)) ⟨rfl, rfl⟩ rfl rfl q_X7_181 ⟨by decide, by decide⟩ (Nat.le_of_ble_eq_true rfl) dX7_item_127 (fun v F9 hp => ?_)
                                obtain ⟨rfl, e9⟩ := hp
                                rw [e9]
                                clear e9 F9
                                obtain ⟨y3, hy3, ey3⟩ := dg4 (T := (cT M b)) (len := len) (a := (a2 + 1))
                                have hl3 := (dgP_le (T := (cT M b)) (len := len) (n := 4) (d := ((0 : Int32), (a2 + 1))) hl2x).1
                                generalize eD3 : dgP (cT M b) len 4 (0, (a2 + 1)) = D3 at ey3 hl3 ⊢
                                obtain ⟨d3, a3⟩ := D3
                                dsimp only at ey3 hl3 ⊢
                                refine z_if_ne C 135 dX7_item_130 (by decide) (fun h130 => ?_) (fun h130 => ?_)
                                · skip
                                  have h130 := bI_1 h130
                                  have hne3 : ¬ a3 = (a2 + 1) := of_decide_eq_true h130
                                  rw [if_neg hne3]
                                  refine z_aload_n C 3 dX7_item_135 rfl ?_
                                  refine z_iload_n C 2 dX7_item_136 rfl ?_
                                  refine z_iload_n C 1 dX7_item_137 rfl ?_
                                  refine z_callV2 C (c_isSo_0_2 l E M hR g hl3 d3 w (upd (upd tl 0 d1) 1 d2) hz ⟨y3, hy3, ey3⟩) ⟨rfl, rfl⟩ rfl rfl q_X7_184 ⟨by decide, by decide⟩ (Nat.le_of_ble_eq_true rfl) dX7_item_138 (fun v F9 hp => ?_)
                                  obtain ⟨rfl, e9⟩ := hp
                                  rw [e9]
                                  clear e9 F9
                                  refine z_if_ne C 150 dX7_item_141 (by decide) (fun h141 => ?_) (fun h141 => ?_)
                                  · skip
                                    have h141 := bI_1 h141
                                    have hso3 := of_decide_eq_true h141
                                    have en3 : nmP (cT M b) len 1 999 (a2, none) = (d3, (a3, none)) := nmP_g (by rw [hX3]) (by rw [hX3]; exact eD3) (by rw [hX3]; exact hne3) hso3.1 hso3.2
                                    refine z_aload_n C 3 dX7_item_150 rfl ?_
                                    refine mg_29 C dX7_item_151 ?_
                                    refine z_iload_n C 1 dX7_item_154 rfl ?_
                                    refine z_aload_n C 3 dX7_item_155 rfl ?_
                                    refine mg_33 C dX7_item_156 ?_
                                    refine z_top (d3) (rfl) ?_
                                    refine ms_29 C 2 rfl (by decide) dX7_item_159 ?_
                                    rw [rM_t]
                                    refine z_iinc C (v := nI 3) 1 dX7_item_160 rfl rfl (by decide) ?_
                                    refine z_goto C 57 dX7_item_163 (by decide) ?_
                                    refine z_pick (L2 := [(2, .int (3)), (3, .int (nI (a2 + 1))), (1, .int (0)), (0, .ref (madr E.2.2.1 (0, 0, 0)))]) [0, 1, 2, 3] rfl ?_
                                    refine z_iload_n C 0 dX7_item_57 rfl ?_
                                    refine z_aload_n C 3 dX7_item_58 rfl ?_
                                    refine mg_28 C dX7_item_59 ?_
                                    refine z_iload_n C 2 dX7_item_62 rfl ?_
                                    refine ml_28 C 0 rfl (by decide) dX7_item_63 ?_
                                    refine z_top (3) (by rw [rM_28]; exact hNm 0 (by decide)) ?_
                                    refine z_icmp_ge C 166 dX7_item_64 (by decide) (fun h64 => ?_) (fun h64 => ?_)
                                    · skip
                                      refine z_iload_n C 2 dX7_item_166 rfl ?_
                                      refine z_tabIn C 0 (41) 208 rfl dX7_item_167 (by decide) (by decide) ?_
                                      refine z_aload_n C 3 dX7_item_208 rfl ?_
                                      refine z_aload_n C 3 dX7_item_209 rfl ?_
                                      refine mg_29 C dX7_item_210 ?_
                                      refine z_iconst C (v := 0) dX7_item_213 rfl ?_
                                      refine ml_29 C 0 rfl (by decide) dX7_item_214 ?_
                                      refine z_top (d1) (by rw [rM_29]; simp [upd]) ?_
                                      refine z_aload_n C 3 dX7_item_215 rfl ?_
                                      refine mg_29 C dX7_item_216 ?_
                                      refine z_iconst C (v := 1) dX7_item_219 rfl ?_
                                      refine ml_29 C 1 rfl (by decide) dX7_item_220 ?_
                                      refine z_top (d2) (by rw [rM_29]; simp [upd]) ?_
                                      refine z_aload_n C 3 dX7_item_221 rfl ?_
                                      refine mg_29 C dX7_item_222 ?_
                                      refine z_iconst C (v := 2) dX7_item_225 rfl ?_
                                      refine ml_29 C 2 rfl (by decide) dX7_item_226 ?_
                                      refine z_top (d3) (by rw [rM_29]; simp [upd]) ?_
                                      refine z_callV3 C (c_X7_addsShop l E _ hz hroom d1 d2 d3) ⟨rfl, rfl⟩ rfl rfl q_X7_134 ⟨by decide, by decide⟩ (Nat.le_of_ble_eq_true rfl) dX7_item_227 (fun v F9 hp => ?_)
                                      obtain ⟨rfl, e9⟩ := hp
                                      have e8 : F9 = rM M (addSh g d1 d2 d3) a3 d3 w (upd (upd (upd tl 0 d1) 1 d2) 2 d3) := e9
                                      rw [e8]
                                      clear e8 e9 F9
                                      refine z_pop C dX7_item_230 rfl ?_
                                      refine z_goto C 344 dX7_item_231 (by decide) ?_
                                      refine z_iconst C (v := 1) dX7_item_344 rfl ?_
                                      refine z_zret C0 rfl dX7_item_345 ?_
                                      have er : itC (cT M b) len g (a, none) = (addSh g d1 d2 d3, (a3, none)) := by
                                        rw [it_0 hx]
                                        simp only [itC0, if_pos hroomI, en1, en2, en3, if_true]
                                      exact itQ.good er
                                    · exact absurd h64 (by decide)
                                  · skip
                                    have h141 := bI_0 h141
                                    refine z_aload_n C 3 dX7_item_144 rfl ?_
                                    refine z_iload_n C 0 dX7_item_145 rfl ?_
                                    have hno := or_nn (of_decide_eq_false h141)
                                    have en3 : nmP (cT M b) len 1 999 (a2, none) = (0, (a3, some (a2 + 1))) := (nmP_b (num := d3) (a := a3) (by rw [hX3]) (by rw [hX3]; exact eD3) (Or.inr hno)).trans (by rw [hX3])
                                    refine z_callV1 C (c_X7_wrong l E M hR g d3 w (upd (upd tl 0 d1) 1 d2) (nI (a2 + 1))) ⟨rfl, rfl⟩ rfl rfl q_X7_167 ⟨by decide, by decide⟩ (Nat.le_of_ble_eq_true rfl) dX7_item_146 (fun v F9 hp => ?_)
                                    obtain ⟨rfl, e9⟩ := hp
                                    rw [e9]
                                    clear e9 F9
                                    refine z_zret C0 rfl dX7_item_149 ?_
                                    have er : (itC (cT M b) len g (a, none)).2.2 = some (a2 + 1) := by
                                      rw [it_0 hx]
                                      simp only [itC0, if_pos hroomI, en1, en2, en3, nmP_sm]
                                    exact itQ.bad er
                                · skip
                                  have h130 := bI_0 h130
                                  have he3 : a3 = (a2 + 1) := Decidable.not_not.mp (of_decide_eq_false h130)
                                  rw [if_pos he3]
                                  refine z_iconst C (v := 0) dX7_item_133 rfl ?_
                                  refine z_zret C0 rfl dX7_item_134 ?_
                                  have en3 : nmP (cT M b) len 1 999 (a2, none) = (0, (a3, some (a2 + 1))) := (nmP_b (num := d3) (a := a3) (by rw [hX3]) (by rw [hX3]; exact eD3) (Or.inl (by rw [hX3]; exact he3))).trans (by rw [hX3])
                                  have er : (itC (cT M b) len g (a, none)).2.2 = some (a2 + 1) := by
                                    rw [it_0 hx]
                                    simp only [itC0, if_pos hroomI, en1, en2, en3, nmP_sm]
                                  exact itQ.bad er
                              · skip
                                have hX3 : exP (cT M b) len 32 (a2, none) = (a2, some a2) := ex_ns (by exact h99)
                                refine z_aload_n C 3 dX7_item_102 rfl ?_
                                refine z_aload_n C 3 dX7_item_103 rfl ?_
                                refine mg_31 C dX7_item_104 ?_
                                refine z_top (nI a2) (rfl) ?_
                                refine z_callV1 C (c_X7_wrong l E M hR g d2 w (upd (upd tl 0 d1) 1 d2) (nI a2)) ⟨rfl, rfl⟩ rfl rfl q_X7_167 ⟨by decide, by decide⟩ (Nat.le_of_ble_eq_true rfl) dX7_item_107 (fun v F9 hp => ?_)
                                obtain ⟨rfl, e9⟩ := hp
                                rw [e9]
                                clear e9 F9
                                refine z_zret C0 rfl dX7_item_110 ?_
                                have en3 : nmP (cT M b) len 1 999 (a2, none) = (0, (a2, some a2)) := (nmP_f (by rw [hX3]; exact fun z => by cases z)).trans (by rw [hX3])
                                have er : (itC (cT M b) len g (a, none)).2.2 = some a2 := by
                                  rw [it_0 hx]
                                  simp only [itC0, if_pos hroomI, en1, en2, en3, nmP_sm]
                                exact itQ.bad er
                      · skip
                        have h141 := bI_0 h141
                        refine z_aload_n C 3 dX7_item_144 rfl ?_
                        refine z_iload_n C 0 dX7_item_145 rfl ?_
                        have hno := or_nn (of_decide_eq_false h141)
                        have en2 : nmP (cT M b) len 0 9 (a1, none) = (0, (a2, some (a1 + 1))) := (nmP_b (num := d2) (a := a2) (by rw [hX2]) (by rw [hX2]; exact eD2) (Or.inr hno)).trans (by rw [hX2])
                        refine z_callV1 C (c_X7_wrong l E M hR g d2 w (upd tl 0 d1) (nI (a1 + 1))) ⟨rfl, rfl⟩ rfl rfl q_X7_167 ⟨by decide, by decide⟩ (Nat.le_of_ble_eq_true rfl) dX7_item_146 (fun v F9 hp => ?_)
                        obtain ⟨rfl, e9⟩ := hp
                        rw [e9]
                        clear e9 F9
                        refine z_zret C0 rfl dX7_item_149 ?_
                        have er : (itC (cT M b) len g (a, none)).2.2 = some (a1 + 1) := by
                          rw [it_0 hx]
                          simp only [itC0, if_pos hroomI, en1, en2, nmP_sm]
                        exact itQ.bad er
                    · skip
                      have h130 := bI_0 h130
                      have he2 : a2 = (a1 + 1) := Decidable.not_not.mp (of_decide_eq_false h130)
                      rw [if_pos he2]
                      refine z_iconst C (v := 0) dX7_item_133 rfl ?_
                      refine z_zret C0 rfl dX7_item_134 ?_
                      have en2 : nmP (cT M b) len 0 9 (a1, none) = (0, (a2, some (a1 + 1))) := (nmP_b (num := d2) (a := a2) (by rw [hX2]) (by rw [hX2]; exact eD2) (Or.inl (by rw [hX2]; exact he2))).trans (by rw [hX2])
                      have er : (itC (cT M b) len g (a, none)).2.2 = some (a1 + 1) := by
                        rw [it_0 hx]
                        simp only [itC0, if_pos hroomI, en1, en2, nmP_sm]
                      exact itQ.bad er
                  · skip
                    have hX2 : exP (cT M b) len 32 (a1, none) = (a1, some a1) := ex_ns (by exact h99)
                    refine z_aload_n C 3 dX7_item_102 rfl ?_
                    refine z_aload_n C 3 dX7_item_103 rfl ?_
                    refine mg_31 C dX7_item_104 ?_
                    refine z_top (nI a1) (rfl) ?_
                    refine z_callV1 C (c_X7_wrong l E M hR g d1 w (upd tl 0 d1) (nI a1)) ⟨rfl, rfl⟩ rfl rfl q_X7_167 ⟨by decide, by decide⟩ (Nat.le_of_ble_eq_true rfl) dX7_item_107 (fun v F9 hp => ?_)
                    obtain ⟨rfl, e9⟩ := hp
                    rw [e9]
                    clear e9 F9
                    refine z_zret C0 rfl dX7_item_110 ?_
                    have en2 : nmP (cT M b) len 0 9 (a1, none) = (0, (a1, some a1)) := (nmP_f (by rw [hX2]; exact fun z => by cases z)).trans (by rw [hX2])
                    have er : (itC (cT M b) len g (a, none)).2.2 = some a1 := by
                      rw [it_0 hx]
                      simp only [itC0, if_pos hroomI, en1, en2, nmP_sm]
                    exact itQ.bad er
          · skip
            have h141 := bI_0 h141
            refine z_aload_n C 3 dX7_item_144 rfl ?_
            refine z_iload_n C 0 dX7_item_145 rfl ?_
            have hno := or_nn (of_decide_eq_false h141)
            have en1 : nmP (cT M b) len 0 6 (wdP (cT M b) len (zByt.getD 0 []) (zLen.getD 0 0) (a, none)) = (0, (a1, some p)) := (nmP_b (num := d1) (a := a1) (by rw [hF2]) (by rw [hF2]; exact eD1) (Or.inr hno)).trans (by rw [hF2])
            refine z_callV1 C (c_X7_wrong l E M hR g d1 w tl (nI p)) ⟨rfl, rfl⟩ rfl rfl q_X7_167 ⟨by decide, by decide⟩ (Nat.le_of_ble_eq_true rfl) dX7_item_146 (fun v F9 hp => ?_)
            obtain ⟨rfl, e9⟩ := hp
            rw [e9]
            clear e9 F9
            refine z_zret C0 rfl dX7_item_149 ?_
            have er : (itC (cT M b) len g (a, none)).2.2 = some p := by
              rw [it_0 hx]
              simp only [itC0, if_pos hroomI, en1, nmP_sm]
            exact itQ.bad er
        · skip
          have h130 := bI_0 h130
          have he1 : a1 = p := Decidable.not_not.mp (of_decide_eq_false h130)
          rw [if_pos he1]
          refine z_iconst C (v := 0) dX7_item_133 rfl ?_
          refine z_zret C0 rfl dX7_item_134 ?_
          have en1 : nmP (cT M b) len 0 6 (wdP (cT M b) len (zByt.getD 0 []) (zLen.getD 0 0) (a, none)) = (0, (a1, some p)) := (nmP_b (num := d1) (a := a1) (by rw [hF2]) (by rw [hF2]; exact eD1) (Or.inl (by rw [hF2]; exact he1))).trans (by rw [hF2])
          have er : (itC (cT M b) len g (a, none)).2.2 = some p := by
            rw [it_0 hx]
            simp only [itC0, if_pos hroomI, en1, nmP_sm]
          exact itQ.bad er
      · exact absurd h68 (by decide)
  · exact absurd h50 (by decide)
set_option maxRecDepth 100000 in
set_option maxHeartbeats 4000000 in
theorem it_47_1 {l : Launch} {E : zE} {K : zK} {s : State} (M : zM) {b len : Nat} (hR : rdo M b len) (g : zGc) {a : Nat} (ha : a ≤ len) (n w : Int32) (tl : Nat → Int32) (hz : gz g) {N : Nat} (hrg : rg N g) (hN : N ≤ 100000000) {p : Nat} (hp2 : p ≤ len) (hF : fwP (cT M b) len 1 (fll 1) (a, none) = (p, none)) (hroom : nC g < 6) (C0 : MR l E K cX7_item RX7 8 s 4 (some .boolean) (itQ M (itC (cT M b) len g (a, none)))) : Z K (MP E (rM M g p n w tl) s) 47 [(0, .ref (madr E.2.2.1 (0, 0, 0)))] [.int 1] := by
  have C := C0.c
  obtain ⟨hb, he, hbl, hl, hWd, hNm⟩ := id hR
  obtain ⟨⟨eS, lS⟩, ⟨eC, lC⟩⟩ := id hz
  have hsm : sms g := hrg.sm (by omega)
  have hx : nxP (cT M b) len a = 99 := fw_first (by decide) hF
  have hF2 : exP (cT M b) len 32 (wdP (cT M b) len (zByt.getD 1 []) (zLen.getD 1 0) (a, none)) = (p, none) := fw_1.symm.trans hF
  have hroomI : g.1 1 < 6 := by rw [eC]; exact nI_lt (b := 6) hroom (by omega)
  refine z_istore_n (i := 1) C dX7_item_47 rfl (by decide) ?_
  refine z_iload_n C 0 dX7_item_48 rfl ?_
  refine z_iconst C (v := (-1)) dX7_item_49 rfl ?_
  refine z_icmp_ne C 55 dX7_item_50 (by decide) (fun h50 => ?_) (fun h50 => ?_)
  · skip
    refine z_iconst C (v := 0) dX7_item_55 rfl ?_
    refine z_istore_n (i := 2) C dX7_item_56 rfl (by decide) ?_
    refine z_pick (L2 := [(2, .int (0)), (1, .int (1)), (0, .ref (madr E.2.2.1 (0, 0, 0)))]) [0, 1, 2] rfl ?_
    refine z_iload_n C 0 dX7_item_57 rfl ?_
    refine z_aload_n C 2 dX7_item_58 rfl ?_
    refine mg_28 C dX7_item_59 ?_
    refine z_iload_n C 1 dX7_item_62 rfl ?_
    refine ml_28 C 1 rfl (by decide) dX7_item_63 ?_
    refine z_top (2) (by rw [rM_28]; exact hNm 1 (by decide)) ?_
    refine z_icmp_ge C 166 dX7_item_64 (by decide) (fun h64 => ?_) (fun h64 => ?_)
    · exact absurd h64 (by decide)
    · skip
      refine z_iload_n C 0 dX7_item_67 rfl ?_
      refine z_if_le C 121 dX7_item_68 (by decide) (fun h68 => ?_) (fun h68 => ?_)
      · skip
        
        refine z_aload_n C 2 dX7_item_121 rfl ?_
        refine mg_31 C dX7_item_122 ?_
        refine z_top (nI p) (rfl) ?_
        refine z_istore_n (i := 3) C dX7_item_125 rfl (by decide) ?_
        refine z_aload_n C 3 dX7_item_126 rfl ?_
        refine z_callV0 C (c_X7_reads l E M hR g hp2 n w tl) ⟨rfl, rfl⟩ rfl rfl q_X7_181 ⟨by decide, by decide⟩ (Nat.le_of_ble_eq_true rfl) dX7_item_127 (fun v F9 hp => ?_)
        obtain ⟨rfl, e9⟩ := hp
        rw [e9]
        clear e9 F9
        obtain ⟨y1, hy1, ey1⟩ := dg4 (T := (cT M b)) (len := len) (a := p)
        have hl1 := (dgP_le (T := (cT M b)) (len := len) (n := 4) (d := ((0 : Int32), p)) hp2).1
        generalize eD1 : dgP (cT M b) len 4 (0, p) = D1 at ey1 hl1 ⊢
        obtain ⟨d1, a1⟩ := D1
        dsimp only at ey1 hl1 ⊢
        refine z_if_ne C 135 dX7_item_130 (by decide) (fun h130 => ?_) (fun h130 => ?_)
        · skip
          have h130 := bI_1 h130
          have hne1 : ¬ a1 = p := of_decide_eq_true h130
          rw [if_neg hne1]
          refine z_aload_n C 3 dX7_item_135 rfl ?_
          refine z_iload_n C 2 dX7_item_136 rfl ?_
          refine z_iload_n C 1 dX7_item_137 rfl ?_
          refine z_callV2 C (c_isSo_1_0 l E M hR g hl1 d1 w tl hz ⟨y1, hy1, ey1⟩) ⟨rfl, rfl⟩ rfl rfl q_X7_184 ⟨by decide, by decide⟩ (Nat.le_of_ble_eq_true rfl) dX7_item_138 (fun v F9 hp => ?_)
          obtain ⟨rfl, e9⟩ := hp
          rw [e9]
          clear e9 F9
          refine z_if_ne C 150 dX7_item_141 (by decide) (fun h141 => ?_) (fun h141 => ?_)
          · skip
            have h141 := bI_1 h141
            have hso1 := of_decide_eq_true h141
            have en1 : nmP (cT M b) len 1 99 (wdP (cT M b) len (zByt.getD 1 []) (zLen.getD 1 0) (a, none)) = (d1, (a1, none)) := nmP_g (by rw [hF2]) (by rw [hF2]; exact eD1) (by rw [hF2]; exact hne1) hso1.1 hso1.2
            refine z_aload_n C 3 dX7_item_150 rfl ?_
            refine mg_29 C dX7_item_151 ?_
            refine z_iload_n C 1 dX7_item_154 rfl ?_
            refine z_aload_n C 3 dX7_item_155 rfl ?_
            refine mg_33 C dX7_item_156 ?_
            refine z_top (d1) (rfl) ?_
            refine ms_29 C 0 rfl (by decide) dX7_item_159 ?_
            rw [rM_t]
            refine z_iinc C (v := nI 1) 1 dX7_item_160 rfl rfl (by decide) ?_
            refine z_goto C 57 dX7_item_163 (by decide) ?_
            refine z_pick (L2 := [(2, .int (1)), (3, .int (nI p)), (1, .int (1)), (0, .ref (madr E.2.2.1 (0, 0, 0)))]) [0, 1, 2, 3] rfl ?_
            refine z_iload_n C 0 dX7_item_57 rfl ?_
            refine z_aload_n C 3 dX7_item_58 rfl ?_
            refine mg_28 C dX7_item_59 ?_
            refine z_iload_n C 2 dX7_item_62 rfl ?_
            refine ml_28 C 1 rfl (by decide) dX7_item_63 ?_
            refine z_top (2) (by rw [rM_28]; exact hNm 1 (by decide)) ?_
            refine z_icmp_ge C 166 dX7_item_64 (by decide) (fun h64 => ?_) (fun h64 => ?_)
            · exact absurd h64 (by decide)
            · skip
              refine z_iload_n C 0 dX7_item_67 rfl ?_
              refine z_if_le C 121 dX7_item_68 (by decide) (fun h68 => ?_) (fun h68 => ?_)
              · exact absurd h68 (by decide)
              · skip
                refine z_aload_n C 3 dX7_item_71 rfl ?_
                refine mg_31 C dX7_item_72 ?_
                refine z_top (nI a1) (rfl) ?_
                refine z_aload_n C 3 dX7_item_75 rfl ?_
                refine mg_32 C dX7_item_76 ?_
                rw [show (rM M g a1 d1 w (upd tl 0 d1)).2.1 32 = nI len from (rM_i (by decide)).trans he]
                refine z_icmp_ge C 102 dX7_item_79 (by decide) (fun h79 => ?_) (fun h79 => ?_)
                · skip
                  have hX2 : exP (cT M b) len 32 (a1, none) = (a1, some a1) := ex_ns (by rw [nx_no (fun z => absurd h79 (nI_ge z (by omega)))]; decide)
                  refine z_aload_n C 3 dX7_item_102 rfl ?_
                  refine z_aload_n C 3 dX7_item_103 rfl ?_
                  refine mg_31 C dX7_item_104 ?_
                  refine z_top (nI a1) (rfl) ?_
                  refine z_callV1 C (c_X7_wrong l E M hR g d1 w (upd tl 0 d1) (nI a1)) ⟨rfl, rfl⟩ rfl rfl q_X7_167 ⟨by decide, by decide⟩ (Nat.le_of_ble_eq_true rfl) dX7_item_107 (fun v F9 hp => ?_)
                  obtain ⟨rfl, e9⟩ := hp
                  rw [e9]
                  clear e9 F9
                  refine z_zret C0 rfl dX7_item_110 ?_
                  have en2 : nmP (cT M b) len 0 9999 (a1, none) = (0, (a1, some a1)) := (nmP_f (by rw [hX2]; exact fun z => by cases z)).trans (by rw [hX2])
                  have er : (itC (cT M b) len g (a, none)).2.2 = some a1 := by
                    rw [it_1 hx]
                    simp only [itC1, if_pos hroomI, en1, en2, nmP_sm]
                  exact itQ.bad er
                · skip
                  have hsp2 : a1 < len := nI_lt_of h79 (by omega) (by omega)
                  refine z_aload_n C 3 dX7_item_82 rfl ?_
                  refine mg_25 C dX7_item_83 ?_
                  refine z_aload_n C 3 dX7_item_86 rfl ?_
                  refine mg_30 C dX7_item_87 ?_
                  refine z_top (nI b) ((rM_i (by decide)).trans hb) ?_
                  refine z_aload_n C 3 dX7_item_90 rfl ?_
                  refine mg_31 C dX7_item_91 ?_
                  refine z_top (nI a1) (rfl) ?_
                  refine z_iadd C dX7_item_94 ?_
                  refine z_top (nI (b + a1)) (nI_add _ _) ?_
                  refine ml_25 C (b + a1) rfl (by first | assumption | omega) dX7_item_95 ?_
                  refine z_l2i C dX7_item_96 ?_
                  refine z_top (nxP (cT M b) len a1) (nx_at hsp2) ?_
                  refine z_bipush C (v := 32) dX7_item_97 rfl ?_
                  refine z_icmp_eq C 111 dX7_item_99 (by decide) (fun h99 => ?_) (fun h99 => ?_)
                  · skip
                    refine z_aload_n C 3 dX7_item_111 rfl ?_
                    refine z_dup C dX7_item_112 rfl ?_
                    refine mg_31 C dX7_item_113 ?_
                    refine z_top (nI a1) (rfl) ?_
                    refine z_iconst C (v := 1) dX7_item_116 rfl ?_
                    refine z_iadd C dX7_item_117 ?_
                    refine z_top (nI (a1 + 1)) (nI_1 _) ?_
                    refine mp_31 C dX7_item_118 ?_
                    rw [rM_a]
                    have hX2 : exP (cT M b) len 32 (a1, none) = (a1 + 1, none) := ex_sp h99
                    have hl1x : a1 + 1 ≤ len := hsp2
                    refine z_aload_n C 3 dX7_item_121 rfl ?_
                    refine mg_31 C dX7_item_122 ?_
                    refine z_top (nI (a1 + 1)) (rfl) ?_
                    refine z_istore_n (i := 3) C dX7_item_125 rfl (by decide) ?_
                    refine z_aload_n C 3 dX7_item_126 rfl ?_
                    refine z_callV0 C (c_X7_reads l E M hR g hl1x d1 w (upd tl 0 d1)) ⟨rfl, rfl⟩ rfl rfl q_X7_181 ⟨by decide, by decide⟩ (Nat.le_of_ble_eq_true rfl) dX7_item_127 (fun v F9 hp => ?_)
                    obtain ⟨rfl, e9⟩ := hp
                    rw [e9]
                    clear e9 F9
                    obtain ⟨y2, hy2, ey2⟩ := dg4 (T := (cT M b)) (len := len) (a := (a1 + 1))
                    have hl2 := (dgP_le (T := (cT M b)) (len := len) (n := 4) (d := ((0 : Int32), (a1 + 1))) hl1x).1
                    generalize eD2 : dgP (cT M b) len 4 (0, (a1 + 1)) = D2 at ey2 hl2 ⊢
                    obtain ⟨d2, a2⟩ := D2
                    dsimp only at ey2 hl2 ⊢
                    refine z_if_ne C 135 dX7_item_130 (by decide) (fun h130 => ?_) (fun h130 => ?_)
                    · skip
                      have h130 := bI_1 h130
                      have hne2 : ¬ a2 = (a1 + 1) := of_decide_eq_true h130
                      rw [if_neg hne2]
                      refine z_aload_n C 3 dX7_item_135 rfl ?_
                      refine z_iload_n C 2 dX7_item_136 rfl ?_
                      refine z_iload_n C 1 dX7_item_137 rfl ?_
                      refine z_callV2 C (c_isSo_1_1 l E M hR g hl2 d2 w (upd tl 0 d1) hz ⟨y2, hy2, ey2⟩) ⟨rfl, rfl⟩ rfl rfl q_X7_184 ⟨by decide, by decide⟩ (Nat.le_of_ble_eq_true rfl) dX7_item_138 (fun v F9 hp => ?_)
                      obtain ⟨rfl, e9⟩ := hp
                      rw [e9]
                      clear e9 F9
                      refine z_if_ne C 150 dX7_item_141 (by decide) (fun h141 => ?_) (fun h141 => ?_)
                      · skip
                        have h141 := bI_1 h141
                        have hso2 := of_decide_eq_true h141
                        have en2 : nmP (cT M b) len 0 9999 (a1, none) = (d2, (a2, none)) := nmP_g (by rw [hX2]) (by rw [hX2]; exact eD2) (by rw [hX2]; exact hne2) hso2.1 hso2.2
                        refine z_aload_n C 3 dX7_item_150 rfl ?_
                        refine mg_29 C dX7_item_151 ?_
                        refine z_iload_n C 1 dX7_item_154 rfl ?_
                        refine z_aload_n C 3 dX7_item_155 rfl ?_
                        refine mg_33 C dX7_item_156 ?_
                        refine z_top (d2) (rfl) ?_
                        refine ms_29 C 1 rfl (by decide) dX7_item_159 ?_
                        rw [rM_t]
                        refine z_iinc C (v := nI 2) 1 dX7_item_160 rfl rfl (by decide) ?_
                        refine z_goto C 57 dX7_item_163 (by decide) ?_
                        refine z_pick (L2 := [(2, .int (2)), (3, .int (nI (a1 + 1))), (1, .int (1)), (0, .ref (madr E.2.2.1 (0, 0, 0)))]) [0, 1, 2, 3] rfl ?_
                        refine z_iload_n C 0 dX7_item_57 rfl ?_
                        refine z_aload_n C 3 dX7_item_58 rfl ?_
                        refine mg_28 C dX7_item_59 ?_
                        refine z_iload_n C 2 dX7_item_62 rfl ?_
                        refine ml_28 C 1 rfl (by decide) dX7_item_63 ?_
                        refine z_top (2) (by rw [rM_28]; exact hNm 1 (by decide)) ?_
                        refine z_icmp_ge C 166 dX7_item_64 (by decide) (fun h64 => ?_) (fun h64 => ?_)
                        · skip
                          refine z_iload_n C 2 dX7_item_166 rfl ?_
                          refine z_tabIn C 1 (67) 234 rfl dX7_item_167 (by decide) (by decide) ?_
                          refine z_aload_n C 3 dX7_item_234 rfl ?_
                          refine z_aload_n C 3 dX7_item_235 rfl ?_
                          refine mg_29 C dX7_item_236 ?_
                          refine z_iconst C (v := 0) dX7_item_239 rfl ?_
                          refine ml_29 C 0 rfl (by decide) dX7_item_240 ?_
                          refine z_top (d1) (by rw [rM_29]; simp [upd]) ?_
                          refine z_aload_n C 3 dX7_item_241 rfl ?_
                          refine mg_29 C dX7_item_242 ?_
                          refine z_iconst C (v := 1) dX7_item_245 rfl ?_
                          refine ml_29 C 1 rfl (by decide) dX7_item_246 ?_
                          refine z_top (d2) (by rw [rM_29]; simp [upd]) ?_
                          refine z_callV2 C (c_X7_addsChild l E _ hz hroom d1 d2) ⟨rfl, rfl⟩ rfl rfl q_X7_138 ⟨by decide, by decide⟩ (Nat.le_of_ble_eq_true rfl) dX7_item_247 (fun v F9 hp => ?_)
                          obtain ⟨rfl, e9⟩ := hp
                          have e8 : F9 = rM M (addCh g d1 d2) a2 d2 w (upd (upd tl 0 d1) 1 d2) := e9
                          rw [e8]
                          clear e8 e9 F9
                          refine z_pop C dX7_item_250 rfl ?_
                          refine z_goto C 344 dX7_item_251 (by decide) ?_
                          refine z_iconst C (v := 1) dX7_item_344 rfl ?_
                          refine z_zret C0 rfl dX7_item_345 ?_
                          have er : itC (cT M b) len g (a, none) = (addCh g d1 d2, (a2, none)) := by
                            rw [it_1 hx]
                            simp only [itC1, if_pos hroomI, en1, en2, if_true]
                          exact itQ.good er
                        · exact absurd h64 (by decide)
                      · skip
                        have h141 := bI_0 h141
                        refine z_aload_n C 3 dX7_item_144 rfl ?_
                        refine z_iload_n C 0 dX7_item_145 rfl ?_
                        have hno := or_nn (of_decide_eq_false h141)
                        have en2 : nmP (cT M b) len 0 9999 (a1, none) = (0, (a2, some (a1 + 1))) := (nmP_b (num := d2) (a := a2) (by rw [hX2]) (by rw [hX2]; exact eD2) (Or.inr hno)).trans (by rw [hX2])
                        refine z_callV1 C (c_X7_wrong l E M hR g d2 w (upd tl 0 d1) (nI (a1 + 1))) ⟨rfl, rfl⟩ rfl rfl q_X7_167 ⟨by decide, by decide⟩ (Nat.le_of_ble_eq_true rfl) dX7_item_146 (fun v F9 hp => ?_)
                        obtain ⟨rfl, e9⟩ := hp
                        rw [e9]
                        clear e9 F9
                        refine z_zret C0 rfl dX7_item_149 ?_
                        have er : (itC (cT M b) len g (a, none)).2.2 = some (a1 + 1) := by
                          rw [it_1 hx]
                          simp only [itC1, if_pos hroomI, en1, en2, nmP_sm]
                        exact itQ.bad er
                    · skip
                      have h130 := bI_0 h130
                      have he2 : a2 = (a1 + 1) := Decidable.not_not.mp (of_decide_eq_false h130)
                      rw [if_pos he2]
                      refine z_iconst C (v := 0) dX7_item_133 rfl ?_
                      refine z_zret C0 rfl dX7_item_134 ?_
                      have en2 : nmP (cT M b) len 0 9999 (a1, none) = (0, (a2, some (a1 + 1))) := (nmP_b (num := d2) (a := a2) (by rw [hX2]) (by rw [hX2]; exact eD2) (Or.inl (by rw [hX2]; exact he2))).trans (by rw [hX2])
                      have er : (itC (cT M b) len g (a, none)).2.2 = some (a1 + 1) := by
                        rw [it_1 hx]
                        simp only [itC1, if_pos hroomI, en1, en2, nmP_sm]
                      exact itQ.bad er
                  · skip
                    have hX2 : exP (cT M b) len 32 (a1, none) = (a1, some a1) := ex_ns (by exact h99)
                    refine z_aload_n C 3 dX7_item_102 rfl ?_
                    refine z_aload_n C 3 dX7_item_103 rfl ?_
                    refine mg_31 C dX7_item_104 ?_
                    refine z_top (nI a1) (rfl) ?_
                    refine z_callV1 C (c_X7_wrong l E M hR g d1 w (upd tl 0 d1) (nI a1)) ⟨rfl, rfl⟩ rfl rfl q_X7_167 ⟨by decide, by decide⟩ (Nat.le_of_ble_eq_true rfl) dX7_item_107 (fun v F9 hp => ?_)
                    obtain ⟨rfl, e9⟩ := hp
                    rw [e9]
                    clear e9 F9
                    refine z_zret C0 rfl dX7_item_110 ?_
                    have en2 : nmP (cT M b) len 0 9999 (a1, none) = (0, (a1, some a1)) := (nmP_f (by rw [hX2]; exact fun z => by cases z)).trans (by rw [hX2])
                    have er : (itC (cT M b) len g (a, none)).2.2 = some a1 := by
                      rw [it_1 hx]
                      simp only [itC1, if_pos hroomI, en1, en2, nmP_sm]
                    exact itQ.bad er
          · skip
            have h141 := bI_0 h141
            refine z_aload_n C 3 dX7_item_144 rfl ?_
            refine z_iload_n C 0 dX7_item_145 rfl ?_
            have hno := or_nn (of_decide_eq_false h141)
            have en1 : nmP (cT M b) len 1 99 (wdP (cT M b) len (zByt.getD 1 []) (zLen.getD 1 0) (a, none)) = (0, (a1, some p)) := (nmP_b (num := d1) (a := a1) (by rw [hF2]) (by rw [hF2]; exact eD1) (Or.inr hno)).trans (by rw [hF2])
            refine z_callV1 C (c_X7_wrong l E M hR g d1 w tl (nI p)) ⟨rfl, rfl⟩ rfl rfl q_X7_167 ⟨by decide, by decide⟩ (Nat.le_of_ble_eq_true rfl) dX7_item_146 (fun v F9 hp => ?_)
            obtain ⟨rfl, e9⟩ := hp
            rw [e9]
            clear e9 F9
            refine z_zret C0 rfl dX7_item_149 ?_
            have er : (itC (cT M b) len g (a, none)).2.2 = some p := by
              rw [it_1 hx]
              simp only [itC1, if_pos hroomI, en1, nmP_sm]
            exact itQ.bad er
        · skip
          have h130 := bI_0 h130
          have he1 : a1 = p := Decidable.not_not.mp (of_decide_eq_false h130)
          rw [if_pos he1]
          refine z_iconst C (v := 0) dX7_item_133 rfl ?_
          refine z_zret C0 rfl dX7_item_134 ?_
          have en1 : nmP (cT M b) len 1 99 (wdP (cT M b) len (zByt.getD 1 []) (zLen.getD 1 0) (a, none)) = (0, (a1, some p)) := (nmP_b (num := d1) (a := a1) (by rw [hF2]) (by rw [hF2]; exact eD1) (Or.inl (by rw [hF2]; exact he1))).trans (by rw [hF2])
          have er : (itC (cT M b) len g (a, none)).2.2 = some p := by
            rw [it_1 hx]
            simp only [itC1, if_pos hroomI, en1, nmP_sm]
          exact itQ.bad er
      · exact absurd h68 (by decide)
  · exact absurd h50 (by decide)
set_option maxRecDepth 100000 in
set_option maxHeartbeats 4000000 in
theorem it_47_2 {l : Launch} {E : zE} {K : zK} {s : State} (M : zM) {b len : Nat} (hR : rdo M b len) (g : zGc) {a : Nat} (ha : a ≤ len) (n w : Int32) (tl : Nat → Int32) (hz : gz g) {N : Nat} (hrg : rg N g) (hN : N ≤ 100000000) {p : Nat} (hp2 : p ≤ len) (hF : fwP (cT M b) len 2 (fll 2) (a, none) = (p, none)) (C0 : MR l E K cX7_item RX7 8 s 4 (some .boolean) (itQ M (itC (cT M b) len g (a, none)))) : Z K (MP E (rM M g p n w tl) s) 47 [(0, .ref (madr E.2.2.1 (0, 0, 0)))] [.int 2] := by
  have C := C0.c
  obtain ⟨hb, he, hbl, hl, hWd, hNm⟩ := id hR
  obtain ⟨⟨eS, lS⟩, ⟨eC, lC⟩⟩ := id hz
  have hsm : sms g := hrg.sm (by omega)
  have hx : nxP (cT M b) len a = 102 := fw_first (by decide) hF
  have hF2 : exP (cT M b) len 32 (wdP (cT M b) len (zByt.getD 2 []) (zLen.getD 2 0) (a, none)) = (p, none) := fw_2.symm.trans hF
  refine z_istore_n (i := 1) C dX7_item_47 rfl (by decide) ?_
  refine z_iload_n C 0 dX7_item_48 rfl ?_
  refine z_iconst C (v := (-1)) dX7_item_49 rfl ?_
  refine z_icmp_ne C 55 dX7_item_50 (by decide) (fun h50 => ?_) (fun h50 => ?_)
  · skip
    refine z_iconst C (v := 0) dX7_item_55 rfl ?_
    refine z_istore_n (i := 2) C dX7_item_56 rfl (by decide) ?_
    refine z_pick (L2 := [(2, .int (0)), (1, .int (2)), (0, .ref (madr E.2.2.1 (0, 0, 0)))]) [0, 1, 2] rfl ?_
    refine z_iload_n C 0 dX7_item_57 rfl ?_
    refine z_aload_n C 2 dX7_item_58 rfl ?_
    refine mg_28 C dX7_item_59 ?_
    refine z_iload_n C 1 dX7_item_62 rfl ?_
    refine ml_28 C 2 rfl (by decide) dX7_item_63 ?_
    refine z_top (2) (by rw [rM_28]; exact hNm 2 (by decide)) ?_
    refine z_icmp_ge C 166 dX7_item_64 (by decide) (fun h64 => ?_) (fun h64 => ?_)
    · exact absurd h64 (by decide)
    · skip
      refine z_iload_n C 0 dX7_item_67 rfl ?_
      refine z_if_le C 121 dX7_item_68 (by decide) (fun h68 => ?_) (fun h68 => ?_)
      · skip
        
        refine z_aload_n C 2 dX7_item_121 rfl ?_
        refine mg_31 C dX7_item_122 ?_
        refine z_top (nI p) (rfl) ?_
        refine z_istore_n (i := 3) C dX7_item_125 rfl (by decide) ?_
        refine z_aload_n C 3 dX7_item_126 rfl ?_
        refine z_callV0 C (c_X7_reads l E M hR g hp2 n w tl) ⟨rfl, rfl⟩ rfl rfl q_X7_181 ⟨by decide, by decide⟩ (Nat.le_of_ble_eq_true rfl) dX7_item_127 (fun v F9 hp => ?_)
        obtain ⟨rfl, e9⟩ := hp
        rw [e9]
        clear e9 F9
        obtain ⟨y1, hy1, ey1⟩ := dg4 (T := (cT M b)) (len := len) (a := p)
        have hl1 := (dgP_le (T := (cT M b)) (len := len) (n := 4) (d := ((0 : Int32), p)) hp2).1
        generalize eD1 : dgP (cT M b) len 4 (0, p) = D1 at ey1 hl1 ⊢
        obtain ⟨d1, a1⟩ := D1
        dsimp only at ey1 hl1 ⊢
        refine z_if_ne C 135 dX7_item_130 (by decide) (fun h130 => ?_) (fun h130 => ?_)
        · skip
          have h130 := bI_1 h130
          have hne1 : ¬ a1 = p := of_decide_eq_true h130
          rw [if_neg hne1]
          refine z_aload_n C 3 dX7_item_135 rfl ?_
          refine z_iload_n C 2 dX7_item_136 rfl ?_
          refine z_iload_n C 1 dX7_item_137 rfl ?_
          refine z_callV2 C (c_isSo_2_0 l E M hR g hl1 d1 w tl hz ⟨y1, hy1, ey1⟩) ⟨rfl, rfl⟩ rfl rfl q_X7_184 ⟨by decide, by decide⟩ (Nat.le_of_ble_eq_true rfl) dX7_item_138 (fun v F9 hp => ?_)
          obtain ⟨rfl, e9⟩ := hp
          rw [e9]
          clear e9 F9
          refine z_if_ne C 150 dX7_item_141 (by decide) (fun h141 => ?_) (fun h141 => ?_)
          · skip
            have h141 := bI_1 h141
            have hso1 := of_decide_eq_true h141
            have en1 : nmP (cT M b) len 0 (g.1 1 - 1) (wdP (cT M b) len (zByt.getD 2 []) (zLen.getD 2 0) (a, none)) = (d1, (a1, none)) := nmP_g (by rw [hF2]) (by rw [hF2]; exact eD1) (by rw [hF2]; exact hne1) hso1.1 hso1.2
            obtain ⟨c, hc, ec⟩ := i_idx lC (by rw [eC] at hso1; exact hso1.1) (by rw [eC] at hso1; exact hso1.2)
            have hc6 : c < 6 := by omega
            have ecl : d1.toNatClampNeg = c := by rw [ec]; exact nI_clamp (by omega)
            refine z_aload_n C 3 dX7_item_150 rfl ?_
            refine mg_29 C dX7_item_151 ?_
            refine z_iload_n C 1 dX7_item_154 rfl ?_
            refine z_aload_n C 3 dX7_item_155 rfl ?_
            refine mg_33 C dX7_item_156 ?_
            refine z_top (d1) (rfl) ?_
            refine ms_29 C 0 rfl (by decide) dX7_item_159 ?_
            rw [rM_t]
            refine z_iinc C (v := nI 1) 1 dX7_item_160 rfl rfl (by decide) ?_
            refine z_goto C 57 dX7_item_163 (by decide) ?_
            refine z_pick (L2 := [(2, .int (1)), (3, .int (nI p)), (1, .int (2)), (0, .ref (madr E.2.2.1 (0, 0, 0)))]) [0, 1, 2, 3] rfl ?_
            refine z_iload_n C 0 dX7_item_57 rfl ?_
            refine z_aload_n C 3 dX7_item_58 rfl ?_
            refine mg_28 C dX7_item_59 ?_
            refine z_iload_n C 2 dX7_item_62 rfl ?_
            refine ml_28 C 2 rfl (by decide) dX7_item_63 ?_
            refine z_top (2) (by rw [rM_28]; exact hNm 2 (by decide)) ?_
            refine z_icmp_ge C 166 dX7_item_64 (by decide) (fun h64 => ?_) (fun h64 => ?_)
            · exact absurd h64 (by decide)
            · skip
              refine z_iload_n C 0 dX7_item_67 rfl ?_
              refine z_if_le C 121 dX7_item_68 (by decide) (fun h68 => ?_) (fun h68 => ?_)
              · exact absurd h68 (by decide)
              · skip
                refine z_aload_n C 3 dX7_item_71 rfl ?_
                refine mg_31 C dX7_item_72 ?_
                refine z_top (nI a1) (rfl) ?_
                refine z_aload_n C 3 dX7_item_75 rfl ?_
                refine mg_32 C dX7_item_76 ?_
                rw [show (rM M g a1 d1 w (upd tl 0 d1)).2.1 32 = nI len from (rM_i (by decide)).trans he]
                refine z_icmp_ge C 102 dX7_item_79 (by decide) (fun h79 => ?_) (fun h79 => ?_)
                · skip
                  have hX2 : exP (cT M b) len 32 (a1, none) = (a1, some a1) := ex_ns (by rw [nx_no (fun z => absurd h79 (nI_ge z (by omega)))]; decide)
                  refine z_aload_n C 3 dX7_item_102 rfl ?_
                  refine z_aload_n C 3 dX7_item_103 rfl ?_
                  refine mg_31 C dX7_item_104 ?_
                  refine z_top (nI a1) (rfl) ?_
                  refine z_callV1 C (c_X7_wrong l E M hR g d1 w (upd tl 0 d1) (nI a1)) ⟨rfl, rfl⟩ rfl rfl q_X7_167 ⟨by decide, by decide⟩ (Nat.le_of_ble_eq_true rfl) dX7_item_107 (fun v F9 hp => ?_)
                  obtain ⟨rfl, e9⟩ := hp
                  rw [e9]
                  clear e9 F9
                  refine z_zret C0 rfl dX7_item_110 ?_
                  have en2 : nmP (cT M b) len 0 99 (a1, none) = (0, (a1, some a1)) := (nmP_f (by rw [hX2]; exact fun z => by cases z)).trans (by rw [hX2])
                  have er : (itC (cT M b) len g (a, none)).2.2 = some a1 := by
                    rw [it_2 hx]
                    simp only [itC2, en1, en2, nmP_sm]
                  exact itQ.bad er
                · skip
                  have hsp2 : a1 < len := nI_lt_of h79 (by omega) (by omega)
                  refine z_aload_n C 3 dX7_item_82 rfl ?_
                  refine mg_25 C dX7_item_83 ?_
                  refine z_aload_n C 3 dX7_item_86 rfl ?_
                  refine mg_30 C dX7_item_87 ?_
                  refine z_top (nI b) ((rM_i (by decide)).trans hb) ?_
                  refine z_aload_n C 3 dX7_item_90 rfl ?_
                  refine mg_31 C dX7_item_91 ?_
                  refine z_top (nI a1) (rfl) ?_
                  refine z_iadd C dX7_item_94 ?_
                  refine z_top (nI (b + a1)) (nI_add _ _) ?_
                  refine ml_25 C (b + a1) rfl (by first | assumption | omega) dX7_item_95 ?_
                  refine z_l2i C dX7_item_96 ?_
                  refine z_top (nxP (cT M b) len a1) (nx_at hsp2) ?_
                  refine z_bipush C (v := 32) dX7_item_97 rfl ?_
                  refine z_icmp_eq C 111 dX7_item_99 (by decide) (fun h99 => ?_) (fun h99 => ?_)
                  · skip
                    refine z_aload_n C 3 dX7_item_111 rfl ?_
                    refine z_dup C dX7_item_112 rfl ?_
                    refine mg_31 C dX7_item_113 ?_
                    refine z_top (nI a1) (rfl) ?_
                    refine z_iconst C (v := 1) dX7_item_116 rfl ?_
                    refine z_iadd C dX7_item_117 ?_
                    refine z_top (nI (a1 + 1)) (nI_1 _) ?_
                    refine mp_31 C dX7_item_118 ?_
                    rw [rM_a]
                    have hX2 : exP (cT M b) len 32 (a1, none) = (a1 + 1, none) := ex_sp h99
                    have hl1x : a1 + 1 ≤ len := hsp2
                    refine z_aload_n C 3 dX7_item_121 rfl ?_
                    refine mg_31 C dX7_item_122 ?_
                    refine z_top (nI (a1 + 1)) (rfl) ?_
                    refine z_istore_n (i := 3) C dX7_item_125 rfl (by decide) ?_
                    refine z_aload_n C 3 dX7_item_126 rfl ?_
                    refine z_callV0 C (c_X7_reads l E M hR g hl1x d1 w (upd tl 0 d1)) ⟨rfl, rfl⟩ rfl rfl q_X7_181 ⟨by decide, by decide⟩ (Nat.le_of_ble_eq_true rfl) dX7_item_127 (fun v F9 hp => ?_)
                    obtain ⟨rfl, e9⟩ := hp
                    rw [e9]
                    clear e9 F9
                    obtain ⟨y2, hy2, ey2⟩ := dg4 (T := (cT M b)) (len := len) (a := (a1 + 1))
                    have hl2 := (dgP_le (T := (cT M b)) (len := len) (n := 4) (d := ((0 : Int32), (a1 + 1))) hl1x).1
                    generalize eD2 : dgP (cT M b) len 4 (0, (a1 + 1)) = D2 at ey2 hl2 ⊢
                    obtain ⟨d2, a2⟩ := D2
                    dsimp only at ey2 hl2 ⊢
                    refine z_if_ne C 135 dX7_item_130 (by decide) (fun h130 => ?_) (fun h130 => ?_)
                    · skip
                      have h130 := bI_1 h130
                      have hne2 : ¬ a2 = (a1 + 1) := of_decide_eq_true h130
                      rw [if_neg hne2]
                      refine z_aload_n C 3 dX7_item_135 rfl ?_
                      refine z_iload_n C 2 dX7_item_136 rfl ?_
                      refine z_iload_n C 1 dX7_item_137 rfl ?_
                      refine z_callV2 C (c_isSo_2_1 l E M hR g hl2 d2 w (upd tl 0 d1) hz ⟨y2, hy2, ey2⟩) ⟨rfl, rfl⟩ rfl rfl q_X7_184 ⟨by decide, by decide⟩ (Nat.le_of_ble_eq_true rfl) dX7_item_138 (fun v F9 hp => ?_)
                      obtain ⟨rfl, e9⟩ := hp
                      rw [e9]
                      clear e9 F9
                      refine z_if_ne C 150 dX7_item_141 (by decide) (fun h141 => ?_) (fun h141 => ?_)
                      · skip
                        have h141 := bI_1 h141
                        have hso2 := of_decide_eq_true h141
                        have en2 : nmP (cT M b) len 0 99 (a1, none) = (d2, (a2, none)) := nmP_g (by rw [hX2]) (by rw [hX2]; exact eD2) (by rw [hX2]; exact hne2) hso2.1 hso2.2
                        refine z_aload_n C 3 dX7_item_150 rfl ?_
                        refine mg_29 C dX7_item_151 ?_
                        refine z_iload_n C 1 dX7_item_154 rfl ?_
                        refine z_aload_n C 3 dX7_item_155 rfl ?_
                        refine mg_33 C dX7_item_156 ?_
                        refine z_top (d2) (rfl) ?_
                        refine ms_29 C 1 rfl (by decide) dX7_item_159 ?_
                        rw [rM_t]
                        refine z_iinc C (v := nI 2) 1 dX7_item_160 rfl rfl (by decide) ?_
                        refine z_goto C 57 dX7_item_163 (by decide) ?_
                        refine z_pick (L2 := [(2, .int (2)), (3, .int (nI (a1 + 1))), (1, .int (2)), (0, .ref (madr E.2.2.1 (0, 0, 0)))]) [0, 1, 2, 3] rfl ?_
                        refine z_iload_n C 0 dX7_item_57 rfl ?_
                        refine z_aload_n C 3 dX7_item_58 rfl ?_
                        refine mg_28 C dX7_item_59 ?_
                        refine z_iload_n C 2 dX7_item_62 rfl ?_
                        refine ml_28 C 2 rfl (by decide) dX7_item_63 ?_
                        refine z_top (2) (by rw [rM_28]; exact hNm 2 (by decide)) ?_
                        refine z_icmp_ge C 166 dX7_item_64 (by decide) (fun h64 => ?_) (fun h64 => ?_)
                        · skip
                          refine z_iload_n C 2 dX7_item_166 rfl ?_
                          refine z_tabIn C 2 (87) 254 rfl dX7_item_167 (by decide) (by decide) ?_
                          refine z_aload_n C 3 dX7_item_254 rfl ?_
                          refine mg_18 C dX7_item_255 ?_
                          refine z_aload_n C 3 dX7_item_258 rfl ?_
                          refine mg_29 C dX7_item_259 ?_
                          refine z_iconst C (v := 0) dX7_item_262 rfl ?_
                          refine ml_29 C 0 rfl (by decide) dX7_item_263 ?_
                          refine z_top (nI c) (by rw [rM_29]; simp [upd, ec]) ?_
                          refine z_aload_n C 3 dX7_item_264 rfl ?_
                          refine mg_29 C dX7_item_265 ?_
                          refine z_iconst C (v := 1) dX7_item_268 rfl ?_
                          refine ml_29 C 1 rfl (by decide) dX7_item_269 ?_
                          refine z_top (d2) (by rw [rM_29]; simp [upd]) ?_
                          refine ms_18 C c rfl (by first | assumption | omega) dX7_item_270 ?_
                          rw [show mCh (rM M g a2 d2 w (upd (upd tl 0 d1) 1 d2)) c 3 d2 = rM M (gCh g c 3 d2) a2 d2 w (upd (upd tl 0 d1) 1 d2) from rfl]
                          refine z_goto C 344 dX7_item_271 (by decide) ?_
                          refine z_iconst C (v := 1) dX7_item_344 rfl ?_
                          refine z_zret C0 rfl dX7_item_345 ?_
                          have er : itC (cT M b) len g (a, none) = (gCh g c 3 d2, (a2, none)) := by
                            rw [it_2 hx]
                            simp only [itC2, en1, en2, ecl, if_true]
                          exact itQ.good er
                        · exact absurd h64 (by decide)
                      · skip
                        have h141 := bI_0 h141
                        refine z_aload_n C 3 dX7_item_144 rfl ?_
                        refine z_iload_n C 0 dX7_item_145 rfl ?_
                        have hno := or_nn (of_decide_eq_false h141)
                        have en2 : nmP (cT M b) len 0 99 (a1, none) = (0, (a2, some (a1 + 1))) := (nmP_b (num := d2) (a := a2) (by rw [hX2]) (by rw [hX2]; exact eD2) (Or.inr hno)).trans (by rw [hX2])
                        refine z_callV1 C (c_X7_wrong l E M hR g d2 w (upd tl 0 d1) (nI (a1 + 1))) ⟨rfl, rfl⟩ rfl rfl q_X7_167 ⟨by decide, by decide⟩ (Nat.le_of_ble_eq_true rfl) dX7_item_146 (fun v F9 hp => ?_)
                        obtain ⟨rfl, e9⟩ := hp
                        rw [e9]
                        clear e9 F9
                        refine z_zret C0 rfl dX7_item_149 ?_
                        have er : (itC (cT M b) len g (a, none)).2.2 = some (a1 + 1) := by
                          rw [it_2 hx]
                          simp only [itC2, en1, en2, nmP_sm]
                        exact itQ.bad er
                    · skip
                      have h130 := bI_0 h130
                      have he2 : a2 = (a1 + 1) := Decidable.not_not.mp (of_decide_eq_false h130)
                      rw [if_pos he2]
                      refine z_iconst C (v := 0) dX7_item_133 rfl ?_
                      refine z_zret C0 rfl dX7_item_134 ?_
                      have en2 : nmP (cT M b) len 0 99 (a1, none) = (0, (a2, some (a1 + 1))) := (nmP_b (num := d2) (a := a2) (by rw [hX2]) (by rw [hX2]; exact eD2) (Or.inl (by rw [hX2]; exact he2))).trans (by rw [hX2])
                      have er : (itC (cT M b) len g (a, none)).2.2 = some (a1 + 1) := by
                        rw [it_2 hx]
                        simp only [itC2, en1, en2, nmP_sm]
                      exact itQ.bad er
                  · skip
                    have hX2 : exP (cT M b) len 32 (a1, none) = (a1, some a1) := ex_ns (by exact h99)
                    refine z_aload_n C 3 dX7_item_102 rfl ?_
                    refine z_aload_n C 3 dX7_item_103 rfl ?_
                    refine mg_31 C dX7_item_104 ?_
                    refine z_top (nI a1) (rfl) ?_
                    refine z_callV1 C (c_X7_wrong l E M hR g d1 w (upd tl 0 d1) (nI a1)) ⟨rfl, rfl⟩ rfl rfl q_X7_167 ⟨by decide, by decide⟩ (Nat.le_of_ble_eq_true rfl) dX7_item_107 (fun v F9 hp => ?_)
                    obtain ⟨rfl, e9⟩ := hp
                    rw [e9]
                    clear e9 F9
                    refine z_zret C0 rfl dX7_item_110 ?_
                    have en2 : nmP (cT M b) len 0 99 (a1, none) = (0, (a1, some a1)) := (nmP_f (by rw [hX2]; exact fun z => by cases z)).trans (by rw [hX2])
                    have er : (itC (cT M b) len g (a, none)).2.2 = some a1 := by
                      rw [it_2 hx]
                      simp only [itC2, en1, en2, nmP_sm]
                    exact itQ.bad er
          · skip
            have h141 := bI_0 h141
            refine z_aload_n C 3 dX7_item_144 rfl ?_
            refine z_iload_n C 0 dX7_item_145 rfl ?_
            have hno := or_nn (of_decide_eq_false h141)
            have en1 : nmP (cT M b) len 0 (g.1 1 - 1) (wdP (cT M b) len (zByt.getD 2 []) (zLen.getD 2 0) (a, none)) = (0, (a1, some p)) := (nmP_b (num := d1) (a := a1) (by rw [hF2]) (by rw [hF2]; exact eD1) (Or.inr hno)).trans (by rw [hF2])
            refine z_callV1 C (c_X7_wrong l E M hR g d1 w tl (nI p)) ⟨rfl, rfl⟩ rfl rfl q_X7_167 ⟨by decide, by decide⟩ (Nat.le_of_ble_eq_true rfl) dX7_item_146 (fun v F9 hp => ?_)
            obtain ⟨rfl, e9⟩ := hp
            rw [e9]
            clear e9 F9
            refine z_zret C0 rfl dX7_item_149 ?_
            have er : (itC (cT M b) len g (a, none)).2.2 = some p := by
              rw [it_2 hx]
              simp only [itC2, en1, nmP_sm]
            exact itQ.bad er
        · skip
          have h130 := bI_0 h130
          have he1 : a1 = p := Decidable.not_not.mp (of_decide_eq_false h130)
          rw [if_pos he1]
          refine z_iconst C (v := 0) dX7_item_133 rfl ?_
          refine z_zret C0 rfl dX7_item_134 ?_
          have en1 : nmP (cT M b) len 0 (g.1 1 - 1) (wdP (cT M b) len (zByt.getD 2 []) (zLen.getD 2 0) (a, none)) = (0, (a1, some p)) := (nmP_b (num := d1) (a := a1) (by rw [hF2]) (by rw [hF2]; exact eD1) (Or.inl (by rw [hF2]; exact he1))).trans (by rw [hF2])
          have er : (itC (cT M b) len g (a, none)).2.2 = some p := by
            rw [it_2 hx]
            simp only [itC2, en1, nmP_sm]
          exact itQ.bad er
      · exact absurd h68 (by decide)
  · exact absurd h50 (by decide)
set_option maxRecDepth 100000 in
set_option maxHeartbeats 4000000 in
theorem it_47_3 {l : Launch} {E : zE} {K : zK} {s : State} (M : zM) {b len : Nat} (hR : rdo M b len) (g : zGc) {a : Nat} (ha : a ≤ len) (n w : Int32) (tl : Nat → Int32) (hz : gz g) {N : Nat} (hrg : rg N g) (hN : N ≤ 100000000) {p : Nat} (hp2 : p ≤ len) (hF : fwP (cT M b) len 3 (fll 3) (a, none) = (p, none)) (C0 : MR l E K cX7_item RX7 8 s 4 (some .boolean) (itQ M (itC (cT M b) len g (a, none)))) : Z K (MP E (rM M g p n w tl) s) 47 [(0, .ref (madr E.2.2.1 (0, 0, 0)))] [.int 3] := by
  have C := C0.c
  obtain ⟨hb, he, hbl, hl, hWd, hNm⟩ := id hR
  obtain ⟨⟨eS, lS⟩, ⟨eC, lC⟩⟩ := id hz
  have hsm : sms g := hrg.sm (by omega)
  have hx : nxP (cT M b) len a = 107 := fw_first (by decide) hF
  have hF2 : exP (cT M b) len 32 (wdP (cT M b) len (zByt.getD 3 []) (zLen.getD 3 0) (a, none)) = (p, none) := fw_3.symm.trans hF
  refine z_istore_n (i := 1) C dX7_item_47 rfl (by decide) ?_
  refine z_iload_n C 0 dX7_item_48 rfl ?_
  refine z_iconst C (v := (-1)) dX7_item_49 rfl ?_
  refine z_icmp_ne C 55 dX7_item_50 (by decide) (fun h50 => ?_) (fun h50 => ?_)
  · skip
    refine z_iconst C (v := 0) dX7_item_55 rfl ?_
    refine z_istore_n (i := 2) C dX7_item_56 rfl (by decide) ?_
    refine z_pick (L2 := [(2, .int (0)), (1, .int (3)), (0, .ref (madr E.2.2.1 (0, 0, 0)))]) [0, 1, 2] rfl ?_
    refine z_iload_n C 0 dX7_item_57 rfl ?_
    refine z_aload_n C 2 dX7_item_58 rfl ?_
    refine mg_28 C dX7_item_59 ?_
    refine z_iload_n C 1 dX7_item_62 rfl ?_
    refine ml_28 C 3 rfl (by decide) dX7_item_63 ?_
    refine z_top (2) (by rw [rM_28]; exact hNm 3 (by decide)) ?_
    refine z_icmp_ge C 166 dX7_item_64 (by decide) (fun h64 => ?_) (fun h64 => ?_)
    · exact absurd h64 (by decide)
    · skip
      refine z_iload_n C 0 dX7_item_67 rfl ?_
      refine z_if_le C 121 dX7_item_68 (by decide) (fun h68 => ?_) (fun h68 => ?_)
      · skip
        
        refine z_aload_n C 2 dX7_item_121 rfl ?_
        refine mg_31 C dX7_item_122 ?_
        refine z_top (nI p) (rfl) ?_
        refine z_istore_n (i := 3) C dX7_item_125 rfl (by decide) ?_
        refine z_aload_n C 3 dX7_item_126 rfl ?_
        refine z_callV0 C (c_X7_reads l E M hR g hp2 n w tl) ⟨rfl, rfl⟩ rfl rfl q_X7_181 ⟨by decide, by decide⟩ (Nat.le_of_ble_eq_true rfl) dX7_item_127 (fun v F9 hp => ?_)
        obtain ⟨rfl, e9⟩ := hp
        rw [e9]
        clear e9 F9
        obtain ⟨y1, hy1, ey1⟩ := dg4 (T := (cT M b)) (len := len) (a := p)
        have hl1 := (dgP_le (T := (cT M b)) (len := len) (n := 4) (d := ((0 : Int32), p)) hp2).1
        generalize eD1 : dgP (cT M b) len 4 (0, p) = D1 at ey1 hl1 ⊢
        obtain ⟨d1, a1⟩ := D1
        dsimp only at ey1 hl1 ⊢
        refine z_if_ne C 135 dX7_item_130 (by decide) (fun h130 => ?_) (fun h130 => ?_)
        · skip
          have h130 := bI_1 h130
          have hne1 : ¬ a1 = p := of_decide_eq_true h130
          rw [if_neg hne1]
          refine z_aload_n C 3 dX7_item_135 rfl ?_
          refine z_iload_n C 2 dX7_item_136 rfl ?_
          refine z_iload_n C 1 dX7_item_137 rfl ?_
          refine z_callV2 C (c_isSo_3_0 l E M hR g hl1 d1 w tl hz ⟨y1, hy1, ey1⟩) ⟨rfl, rfl⟩ rfl rfl q_X7_184 ⟨by decide, by decide⟩ (Nat.le_of_ble_eq_true rfl) dX7_item_138 (fun v F9 hp => ?_)
          obtain ⟨rfl, e9⟩ := hp
          rw [e9]
          clear e9 F9
          refine z_if_ne C 150 dX7_item_141 (by decide) (fun h141 => ?_) (fun h141 => ?_)
          · skip
            have h141 := bI_1 h141
            have hso1 := of_decide_eq_true h141
            have en1 : nmP (cT M b) len 0 (g.1 1 - 1) (wdP (cT M b) len (zByt.getD 3 []) (zLen.getD 3 0) (a, none)) = (d1, (a1, none)) := nmP_g (by rw [hF2]) (by rw [hF2]; exact eD1) (by rw [hF2]; exact hne1) hso1.1 hso1.2
            obtain ⟨c, hc, ec⟩ := i_idx lC (by rw [eC] at hso1; exact hso1.1) (by rw [eC] at hso1; exact hso1.2)
            have hc6 : c < 6 := by omega
            have ecl : d1.toNatClampNeg = c := by rw [ec]; exact nI_clamp (by omega)
            refine z_aload_n C 3 dX7_item_150 rfl ?_
            refine mg_29 C dX7_item_151 ?_
            refine z_iload_n C 1 dX7_item_154 rfl ?_
            refine z_aload_n C 3 dX7_item_155 rfl ?_
            refine mg_33 C dX7_item_156 ?_
            refine z_top (d1) (rfl) ?_
            refine ms_29 C 0 rfl (by decide) dX7_item_159 ?_
            rw [rM_t]
            refine z_iinc C (v := nI 1) 1 dX7_item_160 rfl rfl (by decide) ?_
            refine z_goto C 57 dX7_item_163 (by decide) ?_
            refine z_pick (L2 := [(2, .int (1)), (3, .int (nI p)), (1, .int (3)), (0, .ref (madr E.2.2.1 (0, 0, 0)))]) [0, 1, 2, 3] rfl ?_
            refine z_iload_n C 0 dX7_item_57 rfl ?_
            refine z_aload_n C 3 dX7_item_58 rfl ?_
            refine mg_28 C dX7_item_59 ?_
            refine z_iload_n C 2 dX7_item_62 rfl ?_
            refine ml_28 C 3 rfl (by decide) dX7_item_63 ?_
            refine z_top (2) (by rw [rM_28]; exact hNm 3 (by decide)) ?_
            refine z_icmp_ge C 166 dX7_item_64 (by decide) (fun h64 => ?_) (fun h64 => ?_)
            · exact absurd h64 (by decide)
            · skip
              refine z_iload_n C 0 dX7_item_67 rfl ?_
              refine z_if_le C 121 dX7_item_68 (by decide) (fun h68 => ?_) (fun h68 => ?_)
              · exact absurd h68 (by decide)
              · skip
                refine z_aload_n C 3 dX7_item_71 rfl ?_
                refine mg_31 C dX7_item_72 ?_
                refine z_top (nI a1) (rfl) ?_
                refine z_aload_n C 3 dX7_item_75 rfl ?_
                refine mg_32 C dX7_item_76 ?_
                rw [show (rM M g a1 d1 w (upd tl 0 d1)).2.1 32 = nI len from (rM_i (by decide)).trans he]
                refine z_icmp_ge C 102 dX7_item_79 (by decide) (fun h79 => ?_) (fun h79 => ?_)
                · skip
                  have hX2 : exP (cT M b) len 32 (a1, none) = (a1, some a1) := ex_ns (by rw [nx_no (fun z => absurd h79 (nI_ge z (by omega)))]; decide)
                  refine z_aload_n C 3 dX7_item_102 rfl ?_
                  refine z_aload_n C 3 dX7_item_103 rfl ?_
                  refine mg_31 C dX7_item_104 ?_
                  refine z_top (nI a1) (rfl) ?_
                  refine z_callV1 C (c_X7_wrong l E M hR g d1 w (upd tl 0 d1) (nI a1)) ⟨rfl, rfl⟩ rfl rfl q_X7_167 ⟨by decide, by decide⟩ (Nat.le_of_ble_eq_true rfl) dX7_item_107 (fun v F9 hp => ?_)
                  obtain ⟨rfl, e9⟩ := hp
                  rw [e9]
                  clear e9 F9
                  refine z_zret C0 rfl dX7_item_110 ?_
                  have en2 : nmP (cT M b) len 0 (g.1 0 - 1) (a1, none) = (0, (a1, some a1)) := (nmP_f (by rw [hX2]; exact fun z => by cases z)).trans (by rw [hX2])
                  have er : (itC (cT M b) len g (a, none)).2.2 = some a1 := by
                    rw [it_3 hx]
                    simp only [itC3, en1, en2, nmP_sm]
                  exact itQ.bad er
                · skip
                  have hsp2 : a1 < len := nI_lt_of h79 (by omega) (by omega)
                  refine z_aload_n C 3 dX7_item_82 rfl ?_
                  refine mg_25 C dX7_item_83 ?_
                  refine z_aload_n C 3 dX7_item_86 rfl ?_
                  refine mg_30 C dX7_item_87 ?_
                  refine z_top (nI b) ((rM_i (by decide)).trans hb) ?_
                  refine z_aload_n C 3 dX7_item_90 rfl ?_
                  refine mg_31 C dX7_item_91 ?_
                  refine z_top (nI a1) (rfl) ?_
                  refine z_iadd C dX7_item_94 ?_
                  refine z_top (nI (b + a1)) (nI_add _ _) ?_
                  refine ml_25 C (b + a1) rfl (by first | assumption | omega) dX7_item_95 ?_
                  refine z_l2i C dX7_item_96 ?_
                  refine z_top (nxP (cT M b) len a1) (nx_at hsp2) ?_
                  refine z_bipush C (v := 32) dX7_item_97 rfl ?_
                  refine z_icmp_eq C 111 dX7_item_99 (by decide) (fun h99 => ?_) (fun h99 => ?_)
                  · skip
                    refine z_aload_n C 3 dX7_item_111 rfl ?_
                    refine z_dup C dX7_item_112 rfl ?_
                    refine mg_31 C dX7_item_113 ?_
                    refine z_top (nI a1) (rfl) ?_
                    refine z_iconst C (v := 1) dX7_item_116 rfl ?_
                    refine z_iadd C dX7_item_117 ?_
                    refine z_top (nI (a1 + 1)) (nI_1 _) ?_
                    refine mp_31 C dX7_item_118 ?_
                    rw [rM_a]
                    have hX2 : exP (cT M b) len 32 (a1, none) = (a1 + 1, none) := ex_sp h99
                    have hl1x : a1 + 1 ≤ len := hsp2
                    refine z_aload_n C 3 dX7_item_121 rfl ?_
                    refine mg_31 C dX7_item_122 ?_
                    refine z_top (nI (a1 + 1)) (rfl) ?_
                    refine z_istore_n (i := 3) C dX7_item_125 rfl (by decide) ?_
                    refine z_aload_n C 3 dX7_item_126 rfl ?_
                    refine z_callV0 C (c_X7_reads l E M hR g hl1x d1 w (upd tl 0 d1)) ⟨rfl, rfl⟩ rfl rfl q_X7_181 ⟨by decide, by decide⟩ (Nat.le_of_ble_eq_true rfl) dX7_item_127 (fun v F9 hp => ?_)
                    obtain ⟨rfl, e9⟩ := hp
                    rw [e9]
                    clear e9 F9
                    obtain ⟨y2, hy2, ey2⟩ := dg4 (T := (cT M b)) (len := len) (a := (a1 + 1))
                    have hl2 := (dgP_le (T := (cT M b)) (len := len) (n := 4) (d := ((0 : Int32), (a1 + 1))) hl1x).1
                    generalize eD2 : dgP (cT M b) len 4 (0, (a1 + 1)) = D2 at ey2 hl2 ⊢
                    obtain ⟨d2, a2⟩ := D2
                    dsimp only at ey2 hl2 ⊢
                    refine z_if_ne C 135 dX7_item_130 (by decide) (fun h130 => ?_) (fun h130 => ?_)
                    · skip
                      have h130 := bI_1 h130
                      have hne2 : ¬ a2 = (a1 + 1) := of_decide_eq_true h130
                      rw [if_neg hne2]
                      refine z_aload_n C 3 dX7_item_135 rfl ?_
                      refine z_iload_n C 2 dX7_item_136 rfl ?_
                      refine z_iload_n C 1 dX7_item_137 rfl ?_
                      refine z_callV2 C (c_isSo_3_1 l E M hR g hl2 d2 w (upd tl 0 d1) hz ⟨y2, hy2, ey2⟩) ⟨rfl, rfl⟩ rfl rfl q_X7_184 ⟨by decide, by decide⟩ (Nat.le_of_ble_eq_true rfl) dX7_item_138 (fun v F9 hp => ?_)
                      obtain ⟨rfl, e9⟩ := hp
                      rw [e9]
                      clear e9 F9
                      refine z_if_ne C 150 dX7_item_141 (by decide) (fun h141 => ?_) (fun h141 => ?_)
                      · skip
                        have h141 := bI_1 h141
                        have hso2 := of_decide_eq_true h141
                        have en2 : nmP (cT M b) len 0 (g.1 0 - 1) (a1, none) = (d2, (a2, none)) := nmP_g (by rw [hX2]) (by rw [hX2]; exact eD2) (by rw [hX2]; exact hne2) hso2.1 hso2.2
                        have hx3 : True := trivial
                        refine z_aload_n C 3 dX7_item_150 rfl ?_
                        refine mg_29 C dX7_item_151 ?_
                        refine z_iload_n C 1 dX7_item_154 rfl ?_
                        refine z_aload_n C 3 dX7_item_155 rfl ?_
                        refine mg_33 C dX7_item_156 ?_
                        refine z_top (d2) (rfl) ?_
                        refine ms_29 C 1 rfl (by decide) dX7_item_159 ?_
                        rw [rM_t]
                        refine z_iinc C (v := nI 2) 1 dX7_item_160 rfl rfl (by decide) ?_
                        refine z_goto C 57 dX7_item_163 (by decide) ?_
                        refine z_pick (L2 := [(2, .int (2)), (3, .int (nI (a1 + 1))), (1, .int (3)), (0, .ref (madr E.2.2.1 (0, 0, 0)))]) [0, 1, 2, 3] rfl ?_
                        refine z_iload_n C 0 dX7_item_57 rfl ?_
                        refine z_aload_n C 3 dX7_item_58 rfl ?_
                        refine mg_28 C dX7_item_59 ?_
                        refine z_iload_n C 2 dX7_item_62 rfl ?_
                        refine ml_28 C 3 rfl (by decide) dX7_item_63 ?_
                        refine z_top (2) (by rw [rM_28]; exact hNm 3 (by decide)) ?_
                        refine z_icmp_ge C 166 dX7_item_64 (by decide) (fun h64 => ?_) (fun h64 => ?_)
                        · skip
                          refine z_iload_n C 2 dX7_item_166 rfl ?_
                          refine z_tabIn C 3 (107) 274 rfl dX7_item_167 (by decide) (by decide) ?_
                          refine z_aload_n C 3 dX7_item_274 rfl ?_
                          refine mg_20 C dX7_item_275 ?_
                          refine z_aload_n C 3 dX7_item_278 rfl ?_
                          refine mg_29 C dX7_item_279 ?_
                          refine z_iconst C (v := 0) dX7_item_282 rfl ?_
                          refine ml_29 C 0 rfl (by decide) dX7_item_283 ?_
                          refine z_top (nI c) (by rw [rM_29]; simp [upd, ec]) ?_
                          refine z_aload_n C 3 dX7_item_284 rfl ?_
                          refine mg_29 C dX7_item_285 ?_
                          refine z_iconst C (v := 1) dX7_item_288 rfl ?_
                          refine ml_29 C 1 rfl (by decide) dX7_item_289 ?_
                          refine z_top (d2) (by rw [rM_29]; simp [upd]) ?_
                          refine ms_20 C c rfl (by first | assumption | omega) dX7_item_290 ?_
                          rw [show mCh (rM M g a2 d2 w (upd (upd tl 0 d1) 1 d2)) c 5 d2 = rM M (gCh g c 5 d2) a2 d2 w (upd (upd tl 0 d1) 1 d2) from rfl]
                          refine z_goto C 344 dX7_item_291 (by decide) ?_
                          refine z_iconst C (v := 1) dX7_item_344 rfl ?_
                          refine z_zret C0 rfl dX7_item_345 ?_
                          have er : itC (cT M b) len g (a, none) = (gCh g c 5 d2, (a2, none)) := by
                            rw [it_3 hx]
                            simp only [itC3, en1, en2, ecl, if_true]
                          exact itQ.good er
                        · exact absurd h64 (by decide)
                      · skip
                        have h141 := bI_0 h141
                        refine z_aload_n C 3 dX7_item_144 rfl ?_
                        refine z_iload_n C 0 dX7_item_145 rfl ?_
                        have hno := or_nn (of_decide_eq_false h141)
                        have en2 : nmP (cT M b) len 0 (g.1 0 - 1) (a1, none) = (0, (a2, some (a1 + 1))) := (nmP_b (num := d2) (a := a2) (by rw [hX2]) (by rw [hX2]; exact eD2) (Or.inr hno)).trans (by rw [hX2])
                        refine z_callV1 C (c_X7_wrong l E M hR g d2 w (upd tl 0 d1) (nI (a1 + 1))) ⟨rfl, rfl⟩ rfl rfl q_X7_167 ⟨by decide, by decide⟩ (Nat.le_of_ble_eq_true rfl) dX7_item_146 (fun v F9 hp => ?_)
                        obtain ⟨rfl, e9⟩ := hp
                        rw [e9]
                        clear e9 F9
                        refine z_zret C0 rfl dX7_item_149 ?_
                        have er : (itC (cT M b) len g (a, none)).2.2 = some (a1 + 1) := by
                          rw [it_3 hx]
                          simp only [itC3, en1, en2, nmP_sm]
                        exact itQ.bad er
                    · skip
                      have h130 := bI_0 h130
                      have he2 : a2 = (a1 + 1) := Decidable.not_not.mp (of_decide_eq_false h130)
                      rw [if_pos he2]
                      refine z_iconst C (v := 0) dX7_item_133 rfl ?_
                      refine z_zret C0 rfl dX7_item_134 ?_
                      have en2 : nmP (cT M b) len 0 (g.1 0 - 1) (a1, none) = (0, (a2, some (a1 + 1))) := (nmP_b (num := d2) (a := a2) (by rw [hX2]) (by rw [hX2]; exact eD2) (Or.inl (by rw [hX2]; exact he2))).trans (by rw [hX2])
                      have er : (itC (cT M b) len g (a, none)).2.2 = some (a1 + 1) := by
                        rw [it_3 hx]
                        simp only [itC3, en1, en2, nmP_sm]
                      exact itQ.bad er
                  · skip
                    have hX2 : exP (cT M b) len 32 (a1, none) = (a1, some a1) := ex_ns (by exact h99)
                    refine z_aload_n C 3 dX7_item_102 rfl ?_
                    refine z_aload_n C 3 dX7_item_103 rfl ?_
                    refine mg_31 C dX7_item_104 ?_
                    refine z_top (nI a1) (rfl) ?_
                    refine z_callV1 C (c_X7_wrong l E M hR g d1 w (upd tl 0 d1) (nI a1)) ⟨rfl, rfl⟩ rfl rfl q_X7_167 ⟨by decide, by decide⟩ (Nat.le_of_ble_eq_true rfl) dX7_item_107 (fun v F9 hp => ?_)
                    obtain ⟨rfl, e9⟩ := hp
                    rw [e9]
                    clear e9 F9
                    refine z_zret C0 rfl dX7_item_110 ?_
                    have en2 : nmP (cT M b) len 0 (g.1 0 - 1) (a1, none) = (0, (a1, some a1)) := (nmP_f (by rw [hX2]; exact fun z => by cases z)).trans (by rw [hX2])
                    have er : (itC (cT M b) len g (a, none)).2.2 = some a1 := by
                      rw [it_3 hx]
                      simp only [itC3, en1, en2, nmP_sm]
                    exact itQ.bad er
          · skip
            have h141 := bI_0 h141
            refine z_aload_n C 3 dX7_item_144 rfl ?_
            refine z_iload_n C 0 dX7_item_145 rfl ?_
            have hno := or_nn (of_decide_eq_false h141)
            have en1 : nmP (cT M b) len 0 (g.1 1 - 1) (wdP (cT M b) len (zByt.getD 3 []) (zLen.getD 3 0) (a, none)) = (0, (a1, some p)) := (nmP_b (num := d1) (a := a1) (by rw [hF2]) (by rw [hF2]; exact eD1) (Or.inr hno)).trans (by rw [hF2])
            refine z_callV1 C (c_X7_wrong l E M hR g d1 w tl (nI p)) ⟨rfl, rfl⟩ rfl rfl q_X7_167 ⟨by decide, by decide⟩ (Nat.le_of_ble_eq_true rfl) dX7_item_146 (fun v F9 hp => ?_)
            obtain ⟨rfl, e9⟩ := hp
            rw [e9]
            clear e9 F9
            refine z_zret C0 rfl dX7_item_149 ?_
            have er : (itC (cT M b) len g (a, none)).2.2 = some p := by
              rw [it_3 hx]
              simp only [itC3, en1, nmP_sm]
            exact itQ.bad er
        · skip
          have h130 := bI_0 h130
          have he1 : a1 = p := Decidable.not_not.mp (of_decide_eq_false h130)
          rw [if_pos he1]
          refine z_iconst C (v := 0) dX7_item_133 rfl ?_
          refine z_zret C0 rfl dX7_item_134 ?_
          have en1 : nmP (cT M b) len 0 (g.1 1 - 1) (wdP (cT M b) len (zByt.getD 3 []) (zLen.getD 3 0) (a, none)) = (0, (a1, some p)) := (nmP_b (num := d1) (a := a1) (by rw [hF2]) (by rw [hF2]; exact eD1) (Or.inl (by rw [hF2]; exact he1))).trans (by rw [hF2])
          have er : (itC (cT M b) len g (a, none)).2.2 = some p := by
            rw [it_3 hx]
            simp only [itC3, en1, nmP_sm]
          exact itQ.bad er
      · exact absurd h68 (by decide)
  · exact absurd h50 (by decide)
set_option maxRecDepth 100000 in
set_option maxHeartbeats 4000000 in
theorem it_47_4 {l : Launch} {E : zE} {K : zK} {s : State} (M : zM) {b len : Nat} (hR : rdo M b len) (g : zGc) {a : Nat} (ha : a ≤ len) (n w : Int32) (tl : Nat → Int32) (hz : gz g) {N : Nat} (hrg : rg N g) (hN : N ≤ 100000000) {p : Nat} (hp2 : p ≤ len) (hF : fwP (cT M b) len 4 (fll 4) (a, none) = (p, none)) (C0 : MR l E K cX7_item RX7 8 s 4 (some .boolean) (itQ M (itC (cT M b) len g (a, none)))) : Z K (MP E (rM M g p n w tl) s) 47 [(0, .ref (madr E.2.2.1 (0, 0, 0)))] [.int 4] := by
  have C := C0.c
  obtain ⟨hb, he, hbl, hl, hWd, hNm⟩ := id hR
  obtain ⟨⟨eS, lS⟩, ⟨eC, lC⟩⟩ := id hz
  have hsm : sms g := hrg.sm (by omega)
  have hx : nxP (cT M b) len a = 105 := fw_first (by decide) hF
  have hF2 : exP (cT M b) len 32 (wdP (cT M b) len (zByt.getD 4 []) (zLen.getD 4 0) (a, none)) = (p, none) := fw_4.symm.trans hF
  refine z_istore_n (i := 1) C dX7_item_47 rfl (by decide) ?_
  refine z_iload_n C 0 dX7_item_48 rfl ?_
  refine z_iconst C (v := (-1)) dX7_item_49 rfl ?_
  refine z_icmp_ne C 55 dX7_item_50 (by decide) (fun h50 => ?_) (fun h50 => ?_)
  · skip
    refine z_iconst C (v := 0) dX7_item_55 rfl ?_
    refine z_istore_n (i := 2) C dX7_item_56 rfl (by decide) ?_
    refine z_pick (L2 := [(2, .int (0)), (1, .int (4)), (0, .ref (madr E.2.2.1 (0, 0, 0)))]) [0, 1, 2] rfl ?_
    refine z_iload_n C 0 dX7_item_57 rfl ?_
    refine z_aload_n C 2 dX7_item_58 rfl ?_
    refine mg_28 C dX7_item_59 ?_
    refine z_iload_n C 1 dX7_item_62 rfl ?_
    refine ml_28 C 4 rfl (by decide) dX7_item_63 ?_
    refine z_top (1) (by rw [rM_28]; exact hNm 4 (by decide)) ?_
    refine z_icmp_ge C 166 dX7_item_64 (by decide) (fun h64 => ?_) (fun h64 => ?_)
    · exact absurd h64 (by decide)
    · skip
      refine z_iload_n C 0 dX7_item_67 rfl ?_
      refine z_if_le C 121 dX7_item_68 (by decide) (fun h68 => ?_) (fun h68 => ?_)
      · skip
        
        refine z_aload_n C 2 dX7_item_121 rfl ?_
        refine mg_31 C dX7_item_122 ?_
        refine z_top (nI p) (rfl) ?_
        refine z_istore_n (i := 3) C dX7_item_125 rfl (by decide) ?_
        refine z_aload_n C 3 dX7_item_126 rfl ?_
        refine z_callV0 C (c_X7_reads l E M hR g hp2 n w tl) ⟨rfl, rfl⟩ rfl rfl q_X7_181 ⟨by decide, by decide⟩ (Nat.le_of_ble_eq_true rfl) dX7_item_127 (fun v F9 hp => ?_)
        obtain ⟨rfl, e9⟩ := hp
        rw [e9]
        clear e9 F9
        obtain ⟨y1, hy1, ey1⟩ := dg4 (T := (cT M b)) (len := len) (a := p)
        have hl1 := (dgP_le (T := (cT M b)) (len := len) (n := 4) (d := ((0 : Int32), p)) hp2).1
        generalize eD1 : dgP (cT M b) len 4 (0, p) = D1 at ey1 hl1 ⊢
        obtain ⟨d1, a1⟩ := D1
        dsimp only at ey1 hl1 ⊢
        refine z_if_ne C 135 dX7_item_130 (by decide) (fun h130 => ?_) (fun h130 => ?_)
        · skip
          have h130 := bI_1 h130
          have hne1 : ¬ a1 = p := of_decide_eq_true h130
          rw [if_neg hne1]
          refine z_aload_n C 3 dX7_item_135 rfl ?_
          refine z_iload_n C 2 dX7_item_136 rfl ?_
          refine z_iload_n C 1 dX7_item_137 rfl ?_
          refine z_callV2 C (c_isSo_4_0 l E M hR g hl1 d1 w tl hz ⟨y1, hy1, ey1⟩) ⟨rfl, rfl⟩ rfl rfl q_X7_184 ⟨by decide, by decide⟩ (Nat.le_of_ble_eq_true rfl) dX7_item_138 (fun v F9 hp => ?_)
          obtain ⟨rfl, e9⟩ := hp
          rw [e9]
          clear e9 F9
          refine z_if_ne C 150 dX7_item_141 (by decide) (fun h141 => ?_) (fun h141 => ?_)
          · skip
            have h141 := bI_1 h141
            have hso1 := of_decide_eq_true h141
            have en1 : nmP (cT M b) len 0 99 (wdP (cT M b) len (zByt.getD 4 []) (zLen.getD 4 0) (a, none)) = (d1, (a1, none)) := nmP_g (by rw [hF2]) (by rw [hF2]; exact eD1) (by rw [hF2]; exact hne1) hso1.1 hso1.2
            refine z_aload_n C 3 dX7_item_150 rfl ?_
            refine mg_29 C dX7_item_151 ?_
            refine z_iload_n C 1 dX7_item_154 rfl ?_
            refine z_aload_n C 3 dX7_item_155 rfl ?_
            refine mg_33 C dX7_item_156 ?_
            refine z_top (d1) (rfl) ?_
            refine ms_29 C 0 rfl (by decide) dX7_item_159 ?_
            rw [rM_t]
            refine z_iinc C (v := nI 1) 1 dX7_item_160 rfl rfl (by decide) ?_
            refine z_goto C 57 dX7_item_163 (by decide) ?_
            refine z_pick (L2 := [(2, .int (1)), (3, .int (nI p)), (1, .int (4)), (0, .ref (madr E.2.2.1 (0, 0, 0)))]) [0, 1, 2, 3] rfl ?_
            refine z_iload_n C 0 dX7_item_57 rfl ?_
            refine z_aload_n C 3 dX7_item_58 rfl ?_
            refine mg_28 C dX7_item_59 ?_
            refine z_iload_n C 2 dX7_item_62 rfl ?_
            refine ml_28 C 4 rfl (by decide) dX7_item_63 ?_
            refine z_top (1) (by rw [rM_28]; exact hNm 4 (by decide)) ?_
            refine z_icmp_ge C 166 dX7_item_64 (by decide) (fun h64 => ?_) (fun h64 => ?_)
            · skip
              refine z_iload_n C 2 dX7_item_166 rfl ?_
              refine z_tabIn C 4 (127) 294 rfl dX7_item_167 (by decide) (by decide) ?_
              refine z_aload_n C 3 dX7_item_294 rfl ?_
              refine z_aload_n C 3 dX7_item_295 rfl ?_
              refine mg_29 C dX7_item_296 ?_
              refine z_iconst C (v := 0) dX7_item_299 rfl ?_
              refine ml_29 C 0 rfl (by decide) dX7_item_300 ?_
              refine z_top (d1) (by rw [rM_29]; simp [upd]) ?_
              refine mp_4 C dX7_item_301 ?_
              rw [show mK (rM M g a1 d1 w (upd tl 0 d1)) 4 d1 = rM M (gSc g 4 d1) a1 d1 w (upd tl 0 d1) from rfl]
              refine z_goto C 344 dX7_item_304 (by decide) ?_
              refine z_iconst C (v := 1) dX7_item_344 rfl ?_
              refine z_zret C0 rfl dX7_item_345 ?_
              have er : itC (cT M b) len g (a, none) = (gSc g 4 d1, (a1, none)) := by
                rw [it_4 hx]
                simp only [itC4, en1, if_true]
              exact itQ.good er
            · exact absurd h64 (by decide)
          · skip
            have h141 := bI_0 h141
            refine z_aload_n C 3 dX7_item_144 rfl ?_
            refine z_iload_n C 0 dX7_item_145 rfl ?_
            have hno := or_nn (of_decide_eq_false h141)
            have en1 : nmP (cT M b) len 0 99 (wdP (cT M b) len (zByt.getD 4 []) (zLen.getD 4 0) (a, none)) = (0, (a1, some p)) := (nmP_b (num := d1) (a := a1) (by rw [hF2]) (by rw [hF2]; exact eD1) (Or.inr hno)).trans (by rw [hF2])
            refine z_callV1 C (c_X7_wrong l E M hR g d1 w tl (nI p)) ⟨rfl, rfl⟩ rfl rfl q_X7_167 ⟨by decide, by decide⟩ (Nat.le_of_ble_eq_true rfl) dX7_item_146 (fun v F9 hp => ?_)
            obtain ⟨rfl, e9⟩ := hp
            rw [e9]
            clear e9 F9
            refine z_zret C0 rfl dX7_item_149 ?_
            have er : (itC (cT M b) len g (a, none)).2.2 = some p := by
              rw [it_4 hx]
              simp only [itC4, en1, nmP_sm]
            exact itQ.bad er
        · skip
          have h130 := bI_0 h130
          have he1 : a1 = p := Decidable.not_not.mp (of_decide_eq_false h130)
          rw [if_pos he1]
          refine z_iconst C (v := 0) dX7_item_133 rfl ?_
          refine z_zret C0 rfl dX7_item_134 ?_
          have en1 : nmP (cT M b) len 0 99 (wdP (cT M b) len (zByt.getD 4 []) (zLen.getD 4 0) (a, none)) = (0, (a1, some p)) := (nmP_b (num := d1) (a := a1) (by rw [hF2]) (by rw [hF2]; exact eD1) (Or.inl (by rw [hF2]; exact he1))).trans (by rw [hF2])
          have er : (itC (cT M b) len g (a, none)).2.2 = some p := by
            rw [it_4 hx]
            simp only [itC4, en1, nmP_sm]
          exact itQ.bad er
      · exact absurd h68 (by decide)
  · exact absurd h50 (by decide)
set_option maxRecDepth 100000 in
set_option maxHeartbeats 4000000 in
theorem it_47_5 {l : Launch} {E : zE} {K : zK} {s : State} (M : zM) {b len : Nat} (hR : rdo M b len) (g : zGc) {a : Nat} (ha : a ≤ len) (n w : Int32) (tl : Nat → Int32) (hz : gz g) {N : Nat} (hrg : rg N g) (hN : N ≤ 100000000) {p : Nat} (hp2 : p ≤ len) (hF : fwP (cT M b) len 5 (fll 5) (a, none) = (p, none)) (C0 : MR l E K cX7_item RX7 8 s 4 (some .boolean) (itQ M (itC (cT M b) len g (a, none)))) : Z K (MP E (rM M g p n w tl) s) 47 [(0, .ref (madr E.2.2.1 (0, 0, 0)))] [.int 5] := by
  have C := C0.c
  obtain ⟨hb, he, hbl, hl, hWd, hNm⟩ := id hR
  obtain ⟨⟨eS, lS⟩, ⟨eC, lC⟩⟩ := id hz
  have hsm : sms g := hrg.sm (by omega)
  have hx : nxP (cT M b) len a = 116 := fw_first (by decide) hF
  have hF2 : exP (cT M b) len 32 (wdP (cT M b) len (zByt.getD 5 []) (zLen.getD 5 0) (a, none)) = (p, none) := fw_5.symm.trans hF
  refine z_istore_n (i := 1) C dX7_item_47 rfl (by decide) ?_
  refine z_iload_n C 0 dX7_item_48 rfl ?_
  refine z_iconst C (v := (-1)) dX7_item_49 rfl ?_
  refine z_icmp_ne C 55 dX7_item_50 (by decide) (fun h50 => ?_) (fun h50 => ?_)
  · skip
    refine z_iconst C (v := 0) dX7_item_55 rfl ?_
    refine z_istore_n (i := 2) C dX7_item_56 rfl (by decide) ?_
    refine z_pick (L2 := [(2, .int (0)), (1, .int (5)), (0, .ref (madr E.2.2.1 (0, 0, 0)))]) [0, 1, 2] rfl ?_
    refine z_iload_n C 0 dX7_item_57 rfl ?_
    refine z_aload_n C 2 dX7_item_58 rfl ?_
    refine mg_28 C dX7_item_59 ?_
    refine z_iload_n C 1 dX7_item_62 rfl ?_
    refine ml_28 C 5 rfl (by decide) dX7_item_63 ?_
    refine z_top (1) (by rw [rM_28]; exact hNm 5 (by decide)) ?_
    refine z_icmp_ge C 166 dX7_item_64 (by decide) (fun h64 => ?_) (fun h64 => ?_)
    · exact absurd h64 (by decide)
    · skip
      refine z_iload_n C 0 dX7_item_67 rfl ?_
      refine z_if_le C 121 dX7_item_68 (by decide) (fun h68 => ?_) (fun h68 => ?_)
      · skip
        
        refine z_aload_n C 2 dX7_item_121 rfl ?_
        refine mg_31 C dX7_item_122 ?_
        refine z_top (nI p) (rfl) ?_
        refine z_istore_n (i := 3) C dX7_item_125 rfl (by decide) ?_
        refine z_aload_n C 3 dX7_item_126 rfl ?_
        refine z_callV0 C (c_X7_reads l E M hR g hp2 n w tl) ⟨rfl, rfl⟩ rfl rfl q_X7_181 ⟨by decide, by decide⟩ (Nat.le_of_ble_eq_true rfl) dX7_item_127 (fun v F9 hp => ?_)
        obtain ⟨rfl, e9⟩ := hp
        rw [e9]
        clear e9 F9
        obtain ⟨y1, hy1, ey1⟩ := dg4 (T := (cT M b)) (len := len) (a := p)
        have hl1 := (dgP_le (T := (cT M b)) (len := len) (n := 4) (d := ((0 : Int32), p)) hp2).1
        generalize eD1 : dgP (cT M b) len 4 (0, p) = D1 at ey1 hl1 ⊢
        obtain ⟨d1, a1⟩ := D1
        dsimp only at ey1 hl1 ⊢
        refine z_if_ne C 135 dX7_item_130 (by decide) (fun h130 => ?_) (fun h130 => ?_)
        · skip
          have h130 := bI_1 h130
          have hne1 : ¬ a1 = p := of_decide_eq_true h130
          rw [if_neg hne1]
          refine z_aload_n C 3 dX7_item_135 rfl ?_
          refine z_iload_n C 2 dX7_item_136 rfl ?_
          refine z_iload_n C 1 dX7_item_137 rfl ?_
          refine z_callV2 C (c_isSo_5_0 l E M hR g hl1 d1 w tl hz ⟨y1, hy1, ey1⟩) ⟨rfl, rfl⟩ rfl rfl q_X7_184 ⟨by decide, by decide⟩ (Nat.le_of_ble_eq_true rfl) dX7_item_138 (fun v F9 hp => ?_)
          obtain ⟨rfl, e9⟩ := hp
          rw [e9]
          clear e9 F9
          refine z_if_ne C 150 dX7_item_141 (by decide) (fun h141 => ?_) (fun h141 => ?_)
          · skip
            have h141 := bI_1 h141
            have hso1 := of_decide_eq_true h141
            have en1 : nmP (cT M b) len 0 9999 (wdP (cT M b) len (zByt.getD 5 []) (zLen.getD 5 0) (a, none)) = (d1, (a1, none)) := nmP_g (by rw [hF2]) (by rw [hF2]; exact eD1) (by rw [hF2]; exact hne1) hso1.1 hso1.2
            refine z_aload_n C 3 dX7_item_150 rfl ?_
            refine mg_29 C dX7_item_151 ?_
            refine z_iload_n C 1 dX7_item_154 rfl ?_
            refine z_aload_n C 3 dX7_item_155 rfl ?_
            refine mg_33 C dX7_item_156 ?_
            refine z_top (d1) (rfl) ?_
            refine ms_29 C 0 rfl (by decide) dX7_item_159 ?_
            rw [rM_t]
            refine z_iinc C (v := nI 1) 1 dX7_item_160 rfl rfl (by decide) ?_
            refine z_goto C 57 dX7_item_163 (by decide) ?_
            refine z_pick (L2 := [(2, .int (1)), (3, .int (nI p)), (1, .int (5)), (0, .ref (madr E.2.2.1 (0, 0, 0)))]) [0, 1, 2, 3] rfl ?_
            refine z_iload_n C 0 dX7_item_57 rfl ?_
            refine z_aload_n C 3 dX7_item_58 rfl ?_
            refine mg_28 C dX7_item_59 ?_
            refine z_iload_n C 2 dX7_item_62 rfl ?_
            refine ml_28 C 5 rfl (by decide) dX7_item_63 ?_
            refine z_top (1) (by rw [rM_28]; exact hNm 5 (by decide)) ?_
            refine z_icmp_ge C 166 dX7_item_64 (by decide) (fun h64 => ?_) (fun h64 => ?_)
            · skip
              refine z_iload_n C 2 dX7_item_166 rfl ?_
              refine z_tabIn C 5 (140) 307 rfl dX7_item_167 (by decide) (by decide) ?_
              refine z_aload_n C 3 dX7_item_307 rfl ?_
              refine z_aload_n C 3 dX7_item_308 rfl ?_
              refine mg_29 C dX7_item_309 ?_
              refine z_iconst C (v := 0) dX7_item_312 rfl ?_
              refine ml_29 C 0 rfl (by decide) dX7_item_313 ?_
              refine z_top (d1) (by rw [rM_29]; simp [upd]) ?_
              refine mp_5 C dX7_item_314 ?_
              rw [show mK (rM M g a1 d1 w (upd tl 0 d1)) 5 d1 = rM M (gSc g 5 d1) a1 d1 w (upd tl 0 d1) from rfl]
              refine z_goto C 344 dX7_item_317 (by decide) ?_
              refine z_iconst C (v := 1) dX7_item_344 rfl ?_
              refine z_zret C0 rfl dX7_item_345 ?_
              have er : itC (cT M b) len g (a, none) = (gSc g 5 d1, (a1, none)) := by
                rw [it_5 hx]
                simp only [itC5, en1, if_true]
              exact itQ.good er
            · exact absurd h64 (by decide)
          · skip
            have h141 := bI_0 h141
            refine z_aload_n C 3 dX7_item_144 rfl ?_
            refine z_iload_n C 0 dX7_item_145 rfl ?_
            have hno := or_nn (of_decide_eq_false h141)
            have en1 : nmP (cT M b) len 0 9999 (wdP (cT M b) len (zByt.getD 5 []) (zLen.getD 5 0) (a, none)) = (0, (a1, some p)) := (nmP_b (num := d1) (a := a1) (by rw [hF2]) (by rw [hF2]; exact eD1) (Or.inr hno)).trans (by rw [hF2])
            refine z_callV1 C (c_X7_wrong l E M hR g d1 w tl (nI p)) ⟨rfl, rfl⟩ rfl rfl q_X7_167 ⟨by decide, by decide⟩ (Nat.le_of_ble_eq_true rfl) dX7_item_146 (fun v F9 hp => ?_)
            obtain ⟨rfl, e9⟩ := hp
            rw [e9]
            clear e9 F9
            refine z_zret C0 rfl dX7_item_149 ?_
            have er : (itC (cT M b) len g (a, none)).2.2 = some p := by
              rw [it_5 hx]
              simp only [itC5, en1, nmP_sm]
            exact itQ.bad er
        · skip
          have h130 := bI_0 h130
          have he1 : a1 = p := Decidable.not_not.mp (of_decide_eq_false h130)
          rw [if_pos he1]
          refine z_iconst C (v := 0) dX7_item_133 rfl ?_
          refine z_zret C0 rfl dX7_item_134 ?_
          have en1 : nmP (cT M b) len 0 9999 (wdP (cT M b) len (zByt.getD 5 []) (zLen.getD 5 0) (a, none)) = (0, (a1, some p)) := (nmP_b (num := d1) (a := a1) (by rw [hF2]) (by rw [hF2]; exact eD1) (Or.inl (by rw [hF2]; exact he1))).trans (by rw [hF2])
          have er : (itC (cT M b) len g (a, none)).2.2 = some p := by
            rw [it_5 hx]
            simp only [itC5, en1, nmP_sm]
          exact itQ.bad er
      · exact absurd h68 (by decide)
  · exact absurd h50 (by decide)
set_option maxRecDepth 100000 in
set_option maxHeartbeats 4000000 in
theorem it_47_6 {l : Launch} {E : zE} {K : zK} {s : State} (M : zM) {b len : Nat} (hR : rdo M b len) (g : zGc) {a : Nat} (ha : a ≤ len) (n w : Int32) (tl : Nat → Int32) (hz : gz g) {N : Nat} (hrg : rg N g) (hN : N ≤ 100000000) {p : Nat} (hp2 : p ≤ len) (hF : fwP (cT M b) len 6 (fll 6) (a, none) = (p, none)) (C0 : MR l E K cX7_item RX7 8 s 4 (some .boolean) (itQ M (itC (cT M b) len g (a, none)))) : Z K (MP E (rM M g p n w tl) s) 47 [(0, .ref (madr E.2.2.1 (0, 0, 0)))] [.int 6] := by
  have C := C0.c
  obtain ⟨hb, he, hbl, hl, hWd, hNm⟩ := id hR
  obtain ⟨⟨eS, lS⟩, ⟨eC, lC⟩⟩ := id hz
  have hsm : sms g := hrg.sm (by omega)
  have hx : nxP (cT M b) len a = 100 := fw_first (by decide) hF
  have hF2 : exP (cT M b) len 32 (wdP (cT M b) len (zByt.getD 6 []) (zLen.getD 6 0) (a, none)) = (p, none) := fw_6.symm.trans hF
  refine z_istore_n (i := 1) C dX7_item_47 rfl (by decide) ?_
  refine z_iload_n C 0 dX7_item_48 rfl ?_
  refine z_iconst C (v := (-1)) dX7_item_49 rfl ?_
  refine z_icmp_ne C 55 dX7_item_50 (by decide) (fun h50 => ?_) (fun h50 => ?_)
  · skip
    refine z_iconst C (v := 0) dX7_item_55 rfl ?_
    refine z_istore_n (i := 2) C dX7_item_56 rfl (by decide) ?_
    refine z_pick (L2 := [(2, .int (0)), (1, .int (6)), (0, .ref (madr E.2.2.1 (0, 0, 0)))]) [0, 1, 2] rfl ?_
    refine z_iload_n C 0 dX7_item_57 rfl ?_
    refine z_aload_n C 2 dX7_item_58 rfl ?_
    refine mg_28 C dX7_item_59 ?_
    refine z_iload_n C 1 dX7_item_62 rfl ?_
    refine ml_28 C 6 rfl (by decide) dX7_item_63 ?_
    refine z_top (2) (by rw [rM_28]; exact hNm 6 (by decide)) ?_
    refine z_icmp_ge C 166 dX7_item_64 (by decide) (fun h64 => ?_) (fun h64 => ?_)
    · exact absurd h64 (by decide)
    · skip
      refine z_iload_n C 0 dX7_item_67 rfl ?_
      refine z_if_le C 121 dX7_item_68 (by decide) (fun h68 => ?_) (fun h68 => ?_)
      · skip
        
        refine z_aload_n C 2 dX7_item_121 rfl ?_
        refine mg_31 C dX7_item_122 ?_
        refine z_top (nI p) (rfl) ?_
        refine z_istore_n (i := 3) C dX7_item_125 rfl (by decide) ?_
        refine z_aload_n C 3 dX7_item_126 rfl ?_
        refine z_callV0 C (c_X7_reads l E M hR g hp2 n w tl) ⟨rfl, rfl⟩ rfl rfl q_X7_181 ⟨by decide, by decide⟩ (Nat.le_of_ble_eq_true rfl) dX7_item_127 (fun v F9 hp => ?_)
        obtain ⟨rfl, e9⟩ := hp
        rw [e9]
        clear e9 F9
        obtain ⟨y1, hy1, ey1⟩ := dg4 (T := (cT M b)) (len := len) (a := p)
        have hl1 := (dgP_le (T := (cT M b)) (len := len) (n := 4) (d := ((0 : Int32), p)) hp2).1
        generalize eD1 : dgP (cT M b) len 4 (0, p) = D1 at ey1 hl1 ⊢
        obtain ⟨d1, a1⟩ := D1
        dsimp only at ey1 hl1 ⊢
        refine z_if_ne C 135 dX7_item_130 (by decide) (fun h130 => ?_) (fun h130 => ?_)
        · skip
          have h130 := bI_1 h130
          have hne1 : ¬ a1 = p := of_decide_eq_true h130
          rw [if_neg hne1]
          refine z_aload_n C 3 dX7_item_135 rfl ?_
          refine z_iload_n C 2 dX7_item_136 rfl ?_
          refine z_iload_n C 1 dX7_item_137 rfl ?_
          refine z_callV2 C (c_isSo_6_0 l E M hR g hl1 d1 w tl hz ⟨y1, hy1, ey1⟩) ⟨rfl, rfl⟩ rfl rfl q_X7_184 ⟨by decide, by decide⟩ (Nat.le_of_ble_eq_true rfl) dX7_item_138 (fun v F9 hp => ?_)
          obtain ⟨rfl, e9⟩ := hp
          rw [e9]
          clear e9 F9
          refine z_if_ne C 150 dX7_item_141 (by decide) (fun h141 => ?_) (fun h141 => ?_)
          · skip
            have h141 := bI_1 h141
            have hso1 := of_decide_eq_true h141
            have en1 : nmP (cT M b) len 0 (g.1 1 - 1) (wdP (cT M b) len (zByt.getD 6 []) (zLen.getD 6 0) (a, none)) = (d1, (a1, none)) := nmP_g (by rw [hF2]) (by rw [hF2]; exact eD1) (by rw [hF2]; exact hne1) hso1.1 hso1.2
            obtain ⟨c, hc, ec⟩ := i_idx lC (by rw [eC] at hso1; exact hso1.1) (by rw [eC] at hso1; exact hso1.2)
            have hc6 : c < 6 := by omega
            have ecl : d1.toNatClampNeg = c := by rw [ec]; exact nI_clamp (by omega)
            refine z_aload_n C 3 dX7_item_150 rfl ?_
            refine mg_29 C dX7_item_151 ?_
            refine z_iload_n C 1 dX7_item_154 rfl ?_
            refine z_aload_n C 3 dX7_item_155 rfl ?_
            refine mg_33 C dX7_item_156 ?_
            refine z_top (d1) (rfl) ?_
            refine ms_29 C 0 rfl (by decide) dX7_item_159 ?_
            rw [rM_t]
            refine z_iinc C (v := nI 1) 1 dX7_item_160 rfl rfl (by decide) ?_
            refine z_goto C 57 dX7_item_163 (by decide) ?_
            refine z_pick (L2 := [(2, .int (1)), (3, .int (nI p)), (1, .int (6)), (0, .ref (madr E.2.2.1 (0, 0, 0)))]) [0, 1, 2, 3] rfl ?_
            refine z_iload_n C 0 dX7_item_57 rfl ?_
            refine z_aload_n C 3 dX7_item_58 rfl ?_
            refine mg_28 C dX7_item_59 ?_
            refine z_iload_n C 2 dX7_item_62 rfl ?_
            refine ml_28 C 6 rfl (by decide) dX7_item_63 ?_
            refine z_top (2) (by rw [rM_28]; exact hNm 6 (by decide)) ?_
            refine z_icmp_ge C 166 dX7_item_64 (by decide) (fun h64 => ?_) (fun h64 => ?_)
            · exact absurd h64 (by decide)
            · skip
              refine z_iload_n C 0 dX7_item_67 rfl ?_
              refine z_if_le C 121 dX7_item_68 (by decide) (fun h68 => ?_) (fun h68 => ?_)
              · exact absurd h68 (by decide)
              · skip
                refine z_aload_n C 3 dX7_item_71 rfl ?_
                refine mg_31 C dX7_item_72 ?_
                refine z_top (nI a1) (rfl) ?_
                refine z_aload_n C 3 dX7_item_75 rfl ?_
                refine mg_32 C dX7_item_76 ?_
                rw [show (rM M g a1 d1 w (upd tl 0 d1)).2.1 32 = nI len from (rM_i (by decide)).trans he]
                refine z_icmp_ge C 102 dX7_item_79 (by decide) (fun h79 => ?_) (fun h79 => ?_)
                · skip
                  have hX2 : exP (cT M b) len 32 (a1, none) = (a1, some a1) := ex_ns (by rw [nx_no (fun z => absurd h79 (nI_ge z (by omega)))]; decide)
                  refine z_aload_n C 3 dX7_item_102 rfl ?_
                  refine z_aload_n C 3 dX7_item_103 rfl ?_
                  refine mg_31 C dX7_item_104 ?_
                  refine z_top (nI a1) (rfl) ?_
                  refine z_callV1 C (c_X7_wrong l E M hR g d1 w (upd tl 0 d1) (nI a1)) ⟨rfl, rfl⟩ rfl rfl q_X7_167 ⟨by decide, by decide⟩ (Nat.le_of_ble_eq_true rfl) dX7_item_107 (fun v F9 hp => ?_)
                  obtain ⟨rfl, e9⟩ := hp
                  rw [e9]
                  clear e9 F9
                  refine z_zret C0 rfl dX7_item_110 ?_
                  have en2 : nmP (cT M b) len 0 9999 (a1, none) = (0, (a1, some a1)) := (nmP_f (by rw [hX2]; exact fun z => by cases z)).trans (by rw [hX2])
                  have er : (itC (cT M b) len g (a, none)).2.2 = some a1 := by
                    rw [it_6 hx]
                    simp only [itC6, en1, en2, nmP_sm]
                    rw [if_neg (fun z => by cases z)]
                  exact itQ.bad er
                · skip
                  have hsp2 : a1 < len := nI_lt_of h79 (by omega) (by omega)
                  refine z_aload_n C 3 dX7_item_82 rfl ?_
                  refine mg_25 C dX7_item_83 ?_
                  refine z_aload_n C 3 dX7_item_86 rfl ?_
                  refine mg_30 C dX7_item_87 ?_
                  refine z_top (nI b) ((rM_i (by decide)).trans hb) ?_
                  refine z_aload_n C 3 dX7_item_90 rfl ?_
                  refine mg_31 C dX7_item_91 ?_
                  refine z_top (nI a1) (rfl) ?_
                  refine z_iadd C dX7_item_94 ?_
                  refine z_top (nI (b + a1)) (nI_add _ _) ?_
                  refine ml_25 C (b + a1) rfl (by first | assumption | omega) dX7_item_95 ?_
                  refine z_l2i C dX7_item_96 ?_
                  refine z_top (nxP (cT M b) len a1) (nx_at hsp2) ?_
                  refine z_bipush C (v := 32) dX7_item_97 rfl ?_
                  refine z_icmp_eq C 111 dX7_item_99 (by decide) (fun h99 => ?_) (fun h99 => ?_)
                  · skip
                    refine z_aload_n C 3 dX7_item_111 rfl ?_
                    refine z_dup C dX7_item_112 rfl ?_
                    refine mg_31 C dX7_item_113 ?_
                    refine z_top (nI a1) (rfl) ?_
                    refine z_iconst C (v := 1) dX7_item_116 rfl ?_
                    refine z_iadd C dX7_item_117 ?_
                    refine z_top (nI (a1 + 1)) (nI_1 _) ?_
                    refine mp_31 C dX7_item_118 ?_
                    rw [rM_a]
                    have hX2 : exP (cT M b) len 32 (a1, none) = (a1 + 1, none) := ex_sp h99
                    have hl1x : a1 + 1 ≤ len := hsp2
                    refine z_aload_n C 3 dX7_item_121 rfl ?_
                    refine mg_31 C dX7_item_122 ?_
                    refine z_top (nI (a1 + 1)) (rfl) ?_
                    refine z_istore_n (i := 3) C dX7_item_125 rfl (by decide) ?_
                    refine z_aload_n C 3 dX7_item_126 rfl ?_
                    refine z_callV0 C (c_X7_reads l E M hR g hl1x d1 w (upd tl 0 d1)) ⟨rfl, rfl⟩ rfl rfl q_X7_181 ⟨by decide, by decide⟩ (Nat.le_of_ble_eq_true rfl) dX7_item_127 (fun v F9 hp => ?_)
                    obtain ⟨rfl, e9⟩ := hp
                    rw [e9]
                    clear e9 F9
                    obtain ⟨y2, hy2, ey2⟩ := dg4 (T := (cT M b)) (len := len) (a := (a1 + 1))
                    have hl2 := (dgP_le (T := (cT M b)) (len := len) (n := 4) (d := ((0 : Int32), (a1 + 1))) hl1x).1
                    generalize eD2 : dgP (cT M b) len 4 (0, (a1 + 1)) = D2 at ey2 hl2 ⊢
                    obtain ⟨d2, a2⟩ := D2
                    dsimp only at ey2 hl2 ⊢
                    refine z_if_ne C 135 dX7_item_130 (by decide) (fun h130 => ?_) (fun h130 => ?_)
                    · skip
                      have h130 := bI_1 h130
                      have hne2 : ¬ a2 = (a1 + 1) := of_decide_eq_true h130
                      rw [if_neg hne2]
                      refine z_aload_n C 3 dX7_item_135 rfl ?_
                      refine z_iload_n C 2 dX7_item_136 rfl ?_
                      refine z_iload_n C 1 dX7_item_137 rfl ?_
                      refine z_callV2 C (c_isSo_6_1 l E M hR g hl2 d2 w (upd tl 0 d1) hz hsm hc6 (by simp [upd, ec])) ⟨rfl, rfl⟩ rfl rfl q_X7_184 ⟨by decide, by decide⟩ (Nat.le_of_ble_eq_true rfl) dX7_item_138 (fun v F9 hp => ?_)
                      obtain ⟨rfl, e9⟩ := hp
                      rw [e9]
                      clear e9 F9
                      refine z_if_ne C 150 dX7_item_141 (by decide) (fun h141 => ?_) (fun h141 => ?_)
                      · skip
                        have h141 := bI_1 h141
                        have hcan : can g c d2 = true := h141
                        have hso2 := nn_9 ⟨y2, hy2, ey2⟩
                        have en2 : nmP (cT M b) len 0 9999 (a1, none) = (d2, (a2, none)) := nmP_g (by rw [hX2]) (by rw [hX2]; exact eD2) (by rw [hX2]; exact hne2) hso2.1 hso2.2
                        refine z_aload_n C 3 dX7_item_150 rfl ?_
                        refine mg_29 C dX7_item_151 ?_
                        refine z_iload_n C 1 dX7_item_154 rfl ?_
                        refine z_aload_n C 3 dX7_item_155 rfl ?_
                        refine mg_33 C dX7_item_156 ?_
                        refine z_top (d2) (rfl) ?_
                        refine ms_29 C 1 rfl (by decide) dX7_item_159 ?_
                        rw [rM_t]
                        refine z_iinc C (v := nI 2) 1 dX7_item_160 rfl rfl (by decide) ?_
                        refine z_goto C 57 dX7_item_163 (by decide) ?_
                        refine z_pick (L2 := [(2, .int (2)), (3, .int (nI (a1 + 1))), (1, .int (6)), (0, .ref (madr E.2.2.1 (0, 0, 0)))]) [0, 1, 2, 3] rfl ?_
                        refine z_iload_n C 0 dX7_item_57 rfl ?_
                        refine z_aload_n C 3 dX7_item_58 rfl ?_
                        refine mg_28 C dX7_item_59 ?_
                        refine z_iload_n C 2 dX7_item_62 rfl ?_
                        refine ml_28 C 6 rfl (by decide) dX7_item_63 ?_
                        refine z_top (2) (by rw [rM_28]; exact hNm 6 (by decide)) ?_
                        refine z_icmp_ge C 166 dX7_item_64 (by decide) (fun h64 => ?_) (fun h64 => ?_)
                        · skip
                          refine z_iload_n C 2 dX7_item_166 rfl ?_
                          refine z_tabIn C 6 (153) 320 rfl dX7_item_167 (by decide) (by decide) ?_
                          refine z_aload_n C 3 dX7_item_320 rfl ?_
                          refine z_aload_n C 3 dX7_item_321 rfl ?_
                          refine mg_29 C dX7_item_322 ?_
                          refine z_iconst C (v := 0) dX7_item_325 rfl ?_
                          refine ml_29 C 0 rfl (by decide) dX7_item_326 ?_
                          refine z_top (nI c) (by rw [rM_29]; simp [upd, ec]) ?_
                          refine z_aload_n C 3 dX7_item_327 rfl ?_
                          refine mg_29 C dX7_item_328 ?_
                          refine z_iconst C (v := 1) dX7_item_331 rfl ?_
                          refine ml_29 C 1 rfl (by decide) dX7_item_332 ?_
                          refine z_top (d2) (by rw [rM_29]; simp [upd]) ?_
                          refine z_callV2 C (c_X7_makes l E _ hz hsm hrg hc (can_dd hz hcan)) ⟨rfl, rfl⟩ rfl rfl q_X7_187 ⟨by decide, by decide⟩ (Nat.le_of_ble_eq_true rfl) dX7_item_333 (fun v F9 hp => ?_)
                          obtain ⟨rfl, e9⟩ := hp
                          have e8 : F9 = rM M (makes g c d2) a2 d2 w (upd (upd tl 0 d1) 1 d2) := e9
                          rw [e8]
                          clear e8 e9 F9
                          refine z_goto C 344 dX7_item_336 (by decide) ?_
                          refine z_iconst C (v := 1) dX7_item_344 rfl ?_
                          refine z_zret C0 rfl dX7_item_345 ?_
                          have er : itC (cT M b) len g (a, none) = (makes g c d2, (a2, none)) := by
                            rw [it_6 hx]
                            simp only [itC6, en1, en2, ecl, hcan, if_true]
                          exact itQ.good er
                        · exact absurd h64 (by decide)
                      · skip
                        have h141 := bI_0 h141
                        refine z_aload_n C 3 dX7_item_144 rfl ?_
                        refine z_iload_n C 0 dX7_item_145 rfl ?_
                        have hcan : can g c d2 = false := h141
                        have hso2 := nn_9 ⟨y2, hy2, ey2⟩
                        have en2 : nmP (cT M b) len 0 9999 (a1, none) = (d2, (a2, none)) := nmP_g (by rw [hX2]) (by rw [hX2]; exact eD2) (by rw [hX2]; exact hne2) hso2.1 hso2.2
                        refine z_callV1 C (c_X7_wrong l E M hR g d2 w (upd tl 0 d1) (nI (a1 + 1))) ⟨rfl, rfl⟩ rfl rfl q_X7_167 ⟨by decide, by decide⟩ (Nat.le_of_ble_eq_true rfl) dX7_item_146 (fun v F9 hp => ?_)
                        obtain ⟨rfl, e9⟩ := hp
                        rw [e9]
                        clear e9 F9
                        refine z_zret C0 rfl dX7_item_149 ?_
                        have er : (itC (cT M b) len g (a, none)).2.2 = some (a1 + 1) := by
                          rw [it_6 hx]
                          simp only [itC6, en1, en2, ecl, hcan, if_true, hX2]
                          rfl
                        exact itQ.bad er
                    · skip
                      have h130 := bI_0 h130
                      have he2 : a2 = (a1 + 1) := Decidable.not_not.mp (of_decide_eq_false h130)
                      rw [if_pos he2]
                      refine z_iconst C (v := 0) dX7_item_133 rfl ?_
                      refine z_zret C0 rfl dX7_item_134 ?_
                      have en2 : nmP (cT M b) len 0 9999 (a1, none) = (0, (a2, some (a1 + 1))) := (nmP_b (num := d2) (a := a2) (by rw [hX2]) (by rw [hX2]; exact eD2) (Or.inl (by rw [hX2]; exact he2))).trans (by rw [hX2])
                      have er : (itC (cT M b) len g (a, none)).2.2 = some (a1 + 1) := by
                        rw [it_6 hx]
                        simp only [itC6, en1, en2, nmP_sm]
                        rw [if_neg (fun z => by cases z)]
                      exact itQ.bad er
                  · skip
                    have hX2 : exP (cT M b) len 32 (a1, none) = (a1, some a1) := ex_ns (by exact h99)
                    refine z_aload_n C 3 dX7_item_102 rfl ?_
                    refine z_aload_n C 3 dX7_item_103 rfl ?_
                    refine mg_31 C dX7_item_104 ?_
                    refine z_top (nI a1) (rfl) ?_
                    refine z_callV1 C (c_X7_wrong l E M hR g d1 w (upd tl 0 d1) (nI a1)) ⟨rfl, rfl⟩ rfl rfl q_X7_167 ⟨by decide, by decide⟩ (Nat.le_of_ble_eq_true rfl) dX7_item_107 (fun v F9 hp => ?_)
                    obtain ⟨rfl, e9⟩ := hp
                    rw [e9]
                    clear e9 F9
                    refine z_zret C0 rfl dX7_item_110 ?_
                    have en2 : nmP (cT M b) len 0 9999 (a1, none) = (0, (a1, some a1)) := (nmP_f (by rw [hX2]; exact fun z => by cases z)).trans (by rw [hX2])
                    have er : (itC (cT M b) len g (a, none)).2.2 = some a1 := by
                      rw [it_6 hx]
                      simp only [itC6, en1, en2, nmP_sm]
                      rw [if_neg (fun z => by cases z)]
                    exact itQ.bad er
          · skip
            have h141 := bI_0 h141
            refine z_aload_n C 3 dX7_item_144 rfl ?_
            refine z_iload_n C 0 dX7_item_145 rfl ?_
            have hno := or_nn (of_decide_eq_false h141)
            have en1 : nmP (cT M b) len 0 (g.1 1 - 1) (wdP (cT M b) len (zByt.getD 6 []) (zLen.getD 6 0) (a, none)) = (0, (a1, some p)) := (nmP_b (num := d1) (a := a1) (by rw [hF2]) (by rw [hF2]; exact eD1) (Or.inr hno)).trans (by rw [hF2])
            refine z_callV1 C (c_X7_wrong l E M hR g d1 w tl (nI p)) ⟨rfl, rfl⟩ rfl rfl q_X7_167 ⟨by decide, by decide⟩ (Nat.le_of_ble_eq_true rfl) dX7_item_146 (fun v F9 hp => ?_)
            obtain ⟨rfl, e9⟩ := hp
            rw [e9]
            clear e9 F9
            refine z_zret C0 rfl dX7_item_149 ?_
            have er : (itC (cT M b) len g (a, none)).2.2 = some p := by
              rw [it_6 hx]
              simp only [itC6, en1, nmP_sm]
              rw [if_neg (fun z => by cases z)]
            exact itQ.bad er
        · skip
          have h130 := bI_0 h130
          have he1 : a1 = p := Decidable.not_not.mp (of_decide_eq_false h130)
          rw [if_pos he1]
          refine z_iconst C (v := 0) dX7_item_133 rfl ?_
          refine z_zret C0 rfl dX7_item_134 ?_
          have en1 : nmP (cT M b) len 0 (g.1 1 - 1) (wdP (cT M b) len (zByt.getD 6 []) (zLen.getD 6 0) (a, none)) = (0, (a1, some p)) := (nmP_b (num := d1) (a := a1) (by rw [hF2]) (by rw [hF2]; exact eD1) (Or.inl (by rw [hF2]; exact he1))).trans (by rw [hF2])
          have er : (itC (cT M b) len g (a, none)).2.2 = some p := by
            rw [it_6 hx]
            simp only [itC6, en1, nmP_sm]
            rw [if_neg (fun z => by cases z)]
          exact itQ.bad er
      · exact absurd h68 (by decide)
  · exact absurd h50 (by decide)
set_option maxRecDepth 100000 in
set_option maxHeartbeats 4000000 in
theorem it_47_7 {l : Launch} {E : zE} {K : zK} {s : State} (M : zM) {b len : Nat} (hR : rdo M b len) (g : zGc) {a : Nat} (ha : a ≤ len) (n w : Int32) (tl : Nat → Int32) (hz : gz g) {N : Nat} (hrg : rg N g) (hN : N ≤ 100000000) {p : Nat} (hp2 : p ≤ len) (hF : fwP (cT M b) len 7 (fll 7) (a, none) = (p, none)) (C0 : MR l E K cX7_item RX7 8 s 4 (some .boolean) (itQ M (itC (cT M b) len g (a, none)))) : Z K (MP E (rM M g p n w tl) s) 47 [(0, .ref (madr E.2.2.1 (0, 0, 0)))] [.int 7] := by
  have C := C0.c
  obtain ⟨hb, he, hbl, hl, hWd, hNm⟩ := id hR
  obtain ⟨⟨eS, lS⟩, ⟨eC, lC⟩⟩ := id hz
  have hsm : sms g := hrg.sm (by omega)
  have hx : nxP (cT M b) len a = 110 := fw_first (by decide) hF
  have hF2 : (wdP (cT M b) len (zByt.getD 7 []) (zLen.getD 7 0) (a, none)) = (p, none) := fw_7.symm.trans hF
  refine z_istore_n (i := 1) C dX7_item_47 rfl (by decide) ?_
  refine z_iload_n C 0 dX7_item_48 rfl ?_
  refine z_iconst C (v := (-1)) dX7_item_49 rfl ?_
  refine z_icmp_ne C 55 dX7_item_50 (by decide) (fun h50 => ?_) (fun h50 => ?_)
  · skip
    refine z_iconst C (v := 0) dX7_item_55 rfl ?_
    refine z_istore_n (i := 2) C dX7_item_56 rfl (by decide) ?_
    refine z_pick (L2 := [(2, .int (0)), (1, .int (7)), (0, .ref (madr E.2.2.1 (0, 0, 0)))]) [0, 1, 2] rfl ?_
    refine z_iload_n C 0 dX7_item_57 rfl ?_
    refine z_aload_n C 2 dX7_item_58 rfl ?_
    refine mg_28 C dX7_item_59 ?_
    refine z_iload_n C 1 dX7_item_62 rfl ?_
    refine ml_28 C 7 rfl (by decide) dX7_item_63 ?_
    refine z_top (0) (by rw [rM_28]; exact hNm 7 (by decide)) ?_
    refine z_icmp_ge C 166 dX7_item_64 (by decide) (fun h64 => ?_) (fun h64 => ?_)
    · skip
      refine z_iload_n C 1 dX7_item_166 rfl ?_
      refine z_tabOut C 339 (by decide) dX7_item_167 (by decide) ?_
      refine z_aload_n C 2 dX7_item_339 rfl ?_
      refine z_callV0 C (c_X7_rots l E _ hz hrg) ⟨rfl, rfl⟩ rfl rfl q_X7_191 ⟨by decide, by decide⟩ (Nat.le_of_ble_eq_true rfl) dX7_item_340 (fun v F9 hp => ?_)
      obtain ⟨rfl, e9⟩ := hp
      have e8 : F9 = rM M (nightG g) p n w tl := e9
      rw [e8]
      clear e8 e9 F9
      refine z_pop C dX7_item_343 rfl ?_
      refine z_iconst C (v := 1) dX7_item_344 rfl ?_
      refine z_zret C0 rfl dX7_item_345 ?_
      have er : itC (cT M b) len g (a, none) = (nightG g, (p, none)) := by
        rw [it_7 hx]
        simp only [itC7, hF2, if_true]
      exact itQ.good er
    · exact absurd h64 (by decide)
  · exact absurd h50 (by decide)
theorem fw_bad {T : Nat → Int32} {len w a : Nat} (hw : w < 8) (h : ¬ (fwP T len w (fll w) (a, none)).2 = none) : ∃ q, fwP T len w (fll w) (a, none) = (q, some q) ∧ a ≤ q := by
  have key : ∀ i, i ≤ fll w → (∃ q, fwP T len w i (a, none) = (q, some q) ∧ a ≤ q) ∨ fwP T len w i (a, none) = (a + i, none) := by
    intro i
    induction i with
    | zero => intro _; exact Or.inr rfl
    | succ i ih =>
      intro hi
      have hb := wr_b w hw
      rcases ih (by omega) with ⟨q, e, hq⟩ | e
      · refine Or.inl ⟨q, ?_, hq⟩
        simp only [fwP]
        rw [e]
        exact exP_some rfl
      · by_cases hx : nxP T len (a + i) = wrd.getD (wofN w + i) 0
        · exact Or.inr (fw_hit e (wr_m1 _ (by omega)) hx)
        · exact Or.inl ⟨a + i, by have := fw_fail e (wr_m1 _ (by omega)) hx (n := 0); exact this, by omega⟩
  rcases key (fll w) (Nat.le_refl _) with h2 | h2
  · exact h2
  · rw [h2] at h; exact absurd rfl h
theorem fw_other {T : Nat → Int32} {len w a : Nat} (hw : w < 8) (h : ¬ nxP T len a = wrd.getD (wofN w) 0) : fwP T len w (fll w) (a, none) = (a, some a) := by
  have h0 : 0 < fll w := by
    have : ∀ w, w < 8 → 0 < fll w := by decide
    exact this w hw
  have hb := wr_b w hw
  exact fw_end (i := 0) h0 rfl (wr_m1 _ (by omega)) h
/-- how far: the one word that begins so, or nothing -/
theorem fr_one {T : Nat → Int32} {len a k q : Nat} (hk : k < 8) (hq : a ≤ q) (he : fwP T len k (fll k) (a, none) = (q, some q)) (ho : ∀ j, j < 8 → j ≠ k → fwP T len j (fll j) (a, none) = (a, some a)) : frP T len a 8 = q := by
  have key : ∀ n, n ≤ 8 → frP T len a n = if k < n then q else a := by
    intro n
    induction n with
    | zero => intro _; rfl
    | succ n ih =>
      intro hn
      simp only [frP]
      rw [ih (by omega)]
      by_cases e : n = k
      · subst e
        rw [he, if_neg (Nat.lt_irrefl _), if_pos (Nat.lt_succ_self _)]
        dsimp only
        split <;> omega
      · rw [ho n (by omega) e]
        dsimp only
        by_cases h2 : k < n
        · simp only [if_pos h2, if_pos (show k < n + 1 by omega)]
          exact if_neg (by omega)
        · simp only [if_neg h2, if_neg (show ¬ k < n + 1 by omega)]
          exact if_neg (Nat.lt_irrefl _)
  have := key 8 (Nat.le_refl _)
  rw [if_pos hk] at this
  exact this
theorem fr_none {T : Nat → Int32} {len a : Nat} (ho : ∀ j, j < 8 → fwP T len j (fll j) (a, none) = (a, some a)) : frP T len a 8 = a := by
  have key : ∀ n, n ≤ 8 → frP T len a n = a := by
    intro n
    induction n with
    | zero => intro _; rfl
    | succ n ih =>
      intro hn
      simp only [frP]
      rw [ih (by omega), ho n (by omega)]
      exact if_neg (Nat.lt_irrefl _)
  exact key 8 (Nat.le_refl _)
theorem wr_dst : ∀ j, j < 8 → ∀ k, k < 8 → j ≠ k → ¬ wrd.getD (wofN j) 0 = wrd.getD (wofN k) 0 := by decide
theorem nm_bad {T : Nat → Int32} {len q : Nat} {lo hi : Int32} {s : Nat × Option Nat} (h : exP T len 32 s = (q, some q)) : nmP T len lo hi s = (0, (q, some q)) := (nmP_f (by rw [h]; exact fun z => by cases z)).trans (by rw [h])
theorem ex_sm {T : Nat → Int32} {len q : Nat} {s : Nat × Option Nat} (hs : ¬ s.2 = none) (h : exP T len 32 s = (q, some q)) : s = (q, some q) := by
  obtain ⟨x, f⟩ := s
  cases f with
  | none => exact absurd rfl hs
  | some r => rw [exP_some rfl] at h; exact h
theorem it_bad {T : Nat → Int32} {len a : Nat} {g : zGc} (hall : ∀ w, w < 8 → ¬ (fwP T len w (fll w) (a, none)).2 = none) (h0 : (wdP T len (zByt.getD 0 []) (zLen.getD 0 0) (a, none)).2 = none → g.1 0 < 6) (h1 : (wdP T len (zByt.getD 1 []) (zLen.getD 1 0) (a, none)).2 = none → g.1 1 < 6) : (itC T len g (a, none)).2.2 = some (frP T len a 8) := by
  have one : ∀ k, k < 8 → nxP T len a = wrd.getD (wofN k) 0 → ∃ q, fwP T len k (fll k) (a, none) = (q, some q) ∧ frP T len a 8 = q := by
    intro k hk hx
    obtain ⟨q, e, hq⟩ := fw_bad hk (hall k hk)
    exact ⟨q, e, fr_one hk hq e (fun j hj hjk => fw_other hj (by rw [hx]; exact fun z => wr_dst j hj k hk hjk z.symm))⟩
  by_cases x0 : nxP T len a = 115
  · obtain ⟨q, e, hq⟩ := one 0 (by decide) x0
    rw [it_0 x0, hq]
    rw [fw_0] at e
    by_cases hr : g.1 0 < 6
    · simp only [itC0, if_pos hr, nm_bad e, nmP_sm]
    · have e2 := ex_sm (fun z => hr (h0 z)) e
      simp only [itC0, if_neg hr, e2, blF, nmP_sm]
  by_cases x1 : nxP T len a = 99
  · obtain ⟨q, e, hq⟩ := one 1 (by decide) x1
    rw [it_1 x1, hq]
    rw [fw_1] at e
    by_cases hr : g.1 1 < 6
    · simp only [itC1, if_pos hr, nm_bad e, nmP_sm]
    · have e2 := ex_sm (fun z => hr (h1 z)) e
      simp only [itC1, if_neg hr, e2, blF, nmP_sm]
  by_cases x2 : nxP T len a = 102
  · obtain ⟨q, e, hq⟩ := one 2 (by decide) x2
    rw [it_2 x2, hq]
    rw [fw_2] at e
    simp only [itC2, nm_bad e, nmP_sm]
  by_cases x3 : nxP T len a = 107
  · obtain ⟨q, e, hq⟩ := one 3 (by decide) x3
    rw [it_3 x3, hq]
    rw [fw_3] at e
    simp only [itC3, nm_bad e, nmP_sm]
  by_cases x4 : nxP T len a = 105
  · obtain ⟨q, e, hq⟩ := one 4 (by decide) x4
    rw [it_4 x4, hq]
    rw [fw_4] at e
    simp only [itC4, nm_bad e, nmP_sm]
  by_cases x5 : nxP T len a = 116
  · obtain ⟨q, e, hq⟩ := one 5 (by decide) x5
    rw [it_5 x5, hq]
    rw [fw_5] at e
    simp only [itC5, nm_bad e, nmP_sm]
  by_cases x6 : nxP T len a = 100
  · obtain ⟨q, e, hq⟩ := one 6 (by decide) x6
    rw [it_6 x6, hq]
    rw [fw_6] at e
    simp only [itC6, nm_bad e, nmP_sm]
    rfl
  by_cases x7 : nxP T len a = 110
  · obtain ⟨q, e, hq⟩ := one 7 (by decide) x7
    rw [it_7 x7, hq]
    rw [fw_7] at e
    simp only [itC7, e]
  have ho : ∀ j, j < 8 → ¬ nxP T len a = wrd.getD (wofN j) 0 := by
    intro j hj
    have : j = 0 ∨ j = 1 ∨ j = 2 ∨ j = 3 ∨ j = 4 ∨ j = 5 ∨ j = 6 ∨ j = 7 := by omega
    rcases this with rfl | rfl | rfl | rfl | rfl | rfl | rfl | rfl
    · exact x0
    · exact x1
    · exact x2
    · exact x3
    · exact x4
    · exact x5
    · exact x6
    · exact x7
  rw [fr_none (fun j hj => fw_other hj (ho j hj))]
  unfold itC
  rw [if_neg x0, if_neg x1, if_neg x2, if_neg x3, if_neg x4, if_neg x5, if_neg x6, if_neg x7]
  rfl
set_option maxRecDepth 100000 in
set_option maxHeartbeats 4000000 in
theorem it_47_m {l : Launch} {E : zE} {K : zK} {s : State} (M : zM) {b len : Nat} (hR : rdo M b len) (g : zGc) {a : Nat} (ha : a ≤ len) (n w : Int32) (tl : Nat → Int32) (hz : gz g) {N : Nat} (hrg : rg N g) (hN : N ≤ 100000000) (hall : ∀ w, w < 8 → ¬ (fwP (cT M b) len w (fll w) (a, none)).2 = none) (h0 : (wdP (cT M b) len (zByt.getD 0 []) (zLen.getD 0 0) (a, none)).2 = none → g.1 0 < 6) (h1 : (wdP (cT M b) len (zByt.getD 1 []) (zLen.getD 1 0) (a, none)).2 = none → g.1 1 < 6) (C0 : MR l E K cX7_item RX7 8 s 4 (some .boolean) (itQ M (itC (cT M b) len g (a, none)))) : Z K (MP E (rM M g a n (nI (frP (cT M b) len a 8)) tl) s) 47 [(0, .ref (madr E.2.2.1 (0, 0, 0)))] [.int (-1)] := by
  have C := C0.c
  obtain ⟨hb, he, hbl, hl, hWd, hNm⟩ := id hR
  obtain ⟨⟨eS, lS⟩, ⟨eC, lC⟩⟩ := id hz
  have hsm : sms g := hrg.sm (by omega)
  refine z_istore_n (i := 1) C dX7_item_47 rfl (by decide) ?_
  refine z_iload_n C 0 dX7_item_48 rfl ?_
  refine z_iconst C (v := (-1)) dX7_item_49 rfl ?_
  refine z_icmp_ne C 55 dX7_item_50 (by decide) (fun h50 => ?_) (fun h50 => ?_)
  · exact absurd h50 (by decide)
  · skip
    refine z_iconst C (v := 0) dX7_item_53 rfl ?_
    refine z_zret C0 rfl dX7_item_54 ?_
    exact itQ.bad (it_bad hall h0 h1)
theorem room_lt {x : Int32} {m : Nat} (e : x = nI m) (h : m ≤ 6) (h6 : ¬ x = 6) : x < 6 := by
  subst e
  have : m ≠ 6 := fun z => h6 (by rw [z]; rfl)
  exact nI_lt (b := 6) (by omega) (by omega)
theorem fw_wd {T : Nat → Int32} {len p : Nat} {s1 : Nat × Option Nat} (h : exP T len 32 s1 = (p, none)) : s1.2 = none := by
  obtain ⟨x, f⟩ := s1
  cases f with
  | none => rfl
  | some r => rw [exP_some rfl] at h; cases h
set_option maxRecDepth 100000 in
set_option maxHeartbeats 4000000 in
theorem c_X7_item (l : Launch) (E : zE) (M : zM) {b len : Nat} (hR : rdo M b len) (g : zGc) {a : Nat} (ha : a ≤ len) (n w : Int32) (tl : Nat → Int32) (hz : gz g) {N : Nat} (hrg : rg N g) (hN : N ≤ 100000000) : MM l E yX7_item cX7_item 4 (some .boolean) 8 [.ref (madr E.2.2.1 (0, 0, 0))] (rM M g a n w tl) (itQ M (itC (cT M b) len g (a, none))) := by
  refine MM.mk kq_X7 (Nat.le_of_ble_eq_true rfl) (fun K s C0 => ?_)
  have C := C0.c
  obtain ⟨hb, he, hbl, hl, hWd, hNm⟩ := id hR
  obtain ⟨⟨eS, lS⟩, ⟨eC, lC⟩⟩ := id hz
  have hsm : sms g := hrg.sm (by omega)
  refine z_aload_n C 0 dX7_item_0 rfl ?_
  refine z_iconst C (v := 0) dX7_item_1 rfl ?_
  refine z_callV1 C (c_stands_0 l E M hR g ha n w tl) ⟨rfl, rfl⟩ rfl rfl q_X7_174 ⟨by decide, by decide⟩ (Nat.le_of_ble_eq_true rfl) dX7_item_2 (fun v F9 hp => ?_)
  obtain ⟨rfl, e9⟩ := hp
  rw [e9]
  clear e9 F9
  refine z_if_eq C 17 dX7_item_5 (by decide) (fun h5 => ?_) (fun h5 => ?_)
  · skip
    have h5 := bI_0 h5
    refine z_aload_n C 0 dX7_item_17 rfl ?_
    refine z_iconst C (v := 1) dX7_item_18 rfl ?_
    refine z_callV1 C (c_stands_1 l E M hR g ha n w tl) ⟨rfl, rfl⟩ rfl rfl q_X7_174 ⟨by decide, by decide⟩ (Nat.le_of_ble_eq_true rfl) dX7_item_19 (fun v F9 hp => ?_)
    obtain ⟨rfl, e9⟩ := hp
    rw [e9]
    clear e9 F9
    refine z_if_eq C 43 dX7_item_22 (by decide) (fun h22 => ?_) (fun h22 => ?_)
    · skip
      have h22 := bI_0 h22
      refine z_aload_n C 0 dX7_item_43 rfl ?_
      refine z_callV0 C (c_X7_word l E M hR g ha n w tl) ⟨rfl, rfl⟩ rfl rfl q_X7_177 ⟨by decide, by decide⟩ (Nat.le_of_ble_eq_true rfl) dX7_item_44 (fun v F9 hp => ?_)
      have h0 : (wdP (cT M b) len (zByt.getD 0 []) (zLen.getD 0 0) (a, none)).2 = none → g.1 0 < 6 := (fun z => absurd z (of_decide_eq_false h5))
      have h1 : (wdP (cT M b) len (zByt.getD 1 []) (zLen.getD 1 0) (a, none)).2 = none → g.1 1 < 6 := (fun z => absurd z (of_decide_eq_false h22))
      rcases hp with ⟨wi, hw8, rfl, hF, hpl, e9⟩ | ⟨rfl, e9, hall⟩
      · rw [e9]
        have hc : wi = 0 ∨ wi = 1 ∨ wi = 2 ∨ wi = 3 ∨ wi = 4 ∨ wi = 5 ∨ wi = 6 ∨ wi = 7 := by omega
        rcases hc with rfl | rfl | rfl | rfl | rfl | rfl | rfl | rfl
        · exact it_47_0 M hR g ha n w tl hz hrg hN hpl hF ((nI_ltI (b := 6) (by omega) (by omega)).mp (eS ▸ h0 (fw_wd hF))) C0
        · exact it_47_1 M hR g ha n w tl hz hrg hN hpl hF ((nI_ltI (b := 6) (by omega) (by omega)).mp (eC ▸ h1 (fw_wd hF))) C0
        · exact it_47_2 M hR g ha n w tl hz hrg hN hpl hF C0
        · exact it_47_3 M hR g ha n w tl hz hrg hN hpl hF C0
        · exact it_47_4 M hR g ha n w tl hz hrg hN hpl hF C0
        · exact it_47_5 M hR g ha n w tl hz hrg hN hpl hF C0
        · exact it_47_6 M hR g ha n w tl hz hrg hN hpl hF C0
        · exact it_47_7 M hR g ha n w tl hz hrg hN hpl hF C0
      · rw [e9]
        exact it_47_m M hR g ha n w tl hz hrg hN hall h0 h1 C0
    · skip
      have h22 := bI_1 h22
      refine z_aload_n C 0 dX7_item_25 rfl ?_
      refine mg_1 C dX7_item_26 ?_
      refine z_bipush C (v := 6) dX7_item_29 rfl ?_
      refine z_icmp_ne C 43 dX7_item_31 (by decide) (fun h31 => ?_) (fun h31 => ?_)
      · skip
        refine z_aload_n C 0 dX7_item_43 rfl ?_
        refine z_callV0 C (c_X7_word l E M hR g ha n w tl) ⟨rfl, rfl⟩ rfl rfl q_X7_177 ⟨by decide, by decide⟩ (Nat.le_of_ble_eq_true rfl) dX7_item_44 (fun v F9 hp => ?_)
        have h0 : (wdP (cT M b) len (zByt.getD 0 []) (zLen.getD 0 0) (a, none)).2 = none → g.1 0 < 6 := (fun z => absurd z (of_decide_eq_false h5))
        have h1 : (wdP (cT M b) len (zByt.getD 1 []) (zLen.getD 1 0) (a, none)).2 = none → g.1 1 < 6 := (fun _ => room_lt eC lC h31)
        rcases hp with ⟨wi, hw8, rfl, hF, hpl, e9⟩ | ⟨rfl, e9, hall⟩
        · rw [e9]
          have hc : wi = 0 ∨ wi = 1 ∨ wi = 2 ∨ wi = 3 ∨ wi = 4 ∨ wi = 5 ∨ wi = 6 ∨ wi = 7 := by omega
          rcases hc with rfl | rfl | rfl | rfl | rfl | rfl | rfl | rfl
          · exact it_47_0 M hR g ha n w tl hz hrg hN hpl hF ((nI_ltI (b := 6) (by omega) (by omega)).mp (eS ▸ h0 (fw_wd hF))) C0
          · exact it_47_1 M hR g ha n w tl hz hrg hN hpl hF ((nI_ltI (b := 6) (by omega) (by omega)).mp (eC ▸ h1 (fw_wd hF))) C0
          · exact it_47_2 M hR g ha n w tl hz hrg hN hpl hF C0
          · exact it_47_3 M hR g ha n w tl hz hrg hN hpl hF C0
          · exact it_47_4 M hR g ha n w tl hz hrg hN hpl hF C0
          · exact it_47_5 M hR g ha n w tl hz hrg hN hpl hF C0
          · exact it_47_6 M hR g ha n w tl hz hrg hN hpl hF C0
          · exact it_47_7 M hR g ha n w tl hz hrg hN hpl hF C0
        · rw [e9]
          exact it_47_m M hR g ha n w tl hz hrg hN hall h0 h1 C0
      · skip
        refine z_aload_n C 0 dX7_item_34 rfl ?_
        refine z_aload_n C 0 dX7_item_35 rfl ?_
        refine mg_31 C dX7_item_36 ?_
        refine z_callV1 C (c_X7_wrong l E M hR g n w tl (nI a)) ⟨rfl, rfl⟩ rfl rfl q_X7_167 ⟨by decide, by decide⟩ (Nat.le_of_ble_eq_true rfl) dX7_item_39 (fun v F9 hp => ?_)
        obtain ⟨rfl, e9⟩ := hp
        rw [e9]
        clear e9 F9
        refine z_zret C0 rfl dX7_item_42 ?_
        have hw : (wdP (cT M b) len (zByt.getD 1 []) (zLen.getD 1 0) (a, none)).2 = none := of_decide_eq_true h22
        have hx : nxP (cT M b) len a = 99 := by
          refine Decidable.byContradiction (fun z => ?_)
          have := wd_fail (T := (cT M b)) (len := len) (i := 0) (p := a) (W := zByt.getD 1 []) (s := (a, none)) rfl (by decide) z (n := 4)
          rw [show zLen.getD 1 0 = 0 + 1 + 4 from rfl, this] at hw
          cases hw
        have er : (itC (cT M b) len g (a, none)).2.2 = some a := by
          rw [it_1 hx]
          have h6 : ¬ g.1 1 < 6 := by rw [show g.1 1 = 6 from h31]; decide
          simp only [itC1, if_neg h6, hw, blF, nmP_sm]
        exact itQ.bad er
  · skip
    have h5 := bI_1 h5
    refine z_aload_n C 0 dX7_item_8 rfl ?_
    refine mg_0 C dX7_item_9 ?_
    refine z_bipush C (v := 6) dX7_item_12 rfl ?_
    refine z_icmp_eq C 34 dX7_item_14 (by decide) (fun h14 => ?_) (fun h14 => ?_)
    · skip
      refine z_aload_n C 0 dX7_item_34 rfl ?_
      refine z_aload_n C 0 dX7_item_35 rfl ?_
      refine mg_31 C dX7_item_36 ?_
      refine z_callV1 C (c_X7_wrong l E M hR g n w tl (nI a)) ⟨rfl, rfl⟩ rfl rfl q_X7_167 ⟨by decide, by decide⟩ (Nat.le_of_ble_eq_true rfl) dX7_item_39 (fun v F9 hp => ?_)
      obtain ⟨rfl, e9⟩ := hp
      rw [e9]
      clear e9 F9
      refine z_zret C0 rfl dX7_item_42 ?_
      have hw : (wdP (cT M b) len (zByt.getD 0 []) (zLen.getD 0 0) (a, none)).2 = none := of_decide_eq_true h5
      have hx : nxP (cT M b) len a = 115 := by
        refine Decidable.byContradiction (fun z => ?_)
        have := wd_fail (T := (cT M b)) (len := len) (i := 0) (p := a) (W := zByt.getD 0 []) (s := (a, none)) rfl (by decide) z (n := 3)
        rw [show zLen.getD 0 0 = 0 + 1 + 3 from rfl, this] at hw
        cases hw
      have er : (itC (cT M b) len g (a, none)).2.2 = some a := by
        rw [it_0 hx]
        have h6 : ¬ g.1 0 < 6 := by rw [show g.1 0 = 6 from h14]; decide
        simp only [itC0, if_neg h6, hw, blF, nmP_sm]
      exact itQ.bad er
    · skip
      refine z_aload_n C 0 dX7_item_17 rfl ?_
      refine z_iconst C (v := 1) dX7_item_18 rfl ?_
      refine z_callV1 C (c_stands_1 l E M hR g ha n w tl) ⟨rfl, rfl⟩ rfl rfl q_X7_174 ⟨by decide, by decide⟩ (Nat.le_of_ble_eq_true rfl) dX7_item_19 (fun v F9 hp => ?_)
      obtain ⟨rfl, e9⟩ := hp
      rw [e9]
      clear e9 F9
      refine z_if_eq C 43 dX7_item_22 (by decide) (fun h22 => ?_) (fun h22 => ?_)
      · skip
        have h22 := bI_0 h22
        refine z_aload_n C 0 dX7_item_43 rfl ?_
        refine z_callV0 C (c_X7_word l E M hR g ha n w tl) ⟨rfl, rfl⟩ rfl rfl q_X7_177 ⟨by decide, by decide⟩ (Nat.le_of_ble_eq_true rfl) dX7_item_44 (fun v F9 hp => ?_)
        have h0 : (wdP (cT M b) len (zByt.getD 0 []) (zLen.getD 0 0) (a, none)).2 = none → g.1 0 < 6 := (fun _ => room_lt eS lS h14)
        have h1 : (wdP (cT M b) len (zByt.getD 1 []) (zLen.getD 1 0) (a, none)).2 = none → g.1 1 < 6 := (fun z => absurd z (of_decide_eq_false h22))
        rcases hp with ⟨wi, hw8, rfl, hF, hpl, e9⟩ | ⟨rfl, e9, hall⟩
        · rw [e9]
          have hc : wi = 0 ∨ wi = 1 ∨ wi = 2 ∨ wi = 3 ∨ wi = 4 ∨ wi = 5 ∨ wi = 6 ∨ wi = 7 := by omega
          rcases hc with rfl | rfl | rfl | rfl | rfl | rfl | rfl | rfl
          · exact it_47_0 M hR g ha n w tl hz hrg hN hpl hF ((nI_ltI (b := 6) (by omega) (by omega)).mp (eS ▸ h0 (fw_wd hF))) C0
          · exact it_47_1 M hR g ha n w tl hz hrg hN hpl hF ((nI_ltI (b := 6) (by omega) (by omega)).mp (eC ▸ h1 (fw_wd hF))) C0
          · exact it_47_2 M hR g ha n w tl hz hrg hN hpl hF C0
          · exact it_47_3 M hR g ha n w tl hz hrg hN hpl hF C0
          · exact it_47_4 M hR g ha n w tl hz hrg hN hpl hF C0
          · exact it_47_5 M hR g ha n w tl hz hrg hN hpl hF C0
          · exact it_47_6 M hR g ha n w tl hz hrg hN hpl hF C0
          · exact it_47_7 M hR g ha n w tl hz hrg hN hpl hF C0
        · rw [e9]
          exact it_47_m M hR g ha n w tl hz hrg hN hall h0 h1 C0
      · skip
        have h22 := bI_1 h22
        refine z_aload_n C 0 dX7_item_25 rfl ?_
        refine mg_1 C dX7_item_26 ?_
        refine z_bipush C (v := 6) dX7_item_29 rfl ?_
        refine z_icmp_ne C 43 dX7_item_31 (by decide) (fun h31 => ?_) (fun h31 => ?_)
        · skip
          refine z_aload_n C 0 dX7_item_43 rfl ?_
          refine z_callV0 C (c_X7_word l E M hR g ha n w tl) ⟨rfl, rfl⟩ rfl rfl q_X7_177 ⟨by decide, by decide⟩ (Nat.le_of_ble_eq_true rfl) dX7_item_44 (fun v F9 hp => ?_)
          have h0 : (wdP (cT M b) len (zByt.getD 0 []) (zLen.getD 0 0) (a, none)).2 = none → g.1 0 < 6 := (fun _ => room_lt eS lS h14)
          have h1 : (wdP (cT M b) len (zByt.getD 1 []) (zLen.getD 1 0) (a, none)).2 = none → g.1 1 < 6 := (fun _ => room_lt eC lC h31)
          rcases hp with ⟨wi, hw8, rfl, hF, hpl, e9⟩ | ⟨rfl, e9, hall⟩
          · rw [e9]
            have hc : wi = 0 ∨ wi = 1 ∨ wi = 2 ∨ wi = 3 ∨ wi = 4 ∨ wi = 5 ∨ wi = 6 ∨ wi = 7 := by omega
            rcases hc with rfl | rfl | rfl | rfl | rfl | rfl | rfl | rfl
            · exact it_47_0 M hR g ha n w tl hz hrg hN hpl hF ((nI_ltI (b := 6) (by omega) (by omega)).mp (eS ▸ h0 (fw_wd hF))) C0
            · exact it_47_1 M hR g ha n w tl hz hrg hN hpl hF ((nI_ltI (b := 6) (by omega) (by omega)).mp (eC ▸ h1 (fw_wd hF))) C0
            · exact it_47_2 M hR g ha n w tl hz hrg hN hpl hF C0
            · exact it_47_3 M hR g ha n w tl hz hrg hN hpl hF C0
            · exact it_47_4 M hR g ha n w tl hz hrg hN hpl hF C0
            · exact it_47_5 M hR g ha n w tl hz hrg hN hpl hF C0
            · exact it_47_6 M hR g ha n w tl hz hrg hN hpl hF C0
            · exact it_47_7 M hR g ha n w tl hz hrg hN hpl hF C0
          · rw [e9]
            exact it_47_m M hR g ha n w tl hz hrg hN hall h0 h1 C0
        · skip
          refine z_aload_n C 0 dX7_item_34 rfl ?_
          refine z_aload_n C 0 dX7_item_35 rfl ?_
          refine mg_31 C dX7_item_36 ?_
          refine z_callV1 C (c_X7_wrong l E M hR g n w tl (nI a)) ⟨rfl, rfl⟩ rfl rfl q_X7_167 ⟨by decide, by decide⟩ (Nat.le_of_ble_eq_true rfl) dX7_item_39 (fun v F9 hp => ?_)
          obtain ⟨rfl, e9⟩ := hp
          rw [e9]
          clear e9 F9
          refine z_zret C0 rfl dX7_item_42 ?_
          have hw : (wdP (cT M b) len (zByt.getD 1 []) (zLen.getD 1 0) (a, none)).2 = none := of_decide_eq_true h22
          have hx : nxP (cT M b) len a = 99 := by
            refine Decidable.byContradiction (fun z => ?_)
            have := wd_fail (T := (cT M b)) (len := len) (i := 0) (p := a) (W := zByt.getD 1 []) (s := (a, none)) rfl (by decide) z (n := 4)
            rw [show zLen.getD 1 0 = 0 + 1 + 4 from rfl, this] at hw
            cases hw
          have er : (itC (cT M b) len g (a, none)).2.2 = some a := by
            rw [it_1 hx]
            have h6 : ¬ g.1 1 < 6 := by rw [show g.1 1 = 6 from h31]; decide
            simp only [itC1, if_neg h6, hw, blF, nmP_sm]
          exact itQ.bad er
