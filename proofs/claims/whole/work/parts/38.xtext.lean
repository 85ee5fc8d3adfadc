/-! texts of the class's own -/
section ZS
variable {σ : Type} {l : Launch} {E : zE} {adr : zKey → Nat} {cell : σ → zKey → va_E} {ok : zKey → Prop} {eu : State → Prop} {ev : State → Heap → Prop} {A : Nat → Prop} {K : zK} {cc : ByteArray} {own : String} {R : Room} {s : State} {mL : Nat} {d : Nat} {ret : Option FieldType} {post : Option Value → σ → Prop} {F : σ}
variable {pc : Nat} {L : List (Nat × Value)} {st : List Value}
theorem z_i2c {P : Heap → Prop} (C : zC (cell := cell) l E adr ok eu ev A K cc own R s mL) {x : Int32} (hd : decode cc pc = .ok (.i2c, 1)) (k : Z K P (pc + 1) L (.int (x.toUInt32 % 65536).toInt32 :: st)) : Z K P pc L (.int x :: st) := by
  obtain ⟨p, e, m, args, below, meth, c, n1, n2, Q, rfl, hx, hb, hml, hown, hts, hK, he, hs, hc1, hc2⟩ := C
  intro H locs ls hS hP hl
  exact lv_i2c hx hb hd rfl (k H locs ls hS hP hl)
theorem z_ofg (C : zC (cell := cell) l E adr ok eu ev A K cc own R s mL) {C0 n dd : String} {i q : Nat} {v : Value} {B : Nat → Prop} (hE : ∀ H, zPP E adr cell ok ev F s H → va_OF C0 n dd v q B s H) (hlink : Cond.fieldLink own i C0 n dd ∈ zTB) (hd : decode cc pc = .ok (.getfield i, 3))
    (kk : Z K (zPP E adr cell ok ev F s) (pc + 3) L (v :: st)) : Z K (zPP E adr cell ok ev F s) pc L (.ref q :: st) := by
  obtain ⟨p, e, m, args, below, meth, c, n1, n2, Q, rfl, hx, hb, hml, hown, hts, hK, he, hs, hc1, hc2⟩ := C
  intro H locs ls hS hP hl
  obtain ⟨cf, kf, fi, f, cel, h1, h2, h3, h4, h5, h6⟩ := hE H hP
  exact W.getf hx hb hown (hts _ hlink) h1 h2 h3 h4 (v := v) h5 rfl rfl hd (kk H locs ls hS hP hl)
theorem z_tlen (C : zC (cell := cell) l E adr ok eu ev A K cc own R s mL) {ty : FieldType} {t N : Nat} {f : Nat → Value} {B : Nat → Prop} {v : Int32} (hT : ∀ H, zPP E adr cell ok ev F s H → va_T ty t N f B s H) (hv : Int32.ofNat N = v) (hd : decode cc pc = .ok (.arraylength, 1))
    (kk : Z K (zPP E adr cell ok ev F s) (pc + 1) L (.int v :: st)) : Z K (zPP E adr cell ok ev F s) pc L (.ref t :: st) := by
  obtain ⟨p, e, m, args, below, meth, c, n1, n2, Q, rfl, hx, hb, hml, hown, hts, hK, he, hs, hc1, hc2⟩ := C
  intro H locs ls hS hP hl
  obtain ⟨cel, h1, h2, h3, h4, h5, h6, h7⟩ := hT H hP
  subst hv
  exact W.alen (n := Int32.ofNat N) hx hb h1 h2 h5 rfl rfl hd (kk H locs ls hS hP hl)
theorem z_tbld (C : zC (cell := cell) l E adr ok eu ev A K cc own R s mL) {t N : Nat} {f : Nat → Value} {B : Nat → Prop} {x : Int32} {v : Value} (j : Nat) (hT : ∀ H, zPP E adr cell ok ev F s H → va_T .byte t N f B s H) (hx2 : x = nI j) (hlt : j < N) (hn : N < 2 ^ 31) (hv : f j = v) (hd : decode cc pc = .ok (.baload, 1))
    (kk : Z K (zPP E adr cell ok ev F s) (pc + 1) L (v :: st)) : Z K (zPP E adr cell ok ev F s) pc L (.int x :: .ref t :: st) := by
  obtain ⟨p, e, m, args, below, meth, c, n1, n2, Q, rfl, hx, hb, hml, hown, hts, hK, he, hs, hc1, hc2⟩ := C
  intro H locs ls hS hP hl
  obtain ⟨cel, h1, h2, h3, h4, h5, h6, h7⟩ := hT H hP
  subst hx2
  have hcl := nI_clamp (Nat.lt_trans hlt hn)
  have hi : ¬ (nI j < 0 ∨ cel.slots.size ≤ (nI j).toNatClampNeg) := by
    intro q
    rcases q with q | q
    · exact vp_in_nI hlt hn (Or.inl q)
    · omega
  exact W.bald (v := v) hx hb h1 h2 h3 hi (by rw [hcl, h6 _ hlt, hv]) rfl rfl hd (kk H locs ls hS hP hl)
theorem z_getsq (C : zC (cell := cell) l E adr ok eu ev A K cc own R s mL) {C0 n dd : String} {i : Nat} {B : Nat → Prop} (hZ : ∀ H, zPP E adr cell ok ev F s H → va_Zq C0 n dd B s H) (hlink : Cond.fieldLink own i C0 n dd ∈ zTB) (hd : decode cc pc = .ok (.getstatic i, 3))
    (k0 : Z K (zPP E adr cell ok ev F s) (pc + 3) L (.null :: st)) (k1 : ∀ t, Z K (zPP E adr cell ok ev F s) (pc + 3) L (.ref t :: st)) : Z K (zPP E adr cell ok ev F s) pc L st := by
  obtain ⟨p, e, m, args, below, meth, c, n1, n2, Q, rfl, hx, hb, hml, hown, hts, hK, he, hs, hc1, hc2⟩ := C
  intro H locs ls hS hP hl
  rcases hZ H hP with h | ⟨t, h⟩
  · obtain ⟨cf, kf, fi, f, a, cel, h1, h2, h3, h4, h5, h6, h7, h8⟩ := h
    exact W.gets hx hb hown (hts _ hlink) h1 h2 h3 h4 h5 (fun e => by rw [e] at h6; cases h6) h7 rfl hd (k0 H locs ls hS hP hl)
  · obtain ⟨cf, kf, fi, f, a, cel, h1, h2, h3, h4, h5, h6, h7, h8⟩ := h
    exact W.gets hx hb hown (hts _ hlink) h1 h2 h3 h4 h5 (fun e => by rw [e] at h6; cases h6) h7 rfl hd (k1 t H locs ls hS hP hl)
theorem z_xret {ty : FieldType} (C : zR (cell := cell) l E adr ok eu ev A K cc own d s mL (some ty) post) {v : Int32} (hn : narrow ty (.int v) = .int v) (hd : decode cc pc = .ok (.ireturn, 1)) (h : post (some (.int v)) F) : Z K (zPP E adr cell ok ev F s) pc L [.int v] := by
  obtain ⟨p, e, m, args, below, meth, c, rfl, hx, hb, hml, hr, hlo, hown, hts, hK, he, hs⟩ := C
  intro H locs ls hS hP hl
  exact W.zret hx hb hr hn (fun t ht hW => ⟨⟨_, rfl, F, h, by rw [ht]; exact zPP.moved hs hW.alike hP⟩, hS.F ht⟩) hS.2.2 hd hlo
theorem z_callVS0 (C : zC (cell := cell) l E adr ok eu ev A K cc own R s mL) {q i m2 d2 : Nat} {y : MethodName} {c2 : ByteArray} {r2 : Option FieldType} {post2 : Option Value → σ → Prop} (hM : zMet l E adr cell ok eu ev A y c2 m2 r2 d2 (.ref q :: []) F post2) (hr : ∀ H, zPP E adr cell ok ev F s H → ∃ cel : Cell, H[q]? = some cel ∧ cel.vm.isStatics = false ∧ s.vm.findClass y.cls = some cel.cls) (hw : zLV own i y c2 m2 r2 0) (hR : d2 + 1 ≤ R.frames ∧ 8 + (m2 + 11) + 40 * d2 ≤ R.locals) (hroom : (st.map fun v => v.category).sum ≤ 8) (hd : decode cc pc = .ok (.invokevirtual i, 3))
    (kk : ∀ v F', post2 v F' → Z K (zPP E adr cell ok ev F' s) (pc + 3) L (v.toList ++ st)) : Z K (zPP E adr cell ok ev F s) pc L (.ref q :: st) := by
  obtain ⟨p, e, m, args, below, meth, c, n1, n2, Q, rfl, hx, hb, hml, hown, hts, hK, he, hs, hc1, hc2⟩ := C
  intro H locs ls hS hP hl
  refine z_run hs hS hl (va_runV (As := []) (rest := st) ⟨hx, hb, hml, hown, hts⟩ hM (cwV 0 hts hw.good rfl rfl rfl ⟨rfl, hw.2⟩ hR) ⟨zPP.blind hs, hr H hP, fun U hU hW => ⟨rfl, zPP.go hs hK he hP hU hW⟩⟩ rfl rfl hl.1 rfl (lv_room hroom) hd ⟨hc1, hc2⟩) kk
theorem z_callVS1 (C : zC (cell := cell) l E adr ok eu ev A K cc own R s mL) {q i m2 d2 : Nat} {y : MethodName} {c2 : ByteArray} {r2 : Option FieldType} {post2 : Option Value → σ → Prop} {a1 : Value} (hM : zMet l E adr cell ok eu ev A y c2 m2 r2 d2 (.ref q :: [a1]) F post2) (hr : ∀ H, zPP E adr cell ok ev F s H → ∃ cel : Cell, H[q]? = some cel ∧ cel.vm.isStatics = false ∧ s.vm.findClass y.cls = some cel.cls) (hw : zLV own i y c2 m2 r2 1) (hR : d2 + 1 ≤ R.frames ∧ 8 + (m2 + 11) + 40 * d2 ≤ R.locals) (hroom : (st.map fun v => v.category).sum ≤ 8) (hd : decode cc pc = .ok (.invokevirtual i, 3))
    (kk : ∀ v F', post2 v F' → Z K (zPP E adr cell ok ev F' s) (pc + 3) L (v.toList ++ st)) : Z K (zPP E adr cell ok ev F s) pc L (a1 :: .ref q :: st) := by
  obtain ⟨p, e, m, args, below, meth, c, n1, n2, Q, rfl, hx, hb, hml, hown, hts, hK, he, hs, hc1, hc2⟩ := C
  intro H locs ls hS hP hl
  refine z_run hs hS hl (va_runV (As := [a1]) (rest := st) ⟨hx, hb, hml, hown, hts⟩ hM (cwV 1 hts hw.good rfl rfl rfl ⟨rfl, hw.2⟩ hR) ⟨zPP.blind hs, hr H hP, fun U hU hW => ⟨rfl, zPP.go hs hK he hP hU hW⟩⟩ rfl rfl hl.1 rfl (lv_room hroom) hd ⟨hc1, hc2⟩) kk
end ZS
theorem xs_recv {E : zE} {F : zF} {s : State} {H : Heap} {i : Nat} (h : XP E F s H) (hi : i < 8) : ∃ cel : Cell, H[E.2.2.2 (10 + i)]? = some cel ∧ cel.vm.isStatics = false ∧ s.vm.findClass "java/lang/String" = some cel.cls := by
  obtain ⟨cel, h1, h2, h3, -⟩ := (h.1.2.2.1.1 i hi).1
  exact ⟨cel, h1, h2, h3⟩
theorem zLen_all : ∀ i, i < 8 → zLen.getD i 0 ≤ 8 := by decide
theorem zLen_lt {i : Nat} (hi : i < 8) : zLen.getD i 0 < 2 ^ 31 := by have := zLen_all i hi; omega
theorem zch_all : ∀ i, i < 8 → ∀ k, k < 8 → (((zByt.getD i []).getD k 0 &&& 255).toUInt32 % 65536).toInt32 = (zByt.getD i []).getD k 0 ∧ narrow .char (.int ((zByt.getD i []).getD k 0)) = .int ((zByt.getD i []).getD k 0) := by decide +kernel
theorem zch_c2 {i k : Nat} (hi : i < 8) (hk : k < zLen.getD i 0) : (((zByt.getD i []).getD k 0 &&& 255).toUInt32 % 65536).toInt32 = (zByt.getD i []).getD k 0 := (zch_all i hi k (Nat.lt_of_lt_of_le hk (zLen_all i hi))).1
theorem zch_nar {i k : Nat} (hi : i < 8) (hk : k < zLen.getD i 0) : narrow .char (.int ((zByt.getD i []).getD k 0)) = .int ((zByt.getD i []).getD k 0) := (zch_all i hi k (Nat.lt_of_lt_of_le hk (zLen_all i hi))).2
theorem kq_J3 : plainName RJ3 = true := by decide +kernel
set_option maxRecDepth 100000 in
set_option maxHeartbeats 4000000 in
theorem c_coder (l : Launch) (E : zE) (F : zF) {i : Nat} (hi : i < 8) : XM l E yJ0_coder_7d493 cJ0_coder_7d493 1 (some .byte) 1 [.ref (E.2.2.2 (10 + i))] (F) (fun v F2 => v = some (.int 0) ∧ F2 = F) := by
  refine XM.mk kq_J0 (Nat.le_of_ble_eq_true rfl) (fun K s C0 => ?_)
  have C := C0.c
  refine z_gets C (fun H h => h.1.2.2.2.1) kf_J0_38 dJ0_coder_7d493_0 ?_
  refine z_if_eq C 13 dJ0_coder_7d493_3 (by decide) (fun h3 => ?_) (fun h3 => ?_)
  · exact absurd h3 (by decide)
  · skip
    refine z_aload_n C 0 dJ0_coder_7d493_6 rfl ?_
    refine z_ofg C (fun H h => (h.1.2.2.1.1 i hi).2.1) kf_J0_15 dJ0_coder_7d493_7 ?_
    refine z_goto C 14 dJ0_coder_7d493_10 (by decide) ?_
    refine z_xret C0 rfl dJ0_coder_7d493_14 ?_
    exact ⟨rfl, rfl⟩
set_option maxRecDepth 100000 in
set_option maxHeartbeats 4000000 in
theorem c_latin (l : Launch) (E : zE) (F : zF) {i : Nat} (hi : i < 8) : XM l E yJ0_isLatin1_aae02 cJ0_isLatin1_aae02 1 (some .boolean) 1 [.ref (E.2.2.2 (10 + i))] (F) (fun v F2 => v = some (.int 1) ∧ F2 = F) := by
  refine XM.mk kq_J0 (Nat.le_of_ble_eq_true rfl) (fun K s C0 => ?_)
  have C := C0.c
  refine z_gets C (fun H h => h.1.2.2.2.1) kf_J0_38 dJ0_isLatin1_aae02_0 ?_
  refine z_if_eq C 17 dJ0_isLatin1_aae02_3 (by decide) (fun h3 => ?_) (fun h3 => ?_)
  · exact absurd h3 (by decide)
  · skip
    refine z_aload_n C 0 dJ0_isLatin1_aae02_6 rfl ?_
    refine z_ofg C (fun H h => (h.1.2.2.1.1 i hi).2.1) kf_J0_15 dJ0_isLatin1_aae02_7 ?_
    refine z_if_ne C 17 dJ0_isLatin1_aae02_10 (by decide) (fun h10 => ?_) (fun h10 => ?_)
    · exact absurd h10 (by decide)
    · skip
      refine z_iconst C (v := 1) dJ0_isLatin1_aae02_13 rfl ?_
      refine z_goto C 18 dJ0_isLatin1_aae02_14 (by decide) ?_
      refine z_zret C0 rfl dJ0_isLatin1_aae02_18 ?_
      exact ⟨rfl, rfl⟩
set_option maxRecDepth 100000 in
set_option maxHeartbeats 4000000 in
theorem c_slen (l : Launch) (E : zE) (F : zF) {i : Nat} (hi : i < 8) : XM l E yJ0_length_8abf5 cJ0_length_8abf5 1 (some .int) 2 [.ref (E.2.2.2 (10 + i))] (F) (fun v F2 => v = some (.int (nI (zLen.getD i 0))) ∧ F2 = F) := by
  refine XM.mk kq_J0 (Nat.le_of_ble_eq_true rfl) (fun K s C0 => ?_)
  have C := C0.c
  refine z_aload_n C 0 dJ0_length_8abf5_0 rfl ?_
  refine z_ofg C (fun H h => (h.1.2.2.1.1 i hi).2.2.1) kf_J0_9 dJ0_length_8abf5_1 ?_
  refine z_tlen C (fun H h => (h.1.2.2.1.1 i hi).2.2.2) rfl dJ0_length_8abf5_4 ?_
  refine z_aload_n C 0 dJ0_length_8abf5_5 rfl ?_
  refine z_callVS0 C (c_coder l E _ hi) (fun H h => xs_recv h hi) q_J0_335 ⟨by decide, by decide⟩ (Nat.le_of_ble_eq_true rfl) dJ0_length_8abf5_6 (fun v F9 hp => ?_)
  obtain ⟨rfl, e9⟩ := hp
  rw [e9]
  clear e9 F9
  refine z_ishr C dJ0_length_8abf5_9 ?_
  refine z_top (nI (zLen.getD i 0)) (sc_shr0 (zLen_lt hi)) ?_
  refine z_iret C0 dJ0_length_8abf5_10 ?_
  exact ⟨rfl, rfl⟩
set_option maxRecDepth 100000 in
set_option maxHeartbeats 4000000 in
theorem c_pchk_r (l : Launch) (E : zE) (F : zF) {k n : Nat} (hk : k < n) (hn : n < 2 ^ 31) (t9 : Nat) : XM l E yJ3_checkIndex_8e157 cJ3_checkIndex_8e157 3 (some .int) 1 [.int (nI k), .int (nI n), .ref (t9)] (F) (fun v F2 => v = some (.int (nI k)) ∧ F2 = F) := by
  refine XM.mk kq_J3 (Nat.le_of_ble_eq_true rfl) (fun K s C0 => ?_)
  have C := C0.c
  refine z_iload_n C 0 dJ3_checkIndex_8e157_0 rfl ?_
  refine z_if_lt C 9 dJ3_checkIndex_8e157_1 (by decide) (fun h1 => ?_) (fun h1 => ?_)
  · exact absurd h1 (nI_pos (by omega))
  · skip
    refine z_iload_n C 0 dJ3_checkIndex_8e157_4 rfl ?_
    refine z_iload_n C 1 dJ3_checkIndex_8e157_5 rfl ?_
    refine z_icmp_lt C 16 dJ3_checkIndex_8e157_6 (by decide) (fun h6 => ?_) (fun h6 => ?_)
    · skip
      refine z_iload_n C 0 dJ3_checkIndex_8e157_16 rfl ?_
      refine z_iret C0 dJ3_checkIndex_8e157_17 ?_
      exact ⟨rfl, rfl⟩
    · exact absurd (nI_lt hk hn) h6
set_option maxRecDepth 100000 in
set_option maxHeartbeats 4000000 in
theorem c_pchk_n (l : Launch) (E : zE) (F : zF) {k n : Nat} (hk : k < n) (hn : n < 2 ^ 31) : XM l E yJ3_checkIndex_8e157 cJ3_checkIndex_8e157 3 (some .int) 1 [.int (nI k), .int (nI n), .null] (F) (fun v F2 => v = some (.int (nI k)) ∧ F2 = F) := by
  refine XM.mk kq_J3 (Nat.le_of_ble_eq_true rfl) (fun K s C0 => ?_)
  have C := C0.c
  refine z_iload_n C 0 dJ3_checkIndex_8e157_0 rfl ?_
  refine z_if_lt C 9 dJ3_checkIndex_8e157_1 (by decide) (fun h1 => ?_) (fun h1 => ?_)
  · exact absurd h1 (nI_pos (by omega))
  · skip
    refine z_iload_n C 0 dJ3_checkIndex_8e157_4 rfl ?_
    refine z_iload_n C 1 dJ3_checkIndex_8e157_5 rfl ?_
    refine z_icmp_lt C 16 dJ3_checkIndex_8e157_6 (by decide) (fun h6 => ?_) (fun h6 => ?_)
    · skip
      refine z_iload_n C 0 dJ3_checkIndex_8e157_16 rfl ?_
      refine z_iret C0 dJ3_checkIndex_8e157_17 ?_
      exact ⟨rfl, rfl⟩
    · exact absurd (nI_lt hk hn) h6
set_option maxRecDepth 100000 in
set_option maxHeartbeats 4000000 in
theorem c_schk (l : Launch) (E : zE) (F : zF) {k n : Nat} (hk : k < n) (hn : n < 2 ^ 31) : XM l E yJ0_checkIndex_df160 cJ0_checkIndex_df160 2 none 2 [.int (nI k), .int (nI n)] (F) (fun v F2 => v = none ∧ F2 = F) := by
  refine XM.mk kq_J0 (Nat.le_of_ble_eq_true rfl) (fun K s C0 => ?_)
  have C := C0.c
  refine z_iload_n C 0 dJ0_checkIndex_df160_0 rfl ?_
  refine z_iload_n C 1 dJ0_checkIndex_df160_1 rfl ?_
  refine z_getsq C (fun H h => h.1.2.2.2.2) kf_J0_1053 dJ0_checkIndex_df160_2 ?_ (fun t9 => ?_)
  · skip
    refine z_callS3 C (c_pchk_n l E _ hk hn) q_J0_1059 ⟨by decide, by decide⟩ (Nat.le_of_ble_eq_true rfl) dJ0_checkIndex_df160_5 (fun v F9 hp => ?_)
    obtain ⟨rfl, e9⟩ := hp
    rw [e9]
    clear e9 F9
    refine z_pop C dJ0_checkIndex_df160_8 rfl ?_
    refine z_vret C0 dJ0_checkIndex_df160_9 ?_
    exact ⟨rfl, rfl⟩
  · skip
    refine z_callS3 C (c_pchk_r l E _ hk hn _) q_J0_1059 ⟨by decide, by decide⟩ (Nat.le_of_ble_eq_true rfl) dJ0_checkIndex_df160_5 (fun v F9 hp => ?_)
    obtain ⟨rfl, e9⟩ := hp
    rw [e9]
    clear e9 F9
    refine z_pop C dJ0_checkIndex_df160_8 rfl ?_
    refine z_vret C0 dJ0_checkIndex_df160_9 ?_
    exact ⟨rfl, rfl⟩
set_option maxRecDepth 100000 in
set_option maxHeartbeats 4000000 in
theorem c_lchr (l : Launch) (E : zE) (F : zF) {i : Nat} (hi : i < 8) {k : Nat} (hk : k < zLen.getD i 0) : XM l E yJ1_charAt_3b067 cJ1_charAt_3b067 2 (some .char) 3 [.ref (E.2.2.2 (20 + i)), .int (nI k)] (F) (fun v F2 => v = some (.int ((zByt.getD i []).getD k 0)) ∧ F2 = F) := by
  refine XM.mk kq_J1 (Nat.le_of_ble_eq_true rfl) (fun K s C0 => ?_)
  have C := C0.c
  refine z_iload_n C 1 dJ1_charAt_3b067_0 rfl ?_
  refine z_aload_n C 0 dJ1_charAt_3b067_1 rfl ?_
  refine z_tlen C (fun H h => (h.1.2.2.1.1 i hi).2.2.2) rfl dJ1_charAt_3b067_2 ?_
  refine z_callS2 C (c_schk l E _ hk (zLen_lt hi)) q_J1_9 ⟨by decide, by decide⟩ (Nat.le_of_ble_eq_true rfl) dJ1_charAt_3b067_3 (fun v F9 hp => ?_)
  obtain ⟨rfl, e9⟩ := hp
  rw [e9]
  clear e9 F9
  refine z_aload_n C 0 dJ1_charAt_3b067_6 rfl ?_
  refine z_iload_n C 1 dJ1_charAt_3b067_7 rfl ?_
  refine z_tbld C k (fun H h => (h.1.2.2.1.1 i hi).2.2.2) rfl (by first | assumption | omega) (zLen_lt hi) rfl dJ1_charAt_3b067_8 ?_
  refine z_sipush C (v := 255) dJ1_charAt_3b067_9 rfl ?_
  refine z_iand C dJ1_charAt_3b067_12 ?_
  refine z_i2c C dJ1_charAt_3b067_13 ?_
  refine z_top ((zByt.getD i []).getD k 0) (zch_c2 hi hk) ?_
  refine z_xret C0 (zch_nar hi hk) dJ1_charAt_3b067_14 ?_
  exact ⟨rfl, rfl⟩
set_option maxRecDepth 100000 in
set_option maxHeartbeats 4000000 in
theorem c_schr (l : Launch) (E : zE) (F : zF) {i : Nat} (hi : i < 8) {k : Nat} (hk : k < zLen.getD i 0) : XM l E yJ0_charAt_5068e cJ0_charAt_5068e 2 (some .char) 4 [.ref (E.2.2.2 (10 + i)), .int (nI k)] (F) (fun v F2 => v = some (.int ((zByt.getD i []).getD k 0)) ∧ F2 = F) := by
  refine XM.mk kq_J0 (Nat.le_of_ble_eq_true rfl) (fun K s C0 => ?_)
  have C := C0.c
  refine z_aload_n C 0 dJ0_charAt_5068e_0 rfl ?_
  refine z_callVS0 C (c_latin l E _ hi) (fun H h => xs_recv h hi) q_J0_492 ⟨by decide, by decide⟩ (Nat.le_of_ble_eq_true rfl) dJ0_charAt_5068e_1 (fun v F9 hp => ?_)
  obtain ⟨rfl, e9⟩ := hp
  rw [e9]
  clear e9 F9
  refine z_if_eq C 16 dJ0_charAt_5068e_4 (by decide) (fun h4 => ?_) (fun h4 => ?_)
  · exact absurd h4 (by decide)
  · skip
    refine z_aload_n C 0 dJ0_charAt_5068e_7 rfl ?_
    refine z_ofg C (fun H h => (h.1.2.2.1.1 i hi).2.2.1) kf_J0_9 dJ0_charAt_5068e_8 ?_
    refine z_iload_n C 1 dJ0_charAt_5068e_11 rfl ?_
    refine z_callS2 C (c_lchr l E _ hi hk) q_J0_495 ⟨by decide, by decide⟩ (Nat.le_of_ble_eq_true rfl) dJ0_charAt_5068e_12 (fun v F9 hp => ?_)
    obtain ⟨rfl, e9⟩ := hp
    rw [e9]
    clear e9 F9
    refine z_xret C0 (zch_nar hi hk) dJ0_charAt_5068e_15 ?_
    exact ⟨rfl, rfl⟩
