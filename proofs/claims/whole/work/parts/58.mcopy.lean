/-! the reference: what a shelf says, copies -/
def und (is k : Int32) : Bool := (decide (k = 1) && decide (is = 3)) || (decide (k = 2) && decide (is = 5)) || (decide (k = 4) && decide (is = 6))
def kSaysM (M : zM) (s k : Int32) : Int32 := if inR s 8 = false then -1 else if inR k 7 = false then -1 else if M.2.2.1 21 s.toNatClampNeg = 1 then -2 else if M.2.2.1 21 s.toNatClampNeg = 0 then -3 else if k = 0 ∨ k = M.1.2.1 (M.2.2.1 24 s.toNatClampNeg).toNatClampNeg 0 ∨ und (M.1.2.1 (M.2.2.1 24 s.toNatClampNeg).toNatClampNeg 0) k = true then 0 else -2
def kCopyM (M : zM) (p q i j n : Int32) : Int32 := if inR p 8 = false then -1 else if inR q 8 = false then -1
  else if M.2.2.1 21 p.toNatClampNeg = 2 ∨ M.2.2.1 21 q.toNatClampNeg = 2 ∨ (M.2.2.1 21 p.toNatClampNeg = 1 ∧ M.2.2.1 21 q.toNatClampNeg = 1 ∧ ¬ M.2.2.1 22 p.toNatClampNeg = M.2.2.1 22 q.toNatClampNeg) then -2
  else if M.2.2.1 21 p.toNatClampNeg = 0 ∨ M.2.2.1 21 q.toNatClampNeg = 0 then -3 else if n < 0 then -4
  else if i < 0 ∨ j < 0 ∨ M.2.2.1 23 p.toNatClampNeg - n < i ∨ M.2.2.1 23 q.toNatClampNeg - n < j then -5 else 0
def cy1 (f t : Nat → Int64) (x0 k : Nat) : Nat → Int64 := fun x => if x < k then f (x0 + x) else t x
def cy2 (f t : Nat → Int64) (x0 k : Nat) : Nat → Int64 := fun x => if x0 ≤ x ∧ x < x0 + k then t (x - x0) else f x
def mCpy (M : zM) (p q a b c : Nat) : zM := mJ (mJ M 26 (cy1 (M.2.2.2 25) (M.2.2.2 26) (160 * p + a) c)) 25 (cy2 (M.2.2.2 25) (cy1 (M.2.2.2 25) (M.2.2.2 26) (160 * p + a) c) (160 * q + b) c)
theorem cy1_0 {M : zM} {f : Nat → Int64} {x0 : Nat} : mJ M 26 (cy1 f (M.2.2.2 26) x0 0) = M := by
  have e : cy1 f (M.2.2.2 26) x0 0 = M.2.2.2 26 := by funext x; unfold cy1; rw [if_neg (by omega)]
  unfold mJ
  rw [e, va_up_id]
theorem cy1_s {M : zM} {x0 k : Nat} : mJ (mJ M 26 (cy1 (M.2.2.2 25) (M.2.2.2 26) x0 k)) 26 (vp_updL ((mJ M 26 (cy1 (M.2.2.2 25) (M.2.2.2 26) x0 k)).2.2.2 26) k ((mJ M 26 (cy1 (M.2.2.2 25) (M.2.2.2 26) x0 k)).2.2.2 25 (x0 + k))) = mJ M 26 (cy1 (M.2.2.2 25) (M.2.2.2 26) x0 (k + 1)) := by
  unfold mJ
  simp only [va_up_self, va_up_up]
  congr 4
  funext x
  rw [va_up_ne _ _ (show (25 : Nat) ≠ 26 by decide)]
  unfold vp_updL cy1
  by_cases h : x = k
  · subst h; rw [if_pos rfl, if_pos (by omega)]
  · rw [if_neg h]
    by_cases h2 : x < k
    · rw [if_pos h2, if_pos (by omega)]
    · rw [if_neg h2, if_neg (by omega)]
theorem cy2_0 {M : zM} {t : Nat → Int64} {x0 : Nat} {f : Nat → Int64} : mJ (mJ M 26 t) 25 (cy2 (M.2.2.2 25) f x0 0) = mJ M 26 t := by
  have e : cy2 (M.2.2.2 25) f x0 0 = (mJ M 26 t).2.2.2 25 := by
    funext x
    unfold cy2
    rw [if_neg (by omega)]
    show _ = va_up M.2.2.2 26 t 25 x
    rw [va_up_ne _ _ (show (25 : Nat) ≠ 26 by decide)]
  rw [e]
  unfold mJ
  rw [va_up_id]
theorem cy2_s {M : zM} {t : Nat → Int64} {x0 k c : Nat} (hk : k < c) : mJ (mJ (mJ M 26 t) 25 (cy2 (M.2.2.2 25) t x0 k)) 25 (vp_updL ((mJ (mJ M 26 t) 25 (cy2 (M.2.2.2 25) t x0 k)).2.2.2 25) (x0 + k) ((mJ (mJ M 26 t) 25 (cy2 (M.2.2.2 25) t x0 k)).2.2.2 26 k)) = mJ (mJ M 26 t) 25 (cy2 (M.2.2.2 25) t x0 (k + 1)) := by
  unfold mJ
  simp only [va_up_self, va_up_up]
  congr 4
  funext x
  rw [va_up_ne _ _ (show (26 : Nat) ≠ 25 by decide), va_up_self]
  unfold vp_updL cy2
  by_cases h : x = x0 + k
  · subst h; rw [if_pos rfl, if_pos (by omega), Nat.add_sub_cancel_left]
  · rw [if_neg h]
    by_cases h2 : x0 ≤ x ∧ x < x0 + k
    · rw [if_pos h2, if_pos (by omega)]
    · rw [if_neg h2, if_neg (by omega)]
theorem cpy_r {i n : Int32} {L : Nat} (hL : L ≤ 160) (hi : ¬ i < 0) (hn : ¬ n < 0) (h : ¬ nI L - n < i) : ∃ a c, i = nI a ∧ n = nI c ∧ a + c ≤ L := by
  obtain ⟨a, ha, rfl⟩ := nI_of hi
  obtain ⟨c, hc, rfl⟩ := nI_of hn
  refine ⟨a, c, rfl, rfl, ?_⟩
  have e1 := nI_toInt (n := L) (by omega)
  have e2 := nI_toInt hc
  have e3 := nI_toInt ha
  rw [i_lt, i_sub (by rw [e1, e2]; omega) (by rw [e1, e2]; omega), e1, e2, e3] at h
  omega
set_option maxRecDepth 100000 in
set_option maxHeartbeats 4000000 in
theorem jn_X7_says {l : Launch} {E : zE} {K : zK} {s : State} (M : zM) (hz : gz M.1) (hsm : sms M.1) (h012 : ∀ j, j < 8 → M.2.2.1 21 j = 0 ∨ M.2.2.1 21 j = 1 ∨ M.2.2.1 21 j = 2) (hsh : ∀ j, j < 8 → M.2.2.1 21 j = 2 → ∃ p, p < nS M.1 ∧ M.2.2.1 24 j = nI p) (sh k : Int32) {j p : Nat} (hj : j < 8) (hp : p < nS M.1) (h5 : inR sh 8 = true) (h9 : ¬ k < 0) (h15 : k ≤ 6) (h31 : ¬ M.2.2.1 21 j = 1) (h47 : ¬ M.2.2.1 21 j = 0) (es : sh = nI j) (esh : M.2.2.1 24 j = nI p) (C0 : MR l E K cX7_says RX7 3 s 6 (some .int) (mpo M (kSaysM M sh k) (saysS (M.1.2.1 (M.2.2.1 24 sh.toNatClampNeg).toNatClampNeg) k) (fun M2 => M2 = M))) : Z K (MP E (M) s) 113 [(0, .ref (madr E.2.2.1 (0, 0, 0))), (2, .int (k)), (3, .int (nI p)), (4, .int ((M.1.2.1 p 0))), (5, .int (bI (und (M.1.2.1 p 0) k)))] [] := by
  have C := C0.c
  obtain ⟨⟨eS, lS⟩, ⟨eC, lC⟩⟩ := id hz
  have hp6 : p < 6 := by omega
  have ejj : (nI j).toNatClampNeg = j := nI_clamp (by omega)
  have epp : (M.2.2.1 24 j).toNatClampNeg = p := by rw [esh]; exact nI_clamp (by omega)
  have hs0 : inR sh 8 = true := h5
  have hk7 : inR k 7 = true := inRle_t (a := 6) (b := 7) rfl h9 h15
  refine z_iload_n C 1 dX7_says_113 rfl ?_
  refine z_if_eq C 135 dX7_says_114 (by decide) (fun h114 => ?_) (fun h114 => ?_)
  · skip
    refine z_iload_n C 1 dX7_says_135 rfl ?_
    refine z_case (0) (fun h136_0 => ?_) (fun h136_0 => ?_)
    · refine z_tabIn C (0) (40) 176 h136_0 dX7_says_136 (by decide) (by decide) ?_
      refine z_aload_n C 0 dX7_says_176 rfl ?_
      refine mg_12 C dX7_says_177 ?_
      refine z_iload_n C 2 dX7_says_180 rfl ?_
      refine ml_12 C p rfl (by first | assumption | omega) dX7_says_181 ?_
      refine z_iret C0 dX7_says_182 ?_
      have hk0 : kSaysM M sh k = 0 := by unfold kSaysM; rw [hs0, if_neg (by decide), hk7, if_neg (by decide), es, ejj, if_neg h31, if_neg h47, epp, if_pos (Or.inl h114)]
      exact mpo.ok hk0 (by rw [es, ejj, epp]; unfold saysS; rw [if_pos h136_0] <;> rfl) rfl
    refine z_case (1) (fun h136_1 => ?_) (fun h136_1 => ?_)
    · refine z_tabIn C (1) (47) 183 h136_1 dX7_says_136 (by decide) (by decide) ?_
      refine z_aload_n C 0 dX7_says_183 rfl ?_
      refine z_iload_n C 2 dX7_says_184 rfl ?_
      refine z_callV1 C (c_X7_asked l E _ hp6 (hsm p hp)) ⟨rfl, rfl⟩ rfl rfl q_X7_131 ⟨by decide, by decide⟩ (Nat.le_of_ble_eq_true rfl) dX7_says_185 (fun v F9 hp => ?_)
      obtain ⟨rfl, e9⟩ := hp
      rw [e9]
      clear e9 F9
      refine z_aload_n C 0 dX7_says_188 rfl ?_
      refine mg_12 C dX7_says_189 ?_
      refine z_iload_n C 2 dX7_says_192 rfl ?_
      refine ml_12 C p rfl (by first | assumption | omega) dX7_says_193 ?_
      refine z_isub C dX7_says_194 ?_
      refine z_iret C0 dX7_says_195 ?_
      have hk0 : kSaysM M sh k = 0 := by unfold kSaysM; rw [hs0, if_neg (by decide), hk7, if_neg (by decide), es, ejj, if_neg h31, if_neg h47, epp, if_pos (Or.inl h114)]
      exact mpo.ok hk0 (by rw [es, ejj, epp]; unfold saysS; rw [if_neg h136_0, if_pos h136_1] <;> rfl) rfl
    refine z_case (2) (fun h136_2 => ?_) (fun h136_2 => ?_)
    · refine z_tabIn C (2) (60) 196 h136_2 dX7_says_136 (by decide) (by decide) ?_
      refine z_aload_n C 0 dX7_says_196 rfl ?_
      refine mg_14 C dX7_says_197 ?_
      refine z_iload_n C 2 dX7_says_200 rfl ?_
      refine ml_14 C p rfl (by first | assumption | omega) dX7_says_201 ?_
      refine z_iret C0 dX7_says_202 ?_
      have hk0 : kSaysM M sh k = 0 := by unfold kSaysM; rw [hs0, if_neg (by decide), hk7, if_neg (by decide), es, ejj, if_neg h31, if_neg h47, epp, if_pos (Or.inl h114)]
      exact mpo.ok hk0 (by rw [es, ejj, epp]; unfold saysS; rw [if_neg h136_0, if_neg h136_1, if_pos h136_2] <;> rfl) rfl
    refine z_case (3) (fun h136_3 => ?_) (fun h136_3 => ?_)
    · refine z_tabIn C (3) (47) 183 h136_3 dX7_says_136 (by decide) (by decide) ?_
      refine z_aload_n C 0 dX7_says_183 rfl ?_
      refine z_iload_n C 2 dX7_says_184 rfl ?_
      refine z_callV1 C (c_X7_asked l E _ hp6 (hsm p hp)) ⟨rfl, rfl⟩ rfl rfl q_X7_131 ⟨by decide, by decide⟩ (Nat.le_of_ble_eq_true rfl) dX7_says_185 (fun v F9 hp => ?_)
      obtain ⟨rfl, e9⟩ := hp
      rw [e9]
      clear e9 F9
      refine z_aload_n C 0 dX7_says_188 rfl ?_
      refine mg_12 C dX7_says_189 ?_
      refine z_iload_n C 2 dX7_says_192 rfl ?_
      refine ml_12 C p rfl (by first | assumption | omega) dX7_says_193 ?_
      refine z_isub C dX7_says_194 ?_
      refine z_iret C0 dX7_says_195 ?_
      have hk0 : kSaysM M sh k = 0 := by unfold kSaysM; rw [hs0, if_neg (by decide), hk7, if_neg (by decide), es, ejj, if_neg h31, if_neg h47, epp, if_pos (Or.inl h114)]
      exact mpo.ok hk0 (by rw [es, ejj, epp]; unfold saysS; rw [if_neg h136_0, if_neg h136_1, if_neg h136_2, if_pos h136_3] <;> rfl) rfl
    refine z_case (4) (fun h136_4 => ?_) (fun h136_4 => ?_)
    · refine z_tabIn C (4) (67) 203 h136_4 dX7_says_136 (by decide) (by decide) ?_
      refine z_aload_n C 0 dX7_says_203 rfl ?_
      refine z_iload_n C 2 dX7_says_204 rfl ?_
      refine z_callV1 C (c_X7_asked l E _ hp6 (hsm p hp)) ⟨rfl, rfl⟩ rfl rfl q_X7_131 ⟨by decide, by decide⟩ (Nat.le_of_ble_eq_true rfl) dX7_says_205 (fun v F9 hp => ?_)
      obtain ⟨rfl, e9⟩ := hp
      rw [e9]
      clear e9 F9
      refine z_iret C0 dX7_says_208 ?_
      have hk0 : kSaysM M sh k = 0 := by unfold kSaysM; rw [hs0, if_neg (by decide), hk7, if_neg (by decide), es, ejj, if_neg h31, if_neg h47, epp, if_pos (Or.inl h114)]
      exact mpo.ok hk0 (by rw [es, ejj, epp]; unfold saysS; rw [if_neg h136_0, if_neg h136_1, if_neg h136_2, if_neg h136_3, if_pos h136_4] <;> rfl) rfl
    refine z_case (5) (fun h136_5 => ?_) (fun h136_5 => ?_)
    · refine z_tabIn C (5) (60) 196 h136_5 dX7_says_136 (by decide) (by decide) ?_
      refine z_aload_n C 0 dX7_says_196 rfl ?_
      refine mg_14 C dX7_says_197 ?_
      refine z_iload_n C 2 dX7_says_200 rfl ?_
      refine ml_14 C p rfl (by first | assumption | omega) dX7_says_201 ?_
      refine z_iret C0 dX7_says_202 ?_
      have hk0 : kSaysM M sh k = 0 := by unfold kSaysM; rw [hs0, if_neg (by decide), hk7, if_neg (by decide), es, ejj, if_neg h31, if_neg h47, epp, if_pos (Or.inl h114)]
      exact mpo.ok hk0 (by rw [es, ejj, epp]; unfold saysS; rw [if_neg h136_0, if_neg h136_1, if_neg h136_2, if_neg h136_3, if_neg h136_4, if_pos h136_5] <;> rfl) rfl
    refine z_tabOut C 203 (by have q0 := lv_neT (a := (0)) h136_0 rfl; have q1 := lv_neT (a := (1)) h136_1 rfl; have q2 := lv_neT (a := (2)) h136_2 rfl; have q3 := lv_neT (a := (3)) h136_3 rfl; have q4 := lv_neT (a := (4)) h136_4 rfl; have q5 := lv_neT (a := (5)) h136_5 rfl; omega) dX7_says_136 (by decide) ?_
    refine z_aload_n C 0 dX7_says_203 rfl ?_
    refine z_iload_n C 2 dX7_says_204 rfl ?_
    refine z_callV1 C (c_X7_asked l E _ hp6 (hsm p hp)) ⟨rfl, rfl⟩ rfl rfl q_X7_131 ⟨by decide, by decide⟩ (Nat.le_of_ble_eq_true rfl) dX7_says_205 (fun v F9 hp => ?_)
    obtain ⟨rfl, e9⟩ := hp
    rw [e9]
    clear e9 F9
    refine z_iret C0 dX7_says_208 ?_
    have hk0 : kSaysM M sh k = 0 := by unfold kSaysM; rw [hs0, if_neg (by decide), hk7, if_neg (by decide), es, ejj, if_neg h31, if_neg h47, epp, if_pos (Or.inl h114)]
    exact mpo.ok hk0 (by rw [es, ejj, epp]; unfold saysS; rw [if_neg h136_0, if_neg h136_1, if_neg h136_2, if_neg h136_3, if_neg h136_4, if_neg h136_5] <;> rfl) rfl
  · skip
    refine z_iload_n C 1 dX7_says_117 rfl ?_
    refine z_iload C 3 dX7_says_118 rfl ?_
    refine z_icmp_eq C 135 dX7_says_120 (by decide) (fun h120 => ?_) (fun h120 => ?_)
    · skip
      refine z_iload_n C 1 dX7_says_135 rfl ?_
      refine z_case (0) (fun h136_0 => ?_) (fun h136_0 => ?_)
      · refine z_tabIn C (0) (40) 176 h136_0 dX7_says_136 (by decide) (by decide) ?_
        refine z_aload_n C 0 dX7_says_176 rfl ?_
        refine mg_12 C dX7_says_177 ?_
        refine z_iload_n C 2 dX7_says_180 rfl ?_
        refine ml_12 C p rfl (by first | assumption | omega) dX7_says_181 ?_
        refine z_iret C0 dX7_says_182 ?_
        have hk0 : kSaysM M sh k = 0 := by unfold kSaysM; rw [hs0, if_neg (by decide), hk7, if_neg (by decide), es, ejj, if_neg h31, if_neg h47, epp, if_pos (Or.inr (Or.inl h120))]
        exact mpo.ok hk0 (by rw [es, ejj, epp]; unfold saysS; rw [if_pos h136_0] <;> rfl) rfl
      refine z_case (1) (fun h136_1 => ?_) (fun h136_1 => ?_)
      · refine z_tabIn C (1) (47) 183 h136_1 dX7_says_136 (by decide) (by decide) ?_
        refine z_aload_n C 0 dX7_says_183 rfl ?_
        refine z_iload_n C 2 dX7_says_184 rfl ?_
        refine z_callV1 C (c_X7_asked l E _ hp6 (hsm p hp)) ⟨rfl, rfl⟩ rfl rfl q_X7_131 ⟨by decide, by decide⟩ (Nat.le_of_ble_eq_true rfl) dX7_says_185 (fun v F9 hp => ?_)
        obtain ⟨rfl, e9⟩ := hp
        rw [e9]
        clear e9 F9
        refine z_aload_n C 0 dX7_says_188 rfl ?_
        refine mg_12 C dX7_says_189 ?_
        refine z_iload_n C 2 dX7_says_192 rfl ?_
        refine ml_12 C p rfl (by first | assumption | omega) dX7_says_193 ?_
        refine z_isub C dX7_says_194 ?_
        refine z_iret C0 dX7_says_195 ?_
        have hk0 : kSaysM M sh k = 0 := by unfold kSaysM; rw [hs0, if_neg (by decide), hk7, if_neg (by decide), es, ejj, if_neg h31, if_neg h47, epp, if_pos (Or.inr (Or.inl h120))]
        exact mpo.ok hk0 (by rw [es, ejj, epp]; unfold saysS; rw [if_neg h136_0, if_pos h136_1] <;> rfl) rfl
      refine z_case (2) (fun h136_2 => ?_) (fun h136_2 => ?_)
      · refine z_tabIn C (2) (60) 196 h136_2 dX7_says_136 (by decide) (by decide) ?_
        refine z_aload_n C 0 dX7_says_196 rfl ?_
        refine mg_14 C dX7_says_197 ?_
        refine z_iload_n C 2 dX7_says_200 rfl ?_
        refine ml_14 C p rfl (by first | assumption | omega) dX7_says_201 ?_
        refine z_iret C0 dX7_says_202 ?_
        have hk0 : kSaysM M sh k = 0 := by unfold kSaysM; rw [hs0, if_neg (by decide), hk7, if_neg (by decide), es, ejj, if_neg h31, if_neg h47, epp, if_pos (Or.inr (Or.inl h120))]
        exact mpo.ok hk0 (by rw [es, ejj, epp]; unfold saysS; rw [if_neg h136_0, if_neg h136_1, if_pos h136_2] <;> rfl) rfl
      refine z_case (3) (fun h136_3 => ?_) (fun h136_3 => ?_)
      · refine z_tabIn C (3) (47) 183 h136_3 dX7_says_136 (by decide) (by decide) ?_
        refine z_aload_n C 0 dX7_says_183 rfl ?_
        refine z_iload_n C 2 dX7_says_184 rfl ?_
        refine z_callV1 C (c_X7_asked l E _ hp6 (hsm p hp)) ⟨rfl, rfl⟩ rfl rfl q_X7_131 ⟨by decide, by decide⟩ (Nat.le_of_ble_eq_true rfl) dX7_says_185 (fun v F9 hp => ?_)
        obtain ⟨rfl, e9⟩ := hp
        rw [e9]
        clear e9 F9
        refine z_aload_n C 0 dX7_says_188 rfl ?_
        refine mg_12 C dX7_says_189 ?_
        refine z_iload_n C 2 dX7_says_192 rfl ?_
        refine ml_12 C p rfl (by first | assumption | omega) dX7_says_193 ?_
        refine z_isub C dX7_says_194 ?_
        refine z_iret C0 dX7_says_195 ?_
        have hk0 : kSaysM M sh k = 0 := by unfold kSaysM; rw [hs0, if_neg (by decide), hk7, if_neg (by decide), es, ejj, if_neg h31, if_neg h47, epp, if_pos (Or.inr (Or.inl h120))]
        exact mpo.ok hk0 (by rw [es, ejj, epp]; unfold saysS; rw [if_neg h136_0, if_neg h136_1, if_neg h136_2, if_pos h136_3] <;> rfl) rfl
      refine z_case (4) (fun h136_4 => ?_) (fun h136_4 => ?_)
      · refine z_tabIn C (4) (67) 203 h136_4 dX7_says_136 (by decide) (by decide) ?_
        refine z_aload_n C 0 dX7_says_203 rfl ?_
        refine z_iload_n C 2 dX7_says_204 rfl ?_
        refine z_callV1 C (c_X7_asked l E _ hp6 (hsm p hp)) ⟨rfl, rfl⟩ rfl rfl q_X7_131 ⟨by decide, by decide⟩ (Nat.le_of_ble_eq_true rfl) dX7_says_205 (fun v F9 hp => ?_)
        obtain ⟨rfl, e9⟩ := hp
        rw [e9]
        clear e9 F9
        refine z_iret C0 dX7_says_208 ?_
        have hk0 : kSaysM M sh k = 0 := by unfold kSaysM; rw [hs0, if_neg (by decide), hk7, if_neg (by decide), es, ejj, if_neg h31, if_neg h47, epp, if_pos (Or.inr (Or.inl h120))]
        exact mpo.ok hk0 (by rw [es, ejj, epp]; unfold saysS; rw [if_neg h136_0, if_neg h136_1, if_neg h136_2, if_neg h136_3, if_pos h136_4] <;> rfl) rfl
      refine z_case (5) (fun h136_5 => ?_) (fun h136_5 => ?_)
      · refine z_tabIn C (5) (60) 196 h136_5 dX7_says_136 (by decide) (by decide) ?_
        refine z_aload_n C 0 dX7_says_196 rfl ?_
        refine mg_14 C dX7_says_197 ?_
        refine z_iload_n C 2 dX7_says_200 rfl ?_
        refine ml_14 C p rfl (by first | assumption | omega) dX7_says_201 ?_
        refine z_iret C0 dX7_says_202 ?_
        have hk0 : kSaysM M sh k = 0 := by unfold kSaysM; rw [hs0, if_neg (by decide), hk7, if_neg (by decide), es, ejj, if_neg h31, if_neg h47, epp, if_pos (Or.inr (Or.inl h120))]
        exact mpo.ok hk0 (by rw [es, ejj, epp]; unfold saysS; rw [if_neg h136_0, if_neg h136_1, if_neg h136_2, if_neg h136_3, if_neg h136_4, if_pos h136_5] <;> rfl) rfl
      refine z_tabOut C 203 (by have q0 := lv_neT (a := (0)) h136_0 rfl; have q1 := lv_neT (a := (1)) h136_1 rfl; have q2 := lv_neT (a := (2)) h136_2 rfl; have q3 := lv_neT (a := (3)) h136_3 rfl; have q4 := lv_neT (a := (4)) h136_4 rfl; have q5 := lv_neT (a := (5)) h136_5 rfl; omega) dX7_says_136 (by decide) ?_
      refine z_aload_n C 0 dX7_says_203 rfl ?_
      refine z_iload_n C 2 dX7_says_204 rfl ?_
      refine z_callV1 C (c_X7_asked l E _ hp6 (hsm p hp)) ⟨rfl, rfl⟩ rfl rfl q_X7_131 ⟨by decide, by decide⟩ (Nat.le_of_ble_eq_true rfl) dX7_says_205 (fun v F9 hp => ?_)
      obtain ⟨rfl, e9⟩ := hp
      rw [e9]
      clear e9 F9
      refine z_iret C0 dX7_says_208 ?_
      have hk0 : kSaysM M sh k = 0 := by unfold kSaysM; rw [hs0, if_neg (by decide), hk7, if_neg (by decide), es, ejj, if_neg h31, if_neg h47, epp, if_pos (Or.inr (Or.inl h120))]
      exact mpo.ok hk0 (by rw [es, ejj, epp]; unfold saysS; rw [if_neg h136_0, if_neg h136_1, if_neg h136_2, if_neg h136_3, if_neg h136_4, if_neg h136_5] <;> rfl) rfl
    · skip
      refine z_iload C 4 dX7_says_123 rfl ?_
      refine z_if_ne C 135 dX7_says_125 (by decide) (fun h125 => ?_) (fun h125 => ?_)
      · skip
        have h125 := bI_1 h125
        refine z_iload_n C 1 dX7_says_135 rfl ?_
        refine z_case (0) (fun h136_0 => ?_) (fun h136_0 => ?_)
        · refine z_tabIn C (0) (40) 176 h136_0 dX7_says_136 (by decide) (by decide) ?_
          refine z_aload_n C 0 dX7_says_176 rfl ?_
          refine mg_12 C dX7_says_177 ?_
          refine z_iload_n C 2 dX7_says_180 rfl ?_
          refine ml_12 C p rfl (by first | assumption | omega) dX7_says_181 ?_
          refine z_iret C0 dX7_says_182 ?_
          have hk0 : kSaysM M sh k = 0 := by unfold kSaysM; rw [hs0, if_neg (by decide), hk7, if_neg (by decide), es, ejj, if_neg h31, if_neg h47, epp, if_pos (Or.inr (Or.inr h125))]
          exact mpo.ok hk0 (by rw [es, ejj, epp]; unfold saysS; rw [if_pos h136_0] <;> rfl) rfl
        refine z_case (1) (fun h136_1 => ?_) (fun h136_1 => ?_)
        · refine z_tabIn C (1) (47) 183 h136_1 dX7_says_136 (by decide) (by decide) ?_
          refine z_aload_n C 0 dX7_says_183 rfl ?_
          refine z_iload_n C 2 dX7_says_184 rfl ?_
          refine z_callV1 C (c_X7_asked l E _ hp6 (hsm p hp)) ⟨rfl, rfl⟩ rfl rfl q_X7_131 ⟨by decide, by decide⟩ (Nat.le_of_ble_eq_true rfl) dX7_says_185 (fun v F9 hp => ?_)
          obtain ⟨rfl, e9⟩ := hp
          rw [e9]
          clear e9 F9
          refine z_aload_n C 0 dX7_says_188 rfl ?_
          refine mg_12 C dX7_says_189 ?_
          refine z_iload_n C 2 dX7_says_192 rfl ?_
          refine ml_12 C p rfl (by first | assumption | omega) dX7_says_193 ?_
          refine z_isub C dX7_says_194 ?_
          refine z_iret C0 dX7_says_195 ?_
          have hk0 : kSaysM M sh k = 0 := by unfold kSaysM; rw [hs0, if_neg (by decide), hk7, if_neg (by decide), es, ejj, if_neg h31, if_neg h47, epp, if_pos (Or.inr (Or.inr h125))]
          exact mpo.ok hk0 (by rw [es, ejj, epp]; unfold saysS; rw [if_neg h136_0, if_pos h136_1] <;> rfl) rfl
        refine z_case (2) (fun h136_2 => ?_) (fun h136_2 => ?_)
        · refine z_tabIn C (2) (60) 196 h136_2 dX7_says_136 (by decide) (by decide) ?_
          refine z_aload_n C 0 dX7_says_196 rfl ?_
          refine mg_14 C dX7_says_197 ?_
          refine z_iload_n C 2 dX7_says_200 rfl ?_
          refine ml_14 C p rfl (by first | assumption | omega) dX7_says_201 ?_
          refine z_iret C0 dX7_says_202 ?_
          have hk0 : kSaysM M sh k = 0 := by unfold kSaysM; rw [hs0, if_neg (by decide), hk7, if_neg (by decide), es, ejj, if_neg h31, if_neg h47, epp, if_pos (Or.inr (Or.inr h125))]
          exact mpo.ok hk0 (by rw [es, ejj, epp]; unfold saysS; rw [if_neg h136_0, if_neg h136_1, if_pos h136_2] <;> rfl) rfl
        refine z_case (3) (fun h136_3 => ?_) (fun h136_3 => ?_)
        · refine z_tabIn C (3) (47) 183 h136_3 dX7_says_136 (by decide) (by decide) ?_
          refine z_aload_n C 0 dX7_says_183 rfl ?_
          refine z_iload_n C 2 dX7_says_184 rfl ?_
          refine z_callV1 C (c_X7_asked l E _ hp6 (hsm p hp)) ⟨rfl, rfl⟩ rfl rfl q_X7_131 ⟨by decide, by decide⟩ (Nat.le_of_ble_eq_true rfl) dX7_says_185 (fun v F9 hp => ?_)
          obtain ⟨rfl, e9⟩ := hp
          rw [e9]
          clear e9 F9
          refine z_aload_n C 0 dX7_says_188 rfl ?_
          refine mg_12 C dX7_says_189 ?_
          refine z_iload_n C 2 dX7_says_192 rfl ?_
          refine ml_12 C p rfl (by first | assumption | omega) dX7_says_193 ?_
          refine z_isub C dX7_says_194 ?_
          refine z_iret C0 dX7_says_195 ?_
          have hk0 : kSaysM M sh k = 0 := by unfold kSaysM; rw [hs0, if_neg (by decide), hk7, if_neg (by decide), es, ejj, if_neg h31, if_neg h47, epp, if_pos (Or.inr (Or.inr h125))]
          exact mpo.ok hk0 (by rw [es, ejj, epp]; unfold saysS; rw [if_neg h136_0, if_neg h136_1, if_neg h136_2, if_pos h136_3] <;> rfl) rfl
        refine z_case (4) (fun h136_4 => ?_) (fun h136_4 => ?_)
        · refine z_tabIn C (4) (67) 203 h136_4 dX7_says_136 (by decide) (by decide) ?_
          refine z_aload_n C 0 dX7_says_203 rfl ?_
          refine z_iload_n C 2 dX7_says_204 rfl ?_
          refine z_callV1 C (c_X7_asked l E _ hp6 (hsm p hp)) ⟨rfl, rfl⟩ rfl rfl q_X7_131 ⟨by decide, by decide⟩ (Nat.le_of_ble_eq_true rfl) dX7_says_205 (fun v F9 hp => ?_)
          obtain ⟨rfl, e9⟩ := hp
          rw [e9]
          clear e9 F9
          refine z_iret C0 dX7_says_208 ?_
          have hk0 : kSaysM M sh k = 0 := by unfold kSaysM; rw [hs0, if_neg (by decide), hk7, if_neg (by decide), es, ejj, if_neg h31, if_neg h47, epp, if_pos (Or.inr (Or.inr h125))]
          exact mpo.ok hk0 (by rw [es, ejj, epp]; unfold saysS; rw [if_neg h136_0, if_neg h136_1, if_neg h136_2, if_neg h136_3, if_pos h136_4] <;> rfl) rfl
        refine z_case (5) (fun h136_5 => ?_) (fun h136_5 => ?_)
        · refine z_tabIn C (5) (60) 196 h136_5 dX7_says_136 (by decide) (by decide) ?_
          refine z_aload_n C 0 dX7_says_196 rfl ?_
          refine mg_14 C dX7_says_197 ?_
          refine z_iload_n C 2 dX7_says_200 rfl ?_
          refine ml_14 C p rfl (by first | assumption | omega) dX7_says_201 ?_
          refine z_iret C0 dX7_says_202 ?_
          have hk0 : kSaysM M sh k = 0 := by unfold kSaysM; rw [hs0, if_neg (by decide), hk7, if_neg (by decide), es, ejj, if_neg h31, if_neg h47, epp, if_pos (Or.inr (Or.inr h125))]
          exact mpo.ok hk0 (by rw [es, ejj, epp]; unfold saysS; rw [if_neg h136_0, if_neg h136_1, if_neg h136_2, if_neg h136_3, if_neg h136_4, if_pos h136_5] <;> rfl) rfl
        refine z_tabOut C 203 (by have q0 := lv_neT (a := (0)) h136_0 rfl; have q1 := lv_neT (a := (1)) h136_1 rfl; have q2 := lv_neT (a := (2)) h136_2 rfl; have q3 := lv_neT (a := (3)) h136_3 rfl; have q4 := lv_neT (a := (4)) h136_4 rfl; have q5 := lv_neT (a := (5)) h136_5 rfl; omega) dX7_says_136 (by decide) ?_
        refine z_aload_n C 0 dX7_says_203 rfl ?_
        refine z_iload_n C 2 dX7_says_204 rfl ?_
        refine z_callV1 C (c_X7_asked l E _ hp6 (hsm p hp)) ⟨rfl, rfl⟩ rfl rfl q_X7_131 ⟨by decide, by decide⟩ (Nat.le_of_ble_eq_true rfl) dX7_says_205 (fun v F9 hp => ?_)
        obtain ⟨rfl, e9⟩ := hp
        rw [e9]
        clear e9 F9
        refine z_iret C0 dX7_says_208 ?_
        have hk0 : kSaysM M sh k = 0 := by unfold kSaysM; rw [hs0, if_neg (by decide), hk7, if_neg (by decide), es, ejj, if_neg h31, if_neg h47, epp, if_pos (Or.inr (Or.inr h125))]
        exact mpo.ok hk0 (by rw [es, ejj, epp]; unfold saysS; rw [if_neg h136_0, if_neg h136_1, if_neg h136_2, if_neg h136_3, if_neg h136_4, if_neg h136_5] <;> rfl) rfl
      · skip
        have h125 := bI_0 h125
        refine z_aload_n C 0 dX7_says_128 rfl ?_
        refine z_bipush C (v := (-2)) dX7_says_129 rfl ?_
        refine z_callV1 C (c_X7_no l E _ (-2) 2 (by decide) (by decide) (by decide)) ⟨rfl, rfl⟩ rfl rfl q_X7_124 ⟨by decide, by decide⟩ (Nat.le_of_ble_eq_true rfl) dX7_says_131 (fun v F9 hp => ?_)
        obtain ⟨rfl, e9⟩ := hp
        rw [e9]
        clear e9 F9
        refine z_iret C0 dX7_says_134 ?_
        exact mpo.ref (by unfold kSaysM; rw [hs0, if_neg (by decide), hk7, if_neg (by decide), es, ejj, if_neg h31, if_neg h47, epp, if_neg (by rintro (z | z | z); exact h114 z; exact h120 z; exact absurd (h125.symm.trans z) (by decide))]) (by decide)
set_option maxRecDepth 100000 in
set_option maxHeartbeats 4000000 in
theorem c_X7_says (l : Launch) (E : zE) (M : zM) (hz : gz M.1) (hsm : sms M.1) (h012 : ∀ j, j < 8 → M.2.2.1 21 j = 0 ∨ M.2.2.1 21 j = 1 ∨ M.2.2.1 21 j = 2) (hsh : ∀ j, j < 8 → M.2.2.1 21 j = 2 → ∃ p, p < nS M.1 ∧ M.2.2.1 24 j = nI p) (sh k : Int32) : MM l E yX7_says cX7_says 6 (some .int) 3 [.ref (madr E.2.2.1 (0, 0, 0)), .int (sh), .int (k)] (M) (mpo M (kSaysM M sh k) (saysS (M.1.2.1 (M.2.2.1 24 sh.toNatClampNeg).toNatClampNeg) k) (fun M2 => M2 = M)) := by
  refine MM.mk kq_X7 (Nat.le_of_ble_eq_true rfl) (fun K s C0 => ?_)
  have C := C0.c
  obtain ⟨⟨eS, lS⟩, ⟨eC, lC⟩⟩ := id hz
  refine z_aload_n C 0 dX7_says_0 rfl ?_
  refine z_iload_n C 1 dX7_says_1 rfl ?_
  refine z_callV1 C (c_X7_isShelf l E _ _) ⟨rfl, rfl⟩ rfl rfl q_X7_120 ⟨by decide, by decide⟩ (Nat.le_of_ble_eq_true rfl) dX7_says_2 (fun v F9 hp => ?_)
  obtain ⟨rfl, e9⟩ := hp
  rw [e9]
  clear e9 F9
  refine z_if_eq C 18 dX7_says_5 (by decide) (fun h5 => ?_) (fun h5 => ?_)
  · skip
    have h5 := bI_0 h5
    refine z_aload_n C 0 dX7_says_18 rfl ?_
    refine z_iconst C (v := (-1)) dX7_says_19 rfl ?_
    refine z_callV1 C (c_X7_no l E _ (-1) 1 (by decide) (by decide) (by decide)) ⟨rfl, rfl⟩ rfl rfl q_X7_124 ⟨by decide, by decide⟩ (Nat.le_of_ble_eq_true rfl) dX7_says_20 (fun v F9 hp => ?_)
    obtain ⟨rfl, e9⟩ := hp
    rw [e9]
    clear e9 F9
    refine z_iret C0 dX7_says_23 ?_
    exact mpo.ref (by unfold kSaysM; rw [h5]; rfl) (by decide)
  · skip
    have h5 := bI_1 h5
    refine z_iload_n C 2 dX7_says_8 rfl ?_
    refine z_if_lt C 18 dX7_says_9 (by decide) (fun h9 => ?_) (fun h9 => ?_)
    · skip
      refine z_aload_n C 0 dX7_says_18 rfl ?_
      refine z_iconst C (v := (-1)) dX7_says_19 rfl ?_
      refine z_callV1 C (c_X7_no l E _ (-1) 1 (by decide) (by decide) (by decide)) ⟨rfl, rfl⟩ rfl rfl q_X7_124 ⟨by decide, by decide⟩ (Nat.le_of_ble_eq_true rfl) dX7_says_20 (fun v F9 hp => ?_)
      obtain ⟨rfl, e9⟩ := hp
      rw [e9]
      clear e9 F9
      refine z_iret C0 dX7_says_23 ?_
      exact mpo.ref (by unfold kSaysM; rw [show inR sh 8 = true from h5, if_neg (by decide), inR_f1 h9]; rfl) (by decide)
    · skip
      refine z_iload_n C 2 dX7_says_12 rfl ?_
      refine z_bipush C (v := 6) dX7_says_13 rfl ?_
      refine z_icmp_le C 24 dX7_says_15 (by decide) (fun h15 => ?_) (fun h15 => ?_)
      · skip
        obtain ⟨j, hj, es⟩ := inR_of (n := 8) h5 (by omega)
        have ejj : sh.toNatClampNeg = j := by rw [es]; exact nI_clamp (by omega)
        refine z_eq (L2 := [(0, .ref (madr E.2.2.1 (0, 0, 0))), (1, .int (nI j)), (2, .int k)]) rfl rfl (by rw [es]; rfl) rfl ?_
        refine z_aload_n C 0 dX7_says_24 rfl ?_
        refine mg_21 C dX7_says_25 ?_
        refine z_iload_n C 1 dX7_says_28 rfl ?_
        refine ml_21 C j rfl (by first | assumption | omega) dX7_says_29 ?_
        refine z_iconst C (v := 1) dX7_says_30 rfl ?_
        refine z_icmp_ne C 41 dX7_says_31 (by decide) (fun h31 => ?_) (fun h31 => ?_)
        · skip
          refine z_aload_n C 0 dX7_says_41 rfl ?_
          refine mg_21 C dX7_says_42 ?_
          refine z_iload_n C 1 dX7_says_45 rfl ?_
          refine ml_21 C j rfl (by first | assumption | omega) dX7_says_46 ?_
          refine z_if_ne C 57 dX7_says_47 (by decide) (fun h47 => ?_) (fun h47 => ?_)
          · skip
            obtain ⟨p, hp, esh⟩ := hsh j hj ((h012 j hj).resolve_left h47 |>.resolve_left h31)
            have hp6 : p < 6 := by omega
            refine z_aload_n C 0 dX7_says_57 rfl ?_
            refine mg_24 C dX7_says_58 ?_
            refine z_iload_n C 1 dX7_says_61 rfl ?_
            refine ml_24 C j rfl (by first | assumption | omega) dX7_says_62 ?_
            refine z_top (nI p) (esh) ?_
            refine z_istore_n (i := 3) C dX7_says_63 rfl (by decide) ?_
            refine z_aload_n C 1 dX7_says_64 rfl ?_
            refine mg_10 C dX7_says_65 ?_
            refine z_iload_n C 0 dX7_says_68 rfl ?_
            refine ml_10 C p rfl (by first | assumption | omega) dX7_says_69 ?_
            refine z_istore C dX7_says_70 (by decide) ?_
            refine z_iload_n C 4 dX7_says_72 rfl ?_
            refine z_iconst C (v := 1) dX7_says_73 rfl ?_
            refine z_icmp_ne C 83 dX7_says_74 (by decide) (fun h74 => ?_) (fun h74 => ?_)
            · skip
              refine z_iload_n C 4 dX7_says_83 rfl ?_
              refine z_iconst C (v := 2) dX7_says_84 rfl ?_
              refine z_icmp_ne C 94 dX7_says_85 (by decide) (fun h85 => ?_) (fun h85 => ?_)
              · skip
                refine z_iload_n C 4 dX7_says_94 rfl ?_
                refine z_iconst C (v := 4) dX7_says_95 rfl ?_
                refine z_icmp_ne C 110 dX7_says_96 (by decide) (fun h96 => ?_) (fun h96 => ?_)
                · skip
                  refine z_iconst C (v := 0) dX7_says_110 rfl ?_
                  refine z_istore C dX7_says_111 (by decide) ?_
                  refine z_pick [3, 5, 2, 1, 0] rfl ?_
                  have e : und (M.1.2.1 p 0) k = false := by unfold und; first | (simp [h74, h85, h96]; done) | exact absurd (h74.symm.trans h85) (by decide) | exact absurd (h74.symm.trans h96) (by decide) | exact absurd (h85.symm.trans h96) (by decide)
                  have q := jn_X7_says M hz hsm h012 hsh sh k hj hp h5 h9 h15 h31 h47 es esh C0
                  rw [e] at q
                  exact q
                · skip
                  refine z_iload C 0 dX7_says_99 rfl ?_
                  refine z_bipush C (v := 6) dX7_says_101 rfl ?_
                  refine z_icmp_ne C 110 dX7_says_103 (by decide) (fun h103 => ?_) (fun h103 => ?_)
                  · skip
                    refine z_iconst C (v := 0) dX7_says_110 rfl ?_
                    refine z_istore C dX7_says_111 (by decide) ?_
                    refine z_pick [3, 5, 2, 1, 0] rfl ?_
                    have e : und (M.1.2.1 p 0) k = false := by unfold und; first | (simp [h74, h85, h96, h103]; done) | exact absurd (h74.symm.trans h85) (by decide) | exact absurd (h74.symm.trans h96) (by decide) | exact absurd (h85.symm.trans h96) (by decide)
                    have q := jn_X7_says M hz hsm h012 hsh sh k hj hp h5 h9 h15 h31 h47 es esh C0
                    rw [e] at q
                    exact q
                  · skip
                    refine z_iconst C (v := 1) dX7_says_106 rfl ?_
                    refine z_goto C 111 dX7_says_107 (by decide) ?_
                    refine z_istore C dX7_says_111 (by decide) ?_
                    refine z_pick [3, 5, 2, 1, 0] rfl ?_
                    have e : und (M.1.2.1 p 0) k = true := by unfold und; first | (simp [h74, h85, h96, h103]; done) | exact absurd (h74.symm.trans h85) (by decide) | exact absurd (h74.symm.trans h96) (by decide) | exact absurd (h85.symm.trans h96) (by decide)
                    have q := jn_X7_says M hz hsm h012 hsh sh k hj hp h5 h9 h15 h31 h47 es esh C0
                    rw [e] at q
                    exact q
              · skip
                refine z_iload C 0 dX7_says_88 rfl ?_
                refine z_iconst C (v := 5) dX7_says_90 rfl ?_
                refine z_icmp_eq C 106 dX7_says_91 (by decide) (fun h91 => ?_) (fun h91 => ?_)
                · skip
                  refine z_iconst C (v := 1) dX7_says_106 rfl ?_
                  refine z_goto C 111 dX7_says_107 (by decide) ?_
                  refine z_istore C dX7_says_111 (by decide) ?_
                  refine z_pick [3, 5, 2, 1, 0] rfl ?_
                  have e : und (M.1.2.1 p 0) k = true := by unfold und; first | (simp [h74, h85, h91]; done) | exact absurd (h74.symm.trans h85) (by decide) | exact absurd (h74.symm.trans h96) (by decide) | exact absurd (h85.symm.trans h96) (by decide)
                  have q := jn_X7_says M hz hsm h012 hsh sh k hj hp h5 h9 h15 h31 h47 es esh C0
                  rw [e] at q
                  exact q
                · skip
                  refine z_iload_n C 4 dX7_says_94 rfl ?_
                  refine z_iconst C (v := 4) dX7_says_95 rfl ?_
                  refine z_icmp_ne C 110 dX7_says_96 (by decide) (fun h96 => ?_) (fun h96 => ?_)
                  · skip
                    refine z_iconst C (v := 0) dX7_says_110 rfl ?_
                    refine z_istore C dX7_says_111 (by decide) ?_
                    refine z_pick [3, 5, 2, 1, 0] rfl ?_
                    have e : und (M.1.2.1 p 0) k = false := by unfold und; first | (simp [h74, h85, h91, h96]; done) | exact absurd (h74.symm.trans h85) (by decide) | exact absurd (h74.symm.trans h96) (by decide) | exact absurd (h85.symm.trans h96) (by decide)
                    have q := jn_X7_says M hz hsm h012 hsh sh k hj hp h5 h9 h15 h31 h47 es esh C0
                    rw [e] at q
                    exact q
                  · skip
                    refine z_iload C 0 dX7_says_99 rfl ?_
                    refine z_bipush C (v := 6) dX7_says_101 rfl ?_
                    refine z_icmp_ne C 110 dX7_says_103 (by decide) (fun h103 => ?_) (fun h103 => ?_)
                    · skip
                      refine z_iconst C (v := 0) dX7_says_110 rfl ?_
                      refine z_istore C dX7_says_111 (by decide) ?_
                      refine z_pick [3, 5, 2, 1, 0] rfl ?_
                      have e : und (M.1.2.1 p 0) k = false := by unfold und; first | (simp [h74, h85, h91, h96, h103]; done) | exact absurd (h74.symm.trans h85) (by decide) | exact absurd (h74.symm.trans h96) (by decide) | exact absurd (h85.symm.trans h96) (by decide)
                      have q := jn_X7_says M hz hsm h012 hsh sh k hj hp h5 h9 h15 h31 h47 es esh C0
                      rw [e] at q
                      exact q
                    · skip
                      refine z_iconst C (v := 1) dX7_says_106 rfl ?_
                      refine z_goto C 111 dX7_says_107 (by decide) ?_
                      refine z_istore C dX7_says_111 (by decide) ?_
                      refine z_pick [3, 5, 2, 1, 0] rfl ?_
                      have e : und (M.1.2.1 p 0) k = true := by unfold und; first | (simp [h74, h85, h91, h96, h103]; done) | exact absurd (h74.symm.trans h85) (by decide) | exact absurd (h74.symm.trans h96) (by decide) | exact absurd (h85.symm.trans h96) (by decide)
                      have q := jn_X7_says M hz hsm h012 hsh sh k hj hp h5 h9 h15 h31 h47 es esh C0
                      rw [e] at q
                      exact q
            · skip
              refine z_iload C 0 dX7_says_77 rfl ?_
              refine z_iconst C (v := 3) dX7_says_79 rfl ?_
              refine z_icmp_eq C 106 dX7_says_80 (by decide) (fun h80 => ?_) (fun h80 => ?_)
              · skip
                refine z_iconst C (v := 1) dX7_says_106 rfl ?_
                refine z_goto C 111 dX7_says_107 (by decide) ?_
                refine z_istore C dX7_says_111 (by decide) ?_
                refine z_pick [3, 5, 2, 1, 0] rfl ?_
                have e : und (M.1.2.1 p 0) k = true := by unfold und; first | (simp [h74, h80]; done) | exact absurd (h74.symm.trans h85) (by decide) | exact absurd (h74.symm.trans h96) (by decide) | exact absurd (h85.symm.trans h96) (by decide)
                have q := jn_X7_says M hz hsm h012 hsh sh k hj hp h5 h9 h15 h31 h47 es esh C0
                rw [e] at q
                exact q
              · skip
                refine z_iload_n C 4 dX7_says_83 rfl ?_
                refine z_iconst C (v := 2) dX7_says_84 rfl ?_
                refine z_icmp_ne C 94 dX7_says_85 (by decide) (fun h85 => ?_) (fun h85 => ?_)
                · skip
                  refine z_iload_n C 4 dX7_says_94 rfl ?_
                  refine z_iconst C (v := 4) dX7_says_95 rfl ?_
                  refine z_icmp_ne C 110 dX7_says_96 (by decide) (fun h96 => ?_) (fun h96 => ?_)
                  · skip
                    refine z_iconst C (v := 0) dX7_says_110 rfl ?_
                    refine z_istore C dX7_says_111 (by decide) ?_
                    refine z_pick [3, 5, 2, 1, 0] rfl ?_
                    have e : und (M.1.2.1 p 0) k = false := by unfold und; first | (simp [h74, h80, h85, h96]; done) | exact absurd (h74.symm.trans h85) (by decide) | exact absurd (h74.symm.trans h96) (by decide) | exact absurd (h85.symm.trans h96) (by decide)
                    have q := jn_X7_says M hz hsm h012 hsh sh k hj hp h5 h9 h15 h31 h47 es esh C0
                    rw [e] at q
                    exact q
                  · skip
                    refine z_iload C 0 dX7_says_99 rfl ?_
                    refine z_bipush C (v := 6) dX7_says_101 rfl ?_
                    refine z_icmp_ne C 110 dX7_says_103 (by decide) (fun h103 => ?_) (fun h103 => ?_)
                    · skip
                      refine z_iconst C (v := 0) dX7_says_110 rfl ?_
                      refine z_istore C dX7_says_111 (by decide) ?_
                      refine z_pick [3, 5, 2, 1, 0] rfl ?_
                      have e : und (M.1.2.1 p 0) k = false := by unfold und; first | (simp [h74, h80, h85, h96, h103]; done) | exact absurd (h74.symm.trans h85) (by decide) | exact absurd (h74.symm.trans h96) (by decide) | exact absurd (h85.symm.trans h96) (by decide)
                      have q := jn_X7_says M hz hsm h012 hsh sh k hj hp h5 h9 h15 h31 h47 es esh C0
                      rw [e] at q
                      exact q
                    · skip
                      refine z_iconst C (v := 1) dX7_says_106 rfl ?_
                      refine z_goto C 111 dX7_says_107 (by decide) ?_
                      refine z_istore C dX7_says_111 (by decide) ?_
                      refine z_pick [3, 5, 2, 1, 0] rfl ?_
                      have e : und (M.1.2.1 p 0) k = true := by unfold und; first | (simp [h74, h80, h85, h96, h103]; done) | exact absurd (h74.symm.trans h85) (by decide) | exact absurd (h74.symm.trans h96) (by decide) | exact absurd (h85.symm.trans h96) (by decide)
                      have q := jn_X7_says M hz hsm h012 hsh sh k hj hp h5 h9 h15 h31 h47 es esh C0
                      rw [e] at q
                      exact q
                · skip
                  refine z_iload C 0 dX7_says_88 rfl ?_
                  refine z_iconst C (v := 5) dX7_says_90 rfl ?_
                  refine z_icmp_eq C 106 dX7_says_91 (by decide) (fun h91 => ?_) (fun h91 => ?_)
                  · skip
                    refine z_iconst C (v := 1) dX7_says_106 rfl ?_
                    refine z_goto C 111 dX7_says_107 (by decide) ?_
                    refine z_istore C dX7_says_111 (by decide) ?_
                    refine z_pick [3, 5, 2, 1, 0] rfl ?_
                    have e : und (M.1.2.1 p 0) k = true := by unfold und; first | (simp [h74, h80, h85, h91]; done) | exact absurd (h74.symm.trans h85) (by decide) | exact absurd (h74.symm.trans h96) (by decide) | exact absurd (h85.symm.trans h96) (by decide)
                    have q := jn_X7_says M hz hsm h012 hsh sh k hj hp h5 h9 h15 h31 h47 es esh C0
                    rw [e] at q
                    exact q
                  · skip
                    refine z_iload_n C 4 dX7_says_94 rfl ?_
                    refine z_iconst C (v := 4) dX7_says_95 rfl ?_
                    refine z_icmp_ne C 110 dX7_says_96 (by decide) (fun h96 => ?_) (fun h96 => ?_)
                    · skip
                      refine z_iconst C (v := 0) dX7_says_110 rfl ?_
                      refine z_istore C dX7_says_111 (by decide) ?_
                      refine z_pick [3, 5, 2, 1, 0] rfl ?_
                      have e : und (M.1.2.1 p 0) k = false := by unfold und; first | (simp [h74, h80, h85, h91, h96]; done) | exact absurd (h74.symm.trans h85) (by decide) | exact absurd (h74.symm.trans h96) (by decide) | exact absurd (h85.symm.trans h96) (by decide)
                      have q := jn_X7_says M hz hsm h012 hsh sh k hj hp h5 h9 h15 h31 h47 es esh C0
                      rw [e] at q
                      exact q
                    · skip
                      refine z_iload C 0 dX7_says_99 rfl ?_
                      refine z_bipush C (v := 6) dX7_says_101 rfl ?_
                      refine z_icmp_ne C 110 dX7_says_103 (by decide) (fun h103 => ?_) (fun h103 => ?_)
                      · skip
                        refine z_iconst C (v := 0) dX7_says_110 rfl ?_
                        refine z_istore C dX7_says_111 (by decide) ?_
                        refine z_pick [3, 5, 2, 1, 0] rfl ?_
                        have e : und (M.1.2.1 p 0) k = false := by unfold und; first | (simp [h74, h80, h85, h91, h96, h103]; done) | exact absurd (h74.symm.trans h85) (by decide) | exact absurd (h74.symm.trans h96) (by decide) | exact absurd (h85.symm.trans h96) (by decide)
                        have q := jn_X7_says M hz hsm h012 hsh sh k hj hp h5 h9 h15 h31 h47 es esh C0
                        rw [e] at q
                        exact q
                      · skip
                        refine z_iconst C (v := 1) dX7_says_106 rfl ?_
                        refine z_goto C 111 dX7_says_107 (by decide) ?_
                        refine z_istore C dX7_says_111 (by decide) ?_
                        refine z_pick [3, 5, 2, 1, 0] rfl ?_
                        have e : und (M.1.2.1 p 0) k = true := by unfold und; first | (simp [h74, h80, h85, h91, h96, h103]; done) | exact absurd (h74.symm.trans h85) (by decide) | exact absurd (h74.symm.trans h96) (by decide) | exact absurd (h85.symm.trans h96) (by decide)
                        have q := jn_X7_says M hz hsm h012 hsh sh k hj hp h5 h9 h15 h31 h47 es esh C0
                        rw [e] at q
                        exact q
          · skip
            refine z_aload_n C 0 dX7_says_50 rfl ?_
            refine z_bipush C (v := (-3)) dX7_says_51 rfl ?_
            refine z_callV1 C (c_X7_no l E _ (-3) 3 (by decide) (by decide) (by decide)) ⟨rfl, rfl⟩ rfl rfl q_X7_124 ⟨by decide, by decide⟩ (Nat.le_of_ble_eq_true rfl) dX7_says_53 (fun v F9 hp => ?_)
            obtain ⟨rfl, e9⟩ := hp
            rw [e9]
            clear e9 F9
            refine z_iret C0 dX7_says_56 ?_
            exact mpo.ref (by unfold kSaysM; rw [h5, if_neg (by decide), inRle_t (a := 6) (b := 7) rfl h9 h15, if_neg (by decide), ejj, if_neg h31, if_pos h47]) (by decide)
        · skip
          refine z_aload_n C 0 dX7_says_34 rfl ?_
          refine z_bipush C (v := (-2)) dX7_says_35 rfl ?_
          refine z_callV1 C (c_X7_no l E _ (-2) 2 (by decide) (by decide) (by decide)) ⟨rfl, rfl⟩ rfl rfl q_X7_124 ⟨by decide, by decide⟩ (Nat.le_of_ble_eq_true rfl) dX7_says_37 (fun v F9 hp => ?_)
          obtain ⟨rfl, e9⟩ := hp
          rw [e9]
          clear e9 F9
          refine z_iret C0 dX7_says_40 ?_
          exact mpo.ref (by unfold kSaysM; rw [h5, if_neg (by decide), inRle_t (a := 6) (b := 7) rfl h9 h15, if_neg (by decide), ejj, if_pos h31]) (by decide)
      · skip
        refine z_aload_n C 0 dX7_says_18 rfl ?_
        refine z_iconst C (v := (-1)) dX7_says_19 rfl ?_
        refine z_callV1 C (c_X7_no l E _ (-1) 1 (by decide) (by decide) (by decide)) ⟨rfl, rfl⟩ rfl rfl q_X7_124 ⟨by decide, by decide⟩ (Nat.le_of_ble_eq_true rfl) dX7_says_20 (fun v F9 hp => ?_)
        obtain ⟨rfl, e9⟩ := hp
        rw [e9]
        clear e9 F9
        refine z_iret C0 dX7_says_23 ?_
        exact mpo.ref (by unfold kSaysM; rw [show inR sh 8 = true from h5, if_neg (by decide), inRle_f (a := 6) (b := 7) rfl (Int32.not_le.mp h15)]; rfl) (by decide)
set_option maxRecDepth 100000 in
set_option maxHeartbeats 4000000 in
theorem lp_X7_copy2 {l : Launch} {E : zE} {K : zK} {s : State} (M : zM) (hsz : ∀ j, j < 8 → M.2.2.1 21 j = 1 → ∃ n, n ≤ 160 ∧ M.2.2.1 23 j = nI n) (h012 : ∀ j, j < 8 → M.2.2.1 21 j = 0 ∨ M.2.2.1 21 j = 1 ∨ M.2.2.1 21 j = 2) (p q i j n : Int32) {p1 q1 a b c : Nat} (hp1 : p1 < 8) (hq1 : q1 < 8) (hac : a + c ≤ 160) (hbc : b + c ≤ 160) (hk0 : kCopyM M p q i j n = 0) (epc : p.toNatClampNeg = p1) (eqc : q.toNatClampNeg = q1) (ei : i = nI a) (ejj : j = nI b) (en : n = nI c) (C0 : MR l E K cX7_copy RX7 2 s 7 (some .int) (mpo M (kCopyM M p q i j n) 1 (fun M2 => M2 = mCpy M p.toNatClampNeg q.toNatClampNeg i.toNatClampNeg j.toNatClampNeg n.toNatClampNeg))) : ∀ (n2 : Nat) (k : Nat), (c - k < n2) → (k ≤ c) → Z K (MP E (mJ (mJ M 26 (cy1 (M.2.2.2 25) (M.2.2.2 26) (160 * p1 + a) c)) 25 (cy2 (M.2.2.2 25) (cy1 (M.2.2.2 25) (M.2.2.2 26) (160 * p1 + a) c) (160 * q1 + b) k)) s) 205 [(0, .ref (madr E.2.2.1 (0, 0, 0))), (1, .int (nI p1)), (2, .int (nI q1)), (3, .int (nI a)), (4, .int (nI b)), (5, .int (nI c)), (6, .int (nI k))] [] := by
  have C := C0.c
  intro n2
  induction n2 with
  | zero => intro k hk hkl; exact absurd hk (Nat.not_lt_zero _)
  | succ n2 ih =>
    intro k hk hkl
    refine z_iload C 6 dX7_copy_205 rfl ?_
    refine z_iload C 5 dX7_copy_207 rfl ?_
    refine z_icmp_ge C 241 dX7_copy_209 (by decide) (fun h209 => ?_) (fun h209 => ?_)
    · skip
      refine z_iconst C (v := 1) dX7_copy_241 rfl ?_
      refine z_iret C0 dX7_copy_242 ?_
      have ekc : k = c := by
        rcases Nat.lt_or_ge k (c) with q | q
        · exact absurd h209 (nI_ge q (by omega))
        · omega
      subst ekc
      exact mpo.ok hk0 rfl (by rw [epc, eqc, ei, ejj, en, nI_clamp (by omega), nI_clamp (by omega), nI_clamp (by omega)]; rfl)
    · skip
      have hkc : k < c := by
        rcases Nat.lt_or_ge k (c) with q | q
        · exact q
        · exact absurd (nI_le q (by omega)) h209
      refine z_aload_n C 0 dX7_copy_212 rfl ?_
      refine mg_25 C dX7_copy_213 ?_
      refine z_sipush C (v := 160) dX7_copy_216 rfl ?_
      refine z_iload_n C 2 dX7_copy_219 rfl ?_
      refine z_imul C dX7_copy_220 ?_
      refine z_top (nI (160 * q1)) (ix160 q1) ?_
      refine z_iload C 4 dX7_copy_221 rfl ?_
      refine z_iadd C dX7_copy_223 ?_
      refine z_top (nI (160 * q1 + b)) (nI_add _ _) ?_
      refine z_iload C 6 dX7_copy_224 rfl ?_
      refine z_iadd C dX7_copy_226 ?_
      refine z_top (nI (160 * q1 + b + k)) (nI_add _ _) ?_
      refine z_aload_n C 0 dX7_copy_227 rfl ?_
      refine mg_26 C dX7_copy_228 ?_
      refine z_iload C 6 dX7_copy_231 rfl ?_
      refine ml_26 C k rfl (by first | assumption | omega) dX7_copy_233 ?_
      refine ms_25 C (160 * q1 + b + k) rfl (by first | assumption | omega) dX7_copy_234 ?_
      refine z_iinc C (v := nI (k + 1)) 6 dX7_copy_235 rfl (nI_1 _) (by decide) ?_
      refine z_goto C 205 dX7_copy_238 (by decide) ?_
      refine z_pick [1, 2, 3, 4, 5, 6, 0] rfl ?_
      have q0 := ih (k + 1) (by omega) (by omega)
      rw [← cy2_s hkc] at q0
      exact q0
set_option maxRecDepth 100000 in
set_option maxHeartbeats 4000000 in
theorem lp_X7_copy1 {l : Launch} {E : zE} {K : zK} {s : State} (M : zM) (hsz : ∀ j, j < 8 → M.2.2.1 21 j = 1 → ∃ n, n ≤ 160 ∧ M.2.2.1 23 j = nI n) (h012 : ∀ j, j < 8 → M.2.2.1 21 j = 0 ∨ M.2.2.1 21 j = 1 ∨ M.2.2.1 21 j = 2) (p q i j n : Int32) {p1 q1 a b c : Nat} (hp1 : p1 < 8) (hq1 : q1 < 8) (hac : a + c ≤ 160) (hbc : b + c ≤ 160) (hk0 : kCopyM M p q i j n = 0) (epc : p.toNatClampNeg = p1) (eqc : q.toNatClampNeg = q1) (ei : i = nI a) (ejj : j = nI b) (en : n = nI c) (C0 : MR l E K cX7_copy RX7 2 s 7 (some .int) (mpo M (kCopyM M p q i j n) 1 (fun M2 => M2 = mCpy M p.toNatClampNeg q.toNatClampNeg i.toNatClampNeg j.toNatClampNeg n.toNatClampNeg))) : ∀ (n2 : Nat) (k : Nat), (c - k < n2) → (k ≤ c) → Z K (MP E (mJ M 26 (cy1 (M.2.2.2 25) (M.2.2.2 26) (160 * p1 + a) k)) s) 167 [(0, .ref (madr E.2.2.1 (0, 0, 0))), (1, .int (nI p1)), (2, .int (nI q1)), (3, .int (nI a)), (4, .int (nI b)), (5, .int (nI c)), (6, .int (nI k))] [] := by
  have C := C0.c
  intro n2
  induction n2 with
  | zero => intro k hk hkl; exact absurd hk (Nat.not_lt_zero _)
  | succ n2 ih =>
    intro k hk hkl
    refine z_iload C 6 dX7_copy_167 rfl ?_
    refine z_iload C 5 dX7_copy_169 rfl ?_
    refine z_icmp_ge C 202 dX7_copy_171 (by decide) (fun h171 => ?_) (fun h171 => ?_)
    · skip
      refine z_iconst C (v := 0) dX7_copy_202 rfl ?_
      refine z_istore C dX7_copy_203 (by decide) ?_
      refine z_pick [1, 2, 3, 4, 5, 6, 0] rfl ?_
      have ekc : k = c := by
        rcases Nat.lt_or_ge k (c) with q | q
        · exact absurd h171 (nI_ge q (by omega))
        · omega
      subst ekc
      have q0 := lp_X7_copy2 M hsz h012 p q i j n hp1 hq1 (a := a) (b := b) (c := k) hac hbc hk0 epc eqc ei ejj en C0 (k + 1) 0 (by omega) (by omega)
      rw [cy2_0] at q0
      exact q0
    · skip
      have hkc : k < c := by
        rcases Nat.lt_or_ge k (c) with q | q
        · exact q
        · exact absurd (nI_le q (by omega)) h171
      refine z_aload_n C 0 dX7_copy_174 rfl ?_
      refine mg_26 C dX7_copy_175 ?_
      refine z_iload C 6 dX7_copy_178 rfl ?_
      refine z_aload_n C 0 dX7_copy_180 rfl ?_
      refine mg_25 C dX7_copy_181 ?_
      refine z_sipush C (v := 160) dX7_copy_184 rfl ?_
      refine z_iload_n C 1 dX7_copy_187 rfl ?_
      refine z_imul C dX7_copy_188 ?_
      refine z_top (nI (160 * p1)) (ix160 p1) ?_
      refine z_iload_n C 3 dX7_copy_189 rfl ?_
      refine z_iadd C dX7_copy_190 ?_
      refine z_top (nI (160 * p1 + a)) (nI_add _ _) ?_
      refine z_iload C 6 dX7_copy_191 rfl ?_
      refine z_iadd C dX7_copy_193 ?_
      refine z_top (nI (160 * p1 + a + k)) (nI_add _ _) ?_
      refine ml_25 C (160 * p1 + a + k) rfl (by first | assumption | omega) dX7_copy_194 ?_
      refine ms_26 C k rfl (by first | assumption | omega) dX7_copy_195 ?_
      refine z_iinc C (v := nI (k + 1)) 6 dX7_copy_196 rfl (nI_1 _) (by decide) ?_
      refine z_goto C 167 dX7_copy_199 (by decide) ?_
      refine z_pick [1, 2, 3, 4, 5, 6, 0] rfl ?_
      have q0 := ih (k + 1) (by omega) (by omega)
      rw [← cy1_s] at q0
      exact q0
set_option maxRecDepth 100000 in
set_option maxHeartbeats 4000000 in
theorem c_X7_copy (l : Launch) (E : zE) (M : zM) (hsz : ∀ j, j < 8 → M.2.2.1 21 j = 1 → ∃ n, n ≤ 160 ∧ M.2.2.1 23 j = nI n) (h012 : ∀ j, j < 8 → M.2.2.1 21 j = 0 ∨ M.2.2.1 21 j = 1 ∨ M.2.2.1 21 j = 2) (p q i j n : Int32) : MM l E yX7_copy cX7_copy 7 (some .int) 2 [.ref (madr E.2.2.1 (0, 0, 0)), .int (p), .int (q), .int (i), .int (j), .int (n)] (M) (mpo M (kCopyM M p q i j n) 1 (fun M2 => M2 = mCpy M p.toNatClampNeg q.toNatClampNeg i.toNatClampNeg j.toNatClampNeg n.toNatClampNeg)) := by
  refine MM.mk kq_X7 (Nat.le_of_ble_eq_true rfl) (fun K s C0 => ?_)
  have C := C0.c
  refine z_aload_n C 0 dX7_copy_0 rfl ?_
  refine z_iload_n C 1 dX7_copy_1 rfl ?_
  refine z_callV1 C (c_X7_isShelf l E _ _) ⟨rfl, rfl⟩ rfl rfl q_X7_120 ⟨by decide, by decide⟩ (Nat.le_of_ble_eq_true rfl) dX7_copy_2 (fun v F9 hp => ?_)
  obtain ⟨rfl, e9⟩ := hp
  rw [e9]
  clear e9 F9
  refine z_if_eq C 16 dX7_copy_5 (by decide) (fun h5 => ?_) (fun h5 => ?_)
  · skip
    have h5 := bI_0 h5
    refine z_aload_n C 0 dX7_copy_16 rfl ?_
    refine z_iconst C (v := (-1)) dX7_copy_17 rfl ?_
    refine z_callV1 C (c_X7_no l E _ (-1) 1 (by decide) (by decide) (by decide)) ⟨rfl, rfl⟩ rfl rfl q_X7_124 ⟨by decide, by decide⟩ (Nat.le_of_ble_eq_true rfl) dX7_copy_18 (fun v F9 hp => ?_)
    obtain ⟨rfl, e9⟩ := hp
    rw [e9]
    clear e9 F9
    refine z_iret C0 dX7_copy_21 ?_
    exact mpo.ref (by unfold kCopyM; rw [h5]; rfl) (by decide)
  · skip
    have h5 := bI_1 h5
    refine z_aload_n C 0 dX7_copy_8 rfl ?_
    refine z_iload_n C 2 dX7_copy_9 rfl ?_
    refine z_callV1 C (c_X7_isShelf l E _ _) ⟨rfl, rfl⟩ rfl rfl q_X7_120 ⟨by decide, by decide⟩ (Nat.le_of_ble_eq_true rfl) dX7_copy_10 (fun v F9 hp => ?_)
    obtain ⟨rfl, e9⟩ := hp
    rw [e9]
    clear e9 F9
    refine z_if_ne C 22 dX7_copy_13 (by decide) (fun h13 => ?_) (fun h13 => ?_)
    · skip
      have h13 := bI_1 h13
      obtain ⟨p1, hp1, ep⟩ := inR_of (n := 8) h5 (by omega)
      obtain ⟨q1, hq1, eq⟩ := inR_of (n := 8) h13 (by omega)
      have epc : p.toNatClampNeg = p1 := by rw [ep]; exact nI_clamp (by omega)
      have eqc : q.toNatClampNeg = q1 := by rw [eq]; exact nI_clamp (by omega)
      refine z_eq (L2 := [(0, .ref (madr E.2.2.1 (0, 0, 0))), (1, .int (nI p1)), (2, .int (nI q1)), (3, .int i), (4, .int j), (5, .int n)]) rfl rfl (by rw [ep, eq]; rfl) rfl ?_
      refine z_aload_n C 0 dX7_copy_22 rfl ?_
      refine mg_21 C dX7_copy_23 ?_
      refine z_iload_n C 1 dX7_copy_26 rfl ?_
      refine ml_21 C p1 rfl (by first | assumption | omega) dX7_copy_27 ?_
      refine z_iconst C (v := 2) dX7_copy_28 rfl ?_
      refine z_icmp_eq C 77 dX7_copy_29 (by decide) (fun h29 => ?_) (fun h29 => ?_)
      · skip
        refine z_aload_n C 0 dX7_copy_77 rfl ?_
        refine z_bipush C (v := (-2)) dX7_copy_78 rfl ?_
        refine z_callV1 C (c_X7_no l E _ (-2) 2 (by decide) (by decide) (by decide)) ⟨rfl, rfl⟩ rfl rfl q_X7_124 ⟨by decide, by decide⟩ (Nat.le_of_ble_eq_true rfl) dX7_copy_80 (fun v F9 hp => ?_)
        obtain ⟨rfl, e9⟩ := hp
        rw [e9]
        clear e9 F9
        refine z_iret C0 dX7_copy_83 ?_
        exact mpo.ref (by unfold kCopyM; rw [h5, if_neg (by decide), h13, if_neg (by decide), epc, eqc, if_pos (Or.inl h29)]) (by decide)
      · skip
        refine z_aload_n C 0 dX7_copy_32 rfl ?_
        refine mg_21 C dX7_copy_33 ?_
        refine z_iload_n C 2 dX7_copy_36 rfl ?_
        refine ml_21 C q1 rfl (by first | assumption | omega) dX7_copy_37 ?_
        refine z_iconst C (v := 2) dX7_copy_38 rfl ?_
        refine z_icmp_eq C 77 dX7_copy_39 (by decide) (fun h39 => ?_) (fun h39 => ?_)
        · skip
          refine z_aload_n C 0 dX7_copy_77 rfl ?_
          refine z_bipush C (v := (-2)) dX7_copy_78 rfl ?_
          refine z_callV1 C (c_X7_no l E _ (-2) 2 (by decide) (by decide) (by decide)) ⟨rfl, rfl⟩ rfl rfl q_X7_124 ⟨by decide, by decide⟩ (Nat.le_of_ble_eq_true rfl) dX7_copy_80 (fun v F9 hp => ?_)
          obtain ⟨rfl, e9⟩ := hp
          rw [e9]
          clear e9 F9
          refine z_iret C0 dX7_copy_83 ?_
          exact mpo.ref (by unfold kCopyM; rw [h5, if_neg (by decide), h13, if_neg (by decide), epc, eqc, if_pos (Or.inr (Or.inl h39))]) (by decide)
        · skip
          refine z_aload_n C 0 dX7_copy_42 rfl ?_
          refine mg_21 C dX7_copy_43 ?_
          refine z_iload_n C 1 dX7_copy_46 rfl ?_
          refine ml_21 C p1 rfl (by first | assumption | omega) dX7_copy_47 ?_
          refine z_iconst C (v := 1) dX7_copy_48 rfl ?_
          refine z_icmp_ne C 84 dX7_copy_49 (by decide) (fun h49 => ?_) (fun h49 => ?_)
          · skip
            refine z_aload_n C 0 dX7_copy_84 rfl ?_
            refine mg_21 C dX7_copy_85 ?_
            refine z_iload_n C 1 dX7_copy_88 rfl ?_
            refine ml_21 C p1 rfl (by first | assumption | omega) dX7_copy_89 ?_
            refine z_if_eq C 102 dX7_copy_90 (by decide) (fun h90 => ?_) (fun h90 => ?_)
            · skip
              refine z_aload_n C 0 dX7_copy_102 rfl ?_
              refine z_bipush C (v := (-3)) dX7_copy_103 rfl ?_
              refine z_callV1 C (c_X7_no l E _ (-3) 3 (by decide) (by decide) (by decide)) ⟨rfl, rfl⟩ rfl rfl q_X7_124 ⟨by decide, by decide⟩ (Nat.le_of_ble_eq_true rfl) dX7_copy_105 (fun v F9 hp => ?_)
              obtain ⟨rfl, e9⟩ := hp
              rw [e9]
              clear e9 F9
              refine z_iret C0 dX7_copy_108 ?_
              exact mpo.ref (by unfold kCopyM; rw [h5, if_neg (by decide), h13, if_neg (by decide), epc, eqc, if_neg (by rintro (z | z | z); exact h29 z; exact h39 z; exact h49 z.1), if_pos (Or.inl h90)]) (by decide)
            · skip
              refine z_aload_n C 0 dX7_copy_93 rfl ?_
              refine mg_21 C dX7_copy_94 ?_
              refine z_iload_n C 2 dX7_copy_97 rfl ?_
              refine ml_21 C q1 rfl (by first | assumption | omega) dX7_copy_98 ?_
              refine z_if_ne C 109 dX7_copy_99 (by decide) (fun h99 => ?_) (fun h99 => ?_)
              · skip
                refine z_iload C 5 dX7_copy_109 rfl ?_
                refine z_if_ge C 121 dX7_copy_111 (by decide) (fun h111 => ?_) (fun h111 => ?_)
                · skip
                  refine z_iload_n C 3 dX7_copy_121 rfl ?_
                  refine z_if_lt C 157 dX7_copy_122 (by decide) (fun h122 => ?_) (fun h122 => ?_)
                  · skip
                    refine z_aload_n C 0 dX7_copy_157 rfl ?_
                    refine z_bipush C (v := (-5)) dX7_copy_158 rfl ?_
                    refine z_callV1 C (c_X7_no l E _ (-5) 5 (by decide) (by decide) (by decide)) ⟨rfl, rfl⟩ rfl rfl q_X7_124 ⟨by decide, by decide⟩ (Nat.le_of_ble_eq_true rfl) dX7_copy_160 (fun v F9 hp => ?_)
                    obtain ⟨rfl, e9⟩ := hp
                    rw [e9]
                    clear e9 F9
                    refine z_iret C0 dX7_copy_163 ?_
                    exact mpo.ref (by unfold kCopyM; rw [h5, if_neg (by decide), h13, if_neg (by decide), epc, eqc, if_neg (by rintro (z | z | z); exact h29 z; exact h39 z; exact h49 z.1), if_neg (by rintro (z | z); exact h90 z; exact h99 z), if_neg (Int32.not_lt.mpr h111), if_pos (Or.inl h122)]) (by decide)
                  · skip
                    refine z_iload C 4 dX7_copy_125 rfl ?_
                    refine z_if_lt C 157 dX7_copy_127 (by decide) (fun h127 => ?_) (fun h127 => ?_)
                    · skip
                      refine z_aload_n C 0 dX7_copy_157 rfl ?_
                      refine z_bipush C (v := (-5)) dX7_copy_158 rfl ?_
                      refine z_callV1 C (c_X7_no l E _ (-5) 5 (by decide) (by decide) (by decide)) ⟨rfl, rfl⟩ rfl rfl q_X7_124 ⟨by decide, by decide⟩ (Nat.le_of_ble_eq_true rfl) dX7_copy_160 (fun v F9 hp => ?_)
                      obtain ⟨rfl, e9⟩ := hp
                      rw [e9]
                      clear e9 F9
                      refine z_iret C0 dX7_copy_163 ?_
                      exact mpo.ref (by unfold kCopyM; rw [h5, if_neg (by decide), h13, if_neg (by decide), epc, eqc, if_neg (by rintro (z | z | z); exact h29 z; exact h39 z; exact h49 z.1), if_neg (by rintro (z | z); exact h90 z; exact h99 z), if_neg (Int32.not_lt.mpr h111), if_pos (Or.inr (Or.inl h127))]) (by decide)
                    · skip
                      refine z_iload_n C 3 dX7_copy_130 rfl ?_
                      refine z_aload_n C 0 dX7_copy_131 rfl ?_
                      refine mg_23 C dX7_copy_132 ?_
                      refine z_iload_n C 1 dX7_copy_135 rfl ?_
                      refine ml_23 C p1 rfl (by first | assumption | omega) dX7_copy_136 ?_
                      refine z_iload C 5 dX7_copy_137 rfl ?_
                      refine z_isub C dX7_copy_139 ?_
                      refine z_icmp_gt C 157 dX7_copy_140 (by decide) (fun h140 => ?_) (fun h140 => ?_)
                      · skip
                        refine z_aload_n C 0 dX7_copy_157 rfl ?_
                        refine z_bipush C (v := (-5)) dX7_copy_158 rfl ?_
                        refine z_callV1 C (c_X7_no l E _ (-5) 5 (by decide) (by decide) (by decide)) ⟨rfl, rfl⟩ rfl rfl q_X7_124 ⟨by decide, by decide⟩ (Nat.le_of_ble_eq_true rfl) dX7_copy_160 (fun v F9 hp => ?_)
                        obtain ⟨rfl, e9⟩ := hp
                        rw [e9]
                        clear e9 F9
                        refine z_iret C0 dX7_copy_163 ?_
                        exact mpo.ref (by unfold kCopyM; rw [h5, if_neg (by decide), h13, if_neg (by decide), epc, eqc, if_neg (by rintro (z | z | z); exact h29 z; exact h39 z; exact h49 z.1), if_neg (by rintro (z | z); exact h90 z; exact h99 z), if_neg (Int32.not_lt.mpr h111), if_pos (Or.inr (Or.inr (Or.inl h140)))]) (by decide)
                      · skip
                        refine z_iload C 4 dX7_copy_143 rfl ?_
                        refine z_aload_n C 0 dX7_copy_145 rfl ?_
                        refine mg_23 C dX7_copy_146 ?_
                        refine z_iload_n C 2 dX7_copy_149 rfl ?_
                        refine ml_23 C q1 rfl (by first | assumption | omega) dX7_copy_150 ?_
                        refine z_iload C 5 dX7_copy_151 rfl ?_
                        refine z_isub C dX7_copy_153 ?_
                        refine z_icmp_le C 164 dX7_copy_154 (by decide) (fun h154 => ?_) (fun h154 => ?_)
                        · skip
                          obtain ⟨lp, hlp, elp⟩ := hsz p1 hp1 ((h012 p1 hp1).resolve_left h90 |>.resolve_right h29)
                          obtain ⟨lq, hlq, elq⟩ := hsz q1 hq1 ((h012 q1 hq1).resolve_left h99 |>.resolve_right h39)
                          obtain ⟨a, c, ea, ec, hac⟩ := cpy_r hlp h122 (Int32.not_lt.mpr h111) (by rw [← elp]; exact h140)
                          obtain ⟨b, c2, eb, ec2, hbc⟩ := cpy_r hlq h127 (Int32.not_lt.mpr h111) (by rw [← elq]; exact Int32.not_lt.mpr h154)
                          have ecc : c2 = c := (nI_eq (by omega) (by omega)).mp (ec2.symm.trans ec)
                          subst ecc
                          have hk0 : kCopyM M p q i j n = 0 := by unfold kCopyM; rw [h5, if_neg (by decide), h13, if_neg (by decide), epc, eqc, if_neg (by rintro (z | z | z); exact h29 z; exact h39 z; exact h49 z.1), if_neg (by rintro (z | z); exact h90 z; exact h99 z), if_neg (Int32.not_lt.mpr h111), if_neg (by rintro (z | z | z | z); exact h122 z; exact h127 z; exact h140 z; exact absurd z (Int32.not_lt.mpr h154))]
                          refine z_eq (L2 := [(0, .ref (madr E.2.2.1 (0, 0, 0))), (1, .int (nI p1)), (2, .int (nI q1)), (3, .int (nI a)), (4, .int (nI b)), (5, .int (nI c2))]) rfl rfl (by rw [ea, eb, ec2]) rfl ?_
                          refine z_iconst C (v := 0) dX7_copy_164 rfl ?_
                          refine z_istore C dX7_copy_165 (by decide) ?_
                          refine z_pick [1, 2, 3, 4, 5, 6, 0] rfl ?_
                          have q0 := lp_X7_copy1 M hsz h012 p q i j n hp1 hq1 (a := a) (b := b) (c := c2) (by omega) (by omega) hk0 epc eqc ea eb ec2 C0 (c2 + 1) 0 (by omega) (by omega)
                          rw [cy1_0] at q0
                          exact q0
                        · skip
                          refine z_aload_n C 0 dX7_copy_157 rfl ?_
                          refine z_bipush C (v := (-5)) dX7_copy_158 rfl ?_
                          refine z_callV1 C (c_X7_no l E _ (-5) 5 (by decide) (by decide) (by decide)) ⟨rfl, rfl⟩ rfl rfl q_X7_124 ⟨by decide, by decide⟩ (Nat.le_of_ble_eq_true rfl) dX7_copy_160 (fun v F9 hp => ?_)
                          obtain ⟨rfl, e9⟩ := hp
                          rw [e9]
                          clear e9 F9
                          refine z_iret C0 dX7_copy_163 ?_
                          exact mpo.ref (by unfold kCopyM; rw [h5, if_neg (by decide), h13, if_neg (by decide), epc, eqc, if_neg (by rintro (z | z | z); exact h29 z; exact h39 z; exact h49 z.1), if_neg (by rintro (z | z); exact h90 z; exact h99 z), if_neg (Int32.not_lt.mpr h111), if_pos (Or.inr (Or.inr (Or.inr (Int32.not_le.mp h154))))]) (by decide)
                · skip
                  refine z_aload_n C 0 dX7_copy_114 rfl ?_
                  refine z_bipush C (v := (-4)) dX7_copy_115 rfl ?_
                  refine z_callV1 C (c_X7_no l E _ (-4) 4 (by decide) (by decide) (by decide)) ⟨rfl, rfl⟩ rfl rfl q_X7_124 ⟨by decide, by decide⟩ (Nat.le_of_ble_eq_true rfl) dX7_copy_117 (fun v F9 hp => ?_)
                  obtain ⟨rfl, e9⟩ := hp
                  rw [e9]
                  clear e9 F9
                  refine z_iret C0 dX7_copy_120 ?_
                  exact mpo.ref (by unfold kCopyM; rw [h5, if_neg (by decide), h13, if_neg (by decide), epc, eqc, if_neg (by rintro (z | z | z); exact h29 z; exact h39 z; exact h49 z.1), if_neg (by rintro (z | z); exact h90 z; exact h99 z), if_pos (Int32.not_le.mp h111)]) (by decide)
              · skip
                refine z_aload_n C 0 dX7_copy_102 rfl ?_
                refine z_bipush C (v := (-3)) dX7_copy_103 rfl ?_
                refine z_callV1 C (c_X7_no l E _ (-3) 3 (by decide) (by decide) (by decide)) ⟨rfl, rfl⟩ rfl rfl q_X7_124 ⟨by decide, by decide⟩ (Nat.le_of_ble_eq_true rfl) dX7_copy_105 (fun v F9 hp => ?_)
                obtain ⟨rfl, e9⟩ := hp
                rw [e9]
                clear e9 F9
                refine z_iret C0 dX7_copy_108 ?_
                exact mpo.ref (by unfold kCopyM; rw [h5, if_neg (by decide), h13, if_neg (by decide), epc, eqc, if_neg (by rintro (z | z | z); exact h29 z; exact h39 z; exact h49 z.1), if_pos (Or.inr h99)]) (by decide)
          · skip
            refine z_aload_n C 0 dX7_copy_52 rfl ?_
            refine mg_21 C dX7_copy_53 ?_
            refine z_iload_n C 2 dX7_copy_56 rfl ?_
            refine ml_21 C q1 rfl (by first | assumption | omega) dX7_copy_57 ?_
            refine z_iconst C (v := 1) dX7_copy_58 rfl ?_
            refine z_icmp_ne C 84 dX7_copy_59 (by decide) (fun h59 => ?_) (fun h59 => ?_)
            · skip
              refine z_aload_n C 0 dX7_copy_84 rfl ?_
              refine mg_21 C dX7_copy_85 ?_
              refine z_iload_n C 1 dX7_copy_88 rfl ?_
              refine ml_21 C p1 rfl (by first | assumption | omega) dX7_copy_89 ?_
              refine z_if_eq C 102 dX7_copy_90 (by decide) (fun h90 => ?_) (fun h90 => ?_)
              · skip
                refine z_aload_n C 0 dX7_copy_102 rfl ?_
                refine z_bipush C (v := (-3)) dX7_copy_103 rfl ?_
                refine z_callV1 C (c_X7_no l E _ (-3) 3 (by decide) (by decide) (by decide)) ⟨rfl, rfl⟩ rfl rfl q_X7_124 ⟨by decide, by decide⟩ (Nat.le_of_ble_eq_true rfl) dX7_copy_105 (fun v F9 hp => ?_)
                obtain ⟨rfl, e9⟩ := hp
                rw [e9]
                clear e9 F9
                refine z_iret C0 dX7_copy_108 ?_
                exact mpo.ref (by unfold kCopyM; rw [h5, if_neg (by decide), h13, if_neg (by decide), epc, eqc, if_neg (by rintro (z | z | z); exact h29 z; exact h39 z; exact h59 z.2.1), if_pos (Or.inl h90)]) (by decide)
              · skip
                refine z_aload_n C 0 dX7_copy_93 rfl ?_
                refine mg_21 C dX7_copy_94 ?_
                refine z_iload_n C 2 dX7_copy_97 rfl ?_
                refine ml_21 C q1 rfl (by first | assumption | omega) dX7_copy_98 ?_
                refine z_if_ne C 109 dX7_copy_99 (by decide) (fun h99 => ?_) (fun h99 => ?_)
                · skip
                  refine z_iload C 5 dX7_copy_109 rfl ?_
                  refine z_if_ge C 121 dX7_copy_111 (by decide) (fun h111 => ?_) (fun h111 => ?_)
                  · skip
                    refine z_iload_n C 3 dX7_copy_121 rfl ?_
                    refine z_if_lt C 157 dX7_copy_122 (by decide) (fun h122 => ?_) (fun h122 => ?_)
                    · skip
                      refine z_aload_n C 0 dX7_copy_157 rfl ?_
                      refine z_bipush C (v := (-5)) dX7_copy_158 rfl ?_
                      refine z_callV1 C (c_X7_no l E _ (-5) 5 (by decide) (by decide) (by decide)) ⟨rfl, rfl⟩ rfl rfl q_X7_124 ⟨by decide, by decide⟩ (Nat.le_of_ble_eq_true rfl) dX7_copy_160 (fun v F9 hp => ?_)
                      obtain ⟨rfl, e9⟩ := hp
                      rw [e9]
                      clear e9 F9
                      refine z_iret C0 dX7_copy_163 ?_
                      exact mpo.ref (by unfold kCopyM; rw [h5, if_neg (by decide), h13, if_neg (by decide), epc, eqc, if_neg (by rintro (z | z | z); exact h29 z; exact h39 z; exact h59 z.2.1), if_neg (by rintro (z | z); exact h90 z; exact h99 z), if_neg (Int32.not_lt.mpr h111), if_pos (Or.inl h122)]) (by decide)
                    · skip
                      refine z_iload C 4 dX7_copy_125 rfl ?_
                      refine z_if_lt C 157 dX7_copy_127 (by decide) (fun h127 => ?_) (fun h127 => ?_)
                      · skip
                        refine z_aload_n C 0 dX7_copy_157 rfl ?_
                        refine z_bipush C (v := (-5)) dX7_copy_158 rfl ?_
                        refine z_callV1 C (c_X7_no l E _ (-5) 5 (by decide) (by decide) (by decide)) ⟨rfl, rfl⟩ rfl rfl q_X7_124 ⟨by decide, by decide⟩ (Nat.le_of_ble_eq_true rfl) dX7_copy_160 (fun v F9 hp => ?_)
                        obtain ⟨rfl, e9⟩ := hp
                        rw [e9]
                        clear e9 F9
                        refine z_iret C0 dX7_copy_163 ?_
                        exact mpo.ref (by unfold kCopyM; rw [h5, if_neg (by decide), h13, if_neg (by decide), epc, eqc, if_neg (by rintro (z | z | z); exact h29 z; exact h39 z; exact h59 z.2.1), if_neg (by rintro (z | z); exact h90 z; exact h99 z), if_neg (Int32.not_lt.mpr h111), if_pos (Or.inr (Or.inl h127))]) (by decide)
                      · skip
                        refine z_iload_n C 3 dX7_copy_130 rfl ?_
                        refine z_aload_n C 0 dX7_copy_131 rfl ?_
                        refine mg_23 C dX7_copy_132 ?_
                        refine z_iload_n C 1 dX7_copy_135 rfl ?_
                        refine ml_23 C p1 rfl (by first | assumption | omega) dX7_copy_136 ?_
                        refine z_iload C 5 dX7_copy_137 rfl ?_
                        refine z_isub C dX7_copy_139 ?_
                        refine z_icmp_gt C 157 dX7_copy_140 (by decide) (fun h140 => ?_) (fun h140 => ?_)
                        · skip
                          refine z_aload_n C 0 dX7_copy_157 rfl ?_
                          refine z_bipush C (v := (-5)) dX7_copy_158 rfl ?_
                          refine z_callV1 C (c_X7_no l E _ (-5) 5 (by decide) (by decide) (by decide)) ⟨rfl, rfl⟩ rfl rfl q_X7_124 ⟨by decide, by decide⟩ (Nat.le_of_ble_eq_true rfl) dX7_copy_160 (fun v F9 hp => ?_)
                          obtain ⟨rfl, e9⟩ := hp
                          rw [e9]
                          clear e9 F9
                          refine z_iret C0 dX7_copy_163 ?_
                          exact mpo.ref (by unfold kCopyM; rw [h5, if_neg (by decide), h13, if_neg (by decide), epc, eqc, if_neg (by rintro (z | z | z); exact h29 z; exact h39 z; exact h59 z.2.1), if_neg (by rintro (z | z); exact h90 z; exact h99 z), if_neg (Int32.not_lt.mpr h111), if_pos (Or.inr (Or.inr (Or.inl h140)))]) (by decide)
                        · skip
                          refine z_iload C 4 dX7_copy_143 rfl ?_
                          refine z_aload_n C 0 dX7_copy_145 rfl ?_
                          refine mg_23 C dX7_copy_146 ?_
                          refine z_iload_n C 2 dX7_copy_149 rfl ?_
                          refine ml_23 C q1 rfl (by first | assumption | omega) dX7_copy_150 ?_
                          refine z_iload C 5 dX7_copy_151 rfl ?_
                          refine z_isub C dX7_copy_153 ?_
                          refine z_icmp_le C 164 dX7_copy_154 (by decide) (fun h154 => ?_) (fun h154 => ?_)
                          · skip
                            obtain ⟨lp, hlp, elp⟩ := hsz p1 hp1 ((h012 p1 hp1).resolve_left h90 |>.resolve_right h29)
                            obtain ⟨lq, hlq, elq⟩ := hsz q1 hq1 ((h012 q1 hq1).resolve_left h99 |>.resolve_right h39)
                            obtain ⟨a, c, ea, ec, hac⟩ := cpy_r hlp h122 (Int32.not_lt.mpr h111) (by rw [← elp]; exact h140)
                            obtain ⟨b, c2, eb, ec2, hbc⟩ := cpy_r hlq h127 (Int32.not_lt.mpr h111) (by rw [← elq]; exact Int32.not_lt.mpr h154)
                            have ecc : c2 = c := (nI_eq (by omega) (by omega)).mp (ec2.symm.trans ec)
                            subst ecc
                            have hk0 : kCopyM M p q i j n = 0 := by unfold kCopyM; rw [h5, if_neg (by decide), h13, if_neg (by decide), epc, eqc, if_neg (by rintro (z | z | z); exact h29 z; exact h39 z; exact h59 z.2.1), if_neg (by rintro (z | z); exact h90 z; exact h99 z), if_neg (Int32.not_lt.mpr h111), if_neg (by rintro (z | z | z | z); exact h122 z; exact h127 z; exact h140 z; exact absurd z (Int32.not_lt.mpr h154))]
                            refine z_eq (L2 := [(0, .ref (madr E.2.2.1 (0, 0, 0))), (1, .int (nI p1)), (2, .int (nI q1)), (3, .int (nI a)), (4, .int (nI b)), (5, .int (nI c2))]) rfl rfl (by rw [ea, eb, ec2]) rfl ?_
                            refine z_iconst C (v := 0) dX7_copy_164 rfl ?_
                            refine z_istore C dX7_copy_165 (by decide) ?_
                            refine z_pick [1, 2, 3, 4, 5, 6, 0] rfl ?_
                            have q0 := lp_X7_copy1 M hsz h012 p q i j n hp1 hq1 (a := a) (b := b) (c := c2) (by omega) (by omega) hk0 epc eqc ea eb ec2 C0 (c2 + 1) 0 (by omega) (by omega)
                            rw [cy1_0] at q0
                            exact q0
                          · skip
                            refine z_aload_n C 0 dX7_copy_157 rfl ?_
                            refine z_bipush C (v := (-5)) dX7_copy_158 rfl ?_
                            refine z_callV1 C (c_X7_no l E _ (-5) 5 (by decide) (by decide) (by decide)) ⟨rfl, rfl⟩ rfl rfl q_X7_124 ⟨by decide, by decide⟩ (Nat.le_of_ble_eq_true rfl) dX7_copy_160 (fun v F9 hp => ?_)
                            obtain ⟨rfl, e9⟩ := hp
                            rw [e9]
                            clear e9 F9
                            refine z_iret C0 dX7_copy_163 ?_
                            exact mpo.ref (by unfold kCopyM; rw [h5, if_neg (by decide), h13, if_neg (by decide), epc, eqc, if_neg (by rintro (z | z | z); exact h29 z; exact h39 z; exact h59 z.2.1), if_neg (by rintro (z | z); exact h90 z; exact h99 z), if_neg (Int32.not_lt.mpr h111), if_pos (Or.inr (Or.inr (Or.inr (Int32.not_le.mp h154))))]) (by decide)
                  · skip
                    refine z_aload_n C 0 dX7_copy_114 rfl ?_
                    refine z_bipush C (v := (-4)) dX7_copy_115 rfl ?_
                    refine z_callV1 C (c_X7_no l E _ (-4) 4 (by decide) (by decide) (by decide)) ⟨rfl, rfl⟩ rfl rfl q_X7_124 ⟨by decide, by decide⟩ (Nat.le_of_ble_eq_true rfl) dX7_copy_117 (fun v F9 hp => ?_)
                    obtain ⟨rfl, e9⟩ := hp
                    rw [e9]
                    clear e9 F9
                    refine z_iret C0 dX7_copy_120 ?_
                    exact mpo.ref (by unfold kCopyM; rw [h5, if_neg (by decide), h13, if_neg (by decide), epc, eqc, if_neg (by rintro (z | z | z); exact h29 z; exact h39 z; exact h59 z.2.1), if_neg (by rintro (z | z); exact h90 z; exact h99 z), if_pos (Int32.not_le.mp h111)]) (by decide)
                · skip
                  refine z_aload_n C 0 dX7_copy_102 rfl ?_
                  refine z_bipush C (v := (-3)) dX7_copy_103 rfl ?_
                  refine z_callV1 C (c_X7_no l E _ (-3) 3 (by decide) (by decide) (by decide)) ⟨rfl, rfl⟩ rfl rfl q_X7_124 ⟨by decide, by decide⟩ (Nat.le_of_ble_eq_true rfl) dX7_copy_105 (fun v F9 hp => ?_)
                  obtain ⟨rfl, e9⟩ := hp
                  rw [e9]
                  clear e9 F9
                  refine z_iret C0 dX7_copy_108 ?_
                  exact mpo.ref (by unfold kCopyM; rw [h5, if_neg (by decide), h13, if_neg (by decide), epc, eqc, if_neg (by rintro (z | z | z); exact h29 z; exact h39 z; exact h59 z.2.1), if_pos (Or.inr h99)]) (by decide)
            · skip
              refine z_aload_n C 0 dX7_copy_62 rfl ?_
              refine mg_22 C dX7_copy_63 ?_
              refine z_iload_n C 1 dX7_copy_66 rfl ?_
              refine ml_22 C p1 rfl (by first | assumption | omega) dX7_copy_67 ?_
              refine z_aload_n C 0 dX7_copy_68 rfl ?_
              refine mg_22 C dX7_copy_69 ?_
              refine z_iload_n C 2 dX7_copy_72 rfl ?_
              refine ml_22 C q1 rfl (by first | assumption | omega) dX7_copy_73 ?_
              refine z_icmp_eq C 84 dX7_copy_74 (by decide) (fun h74 => ?_) (fun h74 => ?_)
              · skip
                refine z_aload_n C 0 dX7_copy_84 rfl ?_
                refine mg_21 C dX7_copy_85 ?_
                refine z_iload_n C 1 dX7_copy_88 rfl ?_
                refine ml_21 C p1 rfl (by first | assumption | omega) dX7_copy_89 ?_
                refine z_if_eq C 102 dX7_copy_90 (by decide) (fun h90 => ?_) (fun h90 => ?_)
                · skip
                  refine z_aload_n C 0 dX7_copy_102 rfl ?_
                  refine z_bipush C (v := (-3)) dX7_copy_103 rfl ?_
                  refine z_callV1 C (c_X7_no l E _ (-3) 3 (by decide) (by decide) (by decide)) ⟨rfl, rfl⟩ rfl rfl q_X7_124 ⟨by decide, by decide⟩ (Nat.le_of_ble_eq_true rfl) dX7_copy_105 (fun v F9 hp => ?_)
                  obtain ⟨rfl, e9⟩ := hp
                  rw [e9]
                  clear e9 F9
                  refine z_iret C0 dX7_copy_108 ?_
                  exact mpo.ref (by unfold kCopyM; rw [h5, if_neg (by decide), h13, if_neg (by decide), epc, eqc, if_neg (by rintro (z | z | z); exact h29 z; exact h39 z; exact z.2.2 h74), if_pos (Or.inl h90)]) (by decide)
                · skip
                  refine z_aload_n C 0 dX7_copy_93 rfl ?_
                  refine mg_21 C dX7_copy_94 ?_
                  refine z_iload_n C 2 dX7_copy_97 rfl ?_
                  refine ml_21 C q1 rfl (by first | assumption | omega) dX7_copy_98 ?_
                  refine z_if_ne C 109 dX7_copy_99 (by decide) (fun h99 => ?_) (fun h99 => ?_)
                  · skip
                    refine z_iload C 5 dX7_copy_109 rfl ?_
                    refine z_if_ge C 121 dX7_copy_111 (by decide) (fun h111 => ?_) (fun h111 => ?_)
                    · skip
                      refine z_iload_n C 3 dX7_copy_121 rfl ?_
                      refine z_if_lt C 157 dX7_copy_122 (by decide) (fun h122 => ?_) (fun h122 => ?_)
                      · skip
                        refine z_aload_n C 0 dX7_copy_157 rfl ?_
                        refine z_bipush C (v := (-5)) dX7_copy_158 rfl ?_
                        refine z_callV1 C (c_X7_no l E _ (-5) 5 (by decide) (by decide) (by decide)) ⟨rfl, rfl⟩ rfl rfl q_X7_124 ⟨by decide, by decide⟩ (Nat.le_of_ble_eq_true rfl) dX7_copy_160 (fun v F9 hp => ?_)
                        obtain ⟨rfl, e9⟩ := hp
                        rw [e9]
                        clear e9 F9
                        refine z_iret C0 dX7_copy_163 ?_
                        exact mpo.ref (by unfold kCopyM; rw [h5, if_neg (by decide), h13, if_neg (by decide), epc, eqc, if_neg (by rintro (z | z | z); exact h29 z; exact h39 z; exact z.2.2 h74), if_neg (by rintro (z | z); exact h90 z; exact h99 z), if_neg (Int32.not_lt.mpr h111), if_pos (Or.inl h122)]) (by decide)
                      · skip
                        refine z_iload C 4 dX7_copy_125 rfl ?_
                        refine z_if_lt C 157 dX7_copy_127 (by decide) (fun h127 => ?_) (fun h127 => ?_)
                        · skip
                          refine z_aload_n C 0 dX7_copy_157 rfl ?_
                          refine z_bipush C (v := (-5)) dX7_copy_158 rfl ?_
                          refine z_callV1 C (c_X7_no l E _ (-5) 5 (by decide) (by decide) (by decide)) ⟨rfl, rfl⟩ rfl rfl q_X7_124 ⟨by decide, by decide⟩ (Nat.le_of_ble_eq_true rfl) dX7_copy_160 (fun v F9 hp => ?_)
                          obtain ⟨rfl, e9⟩ := hp
                          rw [e9]
                          clear e9 F9
                          refine z_iret C0 dX7_copy_163 ?_
                          exact mpo.ref (by unfold kCopyM; rw [h5, if_neg (by decide), h13, if_neg (by decide), epc, eqc, if_neg (by rintro (z | z | z); exact h29 z; exact h39 z; exact z.2.2 h74), if_neg (by rintro (z | z); exact h90 z; exact h99 z), if_neg (Int32.not_lt.mpr h111), if_pos (Or.inr (Or.inl h127))]) (by decide)
                        · skip
                          refine z_iload_n C 3 dX7_copy_130 rfl ?_
                          refine z_aload_n C 0 dX7_copy_131 rfl ?_
                          refine mg_23 C dX7_copy_132 ?_
                          refine z_iload_n C 1 dX7_copy_135 rfl ?_
                          refine ml_23 C p1 rfl (by first | assumption | omega) dX7_copy_136 ?_
                          refine z_iload C 5 dX7_copy_137 rfl ?_
                          refine z_isub C dX7_copy_139 ?_
                          refine z_icmp_gt C 157 dX7_copy_140 (by decide) (fun h140 => ?_) (fun h140 => ?_)
                          · skip
                            refine z_aload_n C 0 dX7_copy_157 rfl ?_
                            refine z_bipush C (v := (-5)) dX7_copy_158 rfl ?_
                            refine z_callV1 C (c_X7_no l E _ (-5) 5 (by decide) (by decide) (by decide)) ⟨rfl, rfl⟩ rfl rfl q_X7_124 ⟨by decide, by decide⟩ (Nat.le_of_ble_eq_true rfl) dX7_copy_160 (fun v F9 hp => ?_)
                            obtain ⟨rfl, e9⟩ := hp
                            rw [e9]
                            clear e9 F9
                            refine z_iret C0 dX7_copy_163 ?_
                            exact mpo.ref (by unfold kCopyM; rw [h5, if_neg (by decide), h13, if_neg (by decide), epc, eqc, if_neg (by rintro (z | z | z); exact h29 z; exact h39 z; exact z.2.2 h74), if_neg (by rintro (z | z); exact h90 z; exact h99 z), if_neg (Int32.not_lt.mpr h111), if_pos (Or.inr (Or.inr (Or.inl h140)))]) (by decide)
                          · skip
                            refine z_iload C 4 dX7_copy_143 rfl ?_
                            refine z_aload_n C 0 dX7_copy_145 rfl ?_
                            refine mg_23 C dX7_copy_146 ?_
                            refine z_iload_n C 2 dX7_copy_149 rfl ?_
                            refine ml_23 C q1 rfl (by first | assumption | omega) dX7_copy_150 ?_
                            refine z_iload C 5 dX7_copy_151 rfl ?_
                            refine z_isub C dX7_copy_153 ?_
                            refine z_icmp_le C 164 dX7_copy_154 (by decide) (fun h154 => ?_) (fun h154 => ?_)
                            · skip
                              obtain ⟨lp, hlp, elp⟩ := hsz p1 hp1 ((h012 p1 hp1).resolve_left h90 |>.resolve_right h29)
                              obtain ⟨lq, hlq, elq⟩ := hsz q1 hq1 ((h012 q1 hq1).resolve_left h99 |>.resolve_right h39)
                              obtain ⟨a, c, ea, ec, hac⟩ := cpy_r hlp h122 (Int32.not_lt.mpr h111) (by rw [← elp]; exact h140)
                              obtain ⟨b, c2, eb, ec2, hbc⟩ := cpy_r hlq h127 (Int32.not_lt.mpr h111) (by rw [← elq]; exact Int32.not_lt.mpr h154)
                              have ecc : c2 = c := (nI_eq (by omega) (by omega)).mp (ec2.symm.trans ec)
                              subst ecc
                              have hk0 : kCopyM M p q i j n = 0 := by unfold kCopyM; rw [h5, if_neg (by decide), h13, if_neg (by decide), epc, eqc, if_neg (by rintro (z | z | z); exact h29 z; exact h39 z; exact z.2.2 h74), if_neg (by rintro (z | z); exact h90 z; exact h99 z), if_neg (Int32.not_lt.mpr h111), if_neg (by rintro (z | z | z | z); exact h122 z; exact h127 z; exact h140 z; exact absurd z (Int32.not_lt.mpr h154))]
                              refine z_eq (L2 := [(0, .ref (madr E.2.2.1 (0, 0, 0))), (1, .int (nI p1)), (2, .int (nI q1)), (3, .int (nI a)), (4, .int (nI b)), (5, .int (nI c2))]) rfl rfl (by rw [ea, eb, ec2]) rfl ?_
                              refine z_iconst C (v := 0) dX7_copy_164 rfl ?_
                              refine z_istore C dX7_copy_165 (by decide) ?_
                              refine z_pick [1, 2, 3, 4, 5, 6, 0] rfl ?_
                              have q0 := lp_X7_copy1 M hsz h012 p q i j n hp1 hq1 (a := a) (b := b) (c := c2) (by omega) (by omega) hk0 epc eqc ea eb ec2 C0 (c2 + 1) 0 (by omega) (by omega)
                              rw [cy1_0] at q0
                              exact q0
                            · skip
                              refine z_aload_n C 0 dX7_copy_157 rfl ?_
                              refine z_bipush C (v := (-5)) dX7_copy_158 rfl ?_
                              refine z_callV1 C (c_X7_no l E _ (-5) 5 (by decide) (by decide) (by decide)) ⟨rfl, rfl⟩ rfl rfl q_X7_124 ⟨by decide, by decide⟩ (Nat.le_of_ble_eq_true rfl) dX7_copy_160 (fun v F9 hp => ?_)
                              obtain ⟨rfl, e9⟩ := hp
                              rw [e9]
                              clear e9 F9
                              refine z_iret C0 dX7_copy_163 ?_
                              exact mpo.ref (by unfold kCopyM; rw [h5, if_neg (by decide), h13, if_neg (by decide), epc, eqc, if_neg (by rintro (z | z | z); exact h29 z; exact h39 z; exact z.2.2 h74), if_neg (by rintro (z | z); exact h90 z; exact h99 z), if_neg (Int32.not_lt.mpr h111), if_pos (Or.inr (Or.inr (Or.inr (Int32.not_le.mp h154))))]) (by decide)
                    · skip
                      refine z_aload_n C 0 dX7_copy_114 rfl ?_
                      refine z_bipush C (v := (-4)) dX7_copy_115 rfl ?_
                      refine z_callV1 C (c_X7_no l E _ (-4) 4 (by decide) (by decide) (by decide)) ⟨rfl, rfl⟩ rfl rfl q_X7_124 ⟨by decide, by decide⟩ (Nat.le_of_ble_eq_true rfl) dX7_copy_117 (fun v F9 hp => ?_)
                      obtain ⟨rfl, e9⟩ := hp
                      rw [e9]
                      clear e9 F9
                      refine z_iret C0 dX7_copy_120 ?_
                      exact mpo.ref (by unfold kCopyM; rw [h5, if_neg (by decide), h13, if_neg (by decide), epc, eqc, if_neg (by rintro (z | z | z); exact h29 z; exact h39 z; exact z.2.2 h74), if_neg (by rintro (z | z); exact h90 z; exact h99 z), if_pos (Int32.not_le.mp h111)]) (by decide)
                  · skip
                    refine z_aload_n C 0 dX7_copy_102 rfl ?_
                    refine z_bipush C (v := (-3)) dX7_copy_103 rfl ?_
                    refine z_callV1 C (c_X7_no l E _ (-3) 3 (by decide) (by decide) (by decide)) ⟨rfl, rfl⟩ rfl rfl q_X7_124 ⟨by decide, by decide⟩ (Nat.le_of_ble_eq_true rfl) dX7_copy_105 (fun v F9 hp => ?_)
                    obtain ⟨rfl, e9⟩ := hp
                    rw [e9]
                    clear e9 F9
                    refine z_iret C0 dX7_copy_108 ?_
                    exact mpo.ref (by unfold kCopyM; rw [h5, if_neg (by decide), h13, if_neg (by decide), epc, eqc, if_neg (by rintro (z | z | z); exact h29 z; exact h39 z; exact z.2.2 h74), if_pos (Or.inr h99)]) (by decide)
              · skip
                refine z_aload_n C 0 dX7_copy_77 rfl ?_
                refine z_bipush C (v := (-2)) dX7_copy_78 rfl ?_
                refine z_callV1 C (c_X7_no l E _ (-2) 2 (by decide) (by decide) (by decide)) ⟨rfl, rfl⟩ rfl rfl q_X7_124 ⟨by decide, by decide⟩ (Nat.le_of_ble_eq_true rfl) dX7_copy_80 (fun v F9 hp => ?_)
                obtain ⟨rfl, e9⟩ := hp
                rw [e9]
                clear e9 F9
                refine z_iret C0 dX7_copy_83 ?_
                exact mpo.ref (by unfold kCopyM; rw [h5, if_neg (by decide), h13, if_neg (by decide), epc, eqc, if_pos (Or.inr (Or.inr ⟨h49, h59, h74⟩))]) (by decide)
    · skip
      have h13 := bI_0 h13
      refine z_aload_n C 0 dX7_copy_16 rfl ?_
      refine z_iconst C (v := (-1)) dX7_copy_17 rfl ?_
      refine z_callV1 C (c_X7_no l E _ (-1) 1 (by decide) (by decide) (by decide)) ⟨rfl, rfl⟩ rfl rfl q_X7_124 ⟨by decide, by decide⟩ (Nat.le_of_ble_eq_true rfl) dX7_copy_18 (fun v F9 hp => ?_)
      obtain ⟨rfl, e9⟩ := hp
      rw [e9]
      clear e9 F9
      refine z_iret C0 dX7_copy_21 ?_
      exact mpo.ref (by unfold kCopyM; rw [h5, if_neg (by decide), h13]; rfl) (by decide)
