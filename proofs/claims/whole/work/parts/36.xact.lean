/-! the class: moves -/
def abN (o : Nat) : Nat := [0, 0, 0, 1, 0, 2, 4].getD o 0
def bdN (o mv : Nat) : Int32 := zBodies.getD (o * 3 + mv) 0
def fnd : Nat → Nat → Nat → Nat
  | 0, o, _ => o
  | n + 1, o, mv => if bdN o mv = 0 then fnd n (abN o) mv else o
theorem bd_0 : ∀ mv, mv < 3 → ¬ bdN 0 mv = 0 := by decide
theorem ab_nI : ∀ o, o < 7 → o ≠ 0 → zAbove.getD o 0 = nI (abN o) ∧ abN o < 7 ∧ abN o + 1 ≤ o := by decide
theorem rb_ix : ∀ o, o < 7 → ∀ mv, mv < 3 → nI o * 3 + nI mv = nI (o * 3 + mv) := by decide
theorem bd_all : ∀ o, o < 7 → ∀ mv, mv < 3 → bdN o mv = 0 ∨ bdN o mv = 10 ∨ bdN o mv = 11 ∨ bdN o mv = 12 ∨ bdN o mv = 20 ∨ bdN o mv = 30 ∨ bdN o mv = 40 ∨ bdN o mv = 50 ∨ bdN o mv = 51 ∨ bdN o mv = 60 ∨ bdN o mv = 70 ∨ bdN o mv = 71 := by decide
theorem ab_of : ∀ o, o < 7 → ∀ mv, mv < 3 → ¬ (bdN o mv = 10 ∨ bdN o mv = 11 ∨ bdN o mv = 12 ∨ bdN o mv = 0) → zAbove.getD o 0 = nI (abN o) ∧ abN o < 7 := by decide
theorem fnd_stop {o mv : Nat} (h : ¬ bdN o mv = 0) : fnd 3 o mv = o := if_neg h
theorem fnd_s : ∀ o, o < 7 → ∀ mv, mv < 3 → bdN o mv = 0 → fnd 3 (abN o) mv = fnd 3 o mv := by decide
def rbO (k0 : Nat) (m k : Int32) (r : Nat → Nat → Int32 → List Int32 × Int32) (o mv : Nat) (x : Int32) : List Int32 × Int32 :=
  if bdN o mv = 10 then ([10], x + m)
  else if bdN o mv = 11 then (11 :: (r k0 0 x).1, (r k0 0 x).2 * 2)
  else if bdN o mv = 12 then (12 :: ((r k0 1 x).1 ++ (r k0 0 (x - k)).1), (r k0 1 x).2 ^^^ (r k0 0 (x - k)).2)
  else if bdN o mv = 20 then (20 :: (r (abN o) 0 x).1, (r (abN o) 0 x).2 + k)
  else if bdN o mv = 30 then (30 :: (r (abN o) 1 x).1, (r (abN o) 1 x).2 * 3)
  else if bdN o mv = 40 then (40 :: (r (abN o) 1 (x + 1)).1, (r (abN o) 1 (x + 1)).2)
  else if bdN o mv = 50 then (50 :: (r (abN o) 2 x).1, -(r (abN o) 2 x).2)
  else if bdN o mv = 51 then (51 :: (r (abN o) 0 x).1, (r (abN o) 0 x).2 - m)
  else if bdN o mv = 60 then (60 :: (r (abN o) 2 x).1, (r (abN o) 2 x).2 ^^^ 5)
  else if bdN o mv = 70 then (70 :: (r (abN o) 0 x).1, (r (abN o) 0 x).2 * 2)
  else (71 :: (r (abN o) 1 (x - k)).1, (r (abN o) 1 (x - k)).2)
def rb (k0 : Nat) (m k : Int32) : Nat → Nat → Nat → Int32 → List Int32 × Int32
  | 0, _, _, _ => ([], 0)
  | n + 1, f, mv, x => rbO k0 m k (rb k0 m k n) (fnd 3 f mv) mv x
def okO (k0 : Nat) (r : Nat → Nat → Bool) (o mv : Nat) : Bool :=
  if bdN o mv = 10 then true
  else if bdN o mv = 11 then r k0 0
  else if bdN o mv = 12 then r k0 1 && r k0 0
  else if bdN o mv = 20 then r (abN o) 0
  else if bdN o mv = 30 then r (abN o) 1
  else if bdN o mv = 40 then r (abN o) 1
  else if bdN o mv = 50 then r (abN o) 2
  else if bdN o mv = 51 then r (abN o) 0
  else if bdN o mv = 60 then r (abN o) 2
  else if bdN o mv = 70 then r (abN o) 0
  else r (abN o) 1
def okF (k0 : Nat) : Nat → Nat → Nat → Bool
  | 0, _, _ => false
  | n + 1, f, mv => okO k0 (okF k0 n) (fnd 3 f mv) mv
theorem ok_all : ∀ k0, k0 < 7 → ∀ mv, mv < 3 → okF k0 8 k0 mv = true := by decide +kernel
theorem rbO_10 {k0 o mv : Nat} {m k x : Int32} {r : Nat → Nat → Int32 → List Int32 × Int32} (h : bdN o mv = 10) : rbO k0 m k r o mv x = ([10], x + m) := by
  unfold rbO
  rw [h]
  rfl
theorem rbO_11 {k0 o mv : Nat} {m k x : Int32} {r : Nat → Nat → Int32 → List Int32 × Int32} (h : bdN o mv = 11) : rbO k0 m k r o mv x = (11 :: (r k0 0 x).1, (r k0 0 x).2 * 2) := by
  unfold rbO
  rw [h]
  rfl
theorem rbO_12 {k0 o mv : Nat} {m k x : Int32} {r : Nat → Nat → Int32 → List Int32 × Int32} (h : bdN o mv = 12) : rbO k0 m k r o mv x = (12 :: ((r k0 1 x).1 ++ (r k0 0 (x - k)).1), (r k0 1 x).2 ^^^ (r k0 0 (x - k)).2) := by
  unfold rbO
  rw [h]
  rfl
theorem rbO_20 {k0 o mv : Nat} {m k x : Int32} {r : Nat → Nat → Int32 → List Int32 × Int32} (h : bdN o mv = 20) : rbO k0 m k r o mv x = (20 :: (r (abN o) 0 x).1, (r (abN o) 0 x).2 + k) := by
  unfold rbO
  rw [h]
  rfl
theorem rbO_30 {k0 o mv : Nat} {m k x : Int32} {r : Nat → Nat → Int32 → List Int32 × Int32} (h : bdN o mv = 30) : rbO k0 m k r o mv x = (30 :: (r (abN o) 1 x).1, (r (abN o) 1 x).2 * 3) := by
  unfold rbO
  rw [h]
  rfl
theorem rbO_40 {k0 o mv : Nat} {m k x : Int32} {r : Nat → Nat → Int32 → List Int32 × Int32} (h : bdN o mv = 40) : rbO k0 m k r o mv x = (40 :: (r (abN o) 1 (x + 1)).1, (r (abN o) 1 (x + 1)).2) := by
  unfold rbO
  rw [h]
  rfl
theorem rbO_50 {k0 o mv : Nat} {m k x : Int32} {r : Nat → Nat → Int32 → List Int32 × Int32} (h : bdN o mv = 50) : rbO k0 m k r o mv x = (50 :: (r (abN o) 2 x).1, -(r (abN o) 2 x).2) := by
  unfold rbO
  rw [h]
  rfl
theorem rbO_51 {k0 o mv : Nat} {m k x : Int32} {r : Nat → Nat → Int32 → List Int32 × Int32} (h : bdN o mv = 51) : rbO k0 m k r o mv x = (51 :: (r (abN o) 0 x).1, (r (abN o) 0 x).2 - m) := by
  unfold rbO
  rw [h]
  rfl
theorem rbO_60 {k0 o mv : Nat} {m k x : Int32} {r : Nat → Nat → Int32 → List Int32 × Int32} (h : bdN o mv = 60) : rbO k0 m k r o mv x = (60 :: (r (abN o) 2 x).1, (r (abN o) 2 x).2 ^^^ 5) := by
  unfold rbO
  rw [h]
  rfl
theorem rbO_70 {k0 o mv : Nat} {m k x : Int32} {r : Nat → Nat → Int32 → List Int32 × Int32} (h : bdN o mv = 70) : rbO k0 m k r o mv x = (70 :: (r (abN o) 0 x).1, (r (abN o) 0 x).2 * 2) := by
  unfold rbO
  rw [h]
  rfl
theorem rbO_71 {k0 o mv : Nat} {m k x : Int32} {r : Nat → Nat → Int32 → List Int32 × Int32} (h : bdN o mv = 71) : rbO k0 m k r o mv x = (71 :: (r (abN o) 1 (x - k)).1, (r (abN o) 1 (x - k)).2) := by
  unfold rbO
  rw [h]
  rfl
theorem begS_k (F : zF) (b : Int32) (j : Nat) : (begS F b).2.2.2 3 (j + 1) = F.2.2.2 3 (j + 1) := by
  unfold begS
  split <;> simp [sM, va_up, upd]
def begL : zF → List Int32 → zF
  | F, [] => F
  | F, b :: bs => begL (begS F b) bs
theorem begL_k (F : zF) (L : List Int32) (j : Nat) : (begL F L).2.2.2 3 (j + 1) = F.2.2.2 3 (j + 1) := by
  induction L generalizing F with
  | nil => rfl
  | cons b L ih => exact (ih (begS F b)).trans (begS_k F b j)
theorem begL_app (F : zF) (L M : List Int32) : begL F (L ++ M) = begL (begL F L) M := by
  induction L generalizing F with
  | nil => rfl
  | cons b L ih => exact ih (begS F b)
def actR (g : zGc) (p mv x : Int32) : List Int32 × Int32 := if inR p (g.1 0) = true ∧ inR mv 3 = true then rb (g.2.1 p.toNatClampNeg 0).toNatClampNeg p (g.2.1 p.toNatClampNeg 1) 8 (g.2.1 p.toNatClampNeg 0).toNatClampNeg mv.toNatClampNeg x else ([], 0)
/-- the stage is swept -/
def st0 (F F1 : zF) : Prop := F1.1 = F.1 ∧ F1.2.1 = F.2.1 ∧ F1.2.2.1 = F.2.2.1 ∧ (∀ i, i ≠ 3 → F1.2.2.2 i = F.2.2.2 i) ∧ F1.2.2.2 3 0 = 0
theorem st0_1 (F : zF) : st0 F (sM F 3 0 0) := ⟨rfl, rfl, rfl, fun i hi => va_up_ne _ _ hi, by simp [sM, va_up, upd]⟩
theorem st0_2 (F : zF) (a b c : Int32) : st0 F (sM (sM (sM (sM F 3 0 0) 3 1 a) 3 2 b) 3 3 c) := ⟨rfl, rfl, rfl, fun i hi => by simp only [sM, va_up_ne _ _ hi], by simp [sM, va_up, upd]⟩
set_option maxRecDepth 100000 in
set_option maxHeartbeats 4000000 in
theorem lp_X6_runBody {l : Launch} {E : zE} {K : zK} {s : State} (n k0 : Nat) (hk0 : k0 < 7) (m k : Int32) (ih : ∀ (F : zF) (f mv dp : Nat) (x : Int32), f < 7 → mv < 3 → F.2.2.2 3 1 = nI k0 → F.2.2.2 3 2 = m → F.2.2.2 3 3 = k → okF k0 n f mv = true → dp + n ≤ 13 → XM l E yX6_runBody cX6_runBody 9 (some .int) (n + 2) [.ref (xadr E.2.2.1 (10, 0, 0)), .int (nI f), .int (nI mv), .int x, .int (nI dp)] F (fun v F2 => v = some (.int (rb k0 m k n f mv x).2) ∧ F2 = begL F (rb k0 m k n f mv x).1)) (F : zF) {f mv dp : Nat} (x : Int32) (hf : f < 7) (hmv : mv < 3) (hkk : F.2.2.2 3 1 = nI k0) (hm : F.2.2.2 3 2 = m) (hk3 : F.2.2.2 3 3 = k) (hok : okF k0 (n + 1) f mv = true) (hdp : dp + (n + 1) ≤ 13) (C0 : XR l E K cX6_runBody RX6 (n + 3) s 9 (some .int) (fun v F2 => v = some (.int (rb k0 m k (n + 1) f mv x).2) ∧ F2 = begL F (rb k0 m k (n + 1) f mv x).1)) : ∀ (n2 : Nat) (i o : Nat), (7 - i < n2) → (i + o ≤ 6) → (fnd 3 o mv = fnd 3 f mv) → Z K (XP E (F) s) 24 [(0, .ref (xadr E.2.2.1 (10, 0, 0))), (2, .int (nI mv)), (3, .int (x)), (4, .int (nI dp)), (5, .int (nI o)), (6, .int (nI i))] [] := by
  have C := C0.c
  intro n2
  induction n2 with
  | zero => intro i o hk hio hf2; exact absurd hk (Nat.not_lt_zero _)
  | succ n2 ih2 =>
    intro i o hk hio hf2
    refine z_iload C 5 dX6_runBody_24 rfl ?_
    refine z_bipush C (v := 7) dX6_runBody_26 rfl ?_
    refine z_icmp_ge C 66 dX6_runBody_28 (by decide) (fun h28 => ?_) (fun h28 => ?_)
    · exact absurd h28 (Int32.not_le.mpr (nI_lt (a := i) (b := 7) (by omega) (by omega)))
    · skip
      refine z_iload C 4 dX6_runBody_31 rfl ?_
      refine z_callS1 C (c_X6_isKind l E _ _) q_X6_101 (by refine ⟨?_, ?_⟩ <;> simp only [zRM] <;> omega) (Nat.le_of_ble_eq_true rfl) dX6_runBody_33 (fun v F9 hp => ?_)
      obtain ⟨rfl, e9⟩ := hp
      rw [e9]
      clear e9 F9
      refine z_if_eq C 66 dX6_runBody_36 (by decide) (fun h36 => ?_) (fun h36 => ?_)
      · exact absurd (inR_nI (n := 7) (j := o) (by omega) (by omega)) (show ¬ inR (nI o) 7 = true by rw [(bI_0 h36)]; decide)
      · skip
        have h36 := bI_1 h36
        refine z_gets C (fun H h => h.1.2.1.1) kf_X6_296 dX6_runBody_39 ?_
        refine z_iload C 4 dX6_runBody_42 rfl ?_
        refine z_iconst C (v := 3) dX6_runBody_44 rfl ?_
        refine z_imul C dX6_runBody_45 ?_
        refine z_iload_n C 1 dX6_runBody_46 rfl ?_
        refine z_iadd C dX6_runBody_47 ?_
        refine z_tald C (o * 3 + mv) (fun H h => h.1.2.1.2) (rb_ix o (by omega) mv hmv) (by omega) (by decide) rfl dX6_runBody_48 ?_
        refine z_top (bdN o mv) rfl ?_
        refine z_if_ne C 66 dX6_runBody_49 (by decide) (fun h49 => ?_) (fun h49 => ?_)
        · skip
          have eo : fnd 3 f mv = o := by rw [← hf2]; exact fnd_stop h49
          have hoO : okO k0 (okF k0 n) o mv = true := by rw [← eo]; exact hok
          refine z_iload C 4 dX6_runBody_66 rfl ?_
          refine z_callS1 C (c_X6_isKind l E _ _) q_X6_101 (by refine ⟨?_, ?_⟩ <;> simp only [zRM] <;> omega) (Nat.le_of_ble_eq_true rfl) dX6_runBody_68 (fun v F9 hp => ?_)
          obtain ⟨rfl, e9⟩ := hp
          rw [e9]
          clear e9 F9
          refine z_if_ne C 76 dX6_runBody_71 (by decide) (fun h71 => ?_) (fun h71 => ?_)
          · skip
            have h71 := bI_1 h71
            refine z_gets C (fun H h => h.1.2.1.1) kf_X6_296 dX6_runBody_76 ?_
            refine z_iload C 4 dX6_runBody_79 rfl ?_
            refine z_iconst C (v := 3) dX6_runBody_81 rfl ?_
            refine z_imul C dX6_runBody_82 ?_
            refine z_iload_n C 1 dX6_runBody_83 rfl ?_
            refine z_iadd C dX6_runBody_84 ?_
            refine z_tald C (o * 3 + mv) (fun H h => h.1.2.1.2) (rb_ix o (by omega) mv hmv) (by omega) (by decide) rfl dX6_runBody_85 ?_
            refine z_top (bdN o mv) rfl ?_
            refine z_istore C dX6_runBody_86 (by decide) ?_
            refine z_aload_n C 1 dX6_runBody_88 rfl ?_
            refine z_iload C 0 dX6_runBody_89 rfl ?_
            refine z_callV1 C (c_X5_begin l E _ _) ⟨by decide, rfl, rfl⟩ rfl rfl q_X6_302 (by refine ⟨?_, ?_⟩ <;> simp only [zRM] <;> omega) (Nat.le_of_ble_eq_true rfl) dX6_runBody_91 (fun v F9 hp => ?_)
            obtain ⟨rfl, e9⟩ := hp
            rw [e9]
            clear e9 F9
            refine z_iload C 4 dX6_runBody_94 rfl ?_
            refine z_iconst C (v := 1) dX6_runBody_96 rfl ?_
            refine z_iadd C dX6_runBody_97 ?_
            refine z_top (nI (dp + 1)) (nI_1 _) ?_
            refine z_istore C dX6_runBody_98 (by decide) ?_
            refine z_gets C (fun H h => h.1.1.1) kf_X6_299 dX6_runBody_100 ?_
            refine z_iload C 6 dX6_runBody_103 rfl ?_
            refine z_tald C o (fun H h => h.1.1.2) rfl (by omega) (by decide) rfl dX6_runBody_105 ?_
            refine z_istore C dX6_runBody_106 (by decide) ?_
            refine z_iload C 2 dX6_runBody_108 rfl ?_
            refine z_case (10) (fun h110_10 => ?_) (fun h110_10 => ?_)
            · refine z_lookup C (98) 208 dX6_runBody_110 (by decide) (by rw [h110_10]; decide) (by decide) ?_
              rw [h110_10]
              refine z_iload_n C 5 dX6_runBody_208 rfl ?_
              refine z_aload_n C 3 dX6_runBody_209 rfl ?_
              refine xg_10 (k := 2) C (by decide) kf_X6_267 dX6_runBody_210 ?_
              refine z_top (m) ((begS_k _ _ 1).trans hm) ?_
              refine z_iadd C dX6_runBody_213 ?_
              refine z_iret C0 dX6_runBody_214 ?_
              rw [show rb k0 m k (n + 1) f mv x = rbO k0 m k (rb k0 m k n) (fnd 3 f mv) mv x from rfl, eo]
              rw [rbO_10 h110_10]
              exact ⟨rfl, rfl⟩
            refine z_case (11) (fun h110_11 => ?_) (fun h110_11 => ?_)
            · refine z_lookup C (105) 215 dX6_runBody_110 (by decide) (by rw [h110_11]; decide) (by decide) ?_
              rw [h110_11]
              have hsub : okF k0 n k0 0 = true := by simpa [okO, h110_11] using hoO
              refine z_aload_n C 3 dX6_runBody_215 rfl ?_
              refine z_aload_n C 3 dX6_runBody_216 rfl ?_
              refine xg_10 (k := 1) C (by decide) kf_X6_266 dX6_runBody_217 ?_
              refine z_top (nI k0) ((begS_k _ _ 0).trans hkk) ?_
              refine z_iconst C (v := 0) dX6_runBody_220 rfl ?_
              refine z_top (nI 0) (rfl) ?_
              refine z_iload_n C 5 dX6_runBody_221 rfl ?_
              refine z_iload C 1 dX6_runBody_222 rfl ?_
              refine z_callS5 C (ih (begS F 11) k0 0 (dp + 1) _ hk0 (by decide) ((begS_k _ _ 0).trans hkk) ((begS_k _ _ 1).trans hm) ((begS_k _ _ 2).trans hk3) hsub (by omega)) q_X6_273 (by refine ⟨?_, ?_⟩ <;> simp only [zRM] <;> omega) (Nat.le_of_ble_eq_true rfl) dX6_runBody_224 (fun v F9 hp => ?_)
              obtain ⟨rfl, e9⟩ := hp
              rw [e9]
              clear e9 F9
              refine z_iconst C (v := 2) dX6_runBody_227 rfl ?_
              refine z_imul C dX6_runBody_228 ?_
              refine z_iret C0 dX6_runBody_229 ?_
              rw [show rb k0 m k (n + 1) f mv x = rbO k0 m k (rb k0 m k n) (fnd 3 f mv) mv x from rfl, eo]
              rw [rbO_11 h110_11]
              exact ⟨rfl, rfl⟩
            refine z_case (12) (fun h110_12 => ?_) (fun h110_12 => ?_)
            · refine z_lookup C (120) 230 dX6_runBody_110 (by decide) (by rw [h110_12]; decide) (by decide) ?_
              rw [h110_12]
              have hsub : okF k0 n k0 1 = true ∧ okF k0 n k0 0 = true := by simpa [okO, h110_12] using hoO
              refine z_aload_n C 3 dX6_runBody_230 rfl ?_
              refine z_aload_n C 3 dX6_runBody_231 rfl ?_
              refine xg_10 (k := 1) C (by decide) kf_X6_266 dX6_runBody_232 ?_
              refine z_top (nI k0) ((begS_k _ _ 0).trans hkk) ?_
              refine z_iconst C (v := 1) dX6_runBody_235 rfl ?_
              refine z_top (nI 1) (rfl) ?_
              refine z_iload_n C 5 dX6_runBody_236 rfl ?_
              refine z_iload C 1 dX6_runBody_237 rfl ?_
              refine z_callS5 C (ih (begS F 12) k0 1 (dp + 1) _ hk0 (by decide) ((begS_k _ _ 0).trans hkk) ((begS_k _ _ 1).trans hm) ((begS_k _ _ 2).trans hk3) hsub.1 (by omega)) q_X6_273 (by refine ⟨?_, ?_⟩ <;> simp only [zRM] <;> omega) (Nat.le_of_ble_eq_true rfl) dX6_runBody_239 (fun v F9 hp => ?_)
              obtain ⟨rfl, e9⟩ := hp
              rw [e9]
              clear e9 F9
              refine z_aload_n C 3 dX6_runBody_242 rfl ?_
              refine z_aload_n C 3 dX6_runBody_243 rfl ?_
              refine xg_10 (k := 1) C (by decide) kf_X6_266 dX6_runBody_244 ?_
              refine z_top (nI k0) ((begL_k _ _ 0).trans ((begS_k _ _ 0).trans hkk)) ?_
              refine z_iconst C (v := 0) dX6_runBody_247 rfl ?_
              refine z_top (nI 0) (rfl) ?_
              refine z_iload_n C 5 dX6_runBody_248 rfl ?_
              refine z_aload_n C 3 dX6_runBody_249 rfl ?_
              refine xg_10 (k := 3) C (by decide) kf_X6_270 dX6_runBody_250 ?_
              refine z_top (k) ((begL_k _ _ 2).trans ((begS_k _ _ 2).trans hk3)) ?_
              refine z_isub C dX6_runBody_253 ?_
              refine z_iload C 1 dX6_runBody_254 rfl ?_
              refine z_callS5 C (ih (begL (begS F 12) _) k0 0 (dp + 1) _ hk0 (by decide) ((begL_k _ _ 0).trans ((begS_k _ _ 0).trans hkk)) ((begL_k _ _ 1).trans ((begS_k _ _ 1).trans hm)) ((begL_k _ _ 2).trans ((begS_k _ _ 2).trans hk3)) hsub.2 (by omega)) q_X6_273 (by refine ⟨?_, ?_⟩ <;> simp only [zRM] <;> omega) (Nat.le_of_ble_eq_true rfl) dX6_runBody_256 (fun v F9 hp => ?_)
              obtain ⟨rfl, e9⟩ := hp
              rw [e9]
              clear e9 F9
              refine z_ixor C dX6_runBody_259 ?_
              refine z_iret C0 dX6_runBody_260 ?_
              rw [show rb k0 m k (n + 1) f mv x = rbO k0 m k (rb k0 m k n) (fnd 3 f mv) mv x from rfl, eo]
              rw [rbO_12 h110_12]
              exact ⟨rfl, (begL_app _ _ _).symm⟩
            refine z_case (20) (fun h110_20 => ?_) (fun h110_20 => ?_)
            · refine z_lookup C (151) 261 dX6_runBody_110 (by decide) (by rw [h110_20]; decide) (by decide) ?_
              rw [h110_20]
              have hsub : okF k0 n (abN o) 0 = true := by simpa [okO, h110_20] using hoO
              obtain ⟨eab, hab⟩ := ab_of o (by omega) mv hmv (by rw [h110_20]; decide)
              refine z_aload_n C 3 dX6_runBody_261 rfl ?_
              refine z_iload C 0 dX6_runBody_262 rfl ?_
              refine z_top (nI (abN o)) (eab) ?_
              refine z_iconst C (v := 0) dX6_runBody_264 rfl ?_
              refine z_top (nI 0) (rfl) ?_
              refine z_iload_n C 5 dX6_runBody_265 rfl ?_
              refine z_iload C 1 dX6_runBody_266 rfl ?_
              refine z_callS5 C (ih (begS F 20) (abN o) 0 (dp + 1) _ hab (by decide) ((begS_k _ _ 0).trans hkk) ((begS_k _ _ 1).trans hm) ((begS_k _ _ 2).trans hk3) hsub (by omega)) q_X6_273 (by refine ⟨?_, ?_⟩ <;> simp only [zRM] <;> omega) (Nat.le_of_ble_eq_true rfl) dX6_runBody_268 (fun v F9 hp => ?_)
              obtain ⟨rfl, e9⟩ := hp
              rw [e9]
              clear e9 F9
              refine z_aload_n C 3 dX6_runBody_271 rfl ?_
              refine xg_10 (k := 3) C (by decide) kf_X6_270 dX6_runBody_272 ?_
              refine z_top (k) ((begL_k _ _ 2).trans ((begS_k _ _ 2).trans hk3)) ?_
              refine z_iadd C dX6_runBody_275 ?_
              refine z_iret C0 dX6_runBody_276 ?_
              rw [show rb k0 m k (n + 1) f mv x = rbO k0 m k (rb k0 m k n) (fnd 3 f mv) mv x from rfl, eo]
              rw [rbO_20 h110_20]
              exact ⟨rfl, rfl⟩
            refine z_case (30) (fun h110_30 => ?_) (fun h110_30 => ?_)
            · refine z_lookup C (167) 277 dX6_runBody_110 (by decide) (by rw [h110_30]; decide) (by decide) ?_
              rw [h110_30]
              have hsub : okF k0 n (abN o) 1 = true := by simpa [okO, h110_30] using hoO
              obtain ⟨eab, hab⟩ := ab_of o (by omega) mv hmv (by rw [h110_30]; decide)
              refine z_aload_n C 3 dX6_runBody_277 rfl ?_
              refine z_iload C 0 dX6_runBody_278 rfl ?_
              refine z_top (nI (abN o)) (eab) ?_
              refine z_iconst C (v := 1) dX6_runBody_280 rfl ?_
              refine z_top (nI 1) (rfl) ?_
              refine z_iload_n C 5 dX6_runBody_281 rfl ?_
              refine z_iload C 1 dX6_runBody_282 rfl ?_
              refine z_callS5 C (ih (begS F 30) (abN o) 1 (dp + 1) _ hab (by decide) ((begS_k _ _ 0).trans hkk) ((begS_k _ _ 1).trans hm) ((begS_k _ _ 2).trans hk3) hsub (by omega)) q_X6_273 (by refine ⟨?_, ?_⟩ <;> simp only [zRM] <;> omega) (Nat.le_of_ble_eq_true rfl) dX6_runBody_284 (fun v F9 hp => ?_)
              obtain ⟨rfl, e9⟩ := hp
              rw [e9]
              clear e9 F9
              refine z_iconst C (v := 3) dX6_runBody_287 rfl ?_
              refine z_imul C dX6_runBody_288 ?_
              refine z_iret C0 dX6_runBody_289 ?_
              rw [show rb k0 m k (n + 1) f mv x = rbO k0 m k (rb k0 m k n) (fnd 3 f mv) mv x from rfl, eo]
              rw [rbO_30 h110_30]
              exact ⟨rfl, rfl⟩
            refine z_case (40) (fun h110_40 => ?_) (fun h110_40 => ?_)
            · refine z_lookup C (180) 290 dX6_runBody_110 (by decide) (by rw [h110_40]; decide) (by decide) ?_
              rw [h110_40]
              have hsub : okF k0 n (abN o) 1 = true := by simpa [okO, h110_40] using hoO
              obtain ⟨eab, hab⟩ := ab_of o (by omega) mv hmv (by rw [h110_40]; decide)
              refine z_aload_n C 3 dX6_runBody_290 rfl ?_
              refine z_iload C 0 dX6_runBody_291 rfl ?_
              refine z_top (nI (abN o)) (eab) ?_
              refine z_iconst C (v := 1) dX6_runBody_293 rfl ?_
              refine z_top (nI 1) (rfl) ?_
              refine z_iload_n C 5 dX6_runBody_294 rfl ?_
              refine z_iconst C (v := 1) dX6_runBody_295 rfl ?_
              refine z_iadd C dX6_runBody_296 ?_
              refine z_iload C 1 dX6_runBody_297 rfl ?_
              refine z_callS5 C (ih (begS F 40) (abN o) 1 (dp + 1) _ hab (by decide) ((begS_k _ _ 0).trans hkk) ((begS_k _ _ 1).trans hm) ((begS_k _ _ 2).trans hk3) hsub (by omega)) q_X6_273 (by refine ⟨?_, ?_⟩ <;> simp only [zRM] <;> omega) (Nat.le_of_ble_eq_true rfl) dX6_runBody_299 (fun v F9 hp => ?_)
              obtain ⟨rfl, e9⟩ := hp
              rw [e9]
              clear e9 F9
              refine z_iret C0 dX6_runBody_302 ?_
              rw [show rb k0 m k (n + 1) f mv x = rbO k0 m k (rb k0 m k n) (fnd 3 f mv) mv x from rfl, eo]
              rw [rbO_40 h110_40]
              exact ⟨rfl, rfl⟩
            refine z_case (50) (fun h110_50 => ?_) (fun h110_50 => ?_)
            · refine z_lookup C (193) 303 dX6_runBody_110 (by decide) (by rw [h110_50]; decide) (by decide) ?_
              rw [h110_50]
              have hsub : okF k0 n (abN o) 2 = true := by simpa [okO, h110_50] using hoO
              obtain ⟨eab, hab⟩ := ab_of o (by omega) mv hmv (by rw [h110_50]; decide)
              refine z_aload_n C 3 dX6_runBody_303 rfl ?_
              refine z_iload C 0 dX6_runBody_304 rfl ?_
              refine z_top (nI (abN o)) (eab) ?_
              refine z_iconst C (v := 2) dX6_runBody_306 rfl ?_
              refine z_top (nI 2) (rfl) ?_
              refine z_iload_n C 5 dX6_runBody_307 rfl ?_
              refine z_iload C 1 dX6_runBody_308 rfl ?_
              refine z_callS5 C (ih (begS F 50) (abN o) 2 (dp + 1) _ hab (by decide) ((begS_k _ _ 0).trans hkk) ((begS_k _ _ 1).trans hm) ((begS_k _ _ 2).trans hk3) hsub (by omega)) q_X6_273 (by refine ⟨?_, ?_⟩ <;> simp only [zRM] <;> omega) (Nat.le_of_ble_eq_true rfl) dX6_runBody_310 (fun v F9 hp => ?_)
              obtain ⟨rfl, e9⟩ := hp
              rw [e9]
              clear e9 F9
              refine z_ineg C dX6_runBody_313 ?_
              refine z_iret C0 dX6_runBody_314 ?_
              rw [show rb k0 m k (n + 1) f mv x = rbO k0 m k (rb k0 m k n) (fnd 3 f mv) mv x from rfl, eo]
              rw [rbO_50 h110_50]
              exact ⟨rfl, rfl⟩
            refine z_case (51) (fun h110_51 => ?_) (fun h110_51 => ?_)
            · refine z_lookup C (205) 315 dX6_runBody_110 (by decide) (by rw [h110_51]; decide) (by decide) ?_
              rw [h110_51]
              have hsub : okF k0 n (abN o) 0 = true := by simpa [okO, h110_51] using hoO
              obtain ⟨eab, hab⟩ := ab_of o (by omega) mv hmv (by rw [h110_51]; decide)
              refine z_aload_n C 3 dX6_runBody_315 rfl ?_
              refine z_iload C 0 dX6_runBody_316 rfl ?_
              refine z_top (nI (abN o)) (eab) ?_
              refine z_iconst C (v := 0) dX6_runBody_318 rfl ?_
              refine z_top (nI 0) (rfl) ?_
              refine z_iload_n C 5 dX6_runBody_319 rfl ?_
              refine z_iload C 1 dX6_runBody_320 rfl ?_
              refine z_callS5 C (ih (begS F 51) (abN o) 0 (dp + 1) _ hab (by decide) ((begS_k _ _ 0).trans hkk) ((begS_k _ _ 1).trans hm) ((begS_k _ _ 2).trans hk3) hsub (by omega)) q_X6_273 (by refine ⟨?_, ?_⟩ <;> simp only [zRM] <;> omega) (Nat.le_of_ble_eq_true rfl) dX6_runBody_322 (fun v F9 hp => ?_)
              obtain ⟨rfl, e9⟩ := hp
              rw [e9]
              clear e9 F9
              refine z_aload_n C 3 dX6_runBody_325 rfl ?_
              refine xg_10 (k := 2) C (by decide) kf_X6_267 dX6_runBody_326 ?_
              refine z_top (m) ((begL_k _ _ 1).trans ((begS_k _ _ 1).trans hm)) ?_
              refine z_isub C dX6_runBody_329 ?_
              refine z_iret C0 dX6_runBody_330 ?_
              rw [show rb k0 m k (n + 1) f mv x = rbO k0 m k (rb k0 m k n) (fnd 3 f mv) mv x from rfl, eo]
              rw [rbO_51 h110_51]
              exact ⟨rfl, rfl⟩
            refine z_case (60) (fun h110_60 => ?_) (fun h110_60 => ?_)
            · refine z_lookup C (221) 331 dX6_runBody_110 (by decide) (by rw [h110_60]; decide) (by decide) ?_
              rw [h110_60]
              have hsub : okF k0 n (abN o) 2 = true := by simpa [okO, h110_60] using hoO
              obtain ⟨eab, hab⟩ := ab_of o (by omega) mv hmv (by rw [h110_60]; decide)
              refine z_aload_n C 3 dX6_runBody_331 rfl ?_
              refine z_iload C 0 dX6_runBody_332 rfl ?_
              refine z_top (nI (abN o)) (eab) ?_
              refine z_iconst C (v := 2) dX6_runBody_334 rfl ?_
              refine z_top (nI 2) (rfl) ?_
              refine z_iload_n C 5 dX6_runBody_335 rfl ?_
              refine z_iload C 1 dX6_runBody_336 rfl ?_
              refine z_callS5 C (ih (begS F 60) (abN o) 2 (dp + 1) _ hab (by decide) ((begS_k _ _ 0).trans hkk) ((begS_k _ _ 1).trans hm) ((begS_k _ _ 2).trans hk3) hsub (by omega)) q_X6_273 (by refine ⟨?_, ?_⟩ <;> simp only [zRM] <;> omega) (Nat.le_of_ble_eq_true rfl) dX6_runBody_338 (fun v F9 hp => ?_)
              obtain ⟨rfl, e9⟩ := hp
              rw [e9]
              clear e9 F9
              refine z_iconst C (v := 5) dX6_runBody_341 rfl ?_
              refine z_ixor C dX6_runBody_342 ?_
              refine z_iret C0 dX6_runBody_343 ?_
              rw [show rb k0 m k (n + 1) f mv x = rbO k0 m k (rb k0 m k n) (fnd 3 f mv) mv x from rfl, eo]
              rw [rbO_60 h110_60]
              exact ⟨rfl, rfl⟩
            refine z_case (70) (fun h110_70 => ?_) (fun h110_70 => ?_)
            · refine z_lookup C (234) 344 dX6_runBody_110 (by decide) (by rw [h110_70]; decide) (by decide) ?_
              rw [h110_70]
              have hsub : okF k0 n (abN o) 0 = true := by simpa [okO, h110_70] using hoO
              obtain ⟨eab, hab⟩ := ab_of o (by omega) mv hmv (by rw [h110_70]; decide)
              refine z_aload_n C 3 dX6_runBody_344 rfl ?_
              refine z_iload C 0 dX6_runBody_345 rfl ?_
              refine z_top (nI (abN o)) (eab) ?_
              refine z_iconst C (v := 0) dX6_runBody_347 rfl ?_
              refine z_top (nI 0) (rfl) ?_
              refine z_iload_n C 5 dX6_runBody_348 rfl ?_
              refine z_iload C 1 dX6_runBody_349 rfl ?_
              refine z_callS5 C (ih (begS F 70) (abN o) 0 (dp + 1) _ hab (by decide) ((begS_k _ _ 0).trans hkk) ((begS_k _ _ 1).trans hm) ((begS_k _ _ 2).trans hk3) hsub (by omega)) q_X6_273 (by refine ⟨?_, ?_⟩ <;> simp only [zRM] <;> omega) (Nat.le_of_ble_eq_true rfl) dX6_runBody_351 (fun v F9 hp => ?_)
              obtain ⟨rfl, e9⟩ := hp
              rw [e9]
              clear e9 F9
              refine z_iconst C (v := 2) dX6_runBody_354 rfl ?_
              refine z_imul C dX6_runBody_355 ?_
              refine z_iret C0 dX6_runBody_356 ?_
              rw [show rb k0 m k (n + 1) f mv x = rbO k0 m k (rb k0 m k n) (fnd 3 f mv) mv x from rfl, eo]
              rw [rbO_70 h110_70]
              exact ⟨rfl, rfl⟩
            refine z_case (71) (fun h110_71 => ?_) (fun h110_71 => ?_)
            · refine z_lookup C (247) 357 dX6_runBody_110 (by decide) (by rw [h110_71]; decide) (by decide) ?_
              rw [h110_71]
              have hsub : okF k0 n (abN o) 1 = true := by simpa [okO, h110_71] using hoO
              obtain ⟨eab, hab⟩ := ab_of o (by omega) mv hmv (by rw [h110_71]; decide)
              refine z_aload_n C 3 dX6_runBody_357 rfl ?_
              refine z_iload C 0 dX6_runBody_358 rfl ?_
              refine z_top (nI (abN o)) (eab) ?_
              refine z_iconst C (v := 1) dX6_runBody_360 rfl ?_
              refine z_top (nI 1) (rfl) ?_
              refine z_iload_n C 5 dX6_runBody_361 rfl ?_
              refine z_aload_n C 3 dX6_runBody_362 rfl ?_
              refine xg_10 (k := 3) C (by decide) kf_X6_270 dX6_runBody_363 ?_
              refine z_top (k) ((begS_k _ _ 2).trans hk3) ?_
              refine z_isub C dX6_runBody_366 ?_
              refine z_iload C 1 dX6_runBody_367 rfl ?_
              refine z_callS5 C (ih (begS F 71) (abN o) 1 (dp + 1) _ hab (by decide) ((begS_k _ _ 0).trans hkk) ((begS_k _ _ 1).trans hm) ((begS_k _ _ 2).trans hk3) hsub (by omega)) q_X6_273 (by refine ⟨?_, ?_⟩ <;> simp only [zRM] <;> omega) (Nat.le_of_ble_eq_true rfl) dX6_runBody_369 (fun v F9 hp => ?_)
              obtain ⟨rfl, e9⟩ := hp
              rw [e9]
              clear e9 F9
              refine z_iret C0 dX6_runBody_372 ?_
              rw [show rb k0 m k (n + 1) f mv x = rbO k0 m k (rb k0 m k n) (fnd 3 f mv) mv x from rfl, eo]
              rw [rbO_71 h110_71]
              exact ⟨rfl, rfl⟩
            exact absurd (bd_all o (by omega) mv hmv) (by simp only [h110_10, h110_11, h110_12, h110_20, h110_30, h110_40, h110_50, h110_51, h110_60, h110_70, h110_71, or_self, false_or, not_false_eq_true, h49])
          · exact absurd (inR_nI (n := 7) (j := o) (by omega) (by omega)) (show ¬ inR (nI o) 7 = true by rw [(bI_0 h71)]; decide)
        · skip
          have ho0 : o ≠ 0 := fun z => bd_0 mv hmv (by rw [← z]; exact h49)
          obtain ⟨eab, hab, hab2⟩ := ab_nI o (by omega) ho0
          refine z_gets C (fun H h => h.1.1.1) kf_X6_299 dX6_runBody_52 ?_
          refine z_iload C 4 dX6_runBody_55 rfl ?_
          refine z_tald C o (fun H h => h.1.1.2) rfl (by omega) (by decide) rfl dX6_runBody_57 ?_
          refine z_top (nI (abN o)) (eab) ?_
          refine z_istore C dX6_runBody_58 (by decide) ?_
          refine z_iinc C (v := nI (i + 1)) 5 dX6_runBody_60 rfl (nI_1 _) (by decide) ?_
          refine z_goto C 24 dX6_runBody_63 (by decide) ?_
          refine z_pick [2, 3, 4, 5, 1, 0] rfl ?_
          exact ih2 (i + 1) (abN o) (by omega) (by omega) ((fnd_s o (by omega) mv hmv h49).trans hf2)
set_option maxRecDepth 100000 in
set_option maxHeartbeats 4000000 in
theorem c_runBody_s (l : Launch) (E : zE) (n k0 : Nat) (hk0 : k0 < 7) (m k : Int32) (ih : ∀ (F : zF) (f mv dp : Nat) (x : Int32), f < 7 → mv < 3 → F.2.2.2 3 1 = nI k0 → F.2.2.2 3 2 = m → F.2.2.2 3 3 = k → okF k0 n f mv = true → dp + n ≤ 13 → XM l E yX6_runBody cX6_runBody 9 (some .int) (n + 2) [.ref (xadr E.2.2.1 (10, 0, 0)), .int (nI f), .int (nI mv), .int x, .int (nI dp)] F (fun v F2 => v = some (.int (rb k0 m k n f mv x).2) ∧ F2 = begL F (rb k0 m k n f mv x).1)) (F : zF) {f mv dp : Nat} (x : Int32) (hf : f < 7) (hmv : mv < 3) (hkk : F.2.2.2 3 1 = nI k0) (hm : F.2.2.2 3 2 = m) (hk3 : F.2.2.2 3 3 = k) (hok : okF k0 (n + 1) f mv = true) (hdp : dp + (n + 1) ≤ 13) : XM l E yX6_runBody cX6_runBody 9 (some .int) (n + 3) [.ref (xadr E.2.2.1 (10, 0, 0)), .int (nI f), .int (nI mv), .int (x), .int (nI dp)] (F) (fun v F2 => v = some (.int (rb k0 m k (n + 1) f mv x).2) ∧ F2 = begL F (rb k0 m k (n + 1) f mv x).1) := by
  refine XM.mk kq_X6 (Nat.le_of_ble_eq_true rfl) (fun K s C0 => ?_)
  have C := C0.c
  refine z_iload C 4 dX6_runBody_0 rfl ?_
  refine z_bipush C (v := 12) dX6_runBody_2 rfl ?_
  refine z_icmp_gt C 16 dX6_runBody_4 (by decide) (fun h4 => ?_) (fun h4 => ?_)
  · exact absurd h4 (Int32.not_lt.mpr (nI_le (a := dp) (b := 12) (by omega) (by omega)))
  · skip
    refine z_iload_n C 2 dX6_runBody_7 rfl ?_
    refine z_if_lt C 16 dX6_runBody_8 (by decide) (fun h8 => ?_) (fun h8 => ?_)
    · exact absurd h8 (nI_pos (by omega))
    · skip
      refine z_iload_n C 2 dX6_runBody_11 rfl ?_
      refine z_iconst C (v := 3) dX6_runBody_12 rfl ?_
      refine z_icmp_lt C 18 dX6_runBody_13 (by decide) (fun h13 => ?_) (fun h13 => ?_)
      · skip
        refine z_iload_n C 1 dX6_runBody_18 rfl ?_
        refine z_istore C dX6_runBody_19 (by decide) ?_
        refine z_iconst C (v := 0) dX6_runBody_21 rfl ?_
        refine z_istore C dX6_runBody_22 (by decide) ?_
        refine z_pick [2, 4, 5, 6, 1, 0] rfl ?_
        exact lp_X6_runBody n k0 hk0 m k ih F x hf hmv hkk hm hk3 hok hdp C0 8 0 f (by omega) (by omega) rfl
      · exact absurd (nI_lt (a := mv) (b := 3) hmv (by omega)) h13
theorem c_runBody (k0 : Nat) (hk0 : k0 < 7) (m k : Int32) (l : Launch) (E : zE) : ∀ (n : Nat) (F : zF) (f mv dp : Nat) (x : Int32), f < 7 → mv < 3 → F.2.2.2 3 1 = nI k0 → F.2.2.2 3 2 = m → F.2.2.2 3 3 = k → okF k0 n f mv = true → dp + n ≤ 13 → XM l E yX6_runBody cX6_runBody 9 (some .int) (n + 2) [.ref (xadr E.2.2.1 (10, 0, 0)), .int (nI f), .int (nI mv), .int x, .int (nI dp)] F (fun v F2 => v = some (.int (rb k0 m k n f mv x).2) ∧ F2 = begL F (rb k0 m k n f mv x).1)
  | 0, F, f, mv, dp, x, _, _, _, _, _, h, _ => absurd (show false = true from h) (by decide)
  | n + 1, F, f, mv, dp, x, h1, h2, h3, h4, h5, h6, h7 => c_runBody_s l E n k0 hk0 m k (c_runBody k0 hk0 m k l E n) F x h1 h2 h3 h4 h5 h6 h7
set_option maxRecDepth 100000 in
set_option maxHeartbeats 4000000 in
theorem c_X6_act (l : Launch) (E : zE) (F : zF) (hI : XI F) (hkd : ∀ j, j < nS (F.1 0).1 → ∃ k, k < 7 ∧ (F.1 0).1.2.1 j 0 = nI k) (p mv x : Int32) : XM l E yX6_act cX6_act 4 (some .int) 12 [.ref (xadr E.2.2.1 (0, 0, 0)), .int (p), .int (mv), .int (x)] (F) (fun v F2 => v = some (.int (actR (F.1 0).1 p mv x).2) ∧ ∃ F1, st0 F F1 ∧ F2 = begL F1 (actR (F.1 0).1 p mv x).1) := by
  refine XM.mk kq_X6 (Nat.le_of_ble_eq_true rfl) (fun K s C0 => ?_)
  have C := C0.c
  obtain ⟨hz, hw, hsh⟩ := id hI
  obtain ⟨⟨eS, lS⟩, ⟨eC, lC⟩⟩ := id hz
  refine z_aload_n C 0 dX6_act_0 rfl ?_
  refine xg_0_6 C kf_X6_42 dX6_act_1 ?_
  refine z_iconst C (v := 0) dX6_act_4 rfl ?_
  refine xp_10 (k := 0) C (by decide) kf_X6_263 dX6_act_5 ?_
  refine z_aload_n C 0 dX6_act_8 rfl ?_
  refine z_iload_n C 1 dX6_act_9 rfl ?_
  refine z_callV1 C (c_X6_isShop l E _ _) ⟨by decide, rfl, rfl⟩ rfl rfl q_X6_94 ⟨by decide, by decide⟩ (Nat.le_of_ble_eq_true rfl) dX6_act_10 (fun v F9 hp => ?_)
  obtain ⟨rfl, e9⟩ := hp
  rw [e9]
  clear e9 F9
  refine z_if_eq C 25 dX6_act_13 (by decide) (fun h13 => ?_) (fun h13 => ?_)
  · skip
    have h13 := bI_0 h13
    refine z_iconst C (v := 0) dX6_act_25 rfl ?_
    refine z_iret C0 dX6_act_26 ?_
    have e : actR (F.1 0).1 p mv x = ([], 0) := by
      unfold actR
      rw [if_neg (fun z => absurd (h13.symm.trans z.1) (by decide))]
    rw [e]
    exact ⟨rfl, _, st0_1 F, rfl⟩
  · skip
    have h13 := bI_1 h13
    refine z_iload_n C 2 dX6_act_16 rfl ?_
    refine z_if_lt C 25 dX6_act_17 (by decide) (fun h17 => ?_) (fun h17 => ?_)
    · skip
      refine z_iconst C (v := 0) dX6_act_25 rfl ?_
      refine z_iret C0 dX6_act_26 ?_
      have e : actR (F.1 0).1 p mv x = ([], 0) := by
        unfold actR
        rw [if_neg (fun z => absurd z.2 (by rw [inR_f1 h17]; decide))]
      rw [e]
      exact ⟨rfl, _, st0_1 F, rfl⟩
    · skip
      refine z_iload_n C 2 dX6_act_20 rfl ?_
      refine z_iconst C (v := 3) dX6_act_21 rfl ?_
      refine z_icmp_lt C 27 dX6_act_22 (by decide) (fun h22 => ?_) (fun h22 => ?_)
      · skip
        obtain ⟨j, hj, rfl⟩ := inR_of (n := nS (F.1 0).1) (by rw [← eS]; exact h13) (by omega)
        have hj6 : j < 6 := by omega
        obtain ⟨k0, hk0, ek0⟩ := hkd j hj
        obtain ⟨mvn, hmv, rfl⟩ := i_rng (n := 3) h17 h22 (by omega)
        refine z_aload_n C 0 dX6_act_27 rfl ?_
        refine xg_0_6 C kf_X6_42 dX6_act_28 ?_
        refine z_aload_n C 0 dX6_act_31 rfl ?_
        refine xg_0_2 C kf_X6_22 dX6_act_32 ?_
        refine xg_3s C (by decide) kf_X6_104 dX6_act_35 ?_
        refine z_iload_n C 1 dX6_act_38 rfl ?_
        refine xa_4 C (by decide) j rfl (by first | assumption | omega) dX6_act_39 ?_
        refine xg_6 (k := 0) C (by decide) (by first | assumption | omega) (by decide) kf_X6_130 dX6_act_40 ?_
        refine xp_10 (k := 1) C (by decide) kf_X6_266 dX6_act_43 ?_
        refine z_aload_n C 0 dX6_act_46 rfl ?_
        refine xg_0_6 C kf_X6_42 dX6_act_47 ?_
        refine z_iload_n C 1 dX6_act_50 rfl ?_
        refine xp_10 (k := 2) C (by decide) kf_X6_267 dX6_act_51 ?_
        refine z_aload_n C 0 dX6_act_54 rfl ?_
        refine xg_0_6 C kf_X6_42 dX6_act_55 ?_
        refine z_aload_n C 0 dX6_act_58 rfl ?_
        refine xg_0_2 C kf_X6_22 dX6_act_59 ?_
        refine xg_3s C (by decide) kf_X6_104 dX6_act_62 ?_
        refine z_iload_n C 1 dX6_act_65 rfl ?_
        refine xa_4 C (by decide) j rfl (by first | assumption | omega) dX6_act_66 ?_
        refine xg_6 (k := 1) C (by decide) (by first | assumption | omega) (by decide) kf_X6_133 dX6_act_67 ?_
        refine xp_10 (k := 3) C (by decide) kf_X6_270 dX6_act_70 ?_
        refine z_aload_n C 0 dX6_act_73 rfl ?_
        refine xg_0_6 C kf_X6_42 dX6_act_74 ?_
        refine z_aload_n C 0 dX6_act_77 rfl ?_
        refine xg_0_6 C kf_X6_42 dX6_act_78 ?_
        refine xg_10 (k := 1) C (by decide) kf_X6_266 dX6_act_81 ?_
        refine z_top (nI k0) ((show _ = (F.1 0).1.2.1 j 0 from rfl).trans ek0) ?_
        refine z_iload_n C 2 dX6_act_84 rfl ?_
        refine z_iload_n C 3 dX6_act_85 rfl ?_
        refine z_iconst C (v := 0) dX6_act_86 rfl ?_
        refine z_top (nI 0) (rfl) ?_
        refine z_callS5 C (c_runBody k0 hk0 (nI j) ((F.1 0).1.2.1 j 1) l E 8 _ k0 mvn 0 x hk0 hmv (show _ = nI k0 from ek0) rfl rfl (ok_all k0 hk0 mvn hmv) (by omega)) q_X6_273 ⟨by decide, by decide⟩ (Nat.le_of_ble_eq_true rfl) dX6_act_87 (fun v F9 hp => ?_)
        obtain ⟨rfl, e9⟩ := hp
        rw [e9]
        clear e9 F9
        refine z_iret C0 dX6_act_90 ?_
        have e : actR (F.1 0).1 (nI j) (nI mvn) x = rb k0 (nI j) ((F.1 0).1.2.1 j 1) 8 k0 mvn x := by
          unfold actR
          rw [if_pos ⟨h13, inR_nI (n := 3) hmv (by omega)⟩, nI_clamp (by omega), nI_clamp (by omega), ek0, nI_clamp (by omega)]
        rw [e]
        exact ⟨rfl, _, st0_2 F _ _ _, rfl⟩
      · skip
        refine z_iconst C (v := 0) dX6_act_25 rfl ?_
        refine z_iret C0 dX6_act_26 ?_
        have e : actR (F.1 0).1 p mv x = ([], 0) := by
          unfold actR
          rw [if_neg (fun z => absurd z.2 (by rw [inR_f2 (Int32.not_lt.mp h22)]; decide))]
        rw [e]
        exact ⟨rfl, _, st0_1 F, rfl⟩
