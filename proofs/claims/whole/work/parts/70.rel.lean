/-! what both gardens say alike -/
theorem e_cheapS {a b : zGc} (h : eqv a b) : ∀ {n : Nat}, n ≤ nS b → cheapS a n = cheapS b n
  | 0, _ => rfl
  | n + 1, hn => by
    have ih := e_cheapS h (n := n) (by omega)
    have hl : cheapS b n < nS b := by
      rcases Nat.eq_zero_or_pos n with q | q
      · subst q; show 0 < nS b; omega
      · have := cheapS_lt (g := b) (n := n) q; omega
    simp only [cheapS, ih, h.ask (s := n) (by omega), h.ask hl]
theorem e_anyN {a b a2 b2 : zGc} (h : eqv a b) (h2 : eqv a2 b2) (e : nS b2 = nS b) : ∀ {n : Nat}, n ≤ nS b → anyN a a2 n = anyN b b2 n
  | 0, _ => rfl
  | n + 1, hn => by
    simp only [anyN, e_anyN h h2 e (n := n) (by omega), h.ask (s := n) (by omega), h2.ask (s := n) (by omega)]
theorem e_setlN {rule : Int32} {a b : zGc} (h : eqv a b) (hz : gz b) : ∀ {t : Nat}, setlN rule a t = setlN rule b t
  | 0 => rfl
  | t + 1 => by
    simp only [setlN]
    rw [e_setlN h hz (t := t), h.S, e_anyN (e_rung (rule := rule) (n := t) h hz) (e_rung (rule := rule) (n := t + 1) h hz) (by rw [sk_run.S, sk_run.S]) (by rw [sk_run.S]; exact Nat.le_refl _)]
theorem e_stopN {rule : Int32} {a b : zGc} (h : eqv a b) (hz : gz b) : ∀ {t : Nat}, stopN rule a t = stopN rule b t
  | 0 => rfl
  | t + 1 => by
    simp only [stopN]
    rw [e_stopN h hz (t := t), (e_rung (rule := rule) (n := t) h hz).1 6 (by omega), (e_rung (rule := rule) (n := t + 1) h hz).1 6 (by omega)]
theorem e_heapN {rule v : Int32} {a b : zGc} (h : eqv a b) (hz : gz b) : ∀ {t : Nat}, heapN rule v a t = heapN rule v b t
  | 0 => rfl
  | t + 1 => by
    simp only [heapN]
    rw [e_heapN h hz (t := t), (e_rung (rule := rule) (n := t) h hz).1 3 (by omega)]
theorem sk_pick2 {g : zGc} {c : Nat} : ∀ {t : Nat}, sk g (pickN g c t)
  | 0 => sk.rf _
  | t + 1 => (sk_pick2 (t := t)).tr sk_makes
theorem e_pickN {a b : zGc} (h : eqv a b) (hz : gz b) {c : Nat} (hc : c < nC b) : ∀ {t : Nat}, eqv (pickN a c t) (pickN b c t)
  | 0 => h
  | t + 1 => e_makes (e_pickN h hz hc (t := t)) (sk_pick2.z hz) (by rw [sk_pick2.C]; exact hc) (Or.inr (Or.inl rfl))
theorem e_trN {a b : zGc} (h : eqv a b) (hz : gz b) {c : Nat} (hc : c < nC b) {x : Int32} : ∀ {t : Nat}, trN a c x t = trN b c x t
  | 0 => rfl
  | t + 1 => by
    simp only [trN]
    rw [e_trN h hz hc (t := t), (e_pickN h hz hc (t := t)).2.2 c (by rw [sk_pick2.C]; exact hc) 1 (by omega)]
theorem e_fsum {a b : zGc} (h : eqv a b) : ∀ {n : Nat}, n ≤ nC b → fsum a n = fsum b n
  | 0, _ => rfl
  | n + 1, hn => by
    simp only [fsum, e_fsum h (n := n) (by omega), h.2.2 n (by omega) 3 (by omega)]
theorem e_inkD {a b : zGc} (h : eqv a b) (hz : gz b) {n v : Nat} : inkD a n v = inkD b n v := by
  unfold inkD
  rw [(e_rung (rule := 2) (n := n) (e_sc (k := 4) (v := nI v) h (by decide) (by decide)) ((sk_sc (by decide) (by decide)).z hz)).1 6 (by omega), h.1 6 (by omega)]
theorem e_inkB {a b : zGc} (h : eqv a b) (hz : gz b) {n : Nat} : ∀ {v : Nat}, inkB a n v = inkB b n v
  | 0 => rfl
  | v + 1 => by
    simp only [inkB]
    rw [e_inkB h hz (v := v), e_inkD h hz]
theorem e_mayN {a b : zGc} (h : eqv a b) (hz : gz b) {c : Nat} (hc : c < nC b) : ∀ {d : Nat}, mayN a c d = mayN b c d
  | 0 => rfl
  | d + 1 => by
    simp only [mayN]
    rw [e_mayN h hz hc (d := d), e_can h hz hc]
theorem e_clr {a b : zGc} (h : eqv a b) : ∀ {n : Nat}, eqv (clrN a n) (clrN b n)
  | 0 => h
  | n + 1 => e_ch (e_clr h (n := n))
theorem e_giN {a b : zGc} (h : eqv a b) {t : Nat → Nat} : ∀ {i : Nat}, eqv (giN a t i) (giN b t i)
  | 0 => by show eqv (clrN a (nC a)) (clrN b (nC b)); rw [h.C]; exact e_clr h
  | i + 1 => e_ch (e_giN h (i := i))
theorem e_okN {a b : zGc} (h : eqv a b) {t : Nat → Nat} (ht : ∀ p, t p < nC b) : ∀ {i : Nat}, okN a t i = okN b t i
  | 0 => rfl
  | i + 1 => by
    simp only [okN]
    rw [e_okN h ht (i := i), (e_giN h (t := t) (i := i)).2.2 (t i) (by rw [sk_gi.C]; exact ht i) 5 (by omega)]
theorem e_mkW {a b : zGc} (h : eqv a b) (hz : gz b) (h0 : 0 < nC b) {k w : Nat} : mkW a k w = mkW b k w := by
  unfold mkW
  rw [h.C, e_okN h (fun p => tup_lt h0), (e_rung (rule := 0) (n := 30) (e_giN h (t := tup (nC b) k w) (i := k)) (sk_gi.z hz)).1 6 (by omega), h.1 6 (by omega)]
theorem e_bwN {a b : zGc} (h : eqv a b) (hz : gz b) (h0 : 0 < nC b) {k : Nat} : ∀ {w : Nat}, bwN a k w = bwN b k w
  | 0 => rfl
  | w + 1 => by
    simp only [bwN]
    rw [e_bwN h hz h0 (w := w), e_mkW h hz h0]
theorem e_aKeep {a b : zGc} (h : eqv a b) (hz : gz b) (h0 : 0 < nC b) {k : Nat} {i : Int32} : aKeep a k i = aKeep b k i := by
  unfold aKeep
  rw [h.C, e_bwN h hz h0, e_mkW h hz h0]
theorem e_wrK {d d2 : Nat → Int32} {base n : Nat} {A B : zGf} (h : eqf A B) (hz : gz B.1) (hd : ∀ i, i < base + n → d i = d2 i) (hn : n ≤ nC B.1) : (wrK d base n A).1 = (wrK d2 base n B).1 ∧ eqf (wrK d base n A).2 (wrK d2 base n B).2 ∧ sk B.1 (wrK d2 base n B).2.1 := by
  induction n with
  | zero => exact ⟨rfl, h, sk.rf _⟩
  | succ n ih =>
    obtain ⟨e1, e2, e3⟩ := ih (fun i hi => hd i (by omega)) (by omega)
    simp only [wrK]
    generalize wrK d base n A = X at e1 e2 ⊢
    generalize wrK d2 base n B = Y at e1 e2 e3 ⊢
    obtain ⟨x1, X2⟩ := X
    obtain ⟨y1, Y2⟩ := Y
    dsimp only at e1 e2 e3 ⊢
    subst e1
    cases x1 with
    | some w => exact ⟨rfl, e2, e3⟩
    | none =>
      have hzY : gz Y2.1 := e3.z hz
      have hcY : n < nC Y2.1 := by rw [e3.C]; omega
      have ed : d (base + n) = d2 (base + n) := hd _ (by omega)
      have ec : can X2.1 n (d (base + n)) = can Y2.1 n (d2 (base + n)) := by rw [ed]; exact e_can e2.1 hzY hcY
      dsimp only
      rw [ec]
      by_cases q : can Y2.1 n (d2 (base + n)) = true
      · rw [if_pos q, if_pos q, ed]
        exact ⟨rfl, e_perf e2 hzY hcY (can_dd hzY q), e3.tr sk_makes⟩
      · rw [if_neg q, if_neg q]
        exact ⟨rfl, e2, e3⟩
theorem e_wrM {d d2 : Nat → Int32} {m t : Nat} {A B : zGf} (h : eqv A.1 B.1) (hz : gz B.1) (hm : m = nC B.1) (hd : ∀ i, i < m * t → d i = d2 i) : (wrM d m t A).1 = (wrM d2 m t B).1 ∧ eqv (wrM d m t A).2.1 (wrM d2 m t B).2.1 ∧ sk B.1 (wrM d2 m t B).2.1 := by
  induction t with
  | zero => exact ⟨rfl, h, sk.rf _⟩
  | succ t ih =>
    have hmt : m * (t + 1) = m * t + m := Nat.mul_succ m t
    obtain ⟨e1, e2, e3⟩ := ih (fun i hi => hd i (by omega))
    simp only [wrM]
    generalize wrM d m t A = X at e1 e2 ⊢
    generalize wrM d2 m t B = Y at e1 e2 e3 ⊢
    obtain ⟨x1, X2⟩ := X
    obtain ⟨y1, Y2⟩ := Y
    dsimp only at e1 e2 e3 ⊢
    subst e1
    cases x1 with
    | some w => exact ⟨rfl, e2, e3⟩
    | none =>
      have hzY : gz Y2.1 := e3.z hz
      have k1 := e_wrK (d := d) (d2 := d2) (base := m * t) (n := m) (e_begM (A := X2) (B := Y2) e2) hzY (fun i hi => hd i (by omega)) (by rw [hm]; show nC B.1 ≤ nC Y2.1; rw [e3.C]; exact Nat.le_refl _)
      dsimp only
      generalize wrK d (m * t) m (begM X2) = X3 at k1 ⊢
      generalize wrK d2 (m * t) m (begM Y2) = Y3 at k1 ⊢
      obtain ⟨x3, X4⟩ := X3
      obtain ⟨y3, Y4⟩ := Y3
      obtain ⟨f1, f2, f3⟩ := k1
      dsimp only at f1 f2 f3 ⊢
      subst f1
      have f4 : sk B.1 Y4.1 := e3.tr f3
      cases x3 with
      | some w => exact ⟨rfl, f2.1, f4⟩
      | none => exact ⟨rfl, e_endM f2, f4.tr sk_endM⟩
theorem e_wrA {a b : zGc} (h : eqv a b) (hz : gz b) {d d2 : Nat → Int32} {n : Nat} (hd : ∀ i, i < n → d i = d2 i) : (wrA a d n).1 = (wrA b d2 n).1 ∧ eqv (wrA a d n).2.1 (wrA b d2 n).2.1 ∧ sk b (wrA b d2 n).2.1 := by
  unfold wrA
  rw [h.C]
  split
  · exact ⟨rfl, h, sk.rf _⟩
  · refine e_wrM (A := (a, fun _ => 0, fun _ => 0)) (B := (b, fun _ => 0, fun _ => 0)) h hz rfl (fun i hi => hd i ?_)
    exact Nat.lt_of_lt_of_le hi (Nat.mul_div_le n (nC b))
/-! a text read in both -/
theorem cg_nx {T T2 : Nat → Int32} {len : Nat} (h : ∀ i, i < len → T i = T2 i) : nxP T len = nxP T2 len := by
  funext a
  unfold nxP
  split
  · exact h a (by assumption)
  · rfl
theorem cg_ex {T T2 : Nat → Int32} {len : Nat} (h : nxP T len = nxP T2 len) : exP T len = exP T2 len := by
  funext c s
  unfold exP
  rw [h]
theorem cg_wd {T T2 : Nat → Int32} {len : Nat} (h : nxP T len = nxP T2 len) {W : List Int32} {s : Nat × Option Nat} : ∀ {n : Nat}, wdP T len W n s = wdP T2 len W n s
  | 0 => rfl
  | n + 1 => by
    simp only [wdP]
    rw [cg_wd h (n := n), cg_ex h]
theorem cg_dg {T T2 : Nat → Int32} {len : Nat} (h : nxP T len = nxP T2 len) : ∀ {n : Nat} {d : Int32 × Nat}, dgP T len n d = dgP T2 len n d
  | 0, d => rfl
  | n + 1, d => by
    simp only [dgP]
    rw [h, cg_dg h (n := n)]
theorem cg_nm {T T2 : Nat → Int32} {len : Nat} (h : nxP T len = nxP T2 len) {lo hi : Int32} {s : Nat × Option Nat} : nmP T len lo hi s = nmP T2 len lo hi s := by
  unfold nmP
  rw [cg_ex h, cg_dg h]
theorem cg_it {T T2 : Nat → Int32} {len : Nat} (h : nxP T len = nxP T2 len) {g : zGc} {s : Nat × Option Nat} : itC T len g s = itC T2 len g s := by
  unfold itC itC0 itC1 itC2 itC3 itC4 itC5 itC6 itC7
  simp only [cg_wd h, cg_nm h, cg_ex h, h]
theorem cg_its {T T2 : Nat → Int32} {len : Nat} (h : nxP T len = nxP T2 len) : ∀ {m n : Nat} {g : zGc} {s : Nat × Option Nat}, itsP T len m g s n = itsP T2 len m g s n
  | 0, n, g, s => rfl
  | m + 1, n, g, s => by
    simp only [itsP]
    rw [cg_ex h, cg_it h, cg_its h (m := m)]
theorem e_addSh {a b : zGc} (h : eqv a b) (hz : gz b) (h6 : nS b < 6) {k x p : Int32} : eqv (addSh a k x p) (addSh b k x p) := by
  have hza := h.z hz
  refine ⟨fun q hq => ?_, fun s hs q hq => ?_, fun c hc q hq => ?_⟩
  · show upd a.1 0 (a.1 0 + 1) q = upd b.1 0 (b.1 0 + 1) q
    unfold upd
    rw [h.1 0 (by omega), h.1 q hq]
  · rw [nS_addSh hz h6] at hs
    by_cases e : s = nS b
    · subst e
      rw [addSh_at hq, ← h.S, addSh_at hq]
    · rw [addSh_ne e, addSh_ne (by rw [h.S]; exact e)]
      exact h.2.1 s (by omega) q hq
  · exact h.2.2 c hc q hq
theorem e_addCh {a b : zGc} (h : eqv a b) (hz : gz b) (h6 : nC b < 6) {k x : Int32} : eqv (addCh a k x) (addCh b k x) := by
  have hza := h.z hz
  refine ⟨fun q hq => ?_, fun s hs q hq => ?_, fun c hc q hq => ?_⟩
  · show upd a.1 1 (a.1 1 + 1) q = upd b.1 1 (b.1 1 + 1) q
    unfold upd
    rw [h.1 1 (by omega), h.1 q hq]
  · exact h.2.1 s hs q hq
  · rw [nC_addCh hz h6] at hc
    by_cases e : c = nC b
    · subst e
      rw [addCh_at hq, ← h.C, addCh_at hq]
    · rw [addCh_ne e, addCh_ne (by rw [h.C]; exact e)]
      exact h.2.2 c (by omega) q hq
theorem e_itC {T : Nat → Int32} {len : Nat} {a b : zGc} (h : eqv a b) (hz : gz b) {s : Nat × Option Nat} : eqv (itC T len a s).1 (itC T len b s).1 ∧ (itC T len a s).2 = (itC T len b s).2 := by
  have h0 : a.1 0 = b.1 0 := h.1 0 (by omega)
  have h1 : a.1 1 = b.1 1 := h.1 1 (by omega)
  unfold itC
  split
  · simp only [itC0, h0]
    refine ⟨?_, trivial⟩
    split
    · rename_i h6
      split
      · exact e_addSh h hz (lt6_of hz.1.1 hz.1.2 h6)
      · exact h
    · split
      · rename_i hn
        exact absurd (nmP_no (nmP_no (nmP_no hn))) blF_no
      · exact h
  · split
    · simp only [itC1, h1]
      refine ⟨?_, trivial⟩
      split
      · rename_i h6
        split
        · exact e_addCh h hz (lt6_of hz.2.1 hz.2.2 h6)
        · exact h
      · split
        · rename_i hn
          exact absurd (nmP_no (nmP_no hn)) blF_no
        · exact h
    · split
      · simp only [itC2, h1]
        refine ⟨?_, trivial⟩
        split
        · exact e_ch h
        · exact h
      · split
        · simp only [itC3, h0, h1]
          refine ⟨?_, trivial⟩
          split
          · exact e_ch h
          · exact h
        · split
          · simp only [itC4]
            refine ⟨?_, trivial⟩
            split
            · exact e_sc h (by decide) (by decide)
            · exact h
          · split
            · simp only [itC5]
              refine ⟨?_, trivial⟩
              split
              · exact e_sc h (by decide) (by decide)
              · exact h
            · split
              · simp only [itC6, h1]
                split
                · rename_i hn
                  have g1 := nmP_no hn
                  have hb := nmP_in (nmP_cs T len 0 (b.1 1 - 1) _) g1
                  rw [hz.2.1] at hb
                  obtain ⟨c, hcc, ec⟩ := i_idx hz.2.2 hb.1 hb.2
                  rw [← hz.2.1] at ec
                  have hc : (nmP T len 0 (b.1 1 - 1) (wdP T len (zByt.getD 6 []) (zLen.getD 6 0) s)).1.toNatClampNeg < nC b := by
                    rw [ec, nI_clamp (by have := hz.2.2; omega)]
                    exact hcc
                  rw [e_can h hz hc]
                  split
                  · rename_i hcan
                    exact ⟨e_makes h hz hc (can_dd hz hcan), rfl⟩
                  · exact ⟨h, rfl⟩
                · exact ⟨h, rfl⟩
              · split
                · simp only [itC7]
                  refine ⟨?_, trivial⟩
                  split
                  · exact e_nightG h
                  · exact h
                · exact ⟨h, rfl⟩
theorem e_itsP {T : Nat → Int32} {len : Nat} : ∀ {m n : Nat} {a b : zGc} {s : Nat × Option Nat}, eqv a b → gz b → eqv (itsP T len m a s n).1.1 (itsP T len m b s n).1.1 ∧ (itsP T len m a s n).1.2 = (itsP T len m b s n).1.2 ∧ (itsP T len m a s n).2 = (itsP T len m b s n).2
  | 0, n, a, b, s, h, hz => ⟨h, rfl, rfl⟩
  | m + 1, n, a, b, s, h, hz => by
    simp only [itsP]
    split
    · obtain ⟨e1, e2⟩ := e_itC (T := T) (len := len) (s := exP T len 59 s) h hz
      rw [e2]
      exact e_itsP e1 (itC_gz hz)
    · exact ⟨h, rfl, rfl⟩
theorem itC_S {T : Nat → Int32} {len : Nat} {g : zGc} {s : Nat × Option Nat} (hz : gz g) : nS g ≤ nS (itC T len g s).1 := by
  have same : ∀ {g2 : zGc}, g2.1 0 = g.1 0 → nS g ≤ nS g2 := fun e => by unfold nS; rw [e]; exact Nat.le_refl _
  unfold itC
  split
  · simp only [itC0]
    split
    · rename_i h6
      split
      · rw [nS_addSh hz (lt6_of hz.1.1 hz.1.2 h6)]; omega
      · exact same rfl
    · split
      · rename_i hn
        exact absurd (nmP_no (nmP_no (nmP_no hn))) blF_no
      · exact same rfl
  · split
    · simp only [itC1]
      split
      · split
        · exact same rfl
        · exact same rfl
      · split
        · exact same rfl
        · exact same rfl
    · split
      · simp only [itC2]; split
        · exact same rfl
        · exact same rfl
      · split
        · simp only [itC3]; split
          · exact same rfl
          · exact same rfl
        · split
          · simp only [itC4]; split
            · exact same rfl
            · exact same rfl
          · split
            · simp only [itC5]; split
              · exact same rfl
              · exact same rfl
            · split
              · simp only [itC6]; split
                · split
                  · exact same sk_makes.1
                  · exact same rfl
                · exact same rfl
              · split
                · simp only [itC7]; split
                  · refine same ?_
                    show (nightS _ _).1 0 = _
                    rw [nightS_1, nightC_1]
                  · exact same rfl
                · exact same rfl
theorem itsP_rg {T : Nat → Int32} {len : Nat} : ∀ {m n N : Nat} {g : zGc} {s : Nat × Option Nat}, gz g → rg N g → N + m ≤ 134217728 → rg (N + m) (itsP T len m g s n).1.1 ∧ nS g ≤ nS (itsP T len m g s n).1.1
  | 0, n, N, g, s, hz, h, hN => ⟨h, Nat.le_refl _⟩
  | m + 1, n, N, g, s, hz, h, hN => by
    simp only [itsP]
    split
    · have h1 := itC_rg (T := T) (len := len) (s := exP T len 59 s) hz h (by omega)
      obtain ⟨h2, h3⟩ := itsP_rg (T := T) (len := len) (m := m) (n := n + 1) (s := (itC T len g (exP T len 59 s)).2) (itC_gz hz) h1 (by omega)
      exact ⟨by rw [show N + (m + 1) = N + 1 + m by omega]; exact h2, Nat.le_trans (itC_S hz) h3⟩
    · exact ⟨h.up (by omega), Nat.le_refl _⟩
