/-! ranges of what a text makes; its places go on -/
theorem nS_addSh {g : zGc} {k a p : Int32} (hz : gz g) (h6 : nS g < 6) : nS (addSh g k a p) = nS g + 1 := by
  have e : (addSh g k a p).1 0 = nI (nS g + 1) := by
    show g.1 0 + 1 = _
    rw [hz.1.1]; exact nI_1 _
  show ((addSh g k a p).1 0).toNatClampNeg = _
  rw [e]; exact nI_clamp (by omega)
theorem nC_addCh {g : zGc} {k a : Int32} (hz : gz g) (h6 : nC g < 6) : nC (addCh g k a) = nC g + 1 := by
  have e : (addCh g k a).1 1 = nI (nC g + 1) := by
    show g.1 1 + 1 = _
    rw [hz.2.1]; exact nI_1 _
  show ((addCh g k a).1 1).toNatClampNeg = _
  rw [e]; exact nI_clamp (by omega)
theorem addSh_ne {g : zGc} {k a p : Int32} {s : Nat} (h : s ≠ nS g) : (addSh g k a p).2.1 s = g.2.1 s := by
  simp only [addSh, gSc, gSh, va_up_ne _ _ h]
theorem addSh_at {g : zGc} {k a p : Int32} {i : Nat} (h : i < 5) : (addSh g k a p).2.1 (nS g) i = [k, a, p, 0, 0].getD i 0 := by
  simp only [addSh, gSc, gSh, va_up_self, va_up_up]
  have : i = 0 ∨ i = 1 ∨ i = 2 ∨ i = 3 ∨ i = 4 := by omega
  rcases this with rfl | rfl | rfl | rfl | rfl <;> simp [upd]
theorem addCh_ne {g : zGc} {k a : Int32} {s : Nat} (h : s ≠ nC g) : (addCh g k a).2.2 s = g.2.2 s := by
  simp only [addCh, gSc, gCh, va_up_ne _ _ h]
theorem addCh_at {g : zGc} {k a : Int32} {i : Nat} (h : i < 6) : (addCh g k a).2.2 (nC g) i = [k, a, 0, 0, 0, -1].getD i 0 := by
  simp only [addCh, gSc, gCh, va_up_self, va_up_up]
  have : i = 0 ∨ i = 1 ∨ i = 2 ∨ i = 3 ∨ i = 4 ∨ i = 5 := by omega
  rcases this with rfl | rfl | rfl | rfl | rfl | rfl <;> simp [upd]
theorem rg_addSh {N : Nat} {g : zGc} {k a p : Int32} (h : rg N g) (hz : gz g) (h6 : nS g < 6) (hk : ∃ x, x < 7 ∧ k = nI x) (ha : ∃ x, x ≤ 9 ∧ a = nI x) (hp : ∃ x, 1 ≤ x ∧ x ≤ 999 ∧ p = nI x) : rg N (addSh g k a p) := by
  refine ⟨fun s hs => ?_, h.2.1, h.2.2.1, h.2.2.2.1, h.2.2.2.2⟩
  rw [nS_addSh hz h6] at hs
  by_cases e : s = nS g
  · subst e
    unfold rgS
    rw [addSh_at (by omega), addSh_at (by omega), addSh_at (by omega), addSh_at (by omega), addSh_at (by omega)]
    exact ⟨hk, ha, hp, ⟨0, by omega, rfl⟩, ⟨0, by omega, rfl⟩⟩
  · rw [addSh_ne e]
    exact h.1 s (by omega)
theorem rg_addCh {N : Nat} {g : zGc} {k a : Int32} (h : rg N g) (hz : gz g) (h6 : nC g < 6) (hk : ∃ x, 1 ≤ x ∧ x ≤ 99 ∧ k = nI x) (ha : ∃ x, x ≤ 9999 ∧ a = nI x) : rg N (addCh g k a) := by
  refine ⟨h.1, fun s hs => ?_, h.2.2.1, h.2.2.2.1, h.2.2.2.2⟩
  rw [nC_addCh hz h6] at hs
  by_cases e : s = nC g
  · subst e
    unfold rgC
    rw [addCh_at (by omega), addCh_at (by omega), addCh_at (by omega), addCh_at (by omega)]
    exact ⟨hk, ha, ⟨0, by omega, rfl⟩, ⟨0, by omega, rfl⟩⟩
  · rw [addCh_ne e]
    exact h.2.1 s (by omega)
theorem half_n {x : Nat} (hx : x ≤ 9999) : half (nI x) = nI (x / 2) := pk_div (a := x) (d := 2) (by omega) (by omega) (by omega)
theorem rg_nightC {N : Nat} {g : zGc} {z : Int32} (h : rg N g) : ∀ {n : Nat}, n ≤ nC g → rg N (nightC n (g, z)).1
  | 0, _ => h
  | n + 1, hn => by
    have ih := rg_nightC h (z := z) (n := n) (by omega)
    have e : nC (nightC n (g, z)).1 = nC g := by unfold nC; rw [nightC_1]
    obtain ⟨-, ⟨x, hx, ex⟩, -⟩ := ih.2.1 n (by rw [e]; omega)
    show rg N (gCh (nightC n (g, z)).1 n 1 (half ((nightC n (g, z)).1.2.2 n 1)))
    refine rg_c1 ih ⟨x / 2, by omega, ?_⟩
    rw [ex, half_n hx]
theorem rg_nightS {N : Nat} {g : zGc} (h : rg N g) : ∀ {n : Nat}, rg N (nightS n g)
  | 0 => h
  | n + 1 => rg_s4 (rg_s3 (rg_nightS h (n := n)) (fun _ => ⟨0, by omega, rfl⟩)) (fun _ => ⟨0, by omega, rfl⟩)
theorem rg_night {N : Nat} {g : zGc} (h : rg N g) : rg N (nightG g) := rg_k5 (rg_nightS (rg_nightC h (Nat.le_refl _))) ⟨999, by omega, rfl⟩
theorem nm_in {T : Nat → Int32} {len : Nat} {s : Nat × Option Nat} {lo hi : Int32} (a b : Nat) (hl : lo = nI a) (hh : hi = nI b) (ha : a < 2 ^ 31) (hb : b < 2 ^ 31) (h : (nmP T len lo hi s).2.2 = none) : ∃ y, a ≤ y ∧ y ≤ b ∧ (nmP T len lo hi s).1 = nI y := by
  obtain ⟨h1, h2⟩ := nmP_in (nmP_cs T len lo hi s) h
  generalize (nmP T len lo hi s).1 = x at h1 h2 ⊢
  rw [hl, i_lt, nI_toInt ha] at h1
  rw [hh, i_lt, nI_toInt hb] at h2
  exact ⟨x.toInt.toNat, by omega, by omega, i_nat (by omega)⟩
theorem itC_rg {T : Nat → Int32} {len N : Nat} {g : zGc} {s : Nat × Option Nat} (hz : gz g) (h : rg N g) (hN : N ≤ 134217728) : rg (N + 1) (itC T len g s).1 := by
  have hu : rg (N + 1) g := h.up (by omega)
  unfold itC
  split
  · simp only [itC0]
    split
    · rename_i h6
      split
      · rename_i hn
        have h2 := nmP_no hn
        have h1 := nmP_no h2
        obtain ⟨x1, -, b1, e1⟩ := nm_in 0 6 rfl rfl (by omega) (by omega) h1
        obtain ⟨x2, -, b2, e2⟩ := nm_in 0 9 rfl rfl (by omega) (by omega) h2
        obtain ⟨x3, a3, b3, e3⟩ := nm_in 1 999 rfl rfl (by omega) (by omega) hn
        exact rg_addSh hu hz (lt6_of hz.1.1 hz.1.2 h6) ⟨x1, by omega, e1⟩ ⟨x2, b2, e2⟩ ⟨x3, a3, b3, e3⟩
      · exact hu
    · split
      · rename_i hn
        exact absurd (nmP_no (nmP_no (nmP_no hn))) blF_no
      · exact hu
  · split
    · simp only [itC1]
      split
      · rename_i h6
        split
        · rename_i hn
          have h1 := nmP_no hn
          obtain ⟨x1, a1, b1, e1⟩ := nm_in 1 99 rfl rfl (by omega) (by omega) h1
          obtain ⟨x2, -, b2, e2⟩ := nm_in 0 9999 rfl rfl (by omega) (by omega) hn
          exact rg_addCh hu hz (lt6_of hz.2.1 hz.2.2 h6) ⟨x1, a1, b1, e1⟩ ⟨x2, b2, e2⟩
        · exact hu
      · split
        · rename_i hn
          exact absurd (nmP_no (nmP_no hn)) blF_no
        · exact hu
    · split
      · simp only [itC2]; split
        · rename_i hn
          obtain ⟨x2, -, b2, e2⟩ := nm_in 0 99 rfl rfl (by omega) (by omega) hn
          exact rg_c3 hu ⟨x2, b2, e2⟩
        · exact hu
      · split
        · simp only [itC3]; split
          · exact rg_c5 hu
          · exact hu
        · split
          · simp only [itC4]; split
            · rename_i hn
              obtain ⟨x2, -, b2, e2⟩ := nm_in 0 99 rfl rfl (by omega) (by omega) hn
              exact rg_k4 hu ⟨x2, b2, e2⟩
            · exact hu
          · split
            · simp only [itC5]; split
              · rename_i hn
                obtain ⟨x2, -, b2, e2⟩ := nm_in 0 9999 rfl rfl (by omega) (by omega) hn
                exact rg_k5 hu ⟨x2, b2, e2⟩
              · exact hu
            · split
              · simp only [itC6]; split
                · rename_i hn
                  split
                  · rename_i hc
                    have h1 := nmP_no hn
                    have hb := nmP_in (nmP_cs T len 0 (g.1 1 - 1) _) h1
                    rw [hz.2.1] at hb
                    obtain ⟨c, hcc, ec⟩ := i_idx hz.2.2 hb.1 hb.2
                    rw [← hz.2.1] at ec
                    refine rg_makes hz h hN ?_ hc
                    rw [ec, nI_clamp (by have := hz.2.2; omega)]
                    exact hcc
                  · exact hu
                · exact hu
              · split
                · simp only [itC7]; split
                  · exact rg_night hu
                  · exact hu
                · exact hu
theorem ex_pr {T : Nat → Int32} {len : Nat} {c : Int32} {s : Nat × Option Nat} (h : (exP T len c s).2 = none) : s.2 = none ∧ (exP T len c s).1 = s.1 + 1 := by
  obtain ⟨x, f⟩ := s
  cases f with
  | some q => rw [exP_some rfl] at h; cases h
  | none =>
    refine ⟨rfl, ?_⟩
    unfold exP at h ⊢
    dsimp only at h ⊢
    split
    · rfl
    · rename_i hn
      rw [if_neg hn] at h
      cases h
theorem wd_pr {T : Nat → Int32} {len : Nat} {W : List Int32} {s : Nat × Option Nat} : ∀ {n : Nat}, (wdP T len W n s).2 = none → s.2 = none ∧ (wdP T len W n s).1 = s.1 + n
  | 0, h => ⟨h, rfl⟩
  | n + 1, h => by
    simp only [wdP] at h ⊢
    obtain ⟨h1, h2⟩ := ex_pr h
    obtain ⟨h3, h4⟩ := wd_pr h1
    exact ⟨h3, by rw [h2, h4]; omega⟩
theorem dg_mono {T : Nat → Int32} {len : Nat} : ∀ {n : Nat} {d : Int32 × Nat}, d.2 ≤ (dgP T len n d).2
  | 0, d => Nat.le_refl _
  | n + 1, d => by
    simp only [dgP]
    split
    · exact Nat.le_trans (Nat.le_succ _) (dg_mono (n := n) (d := (d.1 * 10 + nxP T len d.2 - 48, d.2 + 1)))
    · exact Nat.le_refl _
theorem nm_pr {T : Nat → Int32} {len : Nat} {lo hi : Int32} {s : Nat × Option Nat} (h : (nmP T len lo hi s).2.2 = none) : s.1 < (nmP T len lo hi s).2.1 := by
  unfold nmP at h ⊢
  split at h
  · rename_i h1; exact absurd h h1
  · rename_i h1
    rw [if_neg h1]
    split at h
    · cases h
    · rename_i h2
      rw [if_neg h2]
      have h3 := (ex_pr (Decidable.not_not.mp h1)).2
      have h4 := dg_mono (T := T) (len := len) (n := 4) (d := ((0 : Int32), (exP T len 32 s).1))
      show s.1 < (dgP T len 4 (0, (exP T len 32 s).1)).2
      have h5 : (exP T len 32 s).1 ≤ (dgP T len 4 (0, (exP T len 32 s).1)).2 := h4
      omega
theorem itC_pr {T : Nat → Int32} {len : Nat} {g : zGc} {s : Nat × Option Nat} (h : (itC T len g s).2.2 = none) : s.1 < (itC T len g s).2.1 := by
  unfold itC at h ⊢
  split
  · rename_i hx
    rw [if_pos hx] at h
    simp only [itC0] at h ⊢
    split at h
    · rename_i h6
      rw [if_pos h6]
      have h2 := nmP_no h
      have h1 := nmP_no h2
      have w1 := (wd_pr (nmP_no h1)).2
      have q1 := nm_pr h1
      have q2 := nm_pr h2
      have q3 := nm_pr h
      omega
    · exact absurd (nmP_no (nmP_no (nmP_no h))) blF_no
  · rename_i y0
    rw [if_neg y0] at h
    split
    · rename_i hx
      rw [if_pos hx] at h
      simp only [itC1] at h ⊢
      split at h
      · rename_i h6
        rw [if_pos h6]
        have h1 := nmP_no h
        have w1 := (wd_pr (nmP_no h1)).2
        have q1 := nm_pr h1
        have q2 := nm_pr h
        omega
      · exact absurd (nmP_no (nmP_no h)) blF_no
    · rename_i y1
      rw [if_neg y1] at h
      split
      · rename_i hx
        rw [if_pos hx] at h
        simp only [itC2] at h ⊢
        have h1 := nmP_no h
        have w1 := (wd_pr (nmP_no h1)).2
        have q1 := nm_pr h1
        have q2 := nm_pr h
        omega
      · rename_i y2
        rw [if_neg y2] at h
        split
        · rename_i hx
          rw [if_pos hx] at h
          simp only [itC3] at h ⊢
          have h1 := nmP_no h
          have w1 := (wd_pr (nmP_no h1)).2
          have q1 := nm_pr h1
          have q2 := nm_pr h
          omega
        · rename_i y3
          rw [if_neg y3] at h
          split
          · rename_i hx
            rw [if_pos hx] at h
            simp only [itC4] at h ⊢
            have w1 := (wd_pr (nmP_no h)).2
            have q2 := nm_pr h
            omega
          · rename_i y4
            rw [if_neg y4] at h
            split
            · rename_i hx
              rw [if_pos hx] at h
              simp only [itC5] at h ⊢
              have w1 := (wd_pr (nmP_no h)).2
              have q2 := nm_pr h
              omega
            · rename_i y5
              rw [if_neg y5] at h
              split
              · rename_i hx
                rw [if_pos hx] at h
                simp only [itC6] at h ⊢
                split at h
                · rename_i hn
                  rw [if_pos hn]
                  split at h
                  · rename_i hc
                    rw [if_pos hc]
                    have h1 := nmP_no hn
                    have w1 := (wd_pr (nmP_no h1)).2
                    have q1 := nm_pr h1
                    have q2 := nm_pr hn
                    dsimp only
                    omega
                  · cases h
                · rename_i hn
                  exact absurd h hn
              · rename_i y6
                rw [if_neg y6] at h
                split
                · rename_i hx
                  rw [if_pos hx] at h
                  simp only [itC7] at h ⊢
                  have w1 := (wd_pr h).2
                  rw [w1]
                  have : zLen.getD 7 0 = 5 := rfl
                  omega
                · rename_i y7
                  rw [if_neg y7] at h
                  exact absurd h blF_no
theorem wd_sm {T : Nat → Int32} {len x q : Nat} {W : List Int32} : ∀ {n : Nat}, wdP T len W n (x, some q) = (x, some q)
  | 0 => rfl
  | n + 1 => by
    simp only [wdP]
    rw [wd_sm (n := n)]
    exact exP_some rfl
theorem itC_sm {T : Nat → Int32} {len x q : Nat} {g : zGc} : (itC T len g (x, some q)).2.2 = some q := by
  unfold itC
  split
  · simp only [itC0, wd_sm, blF, ite_self, nmP_sm]
  · split
    · simp only [itC1, wd_sm, blF, ite_self, nmP_sm]
    · split
      · simp only [itC2, wd_sm, nmP_sm]
      · split
        · simp only [itC3, wd_sm, nmP_sm]
        · split
          · simp only [itC4, wd_sm, nmP_sm]
          · split
            · simp only [itC5, wd_sm, nmP_sm]
            · split
              · simp only [itC6, wd_sm, nmP_sm]
                rw [if_neg (fun z => by cases z)]
              · split
                · simp only [itC7, wd_sm]
                · rfl
