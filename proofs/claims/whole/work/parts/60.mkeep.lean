/-! the reference: who keeps which shop -/
def kfr (a g : zGc) : Prop := (∀ k, k < 8 → a.1 k = g.1 k) ∧ (∀ s, s < nS g → ∀ k, k < 5 → a.2.1 s k = g.2.1 s k) ∧ (∀ c, c < nC g → ∀ k, k < 5 → a.2.2 c k = g.2.2 c k)
theorem kfr.S {a g : zGc} (h : kfr a g) : nS a = nS g := by unfold nS; rw [h.1 0 (by omega)]
theorem kfr.C {a g : zGc} (h : kfr a g) : nC a = nC g := by unfold nC; rw [h.1 1 (by omega)]
theorem kfr.of {a g : zGc} (h : eqv a g) : kfr a g := ⟨h.1, h.2.1, fun c hc k hk => h.2.2 c hc k (by omega)⟩
theorem kfr.tr {a b g : zGc} (h : kfr a b) (h2 : kfr b g) : kfr a g := ⟨fun k hk => (h.1 k hk).trans (h2.1 k hk), fun s hs k hk => (h.2.1 s (by rw [h2.S]; exact hs) k hk).trans (h2.2.1 s hs k hk), fun q hq k hk => (h.2.2 q (by rw [h2.C]; exact hq) k hk).trans (h2.2.2 q hq k hk)⟩
theorem kfr.ch {a g : zGc} (h : kfr a g) {c : Nat} {v : Int32} : kfr (gCh a c 5 v) g := by
  refine ⟨h.1, h.2.1, fun q hq k hk => ?_⟩
  refine Eq.trans ?_ (h.2.2 q hq k hk)
  by_cases hqs : q = c
  · subst hqs; simp only [gCh, va_up_self, upd]; rw [if_neg (by omega)]
  · simp only [gCh, va_up_ne _ _ hqs]
theorem kfr.eq {a g : zGc} (h : kfr a g) (h5 : ∀ c, c < nC g → a.2.2 c 5 = g.2.2 c 5) : eqv a g := by
  refine ⟨h.1, h.2.1, fun c hc k hk => ?_⟩
  rcases Nat.lt_or_ge k 5 with q | q
  · exact h.2.2 c hc k q
  · have : k = 5 := by omega
    subst this; exact h5 c hc
theorem ch5_at {g : zGc} {c : Nat} {v : Int32} : (gCh g c 5 v).2.2 c 5 = v := by simp [gCh, va_up_self, upd]
theorem ch5_ne {g : zGc} {c q : Nat} {v : Int32} (h : q ≠ c) : (gCh g c 5 v).2.2 q 5 = g.2.2 q 5 := by simp [gCh, va_up_ne _ _ h]
theorem kfr_clr {g : zGc} : ∀ {n : Nat}, kfr (clrN g n) g
  | 0 => kfr.of (eqv.rf _)
  | n + 1 => (kfr_clr (n := n)).ch
theorem clr_at {g : zGc} {c : Nat} : ∀ {n : Nat}, c < n → (clrN g n).2.2 c 5 = -1
  | 0, h => absurd h (Nat.not_lt_zero _)
  | n + 1, h => by
    show (gCh (clrN g n) n 5 (-1)).2.2 c 5 = -1
    by_cases e : c = n
    · subst e; exact ch5_at
    · rw [ch5_ne e]; exact clr_at (by omega)
theorem gi_free {g : zGc} {t : Nat → Nat} {c : Nat} (hc : c < nC g) : ∀ {i : Nat}, (∀ p, p < i → t p ≠ c) → (giN g t i).2.2 c 5 = -1
  | 0, _ => clr_at hc
  | i + 1, h => by
    show (gCh (giN g t i) (t i) 5 (nI i)).2.2 c 5 = -1
    rw [ch5_ne (fun e => h i (by omega) e.symm)]
    exact gi_free hc (fun p hp => h p (by omega))
theorem gi_met {g : zGc} {t : Nat → Nat} {c : Nat} : ∀ {i : Nat}, i < 1000 → (∃ p, p < i ∧ t p = c) → (giN g t i).2.2 c 5 ≠ -1
  | 0, _, h => by obtain ⟨p, h1, -⟩ := h; omega
  | i + 1, hi, h => by
    show (gCh (giN g t i) (t i) 5 (nI i)).2.2 c 5 ≠ -1
    by_cases e : c = t i
    · rw [e, ch5_at]
      intro z
      have h1 := congrArg Int32.toInt z
      rw [nI_toInt (by omega), show (-1 : Int32).toInt = -1 from rfl] at h1
      omega
    · rw [ch5_ne e]
      obtain ⟨p, h1, h2⟩ := h
      refine gi_met (by omega) ⟨p, ?_, h2⟩
      rcases Nat.lt_or_ge p i with q | q
      · exact q
      · have : p = i := by omega
        subst this; exact absurd h2.symm e
theorem ok_inj {g : zGc} {t : Nat → Nat} (ht : ∀ p, t p < nC g) : ∀ {i : Nat}, (∀ p q, p < i → q < i → p ≠ q → t p ≠ t q) → okN g t i = true
  | 0, _ => rfl
  | i + 1, h => by
    simp only [okN]
    rw [ok_inj ht (fun p q hp hq => h p q (by omega) (by omega)), decide_eq_true (gi_free (ht i) (fun p hp => h p i (by omega) (by omega) (by omega)))]
    rfl
theorem ok_not {g : zGc} {t : Nat → Nat} {p i n : Nat} (hp : p < i) (hi : i < n) (hn : n < 1000) (e : t p = t i) : okN g t n = false := by
  refine okN_f (i := i + 1) (by omega) ?_
  simp only [okN]
  rw [decide_eq_false (gi_met (g := g) (t := t) (i := i) (by omega) ⟨p, hp, e⟩), Bool.and_false]
theorem kfr_of_clr {g : zGc} {n : Nat} : kfr g (clrN g n) := by
  have h := kfr_clr (g := g) (n := n)
  exact ⟨fun k hk => (h.1 k hk).symm, fun s hs k hk => (h.2.1 s (by rw [← h.S]; exact hs) k hk).symm, fun c hc k hk => (h.2.2 c (by rw [← h.C]; exact hc) k hk).symm⟩
/-! tuples -/
theorem nI_neq {a b : Nat} (h : a ≠ b) (ha : a < 2 ^ 31) (hb : b < 2 ^ 31) : nI a ≠ nI b := by
  intro e
  have e2 := congrArg Int32.toInt e
  rw [nI_toInt ha, nI_toInt hb] at e2
  omega
theorem tup_pre {m i r U x p : Nat} (hx : x < m ^ r) (hp : p < i) : tup m (i + r) (U * m ^ r + x) p = tup m i U p := by
  unfold tup
  have e : i + r - 1 - p = r + (i - 1 - p) := by omega
  rw [e, Nat.pow_add, ← Nat.div_div_eq_div_mul, Nat.mul_comm U, Nat.mul_add_div (by omega), Nat.div_eq_of_lt hx, Nat.add_zero]
theorem tup_last {m i U c : Nat} (hc : c < m) : tup m (i + 1) (U * m + c) i = c := by
  unfold tup
  rw [show i + 1 - 1 - i = 0 by omega, Nat.pow_zero, Nat.div_one, Nat.mul_comm, Nat.mul_add_mod, Nat.mod_eq_of_lt hc]
theorem tup_in {m i U c p : Nat} (hc : c < m) (hp : p < i) : tup m (i + 1) (U * m + c) p = tup m i U p := by
  have := tup_pre (m := m) (i := i) (r := 1) (U := U) (x := c) (p := p) (by rw [Nat.pow_one]; exact hc) hp
  rw [Nat.pow_one] at this
  exact this
theorem tup_id {m k : Nat} (h1 : 1 ≤ k) (h4 : k ≤ 4) (hm : m ≤ 6) (hk : k ≤ m) : ∃ w, w < m ^ k ∧ ∀ p, p < k → tup m k w p = p := by
  have key : ∀ m, m < 7 → ∀ k, k < 5 → 1 ≤ k → k ≤ m → ∃ w, w < 100 ∧ w < m ^ k ∧ ∀ p, p < k → tup m k w p = p := by
    unfold tup
    decide +kernel
  obtain ⟨w, -, h⟩ := key m (by omega) k (by omega) h1 hk
  exact ⟨w, h⟩
/-! the best way -/
theorem i_m1le {x : Int32} : ¬ x < -1 ↔ -1 ≤ x := Int32.not_lt
theorem bw_ge {g : zGc} {k : Nat} : ∀ {w : Nat}, ¬ (bwN g k w).2 < -1
  | 0 => by show ¬ (-1 : Int32) < -1; decide
  | w + 1 => by
    have := bw_ge (g := g) (k := k) (w := w)
    simp only [bwN]
    split
    · rename_i h
      intro z
      have z : mkW g k w < -1 := z
      rw [i_lt] at this h z
      omega
    · exact this
theorem bw_at {g : zGc} {k : Nat} : ∀ {w : Nat}, (bwN g k w).2 = -1 ∨ (bwN g k w).2 = mkW g k (bwN g k w).1
  | 0 => Or.inl rfl
  | w + 1 => by
    have := bw_at (g := g) (k := k) (w := w)
    have key : bwN g k (w + 1) = (if (bwN g k w).2 < mkW g k w then (w, mkW g k w) else bwN g k w) := rfl
    rw [key]
    by_cases h : (bwN g k w).2 < mkW g k w
    · rw [if_pos h]
      right
      show mkW g k w = mkW g k (w, mkW g k w).1
      dsimp only
    · rw [if_neg h]
      exact this
theorem bw_best {g : zGc} {k w : Nat} : ∀ {n : Nat}, w < n → ¬ (bwN g k n).2 < mkW g k w
  | 0, h => absurd h (Nat.not_lt_zero _)
  | n + 1, h => by
    have key : bwN g k (n + 1) = (if (bwN g k n).2 < mkW g k n then (n, mkW g k n) else bwN g k n) := rfl
    rw [key]
    by_cases e : w = n
    · subst e
      by_cases h2 : (bwN g k w).2 < mkW g k w
      · rw [if_pos h2]
        dsimp only
        intro z
        rw [i_lt] at z
        omega
      · rw [if_neg h2]; exact h2
    · have := bw_best (g := g) (k := k) (w := w) (n := n) (by omega)
      by_cases h2 : (bwN g k n).2 < mkW g k n
      · rw [if_pos h2]
        dsimp only
        intro z
        rw [i_lt] at this h2 z
        omega
      · rw [if_neg h2]; exact this
theorem bw_skip {g : zGc} {k W : Nat} : ∀ {n : Nat}, (∀ x, x < n → okN g (tup (nC g) k (W + x)) k = false) → bwN g k (W + n) = bwN g k W
  | 0, _ => rfl
  | n + 1, h => by
    have e : mkW g k (W + n) = -1 := by unfold mkW; rw [h n (by omega), if_neg (by decide)]
    show (if (bwN g k (W + n)).2 < mkW g k (W + n) then (W + n, mkW g k (W + n)) else bwN g k (W + n)) = _
    rw [e, if_neg bw_ge]
    exact bw_skip (fun x hx => h x (by omega))
theorem run_up {rule : Int32} {g : zGc} {N : Nat} (hz : gz g) (h : rg N g) (hN : N ≤ 100000000) : ∀ {n : Nat}, n ≤ 240 → ∃ d0 dn, d0 ≤ dn ∧ dn ≤ 134217006 ∧ g.1 6 = nI d0 ∧ (run rule n g).1 6 = nI dn
  | 0, _ => by
    obtain ⟨d, k, h1, h2, h3, h4⟩ := run_6 (rule := rule) (t := 0) hz h (by omega)
    exact ⟨d, d, Nat.le_refl _, by omega, h3, h3⟩
  | n + 1, hn => by
    obtain ⟨d0, dn, h1, h2, h3, h4⟩ := run_up (rule := rule) hz h hN (n := n) (by omega)
    obtain ⟨d, k, g1, g2, g3, g4⟩ := run_6 (rule := rule) (t := n) hz h (by omega)
    have e : dn = d := by
      have e2 := congrArg Int32.toInt (h4.symm.trans g3)
      rw [nI_toInt (by omega), nI_toInt (by omega)] at e2
      omega
    exact ⟨d0, d + k, by omega, by omega, h3, g4⟩
theorem run_ge {rule : Int32} {g : zGc} {N : Nat} (hz : gz g) (h : rg N g) (hN : N ≤ 100000000) {n : Nat} (hn : n ≤ 240) : ¬ (run rule n g).1 6 - g.1 6 < 0 := by
  obtain ⟨d0, dn, h1, h2, h3, h4⟩ := run_up (rule := rule) hz h hN hn
  rw [h3, h4, pk_sub h1]
  exact nI_pos (by omega)
theorem rg_gi {g : zGc} {N : Nat} {t : Nat → Nat} (h : rg N g) {i : Nat} {a : zGc} (hk : kfr a g) : rg N a := by
  obtain ⟨h1, h2, h3, h4, h5⟩ := h
  refine ⟨fun s hs => ?_, fun c hc => ?_, ?_, ?_, ?_⟩
  · rw [hk.S] at hs
    have e := hk.2.1 s hs
    have := h1 s hs
    unfold rgS at *
    rw [e 0 (by omega), e 1 (by omega), e 2 (by omega), e 3 (by omega), e 4 (by omega)]
    exact this
  · rw [hk.C] at hc
    have e := hk.2.2 c hc
    have := h2 c hc
    unfold rgC at *
    rw [e 0 (by omega), e 1 (by omega), e 2 (by omega), e 3 (by omega)]
    exact this
  · rw [hk.1 4 (by omega)]; exact h3
  · rw [hk.1 5 (by omega)]; exact h4
  · rw [hk.1 6 (by omega)]; exact h5
theorem kfr_gi {g : zGc} {t : Nat → Nat} : ∀ {i : Nat}, kfr (giN g t i) g
  | 0 => kfr_clr
  | i + 1 => (kfr_gi (i := i)).ch
theorem bw_end {g : zGc} {k : Nat} {N : Nat} (hz : gz g) (h : rg N g) (hN : N ≤ 100000000) (h1 : 1 ≤ k) (h4 : k ≤ 4) (hk : k ≤ nC g) (hm : nC g ≤ 6) : ¬ (bwN g k (nC g ^ k)).2 = -1 := by
  obtain ⟨w, hw, ht⟩ := tup_id h1 h4 hm hk
  have hO : okN g (tup (nC g) k w) k = true := ok_inj (fun p => tup_lt (by omega)) (fun p q hp hq hpq => by rw [ht p hp, ht q hq]; exact hpq)
  have hb := bw_best (g := g) (k := k) hw
  have e : mkW g k w = (run 0 30 (giN g (tup (nC g) k w) k)).1 6 - g.1 6 := by unfold mkW; rw [if_pos hO]
  have hg := run_ge (rule := 0) (n := 30) (sk_gi (g := g) (t := tup (nC g) k w) (i := k) |>.z hz) (rg_gi (t := tup (nC g) k w) (i := k) h kfr_gi) hN (by omega)
  rw [show (giN g (tup (nC g) k w) k).1 6 = g.1 6 from kfr_gi.1 6 (by omega), ← e] at hg
  intro z
  rw [z] at hb
  rw [i_lt, show (0 : Int32).toInt = 0 from rfl] at hg
  rw [i_lt, show (-1 : Int32).toInt = -1 from rfl] at hb
  omega
/-! the states -/
def gvO (M Y : zM) : Prop := kfr Y.1 M.1 ∧ (∀ k, (k = 8 ∨ k = 46 ∨ k = 47) → Y.2.1 k = M.2.1 k) ∧ (∀ k, (k = 9 ∨ (21 ≤ k ∧ k ≤ 24) ∨ k = 27 ∨ k = 28 ∨ k = 36 ∨ k = 45 ∨ k = 43) → Y.2.2.1 k = M.2.2.1 k) ∧ Y.2.2.2 25 = M.2.2.2 25
def bsO (g : zGc) (k : Nat) (Y : zM) (W : Nat) : Prop := Y.2.1 44 = (bwN g k W).2 ∧ ((bwN g k W).2 = -1 ∨ ∀ p, p < k → Y.2.2.1 42 p = nI (tup (nC g) k (bwN g k W).1 p))
def kpO (m i U : Nat) (Y : zM) : Prop := ∀ p, p < i → Y.2.2.1 41 p = nI (tup m i U p)
def ijO (m i U : Nat) : Prop := ∀ p q, p < i → q < i → p ≠ q → tup m i U p ≠ tup m i U q
def mtO (m i U μ : Nat) : Prop := μ < 64 ∧ ∀ c, c < 6 → (μ.testBit c = true ↔ ∃ p, p < i ∧ tup m i U p = c)
def lfO (M X Y : zM) : Prop := gvO M Y ∧ Y.2.2.1 41 = X.2.2.1 41 ∧ Y.2.2.1 42 = X.2.2.1 42 ∧ Y.2.1 44 = X.2.1 44
def mTl (Y Z : zM) : Prop := mSm Y Z ∧ (∀ k, (k = 41 ∨ k = 42 ∨ k = 43) → Z.2.2.1 k = Y.2.2.1 k) ∧ Z.2.1 44 = Y.2.1 44
theorem mA_ne {M : zM} {a j k : Nat} {v : Int32} (h : k ≠ a) : (mA M a j v).2.2.1 k = M.2.2.1 k := va_up_ne _ _ h
theorem mI_at {M : zM} {k : Nat} {v : Int32} : (mI M k v).2.1 k = v := if_pos rfl
theorem gvO.rf (M : zM) : gvO M M := ⟨kfr.of (eqv.rf _), fun _ _ => rfl, fun _ _ => rfl, rfl⟩
theorem gvO.ch {M Y : zM} (h : gvO M Y) {c : Nat} {v : Int32} : gvO M (mCh Y c 5 v) := ⟨h.1.ch, h.2⟩
theorem gvO.i44 {M Y : zM} (h : gvO M Y) {v : Int32} : gvO M (mI Y 44 v) := by
  refine ⟨h.1, fun k hk => ?_, h.2.2⟩
  show upd Y.2.1 44 v k = _
  rw [pk_un (by omega)]
  exact h.2.1 k hk
theorem gvO.a {M Y : zM} (h : gvO M Y) {a j : Nat} {v : Int32} (ha : a = 41 ∨ a = 42) : gvO M (mA Y a j v) := by
  refine ⟨h.1, h.2.1, fun k hk => ?_, h.2.2.2⟩
  show va_up Y.2.2.1 a _ k = _
  rw [va_up_ne _ _ (show k ≠ a by omega)]
  exact h.2.2.1 k hk
theorem lfO.rf {M X : zM} (h : gvO M X) : lfO M X X := ⟨h, rfl, rfl, rfl⟩
theorem lfO.ch {M X Y : zM} (h : lfO M X Y) {c : Nat} {v : Int32} : lfO M X (mCh Y c 5 v) := ⟨h.1.ch, h.2⟩
theorem lfO.tl {M X Y Z : zM} (h : lfO M X Y) (h2 : mTl Y Z) : lfO M X Z := by
  obtain ⟨⟨h1, h3, h4, h5⟩, e1, e2, e3⟩ := h
  obtain ⟨⟨g1, g3, g4, g5⟩, g6, g7⟩ := h2
  refine ⟨⟨(kfr.of g1).tr h1, fun k hk => (g3 k hk).trans (h3 k hk), fun k hk => ?_, g5.trans h5⟩, (g6 41 (by omega)).trans e1, (g6 42 (by omega)).trans e2, g7.trans e3⟩
  by_cases e : k = 43
  · exact (g6 k (by omega)).trans (h4 k hk)
  · exact (g4 k (by omega)).trans (h4 k hk)
theorem bs_no {M X Y : zM} {k U : Nat} {g : zGc} (hb : bsO g k X U) (hL : lfO M X Y) (h : ¬ Y.2.1 44 < mkW g k U) : bsO g k Y (U + 1) := by
  obtain ⟨h1, h2⟩ := hb
  have e : bwN g k (U + 1) = bwN g k U := by
    simp only [bwN]
    rw [if_neg (by rw [← h1, ← hL.2.2.2]; exact h)]
  unfold bsO
  rw [e, hL.2.2.1, hL.2.2.2]
  exact ⟨h1, h2⟩
theorem bs_yes {X Y : zM} {k U : Nat} {g : zGc} (hb : bsO g k X U) (h : X.2.1 44 < mkW g k U) (h4 : Y.2.1 44 = mkW g k U) (h2 : ∀ p, p < k → Y.2.2.1 42 p = nI (tup (nC g) k U p)) : bsO g k Y (U + 1) := by
  have e : bwN g k (U + 1) = (U, mkW g k U) := by
    simp only [bwN]
    rw [if_pos (by rw [← hb.1]; exact h)]
  unfold bsO
  rw [e]
  exact ⟨h4, Or.inr h2⟩
theorem bs_skip {Y : zM} {i r U c : Nat} {g : zGc} {m : Nat} (em : m = nC g) (hb : bsO g (i + (r + 1)) Y ((U * m + c) * m ^ r)) (hir : i + (r + 1) < 1000) (hc : c < m) (h : ∃ p, p < i ∧ tup m i U p = c) : bsO g (i + (r + 1)) Y ((U * m + (c + 1)) * m ^ r) := by
  obtain ⟨p, hp, e⟩ := h
  have e2 : (U * m + (c + 1)) * m ^ r = (U * m + c) * m ^ r + m ^ r := by rw [← Nat.add_assoc, Nat.add_mul (U * m + c), Nat.one_mul]
  have e3 : bwN g (i + (r + 1)) ((U * m + c) * m ^ r + m ^ r) = bwN g (i + (r + 1)) ((U * m + c) * m ^ r) := by
    refine bw_skip (fun x hx => ?_)
    rw [← em]
    have e5 : ∀ q, q < i + 1 → tup m (i + (r + 1)) ((U * m + c) * m ^ r + x) q = tup m (i + 1) (U * m + c) q := by
      intro q hq
      rw [show i + (r + 1) = i + 1 + r by omega]
      exact tup_pre hx hq
    refine ok_not (p := p) (i := i) hp (by omega) hir ?_
    rw [e5 p (by omega), e5 i (by omega), tup_last hc, tup_in hc hp]
    exact e
  unfold bsO
  rw [e2, e3]
  exact hb
theorem bs_next {Y : zM} {k r U m : Nat} {g : zGc} (hb : bsO g k Y ((U * m + m) * m ^ r)) : bsO g k Y ((U + 1) * m ^ (r + 1)) := by
  have e : (U * m + m) * m ^ r = (U + 1) * m ^ (r + 1) := by rw [← Nat.succ_mul, Nat.mul_assoc, Nat.pow_succ, Nat.mul_comm m (m ^ r)]
  rw [← e]; exact hb
theorem mt_bit {μ c : Nat} (hm : μ < 64) (hc : c < 6) : (nI μ >>> (nI c &&& 31)) &&& 1 = bI (μ.testBit c) := by
  have key : ∀ μ, μ < 64 → ∀ c, c < 6 → (nI μ >>> (nI c &&& 31)) &&& 1 = bI (μ.testBit c) := by decide +kernel
  exact key μ hm c hc
theorem mt_or {μ c : Nat} (hm : μ < 64) (hc : c < 6) : nI μ ||| ((1 : Int32) <<< (nI c &&& 31)) = nI (μ ||| 2 ^ c) ∧ (μ ||| 2 ^ c) < 64 := by
  have key : ∀ μ, μ < 64 → ∀ c, c < 6 → nI μ ||| ((1 : Int32) <<< (nI c &&& 31)) = nI (μ ||| 2 ^ c) ∧ (μ ||| 2 ^ c) < 64 := by decide +kernel
  exact key μ hm c hc
theorem mt_up {m i U μ c : Nat} (h : mtO m i U μ) (hc : c < m) (hc6 : c < 6) : mtO m (i + 1) (U * m + c) (μ ||| 2 ^ c) := by
  refine ⟨(mt_or h.1 hc6).2, fun q hq => ?_⟩
  rw [Nat.testBit_or, Nat.testBit_two_pow, Bool.or_eq_true, h.2 q hq, decide_eq_true_eq]
  constructor
  · rintro (⟨p, h1, h2⟩ | h1)
    · exact ⟨p, by omega, by rw [tup_in hc h1]; exact h2⟩
    · exact ⟨i, by omega, by rw [tup_last hc]; exact h1⟩
  · rintro ⟨p, h1, h2⟩
    rcases Nat.lt_or_ge p i with z | z
    · rw [tup_in hc z] at h2
      exact Or.inl ⟨p, z, h2⟩
    · have : p = i := by omega
      subst this
      rw [tup_last hc] at h2
      exact Or.inr h2
theorem ij_up {m i U c : Nat} (h : ijO m i U) (hc : c < m) (hn : ¬ ∃ p, p < i ∧ tup m i U p = c) : ijO m (i + 1) (U * m + c) := by
  intro p q hp hq hpq
  rcases Nat.lt_or_ge p i with z | z
  · rcases Nat.lt_or_ge q i with y | y
    · rw [tup_in hc z, tup_in hc y]; exact h p q z y hpq
    · have : q = i := by omega
      subst this
      rw [tup_in hc z, tup_last hc]
      exact fun e => hn ⟨p, z, e⟩
  · have : p = i := by omega
    subst this
    rw [tup_last hc, tup_in hc (show q < p by omega)]
    exact fun e => hn ⟨q, by omega, e.symm⟩
theorem kp_up {m i U c : Nat} {Y : zM} (h : kpO m i U Y) (hc : c < m) : kpO m (i + 1) (U * m + c) (mA Y 41 i (nI c)) := by
  intro p hp
  show va_up Y.2.2.1 41 (upd (Y.2.2.1 41) i (nI c)) 41 p = _
  rw [va_up_self]
  rcases Nat.lt_or_ge p i with z | z
  · rw [tup_in hc z]; exact (if_neg (by omega)).trans (h p z)
  · have : p = i := by omega
    subst this
    rw [tup_last hc]; exact if_pos rfl
theorem bs_a {Y : zM} {k W i : Nat} {g : zGc} {v : Int32} (h : bsO g k Y W) : bsO g k (mA Y 41 i v) W := by
  refine ⟨h.1, ?_⟩
  rw [mA_ne (show (42 : Nat) ≠ 41 by decide)]
  exact h.2
theorem tr_un {M : zM} {g g2 : zGc} {B : Nat → Int32} {d : Int32} {k : Nat} (h : k = 41 ∨ k = 42 ∨ k = 43) : (mG (mTr M g B d) g2).2.2.1 k = M.2.2.1 k := by
  show va_up (va_up M.2.2.1 37 _) 38 B k = _
  rw [va_up_ne _ _ (show k ≠ 38 by omega), va_up_ne _ _ (show k ≠ 37 by omega)]
theorem tr_44 {M : zM} {g g2 : zGc} {B : Nat → Int32} {d : Int32} : (mG (mTr M g B d) g2).2.1 44 = M.2.1 44 := by
  show upd M.2.1 39 d 44 = _
  exact pk_un (by decide)
set_option maxRecDepth 100000 in
set_option maxHeartbeats 4000000 in
theorem c_dealsIn2 (l : Launch) (E : zE) (M : zM) (hz : gz M.1) {N : Nat} (h : rg N M.1) (hN : N ≤ 100000000) (rule : Int32) {nn : Nat} (hnn : nn ≤ 240) : MM l E yX7_dealsIn cX7_dealsIn 3 (some .int) 8 [.ref (madr E.2.2.1 (0, 0, 0)), .int (rule), .int (nI nn)] (M) (fun v M2 => v = some (.int ((run rule nn M.1).1 6 - M.1.1 6)) ∧ mTl M M2) := by
  refine MM.mk kq_X7 (Nat.le_of_ble_eq_true rfl) (fun K s C0 => ?_)
  have C := C0.c
  refine z_aload_n C 0 dX7_dealsIn_0 rfl ?_
  refine z_iload_n C 1 dX7_dealsIn_1 rfl ?_
  refine z_iload_n C 2 dX7_dealsIn_2 rfl ?_
  refine z_callV2 C (c_X7_tries l E _ hz h rule (n := nn) (by omega) (by omega)) ⟨rfl, rfl⟩ rfl rfl q_X7_259 ⟨by decide, by decide⟩ (Nat.le_of_ble_eq_true rfl) dX7_dealsIn_3 (fun v F9 hp => ?_)
  obtain ⟨rfl, B, e9⟩ := hp
  rw [e9]
  clear e9 F9
  have zR : gz (run rule nn M.1) := sk_run.z hz
  have rR : rg (N + 6 * nn) (run rule nn M.1) := rg_run hz h (by omega)
  have sR : sms (run rule nn M.1) := rR.sm (by omega)
  have eRC : nC (run rule nn M.1) = nC M.1 := sk_run.C
  have eRS : nS (run rule nn M.1) = nS M.1 := sk_run.S
  refine z_aload_n C 0 dX7_dealsIn_6 rfl ?_
  refine z_callV0 C (c_X7_takesBack l E _ (g := M.1) hz (fun q hq => mTr_37 hq)) ⟨rfl, rfl⟩ rfl rfl q_X7_262 ⟨by decide, by decide⟩ (Nat.le_of_ble_eq_true rfl) dX7_dealsIn_7 (fun v F9 hp => ?_)
  obtain ⟨rfl, g2, e9, hg2⟩ := hp
  rw [e9]
  clear e9 F9
  refine z_aload_n C 0 dX7_dealsIn_10 rfl ?_
  refine mg_39 C dX7_dealsIn_11 ?_
  refine z_iret C0 dX7_dealsIn_14 ?_
  exact ⟨rfl, mSm_tr hg2, fun k hk => tr_un (by omega), tr_44⟩
set_option maxRecDepth 100000 in
set_option maxHeartbeats 4000000 in
theorem lp_gives_88 {l : Launch} {E : zE} {K : zK} {s : State} (M : zM) (hz : gz M.1) {N : Nat} (h : rg N M.1) (hN : N ≤ 100000000) {kk : Nat} (hk1 : 1 ≤ kk) (hk4 : kk ≤ 4) (hkC : kk ≤ nC M.1) (X : zM) {U : Nat} (hX : gvO M X) (hK : kpO (nC M.1) kk U X) (hJ : ijO (nC M.1) kk U) (hB : bsO M.1 kk X U) {μ : Nat} (hgt : X.2.1 44 < mkW M.1 kk U) (C0 : MR l E K cX7_gives RX7 9 s 6 none (fun v Y2 => v = none ∧ gvO M Y2 ∧ (∀ p, p < kk → Y2.2.2.1 41 p = X.2.2.1 41 p) ∧ bsO M.1 kk Y2 (U + 1))) : ∀ (n2 : Nat) (p : Nat) (Y : zM), (kk - p < n2) → (p ≤ kk) → (gvO M Y) → (Y.2.2.1 41 = X.2.2.1 41) → (Y.2.1 44 = mkW M.1 kk U) → (∀ q, q < p → Y.2.2.1 42 q = nI (tup (nC M.1) kk U q)) → Z K (MP E (Y) s) 88 [(0, .ref (madr E.2.2.1 (0, 0, 0))), (1, .int (nI kk)), (2, .int (nI kk)), (3, .int (nI μ)), (5, .int (nI p))] [] := by
  have C := C0.c
  intro n2
  induction n2 with
  | zero => intro p Y hk hkl hG h41 h44 h42; exact absurd hk (Nat.not_lt_zero _)
  | succ n2 ih =>
    intro p Y hk hkl hG h41 h44 h42
    obtain ⟨⟨eS, lS⟩, ⟨eC, lC⟩⟩ := id hz
    refine z_iload C 4 dX7_gives_88 rfl ?_
    refine z_iload_n C 2 dX7_gives_90 rfl ?_
    refine z_icmp_ge C 114 dX7_gives_91 (by decide) (fun h91 => ?_) (fun h91 => ?_)
    · skip
      refine z_vret C0 dX7_gives_114 ?_
      have e : p = kk := by
        rcases Nat.lt_or_ge p (kk) with q | q
        · exact absurd h91 (nI_ge q (by omega))
        · omega
      subst e
      exact ⟨rfl, hG, fun q _ => by rw [h41], bs_yes hB hgt h44 h42⟩
    · skip
      have hp2 : p < kk := by
        rcases Nat.lt_or_ge p (kk) with q | q
        · exact q
        · exact absurd (nI_le q (by omega)) h91
      refine z_aload_n C 0 dX7_gives_94 rfl ?_
      refine mg_42 C dX7_gives_95 ?_
      refine z_iload C 4 dX7_gives_98 rfl ?_
      refine z_aload_n C 0 dX7_gives_100 rfl ?_
      refine mg_41 C dX7_gives_101 ?_
      refine z_iload C 4 dX7_gives_104 rfl ?_
      refine ml_41 C p rfl (by first | assumption | omega) dX7_gives_106 ?_
      refine z_top (nI (tup (nC M.1) kk U p)) (by show Y.2.2.1 41 p = _; rw [h41]; exact hK p hp2) ?_
      refine ms_42 C p rfl (by first | assumption | omega) dX7_gives_107 ?_
      refine z_iinc C (v := nI (p + 1)) 4 dX7_gives_108 rfl (nI_1 _) (by decide) ?_
      refine z_goto C 88 dX7_gives_111 (by decide) ?_
      refine z_pick [1, 2, 3, 4, 0] rfl ?_
      refine ih (p + 1) (mA Y 42 p (nI (tup (nC M.1) kk U p))) (by omega) (by omega) (hG.a (by omega)) ((mA_ne (show (41 : Nat) ≠ 42 by decide)).trans h41) h44 (fun q hq => ?_)
      show va_up Y.2.2.1 42 _ 42 q = _
      rw [va_up_self]
      by_cases e : q = p
      · subst e; exact if_pos rfl
      · exact (if_neg e).trans (h42 q (by omega))
set_option maxRecDepth 100000 in
set_option maxHeartbeats 4000000 in
theorem lp_gives_34 {l : Launch} {E : zE} {K : zK} {s : State} (M : zM) (hz : gz M.1) {N : Nat} (h : rg N M.1) (hN : N ≤ 100000000) {kk : Nat} (hk1 : 1 ≤ kk) (hk4 : kk ≤ 4) (hkC : kk ≤ nC M.1) (X : zM) {U : Nat} (hX : gvO M X) (hK : kpO (nC M.1) kk U X) (hJ : ijO (nC M.1) kk U) (hB : bsO M.1 kk X U) {μ : Nat} (C0 : MR l E K cX7_gives RX7 9 s 6 none (fun v Y2 => v = none ∧ gvO M Y2 ∧ (∀ p, p < kk → Y2.2.2.1 41 p = X.2.2.1 41 p) ∧ bsO M.1 kk Y2 (U + 1))) : ∀ (n2 : Nat) (p : Nat) (Y : zM), (kk - p < n2) → (p ≤ kk) → (lfO M X Y) → (eqv Y.1 (giN M.1 (tup (nC M.1) kk U) p)) → Z K (MP E (Y) s) 34 [(0, .ref (madr E.2.2.1 (0, 0, 0))), (1, .int (nI kk)), (2, .int (nI kk)), (3, .int (nI μ)), (4, .int (nI p))] [] := by
  have C := C0.c
  intro n2
  induction n2 with
  | zero => intro p Y hk hkl hL hE; exact absurd hk (Nat.not_lt_zero _)
  | succ n2 ih =>
    intro p Y hk hkl hL hE
    obtain ⟨⟨eS, lS⟩, ⟨eC, lC⟩⟩ := id hz
    refine z_iload C 4 dX7_gives_34 rfl ?_
    refine z_iload_n C 2 dX7_gives_36 rfl ?_
    refine z_icmp_ge C 60 dX7_gives_37 (by decide) (fun h37 => ?_) (fun h37 => ?_)
    · skip
      have e : p = kk := by
        rcases Nat.lt_or_ge p (kk) with q | q
        · exact absurd h37 (nI_ge q (by omega))
        · omega
      subst e
      have zG : gz (giN M.1 (tup (nC M.1) p U) p) := sk_gi.z hz
      have zY : gz Y.1 := hE.z zG
      have rY : rg N Y.1 := rg_gi (t := fun _ => 0) (i := 0) h hL.1.1
      refine z_aload_n C 0 dX7_gives_60 rfl ?_
      refine z_iconst C (v := 0) dX7_gives_61 rfl ?_
      refine z_bipush C (v := 30) dX7_gives_62 rfl ?_
      refine z_top (nI 30) (rfl) ?_
      refine z_callV2 C (c_dealsIn2 l E Y zY rY hN 0 (nn := 30) (by omega)) ⟨rfl, rfl⟩ rfl rfl q_X7_271 ⟨by decide, by decide⟩ (Nat.le_of_ble_eq_true rfl) dX7_gives_64 (fun v F9 hp => ?_)
      obtain ⟨rfl, hS⟩ := hp
      have hL2 := hL.tl hS
      refine z_top (mkW M.1 p U) (by unfold mkW; rw [if_pos (ok_inj (g := M.1) (fun p => tup_lt (by omega)) hJ), (e_rung hE zG).1 6 (by omega), hL.1.1.1 6 (by omega)]) ?_
      refine z_istore C dX7_gives_67 (by decide) ?_
      refine z_iload C 0 dX7_gives_69 rfl ?_
      refine z_aload_n C 1 dX7_gives_71 rfl ?_
      refine mg_44 C dX7_gives_72 ?_
      refine z_icmp_gt C 79 dX7_gives_75 (by decide) (fun h75 => ?_) (fun h75 => ?_)
      · skip
        refine z_aload_n C 1 dX7_gives_79 rfl ?_
        refine z_iload C 0 dX7_gives_80 rfl ?_
        refine mp_44 C dX7_gives_82 ?_
        refine z_iconst C (v := 0) dX7_gives_85 rfl ?_
        refine z_istore C dX7_gives_86 (by decide) ?_
        refine z_pick [2, 3, 4, 5, 0] rfl ?_
        exact lp_gives_88 M hz h hN hk1 hk4 hkC X hX hK hJ hB (by rw [← hL2.2.2.2]; exact h75) C0 (p + 1) 0 _ (by omega) (by omega) hL2.1.i44 hL2.2.1 mI_at (fun q hq => absurd hq (Nat.not_lt_zero _))
      · skip
        refine z_vret C0 dX7_gives_78 ?_
        exact ⟨rfl, hL2.1, fun q _ => by rw [hL2.2.1], bs_no hB hL2 h75⟩
    · skip
      have hp2 : p < kk := by
        rcases Nat.lt_or_ge p (kk) with q | q
        · exact q
        · exact absurd (nI_le q (by omega)) h37
      have ht6 : tup (nC M.1) kk U p < 6 := Nat.lt_of_lt_of_le (tup_lt (by omega)) (by omega)
      refine z_aload_n C 0 dX7_gives_40 rfl ?_
      refine mg_20 C dX7_gives_41 ?_
      refine z_aload_n C 0 dX7_gives_44 rfl ?_
      refine mg_41 C dX7_gives_45 ?_
      refine z_iload C 4 dX7_gives_48 rfl ?_
      refine ml_41 C p rfl (by first | assumption | omega) dX7_gives_50 ?_
      refine z_top (nI (tup (nC M.1) kk U p)) (by show Y.2.2.1 41 p = _; rw [hL.2.1]; exact hK p hp2) ?_
      refine z_iload C 4 dX7_gives_51 rfl ?_
      refine ms_20 C (tup (nC M.1) kk U p) rfl (by first | assumption | omega) dX7_gives_53 ?_
      refine z_iinc C (v := nI (p + 1)) 4 dX7_gives_54 rfl (nI_1 _) (by decide) ?_
      refine z_goto C 34 dX7_gives_57 (by decide) ?_
      refine z_pick [1, 2, 3, 4, 0] rfl ?_
      exact ih (p + 1) (mCh Y (tup (nC M.1) kk U p) 5 (nI p)) (by omega) (by omega) hL.ch (e_ch hE)
set_option maxRecDepth 100000 in
set_option maxHeartbeats 4000000 in
theorem lp_gives_8 {l : Launch} {E : zE} {K : zK} {s : State} (M : zM) (hz : gz M.1) {N : Nat} (h : rg N M.1) (hN : N ≤ 100000000) {kk : Nat} (hk1 : 1 ≤ kk) (hk4 : kk ≤ 4) (hkC : kk ≤ nC M.1) (X : zM) {U : Nat} (hX : gvO M X) (hK : kpO (nC M.1) kk U X) (hJ : ijO (nC M.1) kk U) (hB : bsO M.1 kk X U) {μ : Nat} (C0 : MR l E K cX7_gives RX7 9 s 6 none (fun v Y2 => v = none ∧ gvO M Y2 ∧ (∀ p, p < kk → Y2.2.2.1 41 p = X.2.2.1 41 p) ∧ bsO M.1 kk Y2 (U + 1))) : ∀ (n2 : Nat) (c : Nat) (Y : zM), (nC M.1 - c < n2) → (c ≤ nC M.1) → (lfO M X Y) → (∀ q, q < c → Y.1.2.2 q 5 = -1) → Z K (MP E (Y) s) 8 [(0, .ref (madr E.2.2.1 (0, 0, 0))), (1, .int (nI kk)), (2, .int (nI kk)), (3, .int (nI μ)), (4, .int (nI c))] [] := by
  have C := C0.c
  intro n2
  induction n2 with
  | zero => intro c Y hk hkl hL hcl; exact absurd hk (Nat.not_lt_zero _)
  | succ n2 ih =>
    intro c Y hk hkl hL hcl
    obtain ⟨⟨eS, lS⟩, ⟨eC, lC⟩⟩ := id hz
    refine z_iload C 4 dX7_gives_8 rfl ?_
    refine z_aload_n C 0 dX7_gives_10 rfl ?_
    refine mg_1 C dX7_gives_11 ?_
    rw [show Y.1.1 1 = nI (nC M.1) from (hL.1.1.1 1 (by omega)).trans eC]
    refine z_icmp_ge C 31 dX7_gives_14 (by decide) (fun h14 => ?_) (fun h14 => ?_)
    · skip
      have e : c = nC M.1 := by
        rcases Nat.lt_or_ge c (nC M.1) with q | q
        · exact absurd h14 (nI_ge q (by omega))
        · omega
      subst e
      have hE0 : eqv Y.1 (clrN M.1 (nC M.1)) := by
        refine (hL.1.1.tr (kfr_of_clr (n := nC M.1))).eq (fun q hq => ?_)
        rw [show nC (clrN M.1 (nC M.1)) = nC M.1 from kfr_clr.C] at hq
        rw [clr_at hq]; exact hcl q hq
      refine z_iconst C (v := 0) dX7_gives_31 rfl ?_
      refine z_istore C dX7_gives_32 (by decide) ?_
      refine z_pick [1, 2, 3, 4, 0] rfl ?_
      exact lp_gives_34 M hz h hN hk1 hk4 hkC X hX hK hJ hB C0 (kk + 1) 0 Y (by omega) (by omega) hL hE0
    · skip
      have hc : c < nC M.1 := by
        rcases Nat.lt_or_ge c (nC M.1) with q | q
        · exact q
        · exact absurd (nI_le q (by omega)) h14
      have hc6 : c < 6 := by omega
      refine z_aload_n C 0 dX7_gives_17 rfl ?_
      refine mg_20 C dX7_gives_18 ?_
      refine z_iload C 4 dX7_gives_21 rfl ?_
      refine z_iconst C (v := (-1)) dX7_gives_23 rfl ?_
      refine ms_20 C c rfl (by first | assumption | omega) dX7_gives_24 ?_
      refine z_iinc C (v := nI (c + 1)) 4 dX7_gives_25 rfl (nI_1 _) (by decide) ?_
      refine z_goto C 8 dX7_gives_28 (by decide) ?_
      refine z_pick [1, 2, 3, 4, 0] rfl ?_
      refine ih (c + 1) (mCh Y c 5 (-1)) (by omega) (by omega) hL.ch (fun q hq => ?_)
      by_cases e : q = c
      · subst e; exact ch5_at
      · rw [show (mCh Y c 5 (-1)).1.2.2 q 5 = Y.1.2.2 q 5 from ch5_ne e]; exact hcl q (by omega)
set_option maxRecDepth 100000 in
set_option maxHeartbeats 4000000 in
theorem c_gives_0 (l : Launch) (E : zE) (M : zM) (hz : gz M.1) {N : Nat} (h : rg N M.1) (hN : N ≤ 100000000) {kk : Nat} (hk1 : 1 ≤ kk) (hk4 : kk ≤ 4) (hkC : kk ≤ nC M.1) (X : zM) {U : Nat} (hX : gvO M X) (hK : kpO (nC M.1) kk U X) (hJ : ijO (nC M.1) kk U) (hB : bsO M.1 kk X U) {μ : Nat} : MM l E yX7_gives cX7_gives 6 none 9 [.ref (madr E.2.2.1 (0, 0, 0)), .int (nI kk), .int (nI kk), .int (nI μ)] (X) (fun v Y2 => v = none ∧ gvO M Y2 ∧ (∀ p, p < kk → Y2.2.2.1 41 p = X.2.2.1 41 p) ∧ bsO M.1 kk Y2 (U + 1)) := by
  refine MM.mk kq_X7 (Nat.le_of_ble_eq_true rfl) (fun K s C0 => ?_)
  have C := C0.c
  obtain ⟨⟨eS, lS⟩, ⟨eC, lC⟩⟩ := id hz
  refine z_iload_n C 1 dX7_gives_0 rfl ?_
  refine z_iload_n C 2 dX7_gives_1 rfl ?_
  refine z_icmp_ne C 115 dX7_gives_2 (by decide) (fun h2 => ?_) (fun h2 => ?_)
  · exact absurd rfl h2
  · skip
    refine z_iconst C (v := 0) dX7_gives_5 rfl ?_
    refine z_istore C dX7_gives_6 (by decide) ?_
    refine z_pick [1, 2, 3, 4, 0] rfl ?_
    exact lp_gives_8 M hz h hN hk1 hk4 hkC X hX hK hJ hB C0 (nC M.1 + 1) 0 X (by omega) (by omega) (lfO.rf hX) (fun q hq => absurd hq (Nat.not_lt_zero _))
set_option maxRecDepth 100000 in
set_option maxHeartbeats 4000000 in
theorem lp_gives_118 {l : Launch} {E : zE} {K : zK} {s : State} (M : zM) (hz : gz M.1) {N : Nat} (h : rg N M.1) (hN : N ≤ 100000000) {kk : Nat} (hk1 : 1 ≤ kk) (hk4 : kk ≤ 4) (hkC : kk ≤ nC M.1) (X : zM) {U i r μ : Nat} (ek : i + (r + 1) = kk) (hX : gvO M X) (hK : kpO (nC M.1) i U X) (hJ : ijO (nC M.1) i U) (hT : mtO (nC M.1) i U μ) (hB : bsO M.1 kk X (U * nC M.1 ^ (r + 1))) (hrec : ∀ (X : zM) (U i μ : Nat), i + r = kk → gvO M X → kpO (nC M.1) i U X → ijO (nC M.1) i U → mtO (nC M.1) i U μ → bsO M.1 kk X (U * nC M.1 ^ r) → MM l E yX7_gives cX7_gives 6 none (9 + r) [.ref (madr E.2.2.1 (0, 0, 0)), .int (nI i), .int (nI kk), .int (nI μ)] X (fun v Y2 => v = none ∧ gvO M Y2 ∧ (∀ p, p < i → Y2.2.2.1 41 p = X.2.2.1 41 p) ∧ bsO M.1 kk Y2 ((U + 1) * nC M.1 ^ r)))  (C0 : MR l E K cX7_gives RX7 (9 + (r + 1)) s 6 none (fun v Y2 => v = none ∧ gvO M Y2 ∧ (∀ p, p < i → Y2.2.2.1 41 p = X.2.2.1 41 p) ∧ bsO M.1 kk Y2 ((U + 1) * nC M.1 ^ (r + 1)))) : ∀ (n2 : Nat) (c : Nat) (Y : zM), (nC M.1 - c < n2) → (c ≤ nC M.1) → (gvO M Y) → (∀ p, p < i → Y.2.2.1 41 p = X.2.2.1 41 p) → (bsO M.1 kk Y ((U * nC M.1 + c) * nC M.1 ^ r)) → Z K (MP E (Y) s) 118 [(0, .ref (madr E.2.2.1 (0, 0, 0))), (1, .int (nI i)), (2, .int (nI kk)), (3, .int (nI μ)), (4, .int (nI c))] [] := by
  have C := C0.c
  intro n2
  induction n2 with
  | zero => intro c Y hk hkl hG h41 hb; exact absurd hk (Nat.not_lt_zero _)
  | succ n2 ih =>
    intro c Y hk hkl hG h41 hb
    obtain ⟨⟨eS, lS⟩, ⟨eC, lC⟩⟩ := id hz
    refine z_iload C 4 dX7_gives_118 rfl ?_
    refine z_aload_n C 0 dX7_gives_120 rfl ?_
    refine mg_1 C dX7_gives_121 ?_
    rw [show Y.1.1 1 = nI (nC M.1) from (hG.1.1 1 (by omega)).trans eC]
    refine z_icmp_ge C 168 dX7_gives_124 (by decide) (fun h124 => ?_) (fun h124 => ?_)
    · skip
      refine z_vret C0 dX7_gives_168 ?_
      have e : c = nC M.1 := by
        rcases Nat.lt_or_ge c (nC M.1) with q | q
        · exact absurd h124 (nI_ge q (by omega))
        · omega
      subst e
      exact ⟨rfl, hG, h41, bs_next hb⟩
    · skip
      have hc : c < nC M.1 := by
        rcases Nat.lt_or_ge c (nC M.1) with q | q
        · exact q
        · exact absurd (nI_le q (by omega)) h124
      have hc6 : c < 6 := by omega
      refine z_iload_n C 3 dX7_gives_127 rfl ?_
      refine z_iload C 4 dX7_gives_128 rfl ?_
      refine z_ishr C dX7_gives_130 ?_
      refine z_iconst C (v := 1) dX7_gives_131 rfl ?_
      refine z_iand C dX7_gives_132 ?_
      refine z_top (bI (μ.testBit c)) (mt_bit hT.1 hc6) ?_
      refine z_iconst C (v := 1) dX7_gives_133 rfl ?_
      refine z_icmp_ne C 140 dX7_gives_134 (by decide) (fun h134 => ?_) (fun h134 => ?_)
      · skip
        have hn : ¬ ∃ p, p < i ∧ tup (nC M.1) i U p = c := by
          intro z
          exact h134 (by rw [(hT.2 c hc6).mpr z]; rfl)
        refine z_aload_n C 0 dX7_gives_140 rfl ?_
        refine mg_41 C dX7_gives_141 ?_
        refine z_iload_n C 1 dX7_gives_144 rfl ?_
        refine z_iload C 4 dX7_gives_145 rfl ?_
        refine ms_41 C i rfl (by first | assumption | omega) dX7_gives_147 ?_
        refine z_aload_n C 0 dX7_gives_148 rfl ?_
        refine z_iload_n C 1 dX7_gives_149 rfl ?_
        refine z_iconst C (v := 1) dX7_gives_150 rfl ?_
        refine z_iadd C dX7_gives_151 ?_
        refine z_top (nI (i + 1)) (nI_1 _) ?_
        refine z_iload_n C 2 dX7_gives_152 rfl ?_
        refine z_iload_n C 3 dX7_gives_153 rfl ?_
        refine z_iconst C (v := 1) dX7_gives_154 rfl ?_
        refine z_iload C 4 dX7_gives_155 rfl ?_
        refine z_ishl C dX7_gives_157 ?_
        refine z_ior C dX7_gives_158 ?_
        refine z_top (nI (μ ||| 2 ^ c)) ((mt_or hT.1 hc6).1) ?_
        refine z_callV3 C (hrec (mA Y 41 i (nI c)) (U * nC M.1 + c) (i + 1) (μ ||| 2 ^ c) (by omega) (hG.a (by omega)) (kp_up (fun p hp => (h41 p hp).trans (hK p hp)) hc) (ij_up hJ hc hn) (mt_up hT hc hc6) (bs_a hb)) ⟨rfl, rfl⟩ rfl rfl q_X7_277 (by refine ⟨?_, ?_⟩ <;> simp only [zRM] <;> omega) (Nat.le_of_ble_eq_true rfl) dX7_gives_159 (fun v F9 hp => ?_)
        obtain ⟨rfl, hG9, h419, hb9⟩ := hp
        refine z_iinc C (v := nI (c + 1)) 4 dX7_gives_162 rfl (nI_1 _) (by decide) ?_
        refine z_goto C 118 dX7_gives_165 (by decide) ?_
        refine z_pick [1, 2, 3, 4, 0] rfl ?_
        refine ih (c + 1) F9 (by omega) (by omega) hG9 (fun p hp => ?_) ?_
        · rw [h419 p (by omega)]
          refine Eq.trans ?_ (h41 p hp)
          show va_up Y.2.2.1 41 _ 41 p = _
          rw [va_up_self]
          exact if_neg (by omega)
        · rw [← Nat.add_assoc]; exact hb9
      · skip
        refine z_goto C 162 dX7_gives_137 (by decide) ?_
        refine z_iinc C (v := nI (c + 1)) 4 dX7_gives_162 rfl (nI_1 _) (by decide) ?_
        refine z_goto C 118 dX7_gives_165 (by decide) ?_
        refine z_pick [1, 2, 3, 4, 0] rfl ?_
        refine ih (c + 1) Y (by omega) (by omega) hG h41 ?_
        subst ek
        exact bs_skip rfl hb (by omega) hc ((hT.2 c hc6).mp (bI_1 (by rw [h134]; decide)))
set_option maxRecDepth 100000 in
set_option maxHeartbeats 4000000 in
theorem c_gives_s (l : Launch) (E : zE) (M : zM) (hz : gz M.1) {N : Nat} (h : rg N M.1) (hN : N ≤ 100000000) {kk : Nat} (hk1 : 1 ≤ kk) (hk4 : kk ≤ 4) (hkC : kk ≤ nC M.1) (X : zM) {U i r μ : Nat} (ek : i + (r + 1) = kk) (hX : gvO M X) (hK : kpO (nC M.1) i U X) (hJ : ijO (nC M.1) i U) (hT : mtO (nC M.1) i U μ) (hB : bsO M.1 kk X (U * nC M.1 ^ (r + 1))) (hrec : ∀ (X : zM) (U i μ : Nat), i + r = kk → gvO M X → kpO (nC M.1) i U X → ijO (nC M.1) i U → mtO (nC M.1) i U μ → bsO M.1 kk X (U * nC M.1 ^ r) → MM l E yX7_gives cX7_gives 6 none (9 + r) [.ref (madr E.2.2.1 (0, 0, 0)), .int (nI i), .int (nI kk), .int (nI μ)] X (fun v Y2 => v = none ∧ gvO M Y2 ∧ (∀ p, p < i → Y2.2.2.1 41 p = X.2.2.1 41 p) ∧ bsO M.1 kk Y2 ((U + 1) * nC M.1 ^ r)))  : MM l E yX7_gives cX7_gives 6 none (9 + (r + 1)) [.ref (madr E.2.2.1 (0, 0, 0)), .int (nI i), .int (nI kk), .int (nI μ)] (X) (fun v Y2 => v = none ∧ gvO M Y2 ∧ (∀ p, p < i → Y2.2.2.1 41 p = X.2.2.1 41 p) ∧ bsO M.1 kk Y2 ((U + 1) * nC M.1 ^ (r + 1))) := by
  refine MM.mk kq_X7 (Nat.le_of_ble_eq_true rfl) (fun K s C0 => ?_)
  have C := C0.c
  obtain ⟨⟨eS, lS⟩, ⟨eC, lC⟩⟩ := id hz
  refine z_iload_n C 1 dX7_gives_0 rfl ?_
  refine z_iload_n C 2 dX7_gives_1 rfl ?_
  refine z_icmp_ne C 115 dX7_gives_2 (by decide) (fun h2 => ?_) (fun h2 => ?_)
  · skip
    refine z_iconst C (v := 0) dX7_gives_115 rfl ?_
    refine z_istore C dX7_gives_116 (by decide) ?_
    refine z_pick [1, 2, 3, 4, 0] rfl ?_
    exact lp_gives_118 M hz h hN hk1 hk4 hkC X ek hX hK hJ hT hB hrec C0 (nC M.1 + 1) 0 X (by omega) (by omega) hX (fun _ _ => rfl) (by rw [Nat.add_zero, Nat.mul_assoc, Nat.mul_comm (nC M.1), ← Nat.pow_succ]; exact hB)
  · exact absurd h2 (nI_neq (by omega) (by omega) (by omega))
theorem c_gives (l : Launch) (E : zE) (M : zM) (hz : gz M.1) {N : Nat} (h : rg N M.1) (hN : N ≤ 100000000) {kk : Nat} (hk1 : 1 ≤ kk) (hk4 : kk ≤ 4) (hkC : kk ≤ nC M.1) : ∀ (r : Nat) (X : zM) (U i μ : Nat), i + r = kk → gvO M X → kpO (nC M.1) i U X → ijO (nC M.1) i U → mtO (nC M.1) i U μ → bsO M.1 kk X (U * nC M.1 ^ r) → MM l E yX7_gives cX7_gives 6 none (9 + r) [.ref (madr E.2.2.1 (0, 0, 0)), .int (nI i), .int (nI kk), .int (nI μ)] X (fun v Y2 => v = none ∧ gvO M Y2 ∧ (∀ p, p < i → Y2.2.2.1 41 p = X.2.2.1 41 p) ∧ bsO M.1 kk Y2 ((U + 1) * nC M.1 ^ r))
  | 0, X, U, i, μ, ek, hX, hK, hJ, hT, hB => by
    rw [Nat.add_zero] at ek
    subst ek
    rw [Nat.pow_zero, Nat.mul_one] at hB ⊢
    exact c_gives_0 l E M hz h hN hk1 hk4 hkC X hX hK hJ hB
  | r + 1, X, U, i, μ, ek, hX, hK, hJ, hT, hB => c_gives_s l E M hz h hN hk1 hk4 hkC X ek hX hK hJ hT hB (fun X U i μ e1 e2 e3 e4 e5 e6 => c_gives l E M hz h hN hk1 hk4 hkC r X U i μ e1 e2 e3 e4 e5 e6)
def kkN (M : zM) (n : Nat) : Nat → Int32 := fun q => if q < n then M.1.2.2 q 5 else M.2.2.1 43 q
theorem kk_0 {M : zM} : mT M 43 (kkN M 0) = M := mT_id (M := M) (k := 43)
theorem kk_s {M : zM} {c : Nat} : mA (mT M 43 (kkN M c)) 43 c (M.1.2.2 c 5) = mT M 43 (kkN M (c + 1)) := by
  rw [mT_A]
  congr 1
  funext q
  unfold upd kkN
  by_cases e : q = c
  · subst e; rw [if_pos rfl, if_pos (Nat.lt_succ_self _)]
  · rw [if_neg e]
    by_cases h : q < c
    · rw [if_pos h, if_pos (by omega)]
    · rw [if_neg h, if_neg (by omega)]
theorem kk_at {M : zM} {c n : Nat} (h : c < n) : (mT M 43 (kkN M n)).2.2.1 43 c = M.1.2.2 c 5 := by
  show va_up M.2.2.1 43 (kkN M n) 43 c = _
  rw [va_up_self]
  exact if_pos h
theorem gv_i {M Y : zM} {v : Int32} (h : gvO (mI M 44 v) Y) : gvO M Y := by
  obtain ⟨h1, h2, h3⟩ := h
  refine ⟨h1, fun k hk => (h2 k hk).trans ?_, h3⟩
  show upd M.2.1 44 v k = _
  exact pk_un (by omega)
theorem kp_sm {M Y : zM} {f : Nat → Int32} (h : gvO (mT M 43 f) Y) (h5 : ∀ q, q < nC M.1 → Y.1.2.2 q 5 = M.1.2.2 q 5) : mSm M Y := by
  obtain ⟨h1, h2, h3, h4⟩ := h
  refine ⟨kfr.eq h1 h5, h2, fun k hk => ?_, h4⟩
  refine (h3 k (by omega)).trans ?_
  show va_up M.2.2.1 43 f k = _
  exact va_up_ne _ _ (by omega)
set_option maxRecDepth 100000 in
set_option maxHeartbeats 4000000 in
theorem lp_keepers_92 {l : Launch} {E : zE} {K : zK} {s : State} (M : zM) (hz : gz M.1) {N : Nat} (h : rg N M.1) (hN : N ≤ 100000000) (k i : Int32) {kk : Nat} (hk1 : 1 ≤ kk) (hk4 : kk ≤ 4) (hkC : kk ≤ nC M.1) (ek : k = nI kk) (hi : i = -1 ∨ ∃ ii, ii < kk ∧ i = nI ii) (hk0 : kKeep M.1 k i = 0) (C0 : MR l E K cX7_keepers RX7 14 s 4 (some .int) (mpo M (kKeep M.1 k i) (aKeep M.1 k.toNatClampNeg i) (mSm M))) : ∀ (n2 : Nat) (c : Nat) (Y : zM), (nC M.1 - c < n2) → (c ≤ nC M.1) → (gvO (mT M 43 (kkN M (nC M.1))) Y) → (bsO M.1 kk Y (nC M.1 ^ kk)) → (∀ q, q < c → Y.1.2.2 q 5 = M.1.2.2 q 5) → Z K (MP E (Y) s) 92 [(0, .ref (madr E.2.2.1 (0, 0, 0))), (1, .int (nI kk)), (2, .int (i)), (3, .int (nI c))] [] := by
  have C := C0.c
  intro n2
  induction n2 with
  | zero => intro c Y hk hkl hG hb hcl; exact absurd hk (Nat.not_lt_zero _)
  | succ n2 ih =>
    intro c Y hk hkl hG hb hcl
    obtain ⟨⟨eS, lS⟩, ⟨eC, lC⟩⟩ := id hz
    have hsm : sms M.1 := h.sm (by omega)
    refine z_iload_n C 3 dX7_keepers_92 rfl ?_
    refine z_aload_n C 0 dX7_keepers_93 rfl ?_
    refine mg_1 C dX7_keepers_94 ?_
    rw [show Y.1.1 1 = nI (nC M.1) from (hG.1.1 1 (by omega)).trans eC]
    refine z_icmp_ge C 118 dX7_keepers_97 (by decide) (fun h97 => ?_) (fun h97 => ?_)
    · skip
      have e : c = nC M.1 := by
        rcases Nat.lt_or_ge c (nC M.1) with q | q
        · exact absurd h97 (nI_ge q (by omega))
        · omega
      subst e
      have hS : mSm M Y := kp_sm hG hcl
      have hne := bw_end hz h hN hk1 hk4 hkC lC
      obtain ⟨hb1, hb2⟩ := hb
      have hb2 := hb2.resolve_left hne
      have hb3 := bw_at.resolve_left hne
      refine z_iload_n C 2 dX7_keepers_118 rfl ?_
      refine z_iconst C (v := (-1)) dX7_keepers_119 rfl ?_
      refine z_icmp_ne C 130 dX7_keepers_120 (by decide) (fun h120 => ?_) (fun h120 => ?_)
      · skip
        obtain ⟨ii, hii, ei⟩ := hi.resolve_left h120
        have ei2 : i.toNatClampNeg = ii := by rw [ei]; exact nI_clamp (by omega)
        refine z_aload_n C 0 dX7_keepers_130 rfl ?_
        refine mg_42 C dX7_keepers_131 ?_
        refine z_iload_n C 2 dX7_keepers_134 rfl ?_
        refine ml_42 C ii ei (by omega) dX7_keepers_135 ?_
        have e2 : Y.2.2.1 42 ii = nI (tup (nC M.1) kk (bwN M.1 kk (nC M.1 ^ kk)).1 i.toNatClampNeg) := by rw [ei2]; exact hb2 ii hii
        refine z_iret C0 dX7_keepers_136 ?_
        subst ek
        exact mpo.ok hk0 (by rw [nI_clamp (by omega)]; unfold aKeep; rw [if_neg h120, e2]) hS
      · skip
        refine z_aload_n C 0 dX7_keepers_123 rfl ?_
        refine mg_44 C dX7_keepers_124 ?_
        refine z_goto C 136 dX7_keepers_127 (by decide) ?_
        
        refine z_iret C0 dX7_keepers_136 ?_
        subst ek
        exact mpo.ok hk0 (by rw [nI_clamp (by omega)]; unfold aKeep; rw [if_pos h120, ← hb3]; exact hb1) hS
    · skip
      have hc : c < nC M.1 := by
        rcases Nat.lt_or_ge c (nC M.1) with q | q
        · exact q
        · exact absurd (nI_le q (by omega)) h97
      have hc6 : c < 6 := by omega
      refine z_aload_n C 0 dX7_keepers_100 rfl ?_
      refine mg_20 C dX7_keepers_101 ?_
      refine z_iload_n C 3 dX7_keepers_104 rfl ?_
      refine z_aload_n C 0 dX7_keepers_105 rfl ?_
      refine mg_43 C dX7_keepers_106 ?_
      refine z_iload_n C 3 dX7_keepers_109 rfl ?_
      refine ml_43 C c rfl (by first | assumption | omega) dX7_keepers_110 ?_
      refine z_top (M.1.2.2 c 5) (by show Y.2.2.1 43 c = _; rw [hG.2.2.1 43 (by omega)]; exact kk_at hc) ?_
      refine ms_20 C c rfl (by first | assumption | omega) dX7_keepers_111 ?_
      refine z_iinc C (v := nI (c + 1)) 3 dX7_keepers_112 rfl (nI_1 _) (by decide) ?_
      refine z_goto C 92 dX7_keepers_115 (by decide) ?_
      refine z_pick [1, 2, 3, 0] rfl ?_
      refine ih (c + 1) (mCh Y c 5 (M.1.2.2 c 5)) (by omega) (by omega) hG.ch ⟨hb.1, hb.2⟩ (fun q hq => ?_)
      by_cases e : q = c
      · subst e; exact ch5_at
      · rw [show (mCh Y c 5 (M.1.2.2 c 5)).1.2.2 q 5 = Y.1.2.2 q 5 from ch5_ne e]; exact hcl q (by omega)
set_option maxRecDepth 100000 in
set_option maxHeartbeats 4000000 in
theorem lp_keepers_52 {l : Launch} {E : zE} {K : zK} {s : State} (M : zM) (hz : gz M.1) {N : Nat} (h : rg N M.1) (hN : N ≤ 100000000) (k i : Int32) {kk : Nat} (hk1 : 1 ≤ kk) (hk4 : kk ≤ 4) (hkC : kk ≤ nC M.1) (ek : k = nI kk) (hi : i = -1 ∨ ∃ ii, ii < kk ∧ i = nI ii) (hk0 : kKeep M.1 k i = 0) (C0 : MR l E K cX7_keepers RX7 14 s 4 (some .int) (mpo M (kKeep M.1 k i) (aKeep M.1 k.toNatClampNeg i) (mSm M))) : ∀ (n2 : Nat) (c : Nat), (nC M.1 - c < n2) → (c ≤ nC M.1) → Z K (MP E ((mT M 43 (kkN M c))) s) 52 [(0, .ref (madr E.2.2.1 (0, 0, 0))), (1, .int (nI kk)), (2, .int (i)), (3, .int (nI c))] [] := by
  have C := C0.c
  intro n2
  induction n2 with
  | zero => intro c hk hkl; exact absurd hk (Nat.not_lt_zero _)
  | succ n2 ih =>
    intro c hk hkl
    obtain ⟨⟨eS, lS⟩, ⟨eC, lC⟩⟩ := id hz
    have hsm : sms M.1 := h.sm (by omega)
    refine z_iload_n C 3 dX7_keepers_52 rfl ?_
    refine z_aload_n C 0 dX7_keepers_53 rfl ?_
    refine mg_1 C dX7_keepers_54 ?_
    rw [show (mT M 43 (kkN M c)).1.1 1 = nI (nC M.1) from eC]
    refine z_icmp_ge C 78 dX7_keepers_57 (by decide) (fun h57 => ?_) (fun h57 => ?_)
    · skip
      have e : c = nC M.1 := by
        rcases Nat.lt_or_ge c (nC M.1) with q | q
        · exact absurd h57 (nI_ge q (by omega))
        · omega
      subst e
      refine z_aload_n C 0 dX7_keepers_78 rfl ?_
      refine z_iconst C (v := (-1)) dX7_keepers_79 rfl ?_
      refine mp_44 C dX7_keepers_80 ?_
      refine z_aload_n C 0 dX7_keepers_83 rfl ?_
      refine z_iconst C (v := 0) dX7_keepers_84 rfl ?_
      refine z_iload_n C 1 dX7_keepers_85 rfl ?_
      refine z_iconst C (v := 0) dX7_keepers_86 rfl ?_
      refine z_callV3 C (c_gives l E (mI (mT M 43 (kkN M (nC M.1))) 44 (-1)) hz h hN hk1 hk4 hkC kk (mI (mT M 43 (kkN M (nC M.1))) 44 (-1)) 0 0 0 (Nat.zero_add _) (gvO.rf _) (fun p hp => absurd hp (Nat.not_lt_zero _)) (fun p q hp => absurd hp (Nat.not_lt_zero _)) ⟨by decide, fun c hc => ⟨fun z => absurd z (by simp), fun z => by obtain ⟨p, hp, -⟩ := z; omega⟩⟩ ⟨by rw [Nat.zero_mul]; exact mI_at, Or.inl (by rw [Nat.zero_mul]; rfl)⟩) ⟨rfl, rfl⟩ rfl rfl q_X7_277 (by refine ⟨?_, ?_⟩ <;> simp only [zRM] <;> omega) (Nat.le_of_ble_eq_true rfl) dX7_keepers_87 (fun v F9 hp => ?_)
      obtain ⟨rfl, hG9, -, hb9⟩ := hp
      refine z_iconst C (v := 0) dX7_keepers_90 rfl ?_
      refine z_istore_n (i := 3) C dX7_keepers_91 rfl (by decide) ?_
      refine z_pick [1, 2, 3, 0] rfl ?_
      rw [Nat.zero_add, Nat.one_mul] at hb9
      exact lp_keepers_92 M hz h hN k i hk1 hk4 hkC ek hi hk0 C0 (nC M.1 + 1) 0 F9 (by omega) (by omega) (gv_i hG9) hb9 (fun q hq => absurd hq (Nat.not_lt_zero _))
    · skip
      have hc : c < nC M.1 := by
        rcases Nat.lt_or_ge c (nC M.1) with q | q
        · exact q
        · exact absurd (nI_le q (by omega)) h57
      have hc6 : c < 6 := by omega
      refine z_aload_n C 0 dX7_keepers_60 rfl ?_
      refine mg_43 C dX7_keepers_61 ?_
      refine z_iload_n C 3 dX7_keepers_64 rfl ?_
      refine z_aload_n C 0 dX7_keepers_65 rfl ?_
      refine mg_20 C dX7_keepers_66 ?_
      refine z_iload_n C 3 dX7_keepers_69 rfl ?_
      refine ml_20 C c rfl (by first | assumption | omega) dX7_keepers_70 ?_
      refine ms_43 C c rfl (by first | assumption | omega) dX7_keepers_71 ?_
      refine z_iinc C (v := nI (c + 1)) 3 dX7_keepers_72 rfl (nI_1 _) (by decide) ?_
      refine z_goto C 52 dX7_keepers_75 (by decide) ?_
      refine z_pick [1, 2, 3, 0] rfl ?_
      have q := ih (c + 1) (by omega) (by omega)
      rw [← kk_s] at q
      exact q
set_option maxRecDepth 100000 in
set_option maxHeartbeats 4000000 in
theorem c_X7_keepers (l : Launch) (E : zE) (M : zM) (hz : gz M.1) {N : Nat} (h : rg N M.1) (hN : N ≤ 100000000) (k i : Int32) : MM l E yX7_keepers cX7_keepers 4 (some .int) 14 [.ref (madr E.2.2.1 (0, 0, 0)), .int (k), .int (i)] (M) (mpo M (kKeep M.1 k i) (aKeep M.1 k.toNatClampNeg i) (mSm M)) := by
  refine MM.mk kq_X7 (Nat.le_of_ble_eq_true rfl) (fun K s C0 => ?_)
  have C := C0.c
  obtain ⟨⟨eS, lS⟩, ⟨eC, lC⟩⟩ := id hz
  have hsm : sms M.1 := h.sm (by omega)
  refine z_iload_n C 1 dX7_keepers_0 rfl ?_
  refine z_iconst C (v := 1) dX7_keepers_1 rfl ?_
  refine z_icmp_lt C 26 dX7_keepers_2 (by decide) (fun h2 => ?_) (fun h2 => ?_)
  · skip
    refine z_aload_n C 0 dX7_keepers_26 rfl ?_
    refine z_bipush C (v := (-6)) dX7_keepers_27 rfl ?_
    refine z_callV1 C (c_X7_no l E _ (-6) 6 (by decide) (by decide) (by decide)) ⟨rfl, rfl⟩ rfl rfl q_X7_124 (by refine ⟨?_, ?_⟩ <;> simp only [zRM] <;> omega) (Nat.le_of_ble_eq_true rfl) dX7_keepers_29 (fun v F9 hp => ?_)
    obtain ⟨rfl, e9⟩ := hp
    rw [e9]
    clear e9 F9
    refine z_iret C0 dX7_keepers_32 ?_
    exact mpo.ref (by simp [kKeep, h2, Int32.not_le.mpr h2]) (by decide)
  · skip
    refine z_iload_n C 1 dX7_keepers_5 rfl ?_
    refine z_iconst C (v := 4) dX7_keepers_6 rfl ?_
    refine z_icmp_gt C 26 dX7_keepers_7 (by decide) (fun h7 => ?_) (fun h7 => ?_)
    · skip
      refine z_aload_n C 0 dX7_keepers_26 rfl ?_
      refine z_bipush C (v := (-6)) dX7_keepers_27 rfl ?_
      refine z_callV1 C (c_X7_no l E _ (-6) 6 (by decide) (by decide) (by decide)) ⟨rfl, rfl⟩ rfl rfl q_X7_124 (by refine ⟨?_, ?_⟩ <;> simp only [zRM] <;> omega) (Nat.le_of_ble_eq_true rfl) dX7_keepers_29 (fun v F9 hp => ?_)
      obtain ⟨rfl, e9⟩ := hp
      rw [e9]
      clear e9 F9
      refine z_iret C0 dX7_keepers_32 ?_
      exact mpo.ref (by simp [kKeep, h2, Int32.not_lt.mp h2, h7, Int32.not_le.mpr h7]) (by decide)
    · skip
      refine z_iload_n C 1 dX7_keepers_10 rfl ?_
      refine z_aload_n C 0 dX7_keepers_11 rfl ?_
      refine mg_0 C dX7_keepers_12 ?_
      refine z_icmp_gt C 26 dX7_keepers_15 (by decide) (fun h15 => ?_) (fun h15 => ?_)
      · skip
        refine z_aload_n C 0 dX7_keepers_26 rfl ?_
        refine z_bipush C (v := (-6)) dX7_keepers_27 rfl ?_
        refine z_callV1 C (c_X7_no l E _ (-6) 6 (by decide) (by decide) (by decide)) ⟨rfl, rfl⟩ rfl rfl q_X7_124 (by refine ⟨?_, ?_⟩ <;> simp only [zRM] <;> omega) (Nat.le_of_ble_eq_true rfl) dX7_keepers_29 (fun v F9 hp => ?_)
        obtain ⟨rfl, e9⟩ := hp
        rw [e9]
        clear e9 F9
        refine z_iret C0 dX7_keepers_32 ?_
        exact mpo.ref (by simp [kKeep, h2, Int32.not_lt.mp h2, h7, Int32.not_lt.mp h7, h15, Int32.not_le.mpr h15]) (by decide)
      · skip
        refine z_iload_n C 1 dX7_keepers_18 rfl ?_
        refine z_aload_n C 0 dX7_keepers_19 rfl ?_
        refine mg_1 C dX7_keepers_20 ?_
        refine z_icmp_le C 33 dX7_keepers_23 (by decide) (fun h23 => ?_) (fun h23 => ?_)
        · skip
          obtain ⟨kk, hk1, hkC, rfl⟩ := i_1n h2 (by rw [← eC]; exact Int32.not_lt.mpr h23) (by omega)
          have hk4 : kk ≤ 4 := by
            rcases Nat.lt_or_ge 4 kk with q | q
            · exact absurd (nI_lt (a := 4) (b := kk) q (by omega)) h7
            · exact q
          refine z_iload_n C 2 dX7_keepers_33 rfl ?_
          refine z_iconst C (v := (-1)) dX7_keepers_34 rfl ?_
          refine z_icmp_lt C 43 dX7_keepers_35 (by decide) (fun h35 => ?_) (fun h35 => ?_)
          · skip
            refine z_aload_n C 0 dX7_keepers_43 rfl ?_
            refine z_bipush C (v := (-5)) dX7_keepers_44 rfl ?_
            refine z_callV1 C (c_X7_no l E _ (-5) 5 (by decide) (by decide) (by decide)) ⟨rfl, rfl⟩ rfl rfl q_X7_124 (by refine ⟨?_, ?_⟩ <;> simp only [zRM] <;> omega) (Nat.le_of_ble_eq_true rfl) dX7_keepers_46 (fun v F9 hp => ?_)
            obtain ⟨rfl, e9⟩ := hp
            rw [e9]
            clear e9 F9
            refine z_iret C0 dX7_keepers_49 ?_
            exact mpo.ref (by simp [kKeep, h2, Int32.not_lt.mp h2, h7, Int32.not_lt.mp h7, h15, Int32.not_lt.mp h15, h23, Int32.not_lt.mpr h23, h35, Int32.not_le.mpr h35]) (by decide)
          · skip
            refine z_iload_n C 2 dX7_keepers_38 rfl ?_
            refine z_iload_n C 1 dX7_keepers_39 rfl ?_
            refine z_icmp_lt C 50 dX7_keepers_40 (by decide) (fun h40 => ?_) (fun h40 => ?_)
            · skip
              have hi1 : i = -1 ∨ ∃ ii, ii < kk ∧ i = nI ii := by
                by_cases q : i = -1
                · exact Or.inl q
                · obtain ⟨ii, hii, e⟩ := inR_of (n := kk) (inR_t (i_m1 h35 q) h40) (by omega)
                  exact Or.inr ⟨ii, hii, e⟩
              refine z_iconst C (v := 0) dX7_keepers_50 rfl ?_
              refine z_istore_n (i := 3) C dX7_keepers_51 rfl (by decide) ?_
              refine z_pick [1, 2, 3, 0] rfl ?_
              have hk0 : kKeep M.1 (nI kk) i = 0 := by simp [kKeep, h2, Int32.not_lt.mp h2, h7, Int32.not_lt.mp h7, h15, Int32.not_lt.mp h15, h23, Int32.not_lt.mpr h23, h35, Int32.not_lt.mp h35, h40, Int32.not_le.mpr h40]
              have q := lp_keepers_52 M hz h hN (nI kk) i hk1 hk4 hkC rfl hi1 hk0 C0 (nC M.1 + 1) 0 (by omega) (by omega)
              rw [kk_0] at q
              exact q
            · skip
              refine z_aload_n C 0 dX7_keepers_43 rfl ?_
              refine z_bipush C (v := (-5)) dX7_keepers_44 rfl ?_
              refine z_callV1 C (c_X7_no l E _ (-5) 5 (by decide) (by decide) (by decide)) ⟨rfl, rfl⟩ rfl rfl q_X7_124 (by refine ⟨?_, ?_⟩ <;> simp only [zRM] <;> omega) (Nat.le_of_ble_eq_true rfl) dX7_keepers_46 (fun v F9 hp => ?_)
              obtain ⟨rfl, e9⟩ := hp
              rw [e9]
              clear e9 F9
              refine z_iret C0 dX7_keepers_49 ?_
              exact mpo.ref (by simp [kKeep, h2, Int32.not_lt.mp h2, h7, Int32.not_lt.mp h7, h15, Int32.not_lt.mp h15, h23, Int32.not_lt.mpr h23, h35, Int32.not_lt.mp h35, h40, Int32.not_lt.mp h40]) (by decide)
        · skip
          refine z_aload_n C 0 dX7_keepers_26 rfl ?_
          refine z_bipush C (v := (-6)) dX7_keepers_27 rfl ?_
          refine z_callV1 C (c_X7_no l E _ (-6) 6 (by decide) (by decide) (by decide)) ⟨rfl, rfl⟩ rfl rfl q_X7_124 (by refine ⟨?_, ?_⟩ <;> simp only [zRM] <;> omega) (Nat.le_of_ble_eq_true rfl) dX7_keepers_29 (fun v F9 hp => ?_)
          obtain ⟨rfl, e9⟩ := hp
          rw [e9]
          clear e9 F9
          refine z_iret C0 dX7_keepers_32 ?_
          exact mpo.ref (by simp [kKeep, h2, Int32.not_lt.mp h2, h7, Int32.not_lt.mp h7, h15, Int32.not_lt.mp h15, h23, Int32.not_le.mp h23]) (by decide)
