/-! ranges: what the numbers of a garden may be -/
def rgS (N : Nat) (f : Nat → Int32) : Prop := (∃ k, k < 7 ∧ f 0 = nI k) ∧ (∃ a, a ≤ 9 ∧ f 1 = nI a) ∧ (∃ p, 1 ≤ p ∧ p ≤ 999 ∧ f 2 = nI p) ∧ (∃ q, q ≤ N ∧ f 3 = nI q) ∧ (∃ t, t ≤ 999 ∧ f 4 = nI t)
def rgC (f : Nat → Int32) : Prop := (∃ n, 1 ≤ n ∧ n ≤ 99 ∧ f 0 = nI n) ∧ (∃ x, x ≤ 9999 ∧ f 1 = nI x) ∧ (∃ x, x ≤ 9999 ∧ f 2 = nI x) ∧ (∃ x, x ≤ 99 ∧ f 3 = nI x)
def rg (N : Nat) (g : zGc) : Prop := (∀ s, s < nS g → rgS N (g.2.1 s)) ∧ (∀ c, c < nC g → rgC (g.2.2 c)) ∧ (∃ i, i ≤ 99 ∧ g.1 4 = nI i) ∧ (∃ t, t ≤ 9999 ∧ g.1 5 = nI t) ∧ (∃ d, d ≤ N ∧ g.1 6 = nI d)
theorem rgS.up {N N2 : Nat} {f : Nat → Int32} (h : rgS N f) (hN : N ≤ N2) : rgS N2 f := by
  obtain ⟨h0, h1, h2, ⟨q, h3, e3⟩, h4⟩ := h
  exact ⟨h0, h1, h2, ⟨q, by omega, e3⟩, h4⟩
theorem rg.up {N N2 : Nat} {g : zGc} (h : rg N g) (hN : N ≤ N2) : rg N2 g := by
  obtain ⟨h1, h2, h3, h4, ⟨d, h5, e5⟩⟩ := h
  exact ⟨fun s hs => (h1 s hs).up hN, h2, h3, h4, ⟨d, by omega, e5⟩⟩
theorem rg.e {N : Nat} {a b : zGc} (h : eqv a b) (hb : rg N b) : rg N a := by
  obtain ⟨h1, h2, h3, h4, h5⟩ := hb
  refine ⟨fun s hs => ?_, fun c hc => ?_, ?_, ?_, ?_⟩
  · rw [h.S] at hs
    have e := h.2.1 s hs
    have := h1 s hs
    unfold rgS at *
    rw [e 0 (by omega), e 1 (by omega), e 2 (by omega), e 3 (by omega), e 4 (by omega)]
    exact this
  · rw [h.C] at hc
    have e := h.2.2 c hc
    have := h2 c hc
    unfold rgC at *
    rw [e 0 (by omega), e 1 (by omega), e 2 (by omega), e 3 (by omega)]
    exact this
  · rw [h.1 4 (by omega)]; exact h3
  · rw [h.1 5 (by omega)]; exact h4
  · rw [h.1 6 (by omega)]; exact h5
/-- a product of two ints is that of two longs here -/
def sm (f : Nat → Int32) : Prop := ∃ a q t, a ≤ 9 ∧ q ≤ 134217728 ∧ t ≤ 999 ∧ f 1 = nI a ∧ f 3 = nI q ∧ f 4 = nI t
theorem rgS.sm {N : Nat} {f : Nat → Int32} (h : rgS N f) (hN : N ≤ 134217728) : sm f := by
  obtain ⟨-, ⟨a, h1, e1⟩, -, ⟨q, h3, e3⟩, ⟨t, h4, e4⟩⟩ := h
  exact ⟨a, q, t, h1, by omega, h4, e1, e3, e4⟩
def sms (g : zGc) : Prop := ∀ s, s < nS g → sm (g.2.1 s)
theorem rg.sm {N : Nat} {g : zGc} (h : rg N g) (hN : N ≤ 134217728) : sms g := fun s hs => (h.1 s hs).sm hN
theorem l_mul {a b : Nat} (h : a * b < 2 ^ 31) (ha : a < 2 ^ 31) (hb : b < 2 ^ 31) : (nI a * nI b).toInt64 = (nI a).toInt64 * (nI b).toInt64 := by
  have h1 : (nI a * nI b).toInt = (a * b : Nat) := by rw [pk_mul, nI_toInt h]
  rw [← Int64.toInt_inj, Int32.toInt_toInt64, h1, Int64.toInt_mul, Int32.toInt_toInt64, Int32.toInt_toInt64, nI_toInt ha, nI_toInt hb, Int.natCast_mul]
  have h2 : ((a : Int) * (b : Int)) = ((a * b : Nat) : Int) := (Int.natCast_mul a b).symm
  rw [h2]
  simp only [Int.bmod]
  split <;> omega
theorem sm_13 {f : Nat → Int32} (h : sm f) : (f 1 * f 3).toInt64 = (f 1).toInt64 * (f 3).toInt64 := by
  obtain ⟨a, q, t, ha, hq, ht, e1, e3, e4⟩ := h
  rw [e1, e3]
  have : a * q ≤ 9 * 134217728 := Nat.mul_le_mul ha hq
  exact l_mul (by omega) (by omega) (by omega)
theorem sm_14 {f : Nat → Int32} (h : sm f) : (f 1 * f 4).toInt64 = (f 1).toInt64 * (f 4).toInt64 := by
  obtain ⟨a, q, t, ha, hq, ht, e1, e3, e4⟩ := h
  rw [e1, e4]
  have : a * t ≤ 9 * 999 := Nat.mul_le_mul ha ht
  exact l_mul (by omega) (by omega) (by omega)
theorem askL_1 {f : Nat → Int32} (h : sm f) (k : f 0 = 1) : askL f = (f 2).toInt64 + (f 1 * f 3).toInt64 := by unfold askL; rw [if_pos k, sm_13 h]
theorem askL_6 {f : Nat → Int32} (h : sm f) (k : f 0 = 6) : askL f = (f 2).toInt64 + (f 1 * f 3).toInt64 := by unfold askL; rw [k, sm_13 h]; rfl
theorem askL_2 {f : Nat → Int32} (h : sm f) (k : f 0 = 2) : askL f = (f 2).toInt64 - (f 1 * f 4).toInt64 := by unfold askL; rw [k, sm_14 h]; rfl
theorem askL_3 {f : Nat → Int32} (k : f 0 = 3) : askL f = (f 2).toInt64 + (f 1).toInt64 * (f 3).toInt64 * (f 3).toInt64 := by unfold askL; rw [k]; rfl
theorem askL_5 {f : Nat → Int32} (k : f 0 = 5) : askL f = (f 2).toInt64 - (f 4).toInt64 := by unfold askL; rw [k]; rfl
theorem askL_o {f : Nat → Int32} (k1 : ¬ f 0 = 1) (k2 : ¬ f 0 = 2) (k3 : ¬ f 0 = 3) (k5 : ¬ f 0 = 5) (k6 : ¬ f 0 = 6) : askL f = (f 2).toInt64 := by unfold askL; rw [if_neg k1, if_neg k2, if_neg k3, if_neg k5, if_neg k6]
theorem l_lt {a b : Int64} : a < b ↔ a.toInt < b.toInt := Int64.lt_iff_toInt_lt
theorem ask_lo {f : Nat → Int32} (h : askL f < 1) : asked f = 1 := by
  unfold asked
  have e1 : (1 : Int64).toInt = 1 := rfl
  have e9 : (9999 : Int64).toInt = 9999 := rfl
  have h2 : askL f < 9999 := by rw [l_lt, e1] at h; rw [l_lt, e9]; omega
  rw [show askM (askL f) = askL f from if_pos h2, if_pos h]
  rfl
theorem ask_hi {f : Nat → Int32} (h : 9999 < askL f) : asked f = 9999 := by
  unfold asked
  have e9 : (9999 : Int64).toInt = 9999 := rfl
  have h2 : ¬ askL f < 9999 := by rw [l_lt, e9] at h; rw [l_lt, e9]; omega
  rw [show askM (askL f) = 9999 from if_neg h2]
  rfl
theorem ask_md {f : Nat → Int32} (h : ¬ askL f < 1) (h2 : ¬ 9999 < askL f) : asked f = (askL f).toInt32 := by
  unfold asked
  by_cases h3 : askL f < 9999
  · rw [show askM (askL f) = askL f from if_pos h3, if_neg h]
  · have e9 : (9999 : Int64).toInt = 9999 := rfl
    have e : askL f = 9999 := by
      rw [l_lt, e9] at h3; rw [l_lt, e9] at h2
      rw [← Int64.toInt_inj, e9]; omega
    rw [show askM (askL f) = 9999 from if_neg h3, e]
    rfl
theorem lc_ge {x y : Int64} : (0 ≤ lg_cmp x y) ↔ ¬ x < y := by
  rw [l_lt]
  unfold lg_cmp
  by_cases h : x > y
  · rw [if_pos h]
    have h2 : y < x := h
    rw [l_lt] at h2
    exact ⟨fun _ => by omega, fun _ => by decide⟩
  · rw [if_neg h]
    have h2 : ¬ y < x := h
    rw [l_lt] at h2
    by_cases h3 : x = y
    · rw [if_pos h3]
      subst h3
      exact ⟨fun _ => by omega, fun _ => by decide⟩
    · rw [if_neg h3]
      rw [← Int64.toInt_inj] at h3
      exact ⟨fun z => absurd z (by decide), fun z => absurd (show x.toInt < y.toInt by omega) z⟩
theorem lc_le {x y : Int64} : (lg_cmp x y ≤ 0) ↔ ¬ y < x := by
  rw [l_lt]
  unfold lg_cmp
  by_cases h : x > y
  · rw [if_pos h]
    have h2 : y < x := h
    rw [l_lt] at h2
    exact ⟨fun z => absurd z (by decide), fun z => absurd h2 z⟩
  · rw [if_neg h]
    have h2 : ¬ y < x := h
    rw [l_lt] at h2
    by_cases h3 : x = y
    · rw [if_pos h3]
      exact ⟨fun _ => h2, fun _ => by decide⟩
    · rw [if_neg h3]
      exact ⟨fun _ => h2, fun _ => by decide⟩
theorem ask_r (f : Nat → Int32) : ∃ a, 1 ≤ a ∧ a ≤ 9999 ∧ asked f = nI a := by
  have e1 : (1 : Int64).toInt = 1 := rfl
  have e9 : (9999 : Int64).toInt = 9999 := rfl
  by_cases h : askL f < 1
  · exact ⟨1, by omega, by omega, ask_lo h⟩
  · by_cases h2 : 9999 < askL f
    · exact ⟨9999, by omega, by omega, ask_hi h2⟩
    · have e := ask_md h h2
      rw [l_lt, e1] at h; rw [l_lt, e9] at h2
      refine ⟨(askL f).toInt.toNat, by omega, by omega, ?_⟩
      rw [e]
      refine i_nat ?_
      rw [Int64.toInt_toInt32]
      simp only [Int.bmod]
      split <;> omega
-- one number changed
theorem rg_ch {N : Nat} {g : zGc} (h : rg N g) {c k : Nat} {v : Int32} (hv : c < nC g → rgC (upd (g.2.2 c) k v)) : rg N (gCh g c k v) := by
  obtain ⟨h1, h2, h3⟩ := h
  refine ⟨h1, fun q hq => ?_, h3⟩
  by_cases e : q = c
  · subst e
    show rgC (va_up g.2.2 q (upd (g.2.2 q) k v) q)
    rw [va_up_self]
    exact hv hq
  · show rgC (va_up g.2.2 c (upd (g.2.2 c) k v) q)
    rw [va_up_ne _ _ e]
    exact h2 q hq
theorem rg_c1 {N : Nat} {g : zGc} (h : rg N g) {c : Nat} {v : Int32} (hv : ∃ x, x ≤ 9999 ∧ v = nI x) : rg N (gCh g c 1 v) := rg_ch h fun hc => by
  obtain ⟨a0, a1, a2, a3⟩ := h.2.1 c hc
  exact ⟨a0, hv, a2, a3⟩
theorem rg_c2 {N : Nat} {g : zGc} (h : rg N g) {c : Nat} {v : Int32} (hv : ∃ x, x ≤ 9999 ∧ v = nI x) : rg N (gCh g c 2 v) := rg_ch h fun hc => by
  obtain ⟨a0, a1, a2, a3⟩ := h.2.1 c hc
  exact ⟨a0, a1, hv, a3⟩
theorem rg_c3 {N : Nat} {g : zGc} (h : rg N g) {c : Nat} {v : Int32} (hv : ∃ x, x ≤ 99 ∧ v = nI x) : rg N (gCh g c 3 v) := rg_ch h fun hc => by
  obtain ⟨a0, a1, a2, a3⟩ := h.2.1 c hc
  exact ⟨a0, a1, a2, hv⟩
theorem rg_c4 {N : Nat} {g : zGc} (h : rg N g) {c : Nat} {v : Int32} : rg N (gCh g c 4 v) := rg_ch h fun hc => h.2.1 c hc
theorem rg_c5 {N : Nat} {g : zGc} (h : rg N g) {c : Nat} {v : Int32} : rg N (gCh g c 5 v) := rg_ch h fun hc => h.2.1 c hc
theorem rg_sh {N : Nat} {g : zGc} (h : rg N g) {s k : Nat} {v : Int32} (hv : s < nS g → rgS N (upd (g.2.1 s) k v)) : rg N (gSh g s k v) := by
  obtain ⟨h1, h2, h3⟩ := h
  refine ⟨fun q hq => ?_, h2, h3⟩
  by_cases e : q = s
  · subst e
    show rgS N (va_up g.2.1 q (upd (g.2.1 q) k v) q)
    rw [va_up_self]
    exact hv hq
  · show rgS N (va_up g.2.1 s (upd (g.2.1 s) k v) q)
    rw [va_up_ne _ _ e]
    exact h1 q hq
theorem rg_s3 {N : Nat} {g : zGc} (h : rg N g) {s : Nat} {v : Int32} (hv : s < nS g → ∃ x, x ≤ N ∧ v = nI x) : rg N (gSh g s 3 v) := rg_sh h fun hs => by
  obtain ⟨a0, a1, a2, a3, a4⟩ := h.1 s hs
  exact ⟨a0, a1, a2, hv hs, a4⟩
theorem rg_s4 {N : Nat} {g : zGc} (h : rg N g) {s : Nat} {v : Int32} (hv : s < nS g → ∃ x, x ≤ 999 ∧ v = nI x) : rg N (gSh g s 4 v) := rg_sh h fun hs => by
  obtain ⟨a0, a1, a2, a3, a4⟩ := h.1 s hs
  exact ⟨a0, a1, a2, a3, hv hs⟩
theorem rg_k {N : Nat} {g : zGc} (h : rg N g) {k : Nat} {v : Int32} (hk : k ≠ 0 ∧ k ≠ 1 ∧ k ≠ 4 ∧ k ≠ 5 ∧ k ≠ 6) : rg N (gSc g k v) := by
  obtain ⟨h1, h2, h3, h4, h5⟩ := h
  have hz : sk g (gSc g k v) := sk_sc hk.1 hk.2.1
  refine ⟨fun s hs => h1 s (by rw [← hz.S]; exact hs), fun c hc => h2 c (by rw [← hz.C]; exact hc), ?_, ?_, ?_⟩
  · rw [show (gSc g k v).1 4 = g.1 4 from pk_un (Ne.symm hk.2.2.1)]; exact h3
  · rw [show (gSc g k v).1 5 = g.1 5 from pk_un (Ne.symm hk.2.2.2.1)]; exact h4
  · rw [show (gSc g k v).1 6 = g.1 6 from pk_un (Ne.symm hk.2.2.2.2)]; exact h5
theorem rg_k4 {N : Nat} {g : zGc} (h : rg N g) {v : Int32} (hv : ∃ x, x ≤ 99 ∧ v = nI x) : rg N (gSc g 4 v) := ⟨h.1, h.2.1, hv, h.2.2.2.1, h.2.2.2.2⟩
theorem rg_k5 {N : Nat} {g : zGc} (h : rg N g) {v : Int32} (hv : ∃ x, x ≤ 9999 ∧ v = nI x) : rg N (gSc g 5 v) := ⟨h.1, h.2.1, h.2.2.1, hv, h.2.2.2.2⟩
theorem rg_k6 {N : Nat} {g : zGc} (h : rg N g) {v : Int32} (hv : ∃ x, x ≤ N ∧ v = nI x) : rg N (gSc g 6 v) := ⟨h.1, h.2.1, h.2.2.1, h.2.2.2.1, hv⟩
theorem mn9_r {x y : Nat} (hx : x ≤ 99999) (hy : y ≤ 99999) : ∃ z, z ≤ 9999 ∧ mn9 (nI x + nI y) = nI z := by
  rw [nI_add]
  unfold mn9
  by_cases h : x + y < 9999
  · rw [if_pos (show nI (x + y) < 9999 from nI_lt (b := 9999) h (by omega))]; exact ⟨_, by omega, rfl⟩
  · rw [if_neg (show ¬ nI (x + y) < 9999 from nI_nlt (b := 9999) (by omega) (by omega))]; exact ⟨9999, by omega, rfl⟩
theorem mn9_0 {x : Nat} (hx : x ≤ 9999) : mn9 (nI x + 0) = nI x := by
  rw [show (0 : Int32) = nI 0 from rfl, nI_add, Nat.add_zero]
  unfold mn9
  by_cases h : x < 9999
  · rw [if_pos (show nI x < 9999 from nI_lt (b := 9999) h (by omega))]
  · rw [if_neg (show ¬ nI x < 9999 from nI_nlt (b := 9999) (by omega) (by omega)), show x = 9999 by omega]; rfl
theorem rg_add {N : Nat} {g : zGc} (h : rg N g) {c x y : Nat} (hx : x ≤ 9999) (hy : y ≤ 9999) (hc : c < nC g) : rg N (gAdd g c (nI x) (nI y)) := by
  obtain ⟨-, ⟨p, hp, e1⟩, ⟨q, hq, e2⟩, -⟩ := h.2.1 c hc
  unfold gAdd
  rw [e1, e2]
  exact rg_c2 (rg_c1 h (mn9_r (by omega) (by omega))) (mn9_r (by omega) (by omega))
theorem mnI_r {x y : Nat} (hx : x ≤ 99999) (hy : y ≤ 99999) : mnI (nI x) (nI y) = nI (min x y) := by
  unfold mnI
  by_cases h : y < x
  · rw [if_pos (nI_lt h (by omega)), show min x y = y by omega]
  · rw [if_neg (nI_nlt (by omega) (by omega)), show min x y = x by omega]
theorem can_buy {g : zGc} {c s : Nat} (hz : gz g) (hs : s < nS g) : can g c (nI (10 + s)) = canBuy g c s (askS g s) := by
  have h6 := hz.1.2
  obtain ⟨a0, a1, a2, a3, a4⟩ := i_10n (s := s) (by omega)
  simp only [can]
  rw [if_neg a0, if_neg a1, if_neg a2, if_neg a3, if_neg a4, i_10s (by omega), hz.1.1, if_neg (nI_ge hs (by omega)), nI_clamp (by omega)]
  rfl
/-- what a child pays: leaves, stamps -/
theorem buy_r {N : Nat} {g : zGc} {c s : Nat} (h : rg N g) (hc : c < nC g) (hb : canBuy g c s (askS g s) = true) : ∃ a x y p q, askS g s = nI a ∧ a ≤ 9999 ∧ g.2.2 c 1 = nI p ∧ p ≤ 9999 ∧ g.2.2 c 2 = nI q ∧ q ≤ 9999 ∧ buyA g c s = nI x ∧ askS g s - buyA g c s = nI y ∧ x + y = a ∧ x ≤ p ∧ y ≤ q ∧ ¬ g.2.2 c 5 = nI s := by
  obtain ⟨-, ⟨p, hp, e1⟩, ⟨q, hq, e2⟩, -⟩ := h.2.1 c hc
  obtain ⟨a, ha1, ha, ea⟩ := ask_r (g.2.1 s)
  have ea2 : askS g s = nI a := ea
  unfold canBuy at hb
  by_cases hk : g.2.2 c 5 = nI s
  · rw [if_pos hk] at hb; cases hb
  · rw [if_neg hk] at hb
    have hb2 := of_decide_eq_true hb
    rw [ea2] at hb2
    unfold buyA
    by_cases hst : isSt (g.2.1 s) = true
    · rw [if_pos hst, e2] at hb2
      rw [if_pos hst]
      have := (nI_leI (by omega) (by omega)).mp hb2
      exact ⟨a, 0, a, p, q, ea2, ha, e1, hp, e2, hq, rfl, by rw [ea2]; exact pk_sub (b := 0) (Nat.zero_le _), by omega, by omega, by omega, hk⟩
    · rw [if_neg hst, e1, e2, nI_add] at hb2
      rw [if_neg hst]
      have := (nI_leI (by omega) (by omega)).mp hb2
      rw [ea, e1]
      by_cases hlt : a < p
      · rw [if_pos (nI_lt hlt (by omega))]
        exact ⟨a, a, 0, p, q, ea2, ha, rfl, hp, e2, hq, rfl, by rw [ea2, pk_sub (Nat.le_refl _), Nat.sub_self], by omega, by omega, by omega, hk⟩
      · rw [if_neg (nI_nlt (by omega) (by omega))]
        exact ⟨a, p, a - p, p, q, ea2, ha, rfl, hp, e2, hq, rfl, by rw [ea2, pk_sub (by omega)], by omega, by omega, by omega, hk⟩
theorem rg_buyB {N : Nat} {g : zGc} {c s : Nat} (h : rg N g) (hN : N ≤ 134217728) (hc : c < nC g) (hs : s < nS g) (hb : canBuy g c s (askS g s) = true) : rg (N + 1) (buyB g c s) := by
  obtain ⟨a, x, y, p, q, ea, ha, e1, hp, e2, hq, ex, ey, hxy, hxp, hyq, hk⟩ := buy_r h hc hb
  obtain ⟨-, -, -, ⟨so, hso, eso⟩, -⟩ := h.1 s hs
  obtain ⟨d, hd, ed⟩ := h.2.2.2.2
  have ey2 : asked (g.2.1 s) - buyA g c s = nI y := ey
  have h2 := h.up (Nat.le_succ N)
  have b1 := rg_c1 (c := c) (v := g.2.2 c 1 - buyA g c s) h2 ⟨p - x, by omega, by rw [e1, ex, pk_sub hxp]⟩
  have b2 := rg_c2 (c := c) (v := g.2.2 c 2 - (asked (g.2.1 s) - buyA g c s)) b1 ⟨q - y, by omega, by rw [e2, ey2, pk_sub hyq]⟩
  have b3 := rg_c4 (c := c) (v := g.2.2 c 4 + 1) b2
  have b4 := rg_s3 (s := s) (v := g.2.1 s 3 + 1) b3 (fun _ => ⟨so + 1, by omega, by rw [eso]; exact nI_1 _⟩)
  have b5 := rg_s4 (s := s) (v := 0) b4 (fun _ => ⟨0, by omega, rfl⟩)
  have b6 := rg_k (k := 3) (v := g.1 3 + asked (g.2.1 s)) b5 (by decide)
  exact rg_k6 b6 ⟨d + 1, by omega, by rw [ed]; exact nI_1 _⟩
theorem rg_buy {N : Nat} {g : zGc} {c s : Nat} (h : rg N g) (hN : N ≤ 134217728) (hc : c < nC g) (hs : s < nS g) (hb : canBuy g c s (askS g s) = true) : rg (N + 1) (buyG g c s) := by
  have hB := rg_buyB h hN hc hs hb
  obtain ⟨a, x, y, p, q, ea, ha, e1, hp, e2, hq, ex, ey, hxy, hxp, hyq, hk⟩ := buy_r h hc hb
  have ey2 : asked (g.2.1 s) - buyA g c s = nI y := ey
  unfold buyG
  split
  · exact hB
  · rename_i k hq2
    rw [ey2, ex]
    exact rg_add hB (by omega) (by omega) (by rw [sk_buyB.C]; exact keepN_lt hq2)
theorem rg_makes {N : Nat} {g : zGc} {c : Nat} {d : Int32} (hz : gz g) (h : rg N g) (hN : N ≤ 134217728) (hc : c < nC g) (hb : can g c d = true) : rg (N + 1) (makes g c d) := by
  have h2 := h.up (Nat.le_succ N)
  obtain ⟨⟨n, hn1, hn, e0⟩, ⟨p, hp, e1⟩, ⟨q, hq, e2⟩, ⟨f, hf, e3⟩⟩ := h.2.1 c hc
  obtain ⟨i, hi, ei⟩ := h.2.2.1
  obtain ⟨t, ht, et⟩ := h.2.2.2.1
  rcases can_dd hz hb with rfl | rfl | rfl | rfl | ⟨s, hs, rfl⟩
  · exact h2
  · show rg (N + 1) (gAdd (gSc g 5 (g.1 5 - mnI (g.2.2 c 0) (g.1 5))) c (mnI (g.2.2 c 0) (g.1 5)) 0)
    rw [e0, et, mnI_r (by omega) (by omega), pk_sub (by omega)]
    exact rg_add (y := 0) (rg_k5 h2 ⟨_, by omega, rfl⟩) (by omega) (by omega) hc
  · show rg (N + 1) (gAdd (gCh g c 1 (g.2.2 c 1 - mnI (g.1 4) (g.2.2 c 1))) c 0 (mnI (g.1 4) (g.2.2 c 1)))
    rw [e1, ei, mnI_r (by omega) (by omega), pk_sub (by omega)]
    exact rg_add (x := 0) (rg_c1 h2 ⟨_, by omega, rfl⟩) (by omega) (by omega) hc
  · show rg (N + 1) (gAdd (gCh g c 3 (g.2.2 c 3 - 1)) c 10 0)
    have hb2 : 0 < g.2.2 c 3 := of_decide_eq_true (show decide (0 < g.2.2 c 3) = true from hb)
    rw [e3] at hb2 ⊢
    have hf0 : 0 < f := (nI_ltI (a := 0) (by omega) (by omega)).mp hb2
    have e4 : nI f - 1 = nI (f - 1) := pk_sub (b := 1) hf0
    rw [e4]
    exact rg_add (x := 10) (y := 0) (rg_c3 h2 ⟨_, by omega, rfl⟩) (by omega) (by omega) hc
  · have h6 := hz.1.2
    obtain ⟨a0, a1, a2, a3, a4⟩ := i_10n (s := s) (by omega)
    unfold makes
    rw [if_neg a0, if_neg a1, if_neg a2, if_neg a3, i_10s (by omega), nI_clamp (by omega)]
    rw [can_buy hz hs] at hb
    exact rg_buy h hN hc hs hb
theorem cheapN_can {g : zGc} {c : Nat} {lim : Int32} : ∀ {n b : Nat}, cheapN g c lim n = some b → canBuy g c b (askS g b) = true := by
  intro n
  induction n with
  | zero => intro b h; cases h
  | succ n ih =>
    intro b h
    simp only [cheapN] at h
    cases hq : cheapN g c lim n with
    | none =>
      rw [hq] at h
      simp only at h
      split at h
      · rename_i hc; cases h; exact hc.1
      · cases h
    | some q =>
      rw [hq] at h
      simp only at h
      split at h
      · rename_i hc; cases h; exact hc.1
      · cases h; exact ih hq
theorem por_can {g : zGc} {c : Nat} : can g c (por g) = true := by
  unfold por
  split
  · rename_i h
    show decide (0 < g.1 5) = true
    exact decide_eq_true h
  · rfl
theorem greed_can {g : zGc} {c : Nat} {lim : Int32} (hz : gz g) : can g c (greedD g c lim) = true := by
  unfold greedD
  split
  · exact por_can
  · rename_i s h
    rw [can_buy hz (cheapN_le h).2]
    exact cheapN_can h
theorem deed_can {N : Nat} {g : zGc} {c : Nat} {rule : Int32} (hz : gz g) (h : rg N g) (hc : c < nC g) : can g c (deedBy g rule c) = true := by
  unfold deedBy
  split
  · exact por_can
  · split
    · rename_i h2
      split
      · rename_i h3
        obtain ⟨-, ⟨p, hp, e1⟩, ⟨q, hq, e2⟩, -⟩ := h.2.1 c hc
        have h4 := h2.2
        rw [e1, e2] at h4
        have := (nI_ltI (by omega) (by omega)).mp h4
        show (decide (0 < g.1 4) && decide (0 < g.2.2 c 1)) = true
        rw [decide_eq_true h3, e1, decide_eq_true (show (0 : Int32) < nI p from nI_lt (a := 0) (by omega) (by omega))]
        rfl
      · rfl
    · exact greed_can hz
theorem drawD_can {N : Nat} {g : zGc} {c : Nat} (hz : gz g) (h : rg N g) (hc : c < nC g) : can g c (drawD g c) = true := by
  unfold drawD
  split
  · exact deed_can hz h hc
  · split
    · split
      · assumption
      · rfl
    · split
      · split
        · assumption
        · rfl
      · exact deed_can hz h hc
theorem rg_kids {N : Nat} {rule : Int32} {G : zGf} (hz : gz G.1) (h : rg N G.1) : ∀ {n : Nat}, n ≤ nC G.1 → N + n ≤ 134217728 → rg (N + n) (kidsN (fun G c => deedBy G.1 rule c) n G).1
  | 0, _, _ => h
  | n + 1, hn, hN => by
    have ih := rg_kids (rule := rule) hz h (n := n) (by omega) (by omega)
    have hk : sk G.1 (kidsN (fun G c => deedBy G.1 rule c) n G).1 := sk_kids
    have hc : n < nC (kidsN (fun G c => deedBy G.1 rule c) n G).1 := by rw [hk.C]; omega
    exact rg_makes (N := N + n) (hk.z hz) ih (by omega) hc (deed_can (hk.z hz) ih hc)
theorem qn_r {x : Nat} (h : x ≤ 999) : ∃ z, z ≤ 999 ∧ qn (nI x) = nI z := by
  unfold qn
  rw [nI_1]
  by_cases h2 : x + 1 < 999
  · rw [if_pos (show nI (x + 1) < 999 from nI_lt (b := 999) h2 (by omega))]; exact ⟨_, by omega, rfl⟩
  · rw [if_neg (show ¬ nI (x + 1) < 999 from nI_nlt (b := 999) (by omega) (by omega))]; exact ⟨999, by omega, rfl⟩
theorem rg_endN {N : Nat} {B : Nat → Int32} {g : zGc} (h : rg N g) : ∀ {n : Nat}, rg N (endN B n g)
  | 0 => h
  | n + 1 => by
    have ih := rg_endN (B := B) h (n := n)
    show rg N (endS B n (endN B n g))
    unfold endS
    split
    · refine rg_s4 ih fun hs => ?_
      obtain ⟨-, -, -, -, ⟨t, ht, et⟩⟩ := ih.1 n hs
      rw [et]
      exact qn_r ht
    · exact ih
theorem rg_minute {N : Nat} {rule : Int32} {G : zGf} (hz : gz G.1) (h : rg N G.1) (hN : N + 6 ≤ 134217728) : rg (N + 6) (minute rule G).1 := by
  have h6 := hz.2.2
  have hk := rg_kids (rule := rule) (G := begM G) hz h (n := nC G.1) (Nat.le_refl _) (by omega)
  exact rg_k (rg_endN (hk.up (by omega))) (by decide)
theorem rg_run {N : Nat} {rule : Int32} {g : zGc} (hz : gz g) (h : rg N g) : ∀ {n : Nat}, N + 6 * n ≤ 134217728 → rg (N + 6 * n) (run rule n g)
  | 0, _ => h
  | n + 1, hN => by
    have ih := rg_run (rule := rule) hz h (n := n) (by omega)
    exact rg_minute (G := minutes rule n (g, fun _ => 0, fun _ => 0)) (sk_minutes.z hz) ih (by omega)
