/-! numbers -/
theorem i_lt {a b : Int32} : a < b ↔ a.toInt < b.toInt := Int32.lt_iff_toInt_lt
theorem i_le {a b : Int32} : a ≤ b ↔ a.toInt ≤ b.toInt := Int32.le_iff_toInt_le
theorem i_eq {a b : Int32} : a = b ↔ a.toInt = b.toInt := Int32.toInt_inj.symm
theorem i_ran (a : Int32) : -2147483648 ≤ a.toInt ∧ a.toInt < 2147483648 := ⟨Int32.le_toInt a, Int32.toInt_lt a⟩
theorem i_add {a b : Int32} (h1 : -2147483648 ≤ a.toInt + b.toInt) (h2 : a.toInt + b.toInt < 2147483648) : (a + b).toInt = a.toInt + b.toInt := by
  rw [Int32.toInt_add]; simp only [Int.bmod]; split <;> omega
theorem i_sub {a b : Int32} (h1 : -2147483648 ≤ a.toInt - b.toInt) (h2 : a.toInt - b.toInt < 2147483648) : (a - b).toInt = a.toInt - b.toInt := by
  rw [Int32.toInt_sub]; simp only [Int.bmod]; split <;> omega
theorem i_mul {a b : Int32} (h1 : -2147483648 ≤ a.toInt * b.toInt) (h2 : a.toInt * b.toInt < 2147483648) : (a * b).toInt = a.toInt * b.toInt := by
  rw [Int32.toInt_mul]; generalize a.toInt * b.toInt = x at *; simp only [Int.bmod]; split <;> omega
theorem i_nat {a : Int32} {n : Nat} (h : a.toInt = (n : Int)) : a = nI n := by
  have h2 := i_ran a
  have hn : n < 2 ^ 31 := by omega
  rw [i_eq, nI_toInt hn, h]
theorem i_sub10 {d : Int32} {n : Nat} (h : ¬ d < 10) (h2 : d - 10 < nI n) (hn : n ≤ 6) : ∃ j, j < n ∧ d - 10 = nI j := by
  have e10 : (10 : Int32).toInt = 10 := rfl
  have hr := i_ran d
  rw [i_lt, e10] at h
  have es : (d - 10).toInt = d.toInt - 10 := by rw [i_sub] <;> rw [e10] <;> omega
  rw [i_lt, es, nI_toInt (by omega)] at h2
  exact ⟨(d.toInt - 10).toNat, by omega, i_nat (by rw [es]; omega)⟩
theorem i_10s {s : Nat} (h : s < 6) : nI (10 + s) - 10 = nI s := by
  have hs : s = 0 ∨ s = 1 ∨ s = 2 ∨ s = 3 ∨ s = 4 ∨ s = 5 := by omega
  rcases hs with rfl | rfl | rfl | rfl | rfl | rfl <;> rfl
theorem i_10n {s : Nat} (h : s < 6) : ¬ nI (10 + s) = 0 ∧ ¬ nI (10 + s) = 1 ∧ ¬ nI (10 + s) = 2 ∧ ¬ nI (10 + s) = 3 ∧ ¬ nI (10 + s) < 10 := by
  have hs : s = 0 ∨ s = 1 ∨ s = 2 ∨ s = 3 ∨ s = 4 ∨ s = 5 := by omega
  rcases hs with rfl | rfl | rfl | rfl | rfl | rfl <;> decide
theorem nI_cl6 {j : Nat} (h : j < 1000) : (nI j).toNatClampNeg = j := nI_clamp (by omega)
theorem oI_ne {x : Option Nat} (h : ¬ oI x = -1) : ∃ q, x = some q := by
  cases x with
  | none => exact absurd rfl h
  | some q => exact ⟨q, rfl⟩
theorem buyB_1 (g : zGc) (c s : Nat) : (buyB g c s).1 1 = g.1 1 := rfl
theorem buyB_5 (g : zGc) (c s k : Nat) : (buyB g c s).2.2 k 5 = g.2.2 k 5 := by
  by_cases h : k = c
  · subst h; simp [buyB, gCh, gSh, gSc, va_up, upd]
  · simp [buyB, gCh, gSh, gSc, va_up, h]
theorem begM_1 (G : zGf) : (begM G).1 = G.1 := rfl
def leastO (g : zGc) (lim : Int32) : Option Nat → Int32
  | none => lim + 1
  | some q => askS g q
theorem cheapN_le {g : zGc} {c : Nat} {lim : Int32} : ∀ {n b : Nat}, cheapN g c lim n = some b → askS g b ≤ lim ∧ b < n := by
  intro n
  induction n with
  | zero => intro b h; cases h
  | succ n ih =>
    intro b h
    simp only [cheapN] at h
    cases hq : cheapN g c lim n with
    | none =>
      rw [hq] at h
      simp only at h
      split at h
      · rename_i hc; cases h; exact ⟨hc.2, by omega⟩
      · cases h
    | some q =>
      rw [hq] at h
      simp only at h
      obtain ⟨h1, h2⟩ := ih hq
      split at h
      · rename_i hc; cases h
        exact ⟨Int32.le_of_lt (Int32.lt_of_lt_of_le hc.2 h1), by omega⟩
      · cases h; exact ⟨h1, by omega⟩
theorem lim_succ {a lim : Int32} (h : lim < 2147483647) : a < lim + 1 ↔ a ≤ lim := by
  have e : (2147483647 : Int32).toInt = 2147483647 := rfl
  have e1 : (1 : Int32).toInt = 1 := rfl
  have hr := i_ran lim
  rw [i_lt, e] at h
  rw [i_lt, i_le, i_add (by rw [e1]; omega) (by rw [e1]; omega), e1]
  omega
theorem cheap_stay {g : zGc} {c : Nat} {lim : Int32} {k : Nat} (hl : lim < 2147483647) (h : ¬ askS g k < leastO g lim (cheapN g c lim k) ∨ canBuy g c k (askS g k) = false) : cheapN g c lim (k + 1) = cheapN g c lim k := by
  simp only [cheapN]
  cases hq : cheapN g c lim k with
  | none =>
    rw [hq] at h
    simp only [leastO, lim_succ hl] at h
    rcases h with h | h <;> simp [h]
  | some q =>
    rw [hq] at h
    simp only [leastO] at h
    rcases h with h | h <;> simp [h]
theorem cheap_take {g : zGc} {c : Nat} {lim : Int32} {k : Nat} (hl : lim < 2147483647) (h : askS g k < leastO g lim (cheapN g c lim k)) (h2 : canBuy g c k (askS g k) = true) : cheapN g c lim (k + 1) = some k := by
  simp only [cheapN]
  cases hq : cheapN g c lim k with
  | none =>
    rw [hq] at h
    simp only [leastO, lim_succ hl] at h
    simp [h, h2]
  | some q =>
    rw [hq] at h
    simp only [leastO] at h
    simp [h, h2]
theorem can_dd {g : zGc} {c : Nat} {d : Int32} (hz : gz g) (h : can g c d = true) : dd g d := by
  unfold can at h
  split at h
  · exact Or.inl ‹_›
  · split at h
    · exact Or.inr (Or.inl ‹_›)
    · split at h
      · exact Or.inr (Or.inr (Or.inl ‹_›))
      · split at h
        · exact Or.inr (Or.inr (Or.inr (Or.inl ‹_›)))
        · split at h
          · cases h
          · rename_i h10
            split at h
            · cases h
            · rename_i hs
              rw [hz.1.1] at hs
              obtain ⟨j, hj, ej⟩ := i_sub10 h10 (Int32.not_le.mp hs) hz.1.2
              refine Or.inr (Or.inr (Or.inr (Or.inr ⟨j, hj, ?_⟩)))
              have hj6 : j < 6 := by have := hz.1.2; omega
              have : d = d - 10 + 10 := by simp
              rw [this, ej]
              have hs : j = 0 ∨ j = 1 ∨ j = 2 ∨ j = 3 ∨ j = 4 ∨ j = 5 := by omega
              rcases hs with rfl | rfl | rfl | rfl | rfl | rfl <;> rfl
theorem keepN_some {g : zGc} {s k : Nat} (h : keepN g s k = none) (hk : g.2.2 k 5 = nI s) : ∀ {n : Nat}, k < n → keepN g s n = some k := by
  intro n
  induction n with
  | zero => intro h; omega
  | succ n ih =>
    intro hn
    rcases Nat.lt_or_ge k n with q | q
    · simp only [keepN, ih q]
    · have e : k = n := by omega
      subst e
      simp only [keepN, h, if_pos hk]
-- what stays
def wn (g : zGc) : Prop := ∀ c, c < nC g → 10 * g.2.2 c 0 < 2147483647
def sk (g g' : zGc) : Prop := g'.1 0 = g.1 0 ∧ g'.1 1 = g.1 1 ∧ ∀ q, g'.2.2 q 0 = g.2.2 q 0
theorem sk.rf (g : zGc) : sk g g := ⟨rfl, rfl, fun _ => rfl⟩
theorem sk.tr {a b c : zGc} (h : sk a b) (h2 : sk b c) : sk a c := ⟨h2.1.trans h.1, h2.2.1.trans h.2.1, fun q => (h2.2.2 q).trans (h.2.2 q)⟩
theorem sk.S {g g' : zGc} (h : sk g g') : nS g' = nS g := by unfold nS; rw [h.1]
theorem sk.C {g g' : zGc} (h : sk g g') : nC g' = nC g := by unfold nC; rw [h.2.1]
theorem sk.z {g g' : zGc} (h : sk g g') (hz : gz g) : gz g' := by unfold gz; rw [h.S, h.C, h.1, h.2.1]; exact hz
theorem sk.w {g g' : zGc} (h : sk g g') (hw : wn g) : wn g' := by intro c hc; rw [h.2.2]; exact hw c (by rw [← h.C]; exact hc)
theorem sk_ch {g : zGc} {c k : Nat} {v : Int32} (hk : k ≠ 0) : sk g (gCh g c k v) := ⟨rfl, rfl, fun q => by by_cases h : q = c <;> simp [gCh, va_up, upd, h, hk.symm]⟩
theorem sk_sh {g : zGc} {s k : Nat} {v : Int32} : sk g (gSh g s k v) := ⟨rfl, rfl, fun _ => rfl⟩
theorem sk_sc {g : zGc} {k : Nat} {v : Int32} (h0 : k ≠ 0) (h1 : k ≠ 1) : sk g (gSc g k v) := ⟨pk_un h0.symm, pk_un h1.symm, fun _ => rfl⟩
theorem sk_add {g : zGc} {c : Nat} {a b : Int32} : sk g (gAdd g c a b) := (sk_ch (by decide)).tr (sk_ch (by decide))
theorem sk_buyB {g : zGc} {c s : Nat} : sk g (buyB g c s) := ((((((sk_ch (by decide)).tr (sk_ch (by decide))).tr (sk_ch (by decide))).tr sk_sh).tr sk_sh).tr (sk_sc (by decide) (by decide))).tr (sk_sc (by decide) (by decide))
theorem sk_buy {g : zGc} {c s : Nat} : sk g (buyG g c s) := by
  unfold buyG
  split
  · exact sk_buyB
  · exact sk_buyB.tr sk_add
theorem sk_makes {g : zGc} {c : Nat} {d : Int32} : sk g (makes g c d) := by
  unfold makes
  split
  · exact sk.rf g
  · split
    · exact (sk_sc (by decide) (by decide)).tr sk_add
    · split
      · exact (sk_ch (by decide)).tr sk_add
      · split
        · exact (sk_ch (by decide)).tr sk_add
        · exact sk_buy
theorem sk_perf {G : zGf} {c : Nat} {d : Int32} : sk G.1 (perf G c d).1 := sk_makes
theorem sk_kids {f : zGf → Nat → Int32} {G : zGf} : ∀ {n : Nat}, sk G.1 (kidsN f n G).1
  | 0 => sk.rf _
  | n + 1 => (sk_kids (n := n)).tr sk_perf
theorem sk_drawG {G : zGf} : sk G.1 (drawG G).1 := sk_sc (by decide) (by decide)
theorem sk_kidsD {G : zGf} : ∀ {n : Nat}, sk G.1 (kidsD n G).1
  | 0 => sk.rf _
  | n + 1 => ((sk_kidsD (n := n)).tr sk_drawG).tr sk_perf
theorem sk_endS {B : Nat → Int32} {s : Nat} {g : zGc} : sk g (endS B s g) := by unfold endS; split; exact sk_sh; exact sk.rf g
theorem sk_endN {B : Nat → Int32} {g : zGc} : ∀ {n : Nat}, sk g (endN B n g)
  | 0 => sk.rf _
  | n + 1 => (sk_endN (n := n)).tr sk_endS
theorem sk_endM {G : zGf} : sk G.1 (endM G).1 := sk_endN.tr (sk_sc (by decide) (by decide))
theorem sk_minute {rule : Int32} {G : zGf} : sk G.1 (minute rule G).1 := (sk_kids (G := begM G)).tr sk_endM
theorem sk_minutes {rule : Int32} {G : zGf} : ∀ {n : Nat}, sk G.1 (minutes rule n G).1
  | 0 => sk.rf _
  | n + 1 => (sk_minutes (n := n)).tr sk_minute
theorem sk_minD {G : zGf} : sk G.1 (minD G).1 := (sk_kidsD (G := begM G)).tr sk_endM
theorem sk_minsD {G : zGf} : ∀ {n : Nat}, sk G.1 (minsD n G).1
  | 0 => sk.rf _
  | n + 1 => (sk_minsD (n := n)).tr sk_minD
theorem endN_1 {B : Nat → Int32} {g : zGc} : ∀ {n : Nat}, (endN B n g).1 = g.1
  | 0 => rfl
  | n + 1 => by show (endS B n (endN B n g)).1 = g.1; unfold endS; split <;> exact endN_1
theorem bz0_succ {s : Nat} {B : Nat → Int32} : bz0 (s + 1) B = upd (bz0 s B) s 0 := by
  funext q
  by_cases h : q = s
  · subst h; simp [bz0, upd]
  · have : q < s + 1 ↔ q < s := by omega
    simp [bz0, upd, h, this]
theorem bz0_0 {B : Nat → Int32} : bz0 0 B = B := by funext q; simp [bz0]
theorem nightC_1 {g : zGc × Int32} : ∀ {n : Nat}, (nightC n g).1.1 = g.1.1
  | 0 => rfl
  | n + 1 => nightC_1 (n := n)
theorem nightS_1 {g : zGc} : ∀ {n : Nat}, (nightS n g).1 = g.1
  | 0 => rfl
  | n + 1 => nightS_1 (n := n)
theorem layS_1 {a b : zGc} : ∀ {n : Nat}, (layS a b n).1 = b.1
  | 0 => rfl
  | n + 1 => layS_1 (n := n)
theorem layC_1 {a b : zGc} : ∀ {n : Nat}, (layC a b n).1 = b.1
  | 0 => rfl
  | n + 1 => layC_1 (n := n)
theorem por_dd (g : zGc) : dd g (por g) := by unfold por; split; exact Or.inr (Or.inl rfl); exact Or.inl rfl
theorem greed_dd {g : zGc} {c : Nat} {lim : Int32} : dd g (greedD g c lim) := by
  unfold greedD
  split
  · exact por_dd g
  · rename_i s h
    exact Or.inr (Or.inr (Or.inr (Or.inr ⟨s, (cheapN_le h).2, rfl⟩)))
theorem deed_dd {g : zGc} {rule : Int32} {c : Nat} : dd g (deedBy g rule c) := by
  unfold deedBy
  split
  · exact por_dd g
  · split
    · split
      · exact Or.inr (Or.inr (Or.inl rfl))
      · exact Or.inl rfl
    · exact greed_dd
theorem drawD_dd {g : zGc} {c : Nat} : dd g (drawD g c) := by
  unfold drawD
  split
  · exact deed_dd
  · split
    · split
      · exact Or.inr (Or.inl rfl)
      · exact Or.inl rfl
    · split
      · split
        · exact Or.inr (Or.inr (Or.inl rfl))
        · exact Or.inl rfl
      · exact deed_dd
theorem limR_lt {g : zGc} {rule : Int32} {c : Nat} (h : 10 * g.2.2 c 0 < 2147483647) : limR g rule c < 2147483647 := by
  unfold limR; split; exact h; decide
