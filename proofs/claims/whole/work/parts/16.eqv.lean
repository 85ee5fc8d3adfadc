/-! two gardens that agree in what lives -/
def eqv (a b : zGc) : Prop := (∀ k, k < 8 → a.1 k = b.1 k) ∧ (∀ s, s < nS b → ∀ k, k < 5 → a.2.1 s k = b.2.1 s k) ∧ (∀ c, c < nC b → ∀ k, k < 6 → a.2.2 c k = b.2.2 c k)
theorem eqv.S {a b : zGc} (h : eqv a b) : nS a = nS b := by unfold nS; rw [h.1 0 (by omega)]
theorem eqv.C {a b : zGc} (h : eqv a b) : nC a = nC b := by unfold nC; rw [h.1 1 (by omega)]
theorem eqv.rf (a : zGc) : eqv a a := ⟨fun _ _ => rfl, fun _ _ _ _ => rfl, fun _ _ _ _ => rfl⟩
theorem eqv.sm {a b : zGc} (h : eqv a b) : eqv b a := ⟨fun k hk => (h.1 k hk).symm, fun s hs k hk => (h.2.1 s (by rw [← h.S]; exact hs) k hk).symm, fun c hc k hk => (h.2.2 c (by rw [← h.C]; exact hc) k hk).symm⟩
theorem eqv.tr {a b c : zGc} (h : eqv a b) (h2 : eqv b c) : eqv a c := ⟨fun k hk => (h.1 k hk).trans (h2.1 k hk), fun s hs k hk => (h.2.1 s (by rw [h2.S]; exact hs) k hk).trans (h2.2.1 s hs k hk), fun q hq k hk => (h.2.2 q (by rw [h2.C]; exact hq) k hk).trans (h2.2.2 q hq k hk)⟩
theorem eqv.z {a b : zGc} (h : eqv a b) (hz : gz b) : gz a := by unfold gz; rw [h.S, h.C, h.1 0 (by omega), h.1 1 (by omega)]; exact hz
theorem eqv.w {a b : zGc} (h : eqv a b) (hw : wn b) : wn a := fun c hc => by rw [h.C] at hc; rw [h.2.2 c hc 0 (by omega)]; exact hw c hc
theorem asked_cg {f g : Nat → Int32} (h : ∀ k, k < 5 → f k = g k) : asked f = asked g := by
  have e : askL f = askL g := by simp only [askL, h 0 (by omega), h 1 (by omega), h 2 (by omega), h 3 (by omega), h 4 (by omega)]
  unfold asked; rw [e]
theorem eqv.ask {a b : zGc} (h : eqv a b) {s : Nat} (hs : s < nS b) : askS a s = askS b s := asked_cg (h.2.1 s hs)
theorem eqv.st {a b : zGc} (h : eqv a b) {s : Nat} (hs : s < nS b) : isSt (a.2.1 s) = isSt (b.2.1 s) := by simp only [isSt, h.2.1 s hs 0 (by omega)]
theorem e_canBuy {a b : zGc} (h : eqv a b) {c s : Nat} {x : Int32} (hc : c < nC b) (hs : s < nS b) : canBuy a c s x = canBuy b c s x := by
  simp only [canBuy, h.st hs, h.2.2 c hc 5 (by omega), h.2.2 c hc 1 (by omega), h.2.2 c hc 2 (by omega)]
theorem e_cheapN {a b : zGc} (h : eqv a b) {c : Nat} {lim : Int32} (hc : c < nC b) : ∀ {n : Nat}, n ≤ nS b → cheapN a c lim n = cheapN b c lim n
  | 0, _ => rfl
  | n + 1, hn => by
    have ih := e_cheapN h (lim := lim) hc (n := n) (by omega)
    simp only [cheapN, ih, h.ask (s := n) (by omega), e_canBuy h hc (s := n) (by omega)]
    cases hq : cheapN b c lim n with
    | none => rfl
    | some q => simp only [h.ask (s := q) (by have := (cheapN_le hq).2; omega)]
theorem e_cheap {a b : zGc} (h : eqv a b) {c : Nat} {lim : Int32} (hc : c < nC b) : cheap a c lim = cheap b c lim := by
  unfold cheap; rw [h.S]; exact e_cheapN h hc (Nat.le_refl _)
theorem e_por {a b : zGc} (h : eqv a b) : por a = por b := by simp only [por, h.1 5 (by omega)]
theorem e_greed {a b : zGc} (h : eqv a b) {c : Nat} {lim : Int32} (hc : c < nC b) : greedD a c lim = greedD b c lim := by simp only [greedD, e_cheap h hc, e_por h]
theorem e_deedBy {a b : zGc} (h : eqv a b) {c : Nat} {rule : Int32} (hc : c < nC b) : deedBy a rule c = deedBy b rule c := by
  simp only [deedBy, limR, e_por h, e_greed h hc, h.2.2 c hc 0 (by omega), h.2.2 c hc 1 (by omega), h.2.2 c hc 2 (by omega), h.1 4 (by omega)]
theorem e_can {a b : zGc} (h : eqv a b) (hz : gz b) {c : Nat} {d : Int32} (hc : c < nC b) : can a c d = can b c d := by
  simp only [can, h.1 5 (by omega), h.1 4 (by omega), h.1 0 (by omega), h.2.2 c hc 1 (by omega), h.2.2 c hc 3 (by omega)]
  by_cases h10 : d < 10
  · simp only [if_pos h10]
  · by_cases hs : b.1 0 ≤ d - 10
    · simp only [if_pos hs]
    · obtain ⟨j, hj, ej⟩ := i_sub10 h10 (by rw [← hz.1.1]; exact Int32.not_le.mp hs) hz.1.2
      have hj6 := hz.1.2
      have e1 : canBuy a c j (askS a j) = canBuy b c j (askS b j) := by rw [h.ask hj]; exact e_canBuy h hc hj
      simp only [askS] at e1
      simp only [ej, nI_clamp (show j < 2 ^ 31 by omega), e1]
-- one change on both sides
theorem e_sc {a b : zGc} (h : eqv a b) {k : Nat} {v : Int32} (h0 : k ≠ 0) (h1 : k ≠ 1) : eqv (gSc a k v) (gSc b k v) := by
  have e0 : nS (gSc b k v) = nS b := by unfold nS gSc; simp only [upd, if_neg h0.symm]
  have e1 : nC (gSc b k v) = nC b := by unfold nC gSc; simp only [upd, if_neg h1.symm]
  refine ⟨fun q hq => ?_, fun s hs => h.2.1 s (by rw [← e0]; exact hs), fun c hc => h.2.2 c (by rw [← e1]; exact hc)⟩
  simp only [gSc, upd]; split
  · rfl
  · exact h.1 q hq
theorem e_sh {a b : zGc} (h : eqv a b) {s k : Nat} {v : Int32} : eqv (gSh a s k v) (gSh b s k v) := by
  refine ⟨h.1, fun q hq k2 hk => ?_, h.2.2⟩
  by_cases hqs : q = s
  · subst hqs; simp only [gSh, va_up_self, upd]; split
    · rfl
    · exact h.2.1 q hq k2 hk
  · simp only [gSh, va_up_ne _ _ hqs]; exact h.2.1 q hq k2 hk
theorem e_ch {a b : zGc} (h : eqv a b) {c k : Nat} {v : Int32} : eqv (gCh a c k v) (gCh b c k v) := by
  refine ⟨h.1, h.2.1, fun q hq k2 hk => ?_⟩
  by_cases hqs : q = c
  · subst hqs; simp only [gCh, va_up_self, upd]; split
    · rfl
    · exact h.2.2 q hq k2 hk
  · simp only [gCh, va_up_ne _ _ hqs]; exact h.2.2 q hq k2 hk
theorem e_add {a b : zGc} (h : eqv a b) {c : Nat} {x y : Int32} (hc : c < nC b) : eqv (gAdd a c x y) (gAdd b c x y) := by
  unfold gAdd; rw [h.2.2 c hc 1 (by omega), h.2.2 c hc 2 (by omega)]; exact e_ch (e_ch h)
theorem e_keepN {a b : zGc} (h : eqv a b) {s : Nat} : ∀ {n : Nat}, n ≤ nC b → keepN a s n = keepN b s n
  | 0, _ => rfl
  | n + 1, hn => by simp only [keepN, e_keepN h (s := s) (n := n) (by omega), h.2.2 n (by omega) 5 (by omega)]
theorem e_buyA {a b : zGc} (h : eqv a b) {c s : Nat} (hc : c < nC b) (hs : s < nS b) : buyA a c s = buyA b c s := by
  have e := h.ask hs; simp only [askS] at e
  simp only [buyA, h.st hs, e, h.2.2 c hc 1 (by omega)]
theorem e_buyB {a b : zGc} (h : eqv a b) {c s : Nat} (hc : c < nC b) (hs : s < nS b) : eqv (buyB a c s) (buyB b c s) := by
  have e := h.ask hs; simp only [askS] at e
  unfold buyB
  rw [e_buyA h hc hs, e, h.2.2 c hc 1 (by omega), h.2.2 c hc 2 (by omega), h.2.2 c hc 4 (by omega), h.2.1 s hs 3 (by omega), h.1 3 (by omega), h.1 6 (by omega)]
  exact e_sc (e_sc (e_sh (e_sh (e_ch (e_ch (e_ch h))))) (by decide) (by decide)) (by decide) (by decide)
theorem keepN_lt {g : zGc} {s k : Nat} : ∀ {n : Nat}, keepN g s n = some k → k < n
  | 0, h => by cases h
  | n + 1, h => by
    simp only [keepN] at h
    cases hq : keepN g s n with
    | some q => rw [hq] at h; cases h; have := keepN_lt hq; omega
    | none => rw [hq] at h; simp only at h; split at h; cases h; omega; cases h
theorem e_buy {a b : zGc} (h : eqv a b) {c s : Nat} (hc : c < nC b) (hs : s < nS b) : eqv (buyG a c s) (buyG b c s) := by
  have e := h.ask hs; simp only [askS] at e
  unfold buyG
  rw [h.C, e_keepN h (Nat.le_refl _)]
  cases hq : keepN b s (nC b) with
  | none => exact e_buyB h hc hs
  | some k =>
    simp only
    rw [e_buyA h hc hs, e]
    exact e_add (e_buyB h hc hs) (by rw [sk_buyB.C]; exact keepN_lt hq)
theorem e_makes {a b : zGc} (h : eqv a b) (hz : gz b) {c : Nat} {d : Int32} (hc : c < nC b) (hd : dd b d) : eqv (makes a c d) (makes b c d) := by
  unfold makes
  rw [h.1 5 (by omega), h.1 4 (by omega), h.2.2 c hc 0 (by omega), h.2.2 c hc 1 (by omega), h.2.2 c hc 3 (by omega)]
  by_cases h0 : d = 0
  · simp only [if_pos h0]; exact h
  · by_cases h1 : d = 1
    · simp only [if_neg h0, if_pos h1]
      exact e_add (e_sc h (by decide) (by decide)) hc
    · by_cases h2 : d = 2
      · simp only [if_neg h0, if_neg h1, if_pos h2]
        exact e_add (e_ch h) hc
      · by_cases h3 : d = 3
        · simp only [if_neg h0, if_neg h1, if_neg h2, if_pos h3]
          exact e_add (e_ch h) hc
        · simp only [if_neg h0, if_neg h1, if_neg h2, if_neg h3]
          obtain ⟨j, hj, ej⟩ := hd.resolve_left h0 |>.resolve_left h1 |>.resolve_left h2 |>.resolve_left h3
          have h6 := hz.1.2
          rw [ej, i_10s (by omega), nI_clamp (by omega)]
          exact e_buy h hc hj
-- with the busy ones
def eqf (A B : zGf) : Prop := eqv A.1 B.1 ∧ ∀ s, s < nS B.1 → A.2.1 s = B.2.1 s
theorem e_perf {A B : zGf} (h : eqf A B) (hz : gz B.1) {c : Nat} {d : Int32} (hc : c < nC B.1) (hd : dd B.1 d) : eqf (perf A c d) (perf B c d) := by
  refine ⟨e_makes h.1 hz hc hd, fun s hs => ?_⟩
  have hs2 : s < nS B.1 := by
    have e : nS (perf B c d).1 = nS B.1 := sk_makes.S
    rw [← e]; exact hs
  show busyD A.2.1 d s = busyD B.2.1 d s
  unfold busyD
  repeat' split
  all_goals first
    | exact h.2 s hs2
    | (simp only [upd]; split; rfl; exact h.2 s hs2)
theorem e_begM {A B : zGf} (h : eqv A.1 B.1) : eqf (begM A) (begM B) := by
  refine ⟨h, fun s hs => ?_⟩
  have hs2 : s < nS B.1 := hs
  show bz0 _ _ s = bz0 _ _ s
  simp only [bz0, h.S, if_pos hs2]
theorem e_kids {A B : zGf} {f : zGf → Nat → Int32} (h : eqf A B) (hz : gz B.1) (hf : ∀ (X Y : zGf) c, eqf X Y → sk B.1 Y.1 → c < nC B.1 → f X c = f Y c ∧ dd Y.1 (f Y c)) : ∀ {n : Nat}, n ≤ nC B.1 → eqf (kidsN f n A) (kidsN f n B)
  | 0, _ => h
  | n + 1, hn => by
    have ih := e_kids h hz hf (n := n) (by omega)
    have hk : sk B.1 (kidsN f n B).1 := sk_kids
    obtain ⟨e1, e2⟩ := hf _ _ n ih hk (by omega)
    show eqf (perf _ n _) (perf _ n _)
    rw [e1]
    exact e_perf ih (hk.z hz) (by rw [hk.C]; omega) e2
theorem e_endN {A B : Nat → Int32} {a b : zGc} (h : eqv a b) (hB : ∀ s, s < nS b → A s = B s) : ∀ {n : Nat}, n ≤ nS b → eqv (endN A n a) (endN B n b)
  | 0, _ => h
  | n + 1, hn => by
    have ih := e_endN h hB (n := n) (by omega)
    show eqv (endS A n _) (endS B n _)
    unfold endS
    have hq : n < nS (endN B n b) := by rw [sk_endN.S]; omega
    rw [hB n (by omega), ih.2.1 n hq 4 (by omega)]
    split
    · exact e_sh ih
    · exact ih
theorem e_endM {A B : zGf} (h : eqf A B) : eqv (endM A).1 (endM B).1 := by
  show eqv (gSc _ _ _) (gSc _ _ _)
  rw [h.1.S, h.1.1 2 (by omega)]
  exact e_sc (e_endN h.1 h.2 (Nat.le_refl _)) (by decide) (by decide)
theorem e_minute {A B : zGf} {rule : Int32} (h : eqv A.1 B.1) (hz : gz B.1) : eqv (minute rule A).1 (minute rule B).1 := by
  unfold minute
  rw [h.C]
  have hb := e_begM h
  have hk := e_kids (f := fun G c => deedBy G.1 rule c) hb (show gz (begM B).1 from hz) (fun X Y c hXY hk hc => ⟨e_deedBy hXY.1 (show c < nC Y.1 by rw [hk.C]; exact hc), deed_dd⟩) (n := nC B.1) (show nC B.1 ≤ nC B.1 from Nat.le_refl _)
  exact e_endM hk
theorem e_minutes {A B : zGf} {rule : Int32} (h : eqv A.1 B.1) (hz : gz B.1) : ∀ {n : Nat}, eqv (minutes rule n A).1 (minutes rule n B).1
  | 0 => h
  | n + 1 => e_minute (e_minutes h hz (n := n)) (sk_minutes.z hz)
theorem e_drawD {a b : zGc} (h : eqv a b) (hz : gz b) {c : Nat} (hc : c < nC b) : drawD a c = drawD b c := by
  simp only [drawD, h.1 7 (by omega), e_deedBy h hc, e_can h hz hc]
theorem e_drawG {A B : zGf} (h : eqf A B) : eqf (drawG A) (drawG B) := by
  refine ⟨?_, fun s hs => h.2 s hs⟩
  show eqv (gSc _ _ _) (gSc _ _ _)
  rw [h.1.1 7 (by omega)]
  exact e_sc h.1 (by decide) (by decide)
theorem e_kidsD {A B : zGf} (h : eqf A B) (hz : gz B.1) : ∀ {n : Nat}, n ≤ nC B.1 → eqf (kidsD n A) (kidsD n B)
  | 0, _ => h
  | n + 1, hn => by
    have ih := e_drawG (e_kidsD h hz (n := n) (by omega))
    have hk : sk B.1 (drawG (kidsD n B)).1 := sk_kidsD.tr sk_drawG
    have hc : n < nC (drawG (kidsD n B)).1 := by rw [hk.C]; omega
    show eqf (perf _ n _) (perf _ n _)
    rw [e_drawD ih.1 (hk.z hz) hc]
    exact e_perf ih (hk.z hz) hc drawD_dd
theorem e_minD {A B : zGf} (h : eqv A.1 B.1) (hz : gz B.1) : eqv (minD A).1 (minD B).1 := by
  unfold minD
  rw [h.C]
  have hb := e_begM h
  have hk := e_kidsD hb (show gz (begM B).1 from hz) (n := nC B.1) (show nC B.1 ≤ nC B.1 from Nat.le_refl _)
  exact e_endM hk
theorem e_minsD {A B : zGf} (h : eqv A.1 B.1) (hz : gz B.1) : ∀ {n : Nat}, eqv (minsD n A).1 (minsD n B).1
  | 0 => h
  | n + 1 => e_minD (e_minsD h hz (n := n)) (sk_minsD.z hz)
