/-! a minute of the reference's, and of the class's -/
theorem makes_sold {g : zGc} (hz : gz g) {c s : Nat} {d : Int32} (hd : dd g d) (hs : s < nS g) : (makes g c d).2.1 s 3 = (if d = nI (10 + s) then g.2.1 s 3 + 1 else g.2.1 s 3) := by
  have h6 := hz.1.2
  have hne : ∀ v : Int32, (v = 0 ∨ v = 1 ∨ v = 2 ∨ v = 3) → ¬ v = nI (10 + s) := by
    intro v hv e
    obtain ⟨a0, a1, a2, a3, a4⟩ := i_10n (s := s) (by omega)
    rw [← e] at a0 a1 a2 a3
    rcases hv with h | h | h | h
    · exact a0 h
    · exact a1 h
    · exact a2 h
    · exact a3 h
  rcases hd with rfl | rfl | rfl | rfl | ⟨q, hq, rfl⟩
  · rw [if_neg (hne 0 (Or.inl rfl))]; rfl
  · rw [if_neg (hne 1 (Or.inr (Or.inl rfl)))]; rfl
  · rw [if_neg (hne 2 (Or.inr (Or.inr (Or.inl rfl))))]; rfl
  · rw [if_neg (hne 3 (Or.inr (Or.inr (Or.inr rfl))))]; rfl
  · obtain ⟨a0, a1, a2, a3, a4⟩ := i_10n (s := q) (by omega)
    unfold makes
    rw [if_neg a0, if_neg a1, if_neg a2, if_neg a3, i_10s (by omega), nI_clamp (by omega)]
    have e1 : (buyG g c q).2.1 = (buyB g c q).2.1 := by unfold buyG; split <;> rfl
    rw [e1]
    by_cases e : s = q
    · subst e
      rw [if_pos rfl]
      simp [buyB, gSc, gSh, gCh, va_up, upd]
    · rw [if_neg (fun z => e (by have := (nI_eq (a := 10 + q) (b := 10 + s) (by omega) (by omega)).mp z; omega))]
      simp [buyB, gSc, gSh, gCh, va_up, upd, e]
theorem busyD_at {g : zGc} (hz : gz g) {B : Nat → Int32} {s : Nat} {d : Int32} (hd : dd g d) (hs : s < nS g) : busyD B d s = (if d = nI (10 + s) then 1 else B s) := by
  have h6 := hz.1.2
  have hne : ∀ v : Int32, (v = 0 ∨ v = 1 ∨ v = 2 ∨ v = 3) → ¬ v = nI (10 + s) := by
    intro v hv e
    obtain ⟨a0, a1, a2, a3, a4⟩ := i_10n (s := s) (by omega)
    rw [← e] at a0 a1 a2 a3
    rcases hv with h | h | h | h
    · exact a0 h
    · exact a1 h
    · exact a2 h
    · exact a3 h
  rcases hd with rfl | rfl | rfl | rfl | ⟨q, hq, rfl⟩
  · rw [if_neg (hne 0 (Or.inl rfl))]; rfl
  · rw [if_neg (hne 1 (Or.inr (Or.inl rfl)))]; rfl
  · rw [if_neg (hne 2 (Or.inr (Or.inr (Or.inl rfl))))]; rfl
  · rw [if_neg (hne 3 (Or.inr (Or.inr (Or.inr rfl))))]; rfl
  · obtain ⟨a0, a1, a2, a3, a4⟩ := i_10n (s := q) (by omega)
    unfold busyD
    rw [if_neg a0, if_neg a1, if_neg a2, if_neg a3, i_10s (by omega), nI_clamp (by omega)]
    by_cases e : s = q
    · subst e
      rw [if_pos rfl]
      simp [upd]
    · rw [if_neg (fun z => e (by have := (nI_eq (a := 10 + q) (b := 10 + s) (by omega) (by omega)).mp z; omega))]
      simp [upd, e]
/-- how often a shop sold since, and whether it is busy -/
def soldSo (g : zGc) (n : Nat) (Y : zGf) : Prop := ∀ s, s < nS g → ∃ k, k ≤ n ∧ Y.1.2.1 s 3 = g.2.1 s 3 + nI k ∧ (Y.2.1 s = 0 ↔ k = 0)
theorem so_beg {G : zGf} : soldSo G.1 0 (begM G) := fun s hs => ⟨0, Nat.le_refl _, by show G.1.2.1 s 3 = _; rw [show nI 0 = 0 from rfl, Int32.add_zero], by
  show bz0 _ _ s = 0 ↔ _
  simp [bz0, hs]⟩
theorem so_perf {g : zGc} {n c : Nat} {Y : zGf} {d : Int32} (h : soldSo g n Y) (hk : sk g Y.1) (hz : gz g) (hd : dd Y.1 d) : soldSo g (n + 1) (perf Y c d) := by
  intro s hs
  obtain ⟨k, h1, h2, h3⟩ := h s hs
  have hs2 : s < nS Y.1 := by rw [hk.S]; exact hs
  have e1 : (perf Y c d).1.2.1 s 3 = _ := makes_sold (hk.z hz) hd hs2
  have e2 : (perf Y c d).2.1 s = _ := busyD_at (B := Y.2.1) (hk.z hz) hd hs2
  rw [e1, e2]
  by_cases e : d = nI (10 + s)
  · rw [if_pos e, if_pos e]
    exact ⟨k + 1, by omega, by rw [h2, Int32.add_assoc, nI_1], ⟨fun z => absurd z (by decide), fun z => by omega⟩⟩
  · rw [if_neg e, if_neg e]
    exact ⟨k, by omega, h2, h3⟩
theorem so_kids {G : zGf} {f : zGf → Nat → Int32} (hz : gz G.1) (hf : ∀ (Y : zGf) c, dd Y.1 (f Y c)) : ∀ {n : Nat}, soldSo G.1 n (kidsN f n (begM G))
  | 0 => so_beg
  | n + 1 => so_perf (so_kids hz hf (n := n)) (sk_kids (G := begM G)) hz (hf _ _)
theorem so_drawG {g : zGc} {n : Nat} {Y : zGf} (h : soldSo g n Y) : soldSo g n (drawG Y) := h
theorem so_kidsD {G : zGf} (hz : gz G.1) : ∀ {n : Nat}, soldSo G.1 n (kidsD n (begM G))
  | 0 => so_beg
  | n + 1 => so_perf (so_drawG (so_kidsD hz (n := n))) ((sk_kidsD (G := begM G)).tr sk_drawG) hz drawD_dd
theorem so_eq {g : zGc} {n s : Nat} {Y : zGf} (h : soldSo g n Y) (hn : n ≤ 1000) (hs : s < nS g) : Y.2.1 s = 0 ↔ Y.1.2.1 s 3 = g.2.1 s 3 := by
  obtain ⟨k, h1, h2, h3⟩ := h s hs
  rw [h3, h2]
  constructor
  · intro z; rw [z, show nI 0 = 0 from rfl, Int32.add_zero]
  · intro z
    have z2 : nI k = nI 0 := by
      have z3 := congrArg (fun y => y - g.2.1 s 3) (show nI k + g.2.1 s 3 = nI 0 + g.2.1 s 3 by rw [show nI 0 = 0 from rfl, Int32.zero_add, Int32.add_comm]; exact z)
      simpa using z3
    exact (nI_eq (by omega) (by omega)).mp z2
/-- the reference's end of a minute -/
def edS (B : Nat → Int32) (s : Nat) (g : zGc) : zGc := if g.2.1 s 3 = B s ∧ g.2.1 s 4 < 999 then gSh g s 4 (g.2.1 s 4 + 1) else g
def edN (B : Nat → Int32) : Nat → zGc → zGc
  | 0, g => g
  | s + 1, g => edS B s (edN B s g)
theorem endN_s {B : Nat → Int32} {g : zGc} {s : Nat} : ∀ {n : Nat}, (endN B n g).2.1 s 3 = g.2.1 s 3 ∧ (n ≤ s → (endN B n g).2.1 s 4 = g.2.1 s 4)
  | 0 => ⟨rfl, fun _ => rfl⟩
  | n + 1 => by
    obtain ⟨h1, h2⟩ := endN_s (B := B) (g := g) (s := s) (n := n)
    show (endS B n (endN B n g)).2.1 s 3 = _ ∧ (n + 1 ≤ s → (endS B n (endN B n g)).2.1 s 4 = _)
    unfold endS
    split
    · by_cases e : s = n
      · subst e
        refine ⟨?_, fun z => by omega⟩
        simp only [gSh, va_up_self, upd]
        exact h1
      · simp only [gSh, va_up_ne _ _ e]
        exact ⟨h1, fun z => h2 (by omega)⟩
    · exact ⟨h1, fun z => h2 (by omega)⟩
theorem gSh_same {g : zGc} {s k : Nat} {v : Int32} (h : g.2.1 s k = v) : gSh g s k v = g := by
  subst h
  unfold gSh
  rw [upd_self, va_up_id]
theorem gCh_same {g : zGc} {s k : Nat} {v : Int32} (h : g.2.2 s k = v) : gCh g s k v = g := by
  subst h
  unfold gCh
  rw [upd_self, va_up_id]
theorem ed_eq {g : zGc} {B Bz : Nat → Int32} (hB : ∀ s, s < nS g → (Bz s = 0 ↔ g.2.1 s 3 = B s)) (hq : ∀ s, s < nS g → ∃ t, t ≤ 999 ∧ g.2.1 s 4 = nI t) : ∀ {n : Nat}, n ≤ nS g → edN B n g = endN Bz n g
  | 0, _ => rfl
  | n + 1, hn => by
    have ih := ed_eq hB hq (n := n) (by omega)
    obtain ⟨e3, e4⟩ := endN_s (B := Bz) (g := g) (s := n) (n := n)
    obtain ⟨t, ht, et⟩ := hq n (by omega)
    show edS B n (edN B n g) = endS Bz n (endN Bz n g)
    rw [ih]
    unfold edS endS
    rw [e3]
    have e5 : (endN Bz n g).2.1 n 4 = nI t := (e4 (Nat.le_refl _)).trans et
    by_cases hb : Bz n = 0
    · rw [if_pos hb, e5]
      have h3 := (hB n (by omega)).mp hb
      by_cases h9 : t < 999
      · rw [if_pos ⟨h3, nI_lt (b := 999) h9 (by omega)⟩]
        unfold qn
        rw [nI_1]
        by_cases h10 : t + 1 < 999
        · rw [if_pos (show nI (t + 1) < 999 from nI_lt (b := 999) h10 (by omega))]
        · rw [if_neg (show ¬ nI (t + 1) < 999 from nI_nlt (b := 999) (by omega) (by omega)), show t + 1 = 999 by omega]
          rfl
      · rw [if_neg (fun z => absurd z.2 (show ¬ nI t < 999 from nI_nlt (b := 999) (by omega) (by omega)))]
        have : t = 999 := by omega
        subst this
        refine (gSh_same ?_).symm
        rw [e5]
        rfl
    · rw [if_neg hb, if_neg (fun z => hb ((hB n (by omega)).mpr z.1))]
/-- a minute of the reference's -/
def mnR (rule : Int32) (g : zGc) : zGc := let y := (kidsN (fun G c => deedBy G.1 rule c) (nC g) (begM (g, fun _ => 0, fun _ => 0))).1
  gSc (edN (fun s => g.2.1 s 3) (nS g) y) 2 (g.1 2 + 1)
theorem makes_2 {g : zGc} {c : Nat} {d : Int32} : (makes g c d).1 2 = g.1 2 := by
  unfold makes
  split
  · rfl
  · split
    · rfl
    · split
      · rfl
      · split
        · rfl
        · unfold buyG; split <;> rfl
theorem kidsN_2 {f : zGf → Nat → Int32} {G : zGf} : ∀ {n : Nat}, (kidsN f n G).1.1 2 = G.1.1 2
  | 0 => rfl
  | n + 1 => Eq.trans (makes_2 (g := (kidsN f n G).1)) (kidsN_2 (n := n))
theorem drawG_2 {Y : zGf} : (drawG Y).1.1 2 = Y.1.1 2 := by
  rfl
theorem perf_2 {Y : zGf} {c : Nat} {d : Int32} : (perf Y c d).1.1 2 = Y.1.1 2 := by
  unfold perf
  exact makes_2
theorem kidsD_2 {G : zGf} (n : Nat) : (kidsD n G).1.1 2 = G.1.1 2 := by
  induction n with
  | zero => rfl
  | succ n ih =>
    have e : kidsD (n + 1) G = kidD n (kidsD n G) := rfl
    have e2 : ∀ Y : zGf, kidD n Y = perf (drawG Y) n (drawD (drawG Y).1 n) := fun _ => rfl
    rw [e, e2, perf_2, drawG_2, ih]
theorem edN_cg {B B2 : Nat → Int32} {g : zGc} : ∀ {n : Nat}, (∀ s, s < n → B s = B2 s) → edN B n g = edN B2 n g
  | 0, _ => rfl
  | n + 1, h => by
    show edS B n (edN B n g) = edS B2 n (edN B2 n g)
    rw [edN_cg (n := n) (fun s hs => h s (by omega))]
    unfold edS
    rw [h n (by omega)]
/-- the reference's end of a minute is the class's -/
theorem ed_endM {g : zGc} {Y : zGf} {B : Nat → Int32} {n N : Nat} (hB : ∀ s, s < nS g → B s = g.2.1 s 3) (hk : sk g Y.1) (h2 : Y.1.1 2 = g.1 2) (hso : soldSo g n Y) (hn : n ≤ 1000) (hr : rg N Y.1) : gSc (edN B (nS g) Y.1) 2 (g.1 2 + 1) = (endM Y).1 := by
  have e : edN B (nS Y.1) Y.1 = endN Y.2.1 (nS Y.1) Y.1 := by
    refine ed_eq (fun s hs => ?_) (fun s hs => ?_) (Nat.le_refl _)
    · rw [hk.S] at hs
      rw [hB s hs]
      exact so_eq hso hn hs
    · obtain ⟨-, -, -, -, h5⟩ := hr.1 s hs
      exact h5
  show _ = gSc (endN Y.2.1 (nS Y.1) Y.1) 2 (Y.1.1 2 + 1)
  rw [← e, h2, hk.S]
theorem run_s (rule : Int32) (n : Nat) (g : zGc) : run rule (n + 1) g = (minute rule (minutes rule n (g, fun _ => 0, fun _ => 0))).1 := rfl
/-- a minute does not ask who was busy before -/
theorem kidsN_b {f : zGf → Nat → Int32} (hf : ∀ (X Y : zGf) c, X.1 = Y.1 → f X c = f Y c) {A B : zGf} (h : A.1 = B.1) : ∀ {n : Nat}, (kidsN f n A).1 = (kidsN f n B).1
  | 0 => h
  | n + 1 => by
    have ih := kidsN_b hf h (n := n)
    show makes _ _ _ = makes _ _ _
    rw [ih, hf _ _ n ih]
