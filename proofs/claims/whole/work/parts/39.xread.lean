/-! the class: the reader -/
def rR (R : Nat → Int32) (len a : Nat) (f : Option Nat) (np : Int32) : Nat → Int32 := fun k => match k with
  | 0 => nI len
  | 1 => nI a
  | 2 => oI f
  | 3 => np
  | k => R k
/-- the class with a draft and its reader's numbers -/
def rS (F : zF) (G : zGf) (len a : Nat) (f : Option Nat) (np : Int32) : zF := (va_up F.1 3 G, F.2.1, F.2.2.1, va_up F.2.2.2 1 (rR (F.2.2.2 1) len a f np))
theorem rS_at {F : zF} {G : zGf} {len a b : Nat} {f : Option Nat} {np : Int32} : sM (rS F G len a f np) 1 1 (nI b) = rS F G len b f np := by
  unfold sM rS
  simp only [va_up_self, va_up_up]
  congr 4
  funext k
  match k with
  | 0 => rfl
  | 1 => rfl
  | 2 => rfl
  | 3 => rfl
  | k + 4 => rfl
theorem rS_ft {F : zF} {G : zGf} {len a p : Nat} {np : Int32} {f : Option Nat} : sM (rS F G len a f np) 1 2 (nI p) = rS F G len a (some p) np := by
  unfold sM rS
  simp only [va_up_self, va_up_up]
  congr 4
  funext k
  match k with
  | 0 => rfl
  | 1 => rfl
  | 2 => rfl
  | 3 => rfl
  | k + 4 => rfl
theorem rS_np {F : zF} {G : zGf} {len a : Nat} {f : Option Nat} {np x : Int32} : sM (rS F G len a f np) 1 3 x = rS F G len a f x := by
  unfold sM rS
  simp only [va_up_self, va_up_up]
  congr 4
  funext k
  match k with
  | 0 => rfl
  | 1 => rfl
  | 2 => rfl
  | 3 => rfl
  | k + 4 => rfl
theorem rS_G {F : zF} {G G2 : zGf} {len a : Nat} {f : Option Nat} {np : Int32} : sG (rS F G len a f np) 3 G2 = rS F G2 len a f np := by
  unfold sG rS
  simp only [va_up_up]
def nxP (T : Nat → Int32) (len a : Nat) : Int32 := if a < len then T a else -1
def blF (f : Option Nat) (p : Nat) : Option Nat := match f with
  | none => some p
  | some q => some q
def exP (T : Nat → Int32) (len : Nat) (c : Int32) (s : Nat × Option Nat) : Nat × Option Nat := match s.2 with
  | some _ => s
  | none => if nxP T len s.1 = c then (s.1 + 1, none) else (s.1, some s.1)
def wdP (T : Nat → Int32) (len : Nat) (w : List Int32) : Nat → Nat × Option Nat → Nat × Option Nat
  | 0, s => s
  | k + 1, s => exP T len (w.getD k 0) (wdP T len w k s)
def dgP (T : Nat → Int32) (len : Nat) : Nat → Int32 × Nat → Int32 × Nat
  | 0, d => d
  | n + 1, d => if ¬ nxP T len d.2 < 48 ∧ ¬ 57 < nxP T len d.2 then dgP T len n (d.1 * 10 + nxP T len d.2 - 48, d.2 + 1) else d
/-- a blank and a number: the number, where it stands then -/
def nmP (T : Nat → Int32) (len : Nat) (lo hi : Int32) (s : Nat × Option Nat) : Int32 × (Nat × Option Nat) :=
  if ¬ (exP T len 32 s).2 = none then (0, exP T len 32 s)
  else if (dgP T len 4 (0, (exP T len 32 s).1)).2 = (exP T len 32 s).1 ∨ (dgP T len 4 (0, (exP T len 32 s).1)).1 < lo ∨ hi < (dgP T len 4 (0, (exP T len 32 s).1)).1 then (0, ((dgP T len 4 (0, (exP T len 32 s).1)).2, some (exP T len 32 s).1))
  else ((dgP T len 4 (0, (exP T len 32 s).1)).1, ((dgP T len 4 (0, (exP T len 32 s).1)).2, none))
/-- its place -/
def nmN (T : Nat → Int32) (len : Nat) (s : Nat × Option Nat) (np : Int32) : Int32 := if (exP T len 32 s).2 = none then nI (exP T len 32 s).1 else np
def bf (f : Option Nat) : Prop := ∀ q, f = some q → q ≤ 160
def okS (len : Nat) (s : Nat × Option Nat) : Prop := s.1 ≤ len ∧ ∀ q, s.2 = some q → q ≤ len
theorem bf_n : bf none := fun _ h => by cases h
theorem okS_bf {len : Nat} {s : Nat × Option Nat} (h : okS len s) (hl : len ≤ 160) : bf s.2 := fun q hq => Nat.le_trans (h.2 q hq) hl
theorem oI_none {f : Option Nat} (hf : bf f) (h : oI f = -1) : f = none := oI_m1 (n := 161) (fun {w} hw => Nat.lt_succ_of_le (hf w hw)) h (by omega)
theorem nI_lt_of {a b : Nat} (h : ¬ nI b ≤ nI a) (ha : a < 2 ^ 31) (hb : b < 2 ^ 31) : a < b := by
  rcases Nat.lt_or_ge a b with q | q
  · exact q
  · exact absurd (nI_le q ha) h
theorem nx_lt {T : Nat → Int32} {len a : Nat} (h : ¬ nxP T len a < 48) : a < len := by
  unfold nxP at h
  by_cases q : a < len
  · exact q
  · rw [if_neg q] at h; exact absurd (by decide) h
theorem exP_some {T : Nat → Int32} {len q : Nat} {c : Int32} {s : Nat × Option Nat} (h : s.2 = some q) : exP T len c s = s := by
  unfold exP; rw [h]
theorem exP_hit {T : Nat → Int32} {len : Nat} {c : Int32} {s : Nat × Option Nat} (h : s.2 = none) (hc : ¬ c = -1) (h2 : nxP T len s.1 = c) : exP T len c s = (s.1 + 1, none) := by
  unfold exP; rw [h]; simp only; rw [if_pos h2]
theorem exP_miss {T : Nat → Int32} {len : Nat} {c : Int32} {s : Nat × Option Nat} (h : s.2 = none) (hc : ¬ c = -1) (h2 : ¬ nxP T len s.1 = c) : exP T len c s = (s.1, blF s.2 s.1) := by
  unfold exP; rw [h]; simp only; rw [if_neg h2]; rfl
theorem exP_ok {T : Nat → Int32} {len : Nat} {c : Int32} {s : Nat × Option Nat} (h : okS len s) (hc : ¬ c = -1 := by decide) : okS len (exP T len c s) := by
  cases hq : s.2 with
  | some q => rw [exP_some hq]; exact h
  | none =>
    by_cases h2 : nxP T len s.1 = c
    · rw [exP_hit hq hc h2]
      have : s.1 < len := by
        unfold nxP at h2
        by_cases z : s.1 < len
        · exact z
        · rw [if_neg z] at h2; exact absurd h2.symm hc
      exact ⟨this, fun q z => by cases z⟩
    · rw [exP_miss hq hc h2, hq]
      exact ⟨h.1, fun q z => by cases z; exact h.1⟩
theorem zch_ne : ∀ i, i < 8 → ∀ k, k < 8 → ¬ (zByt.getD i []).getD k 0 = -1 := by decide
theorem zch_ne2 : ∀ i, i < 8 → ∀ k, ¬ (zByt.getD i []).getD k 0 = -1 := by
  intro i hi k
  rcases Nat.lt_or_ge k 8 with q | q
  · exact zch_ne i hi k q
  · have h8 : ∀ i, i < 8 → (zByt.getD i []).length ≤ 8 := by decide
    have := h8 i hi
    rw [List.getD_eq_getElem?_getD, List.getElem?_eq_none (by omega)]
    decide
theorem wdP_ok {T : Nat → Int32} {len i : Nat} {s : Nat × Option Nat} (h : okS len s) (hi : i < 8 := by first | assumption | decide) : ∀ {k : Nat}, okS len (wdP T len (zByt.getD i []) k s)
  | 0 => h
  | k + 1 => exP_ok (wdP_ok h hi (k := k)) (zch_ne2 i hi k)
theorem dgP_le {T : Nat → Int32} {len : Nat} : ∀ {n : Nat} {d : Int32 × Nat}, d.2 ≤ len → (dgP T len n d).2 ≤ len ∧ d.2 ≤ (dgP T len n d).2
  | 0, d, h => ⟨h, Nat.le_refl _⟩
  | n + 1, d, h => by
    simp only [dgP]
    split
    · rename_i hc
      have h1 := nx_lt hc.1
      have h2 := dgP_le (T := T) (len := len) (n := n) (d := (d.1 * 10 + nxP T len d.2 - 48, d.2 + 1)) h1
      exact ⟨h2.1, Nat.le_trans (Nat.le_succ _) h2.2⟩
    · exact ⟨h, Nat.le_refl _⟩
theorem dgP_stop {T : Nat → Int32} {len n a : Nat} {num : Int32} (h : nxP T len a < 48 ∨ 57 < nxP T len a) : dgP T len n (num, a) = (num, a) := by
  cases n with
  | zero => rfl
  | succ n =>
    simp only [dgP]
    rw [if_neg (fun z => h.elim z.1 z.2)]
theorem dgP_go {T : Nat → Int32} {len n m a : Nat} {num : Int32} (hn : n = m + 1) (h : ¬ nxP T len a < 48) (h2 : ¬ 57 < nxP T len a) : dgP T len n (num, a) = dgP T len m (num * 10 + nxP T len a - 48, a + 1) := by
  subst hn
  simp only [dgP]
  rw [if_pos ⟨h, h2⟩]
theorem nmN_f {T : Nat → Int32} {len : Nat} {s : Nat × Option Nat} {np : Int32} (h : ¬ (exP T len 32 s).2 = none) : nmN T len s np = np := if_neg h
theorem nmN_t {T : Nat → Int32} {len : Nat} {s : Nat × Option Nat} {np : Int32} (h : (exP T len 32 s).2 = none) : nmN T len s np = nI (exP T len 32 s).1 := if_pos h
theorem nmP_f {T : Nat → Int32} {len : Nat} {lo hi : Int32} {s : Nat × Option Nat} (h : ¬ (exP T len 32 s).2 = none) : nmP T len lo hi s = (0, exP T len 32 s) := if_pos h
theorem nmP_b {T : Nat → Int32} {len a : Nat} {lo hi num : Int32} {s : Nat × Option Nat} (h : (exP T len 32 s).2 = none) (hd : dgP T len 4 (0, (exP T len 32 s).1) = (num, a)) (h2 : a = (exP T len 32 s).1 ∨ num < lo ∨ hi < num) : nmP T len lo hi s = (0, (a, some (exP T len 32 s).1)) := by
  unfold nmP
  rw [if_neg (fun z => z h), hd, if_pos h2]
theorem nmP_g {T : Nat → Int32} {len a : Nat} {lo hi num : Int32} {s : Nat × Option Nat} (h : (exP T len 32 s).2 = none) (hd : dgP T len 4 (0, (exP T len 32 s).1) = (num, a)) (h1 : ¬ a = (exP T len 32 s).1) (h2 : ¬ num < lo) (h3 : ¬ hi < num) : nmP T len lo hi s = (num, (a, none)) := by
  unfold nmP
  rw [if_neg (fun z => z h), hd, if_neg (fun z => by rcases z with z | z | z; exact h1 z; exact h2 z; exact h3 z)]
/-- what a number may come to -/
theorem nmP_cs (T : Nat → Int32) (len : Nat) (lo hi : Int32) (s : Nat × Option Nat) : (∃ q, (nmP T len lo hi s).2.2 = some q ∧ (nmP T len lo hi s).1 = 0) ∨ ((nmP T len lo hi s).2.2 = none ∧ s.2 = none ∧ (exP T len 32 s).2 = none ∧ ¬ (nmP T len lo hi s).1 < lo ∧ ¬ hi < (nmP T len lo hi s).1) := by
  by_cases h : (exP T len 32 s).2 = none
  · have hn : s.2 = none := by
      cases hq : s.2 with
      | none => rfl
      | some q => rw [exP_some hq, hq] at h; cases h
    by_cases h2 : (dgP T len 4 (0, (exP T len 32 s).1)).2 = (exP T len 32 s).1 ∨ (dgP T len 4 (0, (exP T len 32 s).1)).1 < lo ∨ hi < (dgP T len 4 (0, (exP T len 32 s).1)).1
    · rw [nmP_b h rfl h2]; exact Or.inl ⟨_, rfl, rfl⟩
    · rw [nmP_g h rfl (fun z => h2 (Or.inl z)) (fun z => h2 (Or.inr (Or.inl z))) (fun z => h2 (Or.inr (Or.inr z)))]
      exact Or.inr ⟨rfl, hn, h, fun z => h2 (Or.inr (Or.inl z)), fun z => h2 (Or.inr (Or.inr z))⟩
  · rw [nmP_f h]
    cases hq : (exP T len 32 s).2 with
    | none => exact absurd hq h
    | some q => exact Or.inl ⟨q, rfl, rfl⟩
theorem nmP_ok {T : Nat → Int32} {len : Nat} {lo hi : Int32} {s : Nat × Option Nat} (h : okS len s) : okS len (nmP T len lo hi s).2 := by
  have h1 : okS len (exP T len 32 s) := exP_ok h
  have h2 := dgP_le (T := T) (len := len) (n := 4) (d := (0, (exP T len 32 s).1)) h1.1
  unfold nmP
  split
  · exact h1
  · split
    · exact ⟨h2.1, fun q z => by cases z; exact h1.1⟩
    · exact ⟨h2.1, fun q z => by cases z⟩
set_option maxRecDepth 100000 in
set_option maxHeartbeats 4000000 in
theorem c_X2_blame (l : Launch) (E : zE) (F : zF) (G : zGf) {len : Nat} (hl : len ≤ 160) (a : Nat) (f : Option Nat) (hf : bf f) (np : Int32) (p : Nat) : XM l E yX2_blame cX2_blame 2 none 1 [.ref (xadr E.2.2.1 (8, 0, 0)), .int (nI p)] (rS F G len a f np) (fun v F2 => v = none ∧ F2 = rS F G len a (blF f p) np) := by
  refine XM.mk kq_X2 (Nat.le_of_ble_eq_true rfl) (fun K s C0 => ?_)
  have C := C0.c
  refine z_aload_n C 0 dX2_blame_0 rfl ?_
  refine xg_8 (k := 2) C (by decide) kf_X2_22 dX2_blame_1 ?_
  refine z_top (oI f) (rfl) ?_
  refine z_iconst C (v := (-1)) dX2_blame_4 rfl ?_
  refine z_icmp_ne C 13 dX2_blame_5 (by decide) (fun h5 => ?_) (fun h5 => ?_)
  · skip
    refine z_vret C0 dX2_blame_13 ?_
    obtain ⟨q, rfl⟩ := oI_ne h5
    exact ⟨rfl, rfl⟩
  · skip
    refine z_aload_n C 0 dX2_blame_8 rfl ?_
    refine z_iload_n C 1 dX2_blame_9 rfl ?_
    refine xp_8 (k := 2) C (by decide) kf_X2_22 dX2_blame_10 ?_
    refine z_vret C0 dX2_blame_13 ?_
    have e : f = none := oI_none hf h5
    subst e
    exact ⟨rfl, rS_ft⟩
set_option maxRecDepth 100000 in
set_option maxHeartbeats 4000000 in
theorem c_X2_next (l : Launch) (E : zE) (F : zF) (G : zGf) {len : Nat} (hl : len ≤ 160) {a : Nat} (ha : a ≤ len) (f : Option Nat) (np : Int32) : XM l E yX2_next cX2_next 1 (some .int) 1 [.ref (xadr E.2.2.1 (8, 0, 0))] (rS F G len a f np) (fun v F2 => v = some (.int (nxP (F.2.2.2 2) len a)) ∧ F2 = rS F G len a f np) := by
  refine XM.mk kq_X2 (Nat.le_of_ble_eq_true rfl) (fun K s C0 => ?_)
  have C := C0.c
  refine z_aload_n C 0 dX2_next_0 rfl ?_
  refine xg_8 (k := 1) C (by decide) kf_X2_40 dX2_next_1 ?_
  refine z_top (nI a) (rfl) ?_
  refine z_if_lt C 40 dX2_next_4 (by decide) (fun h4 => ?_) (fun h4 => ?_)
  · exact absurd h4 (nI_pos (by omega))
  · skip
    refine z_aload_n C 0 dX2_next_7 rfl ?_
    refine xg_8 (k := 1) C (by decide) kf_X2_40 dX2_next_8 ?_
    refine z_top (nI a) (rfl) ?_
    refine z_aload_n C 0 dX2_next_11 rfl ?_
    refine xg_8 (k := 0) C (by decide) kf_X2_35 dX2_next_12 ?_
    refine z_top (nI len) (rfl) ?_
    refine z_icmp_ge C 40 dX2_next_15 (by decide) (fun h15 => ?_) (fun h15 => ?_)
    · skip
      refine z_iconst C (v := (-1)) dX2_next_40 rfl ?_
      refine z_iret C0 dX2_next_41 ?_
      refine ⟨?_, rfl⟩
      unfold nxP
      rw [if_neg (fun z => absurd h15 (Int32.not_le.mpr (nI_lt z (by omega))))]
    · skip
      have hlt : a < len := nI_lt_of h15 (by omega) (by omega)
      refine z_aload_n C 0 dX2_next_18 rfl ?_
      refine xg_8 (k := 1) C (by decide) kf_X2_40 dX2_next_19 ?_
      refine z_top (nI a) (rfl) ?_
      refine z_sipush C (v := 160) dX2_next_22 rfl ?_
      refine z_icmp_ge C 40 dX2_next_25 (by decide) (fun h25 => ?_) (fun h25 => ?_)
      · exact absurd h25 (Int32.not_le.mpr (nI_lt (a := a) (b := 160) (by have := nI_lt_of h15 (by omega) (by omega); omega) (by omega)))
      · skip
        refine z_aload_n C 0 dX2_next_28 rfl ?_
        refine xg_8l C kf_X2_18 dX2_next_29 ?_
        refine z_aload_n C 0 dX2_next_32 rfl ?_
        refine xg_8 (k := 1) C (by decide) kf_X2_40 dX2_next_33 ?_
        refine z_top (nI a) (rfl) ?_
        refine xl_9 C a rfl (by first | assumption | omega) dX2_next_36 ?_
        refine z_goto C 41 dX2_next_37 (by decide) ?_
        refine z_iret C0 dX2_next_41 ?_
        refine ⟨?_, rfl⟩
        unfold nxP
        rw [if_pos hlt]
        rfl
set_option maxRecDepth 100000 in
set_option maxHeartbeats 4000000 in
theorem c_X2_expect (l : Launch) (E : zE) (F : zF) (G : zGf) {len : Nat} (hl : len ≤ 160) (ps : Nat × Option Nat) (hs : okS len ps) (np : Int32) (c : Int32) (hc : ¬ c = -1) : XM l E yX2_expect cX2_expect 2 none 2 [.ref (xadr E.2.2.1 (8, 0, 0)), .int (c)] (rS F G len ps.1 ps.2 np) (fun v F2 => v = none ∧ F2 = rS F G len (exP (F.2.2.2 2) len c ps).1 (exP (F.2.2.2 2) len c ps).2 np) := by
  refine XM.mk kq_X2 (Nat.le_of_ble_eq_true rfl) (fun K s C0 => ?_)
  have C := C0.c
  have ha := hs.1
  refine z_aload_n C 0 dX2_expect_0 rfl ?_
  refine xg_8 (k := 2) C (by decide) kf_X2_22 dX2_expect_1 ?_
  refine z_top (oI ps.2) (rfl) ?_
  refine z_iconst C (v := (-1)) dX2_expect_4 rfl ?_
  refine z_icmp_eq C 9 dX2_expect_5 (by decide) (fun h5 => ?_) (fun h5 => ?_)
  · skip
    refine z_aload_n C 0 dX2_expect_9 rfl ?_
    refine z_callV0 C (c_X2_next l E F G hl (by first | assumption | exact hs.1 | omega) _ _) ⟨by decide, rfl, rfl⟩ rfl rfl q_X2_50 ⟨by decide, by decide⟩ (Nat.le_of_ble_eq_true rfl) dX2_expect_10 (fun v F9 hp => ?_)
    obtain ⟨rfl, e9⟩ := hp
    rw [e9]
    clear e9 F9
    refine z_iload_n C 1 dX2_expect_13 rfl ?_
    refine z_icmp_ne C 30 dX2_expect_14 (by decide) (fun h14 => ?_) (fun h14 => ?_)
    · skip
      refine z_aload_n C 0 dX2_expect_30 rfl ?_
      refine z_aload_n C 0 dX2_expect_31 rfl ?_
      refine xg_8 (k := 1) C (by decide) kf_X2_40 dX2_expect_32 ?_
      refine z_top (nI ps.1) (rfl) ?_
      refine z_callV1 C (c_X2_blame l E F G hl _ _ (okS_bf hs hl) _ _) ⟨by decide, rfl, rfl⟩ rfl rfl q_X2_54 ⟨by decide, by decide⟩ (Nat.le_of_ble_eq_true rfl) dX2_expect_35 (fun v F9 hp => ?_)
      obtain ⟨rfl, e9⟩ := hp
      rw [e9]
      clear e9 F9
      refine z_vret C0 dX2_expect_38 ?_
      have hn : ps.2 = none := oI_none (okS_bf hs hl) h5
      rw [exP_miss hn hc h14]
      exact ⟨rfl, rfl⟩
    · skip
      refine z_aload_n C 0 dX2_expect_17 rfl ?_
      refine z_dup C dX2_expect_18 rfl ?_
      refine xg_8 (k := 1) C (by decide) kf_X2_40 dX2_expect_19 ?_
      refine z_top (nI ps.1) (rfl) ?_
      refine z_iconst C (v := 1) dX2_expect_22 rfl ?_
      refine z_iadd C dX2_expect_23 ?_
      refine z_top (nI (ps.1 + 1)) (nI_1 _) ?_
      refine xp_8 (k := 1) C (by decide) kf_X2_40 dX2_expect_24 ?_
      rw [rS_at]
      refine z_goto C 38 dX2_expect_27 (by decide) ?_
      refine z_vret C0 dX2_expect_38 ?_
      have hn : ps.2 = none := oI_none (okS_bf hs hl) h5
      rw [exP_hit hn hc h14]
      exact ⟨rfl, by rw [hn]⟩
  · skip
    refine z_vret C0 dX2_expect_8 ?_
    obtain ⟨q, hq⟩ := oI_ne h5
    rw [exP_some hq]
    exact ⟨rfl, rfl⟩
set_option maxRecDepth 100000 in
set_option maxHeartbeats 4000000 in
theorem lp_X2_readWord {l : Launch} {E : zE} {K : zK} {s : State} (F : zF) (G : zGf) {len : Nat} (hl : len ≤ 160) (ps : Nat × Option Nat) (hs : okS len ps) (np : Int32) {i : Nat} (hi : i < 8) (C0 : XR l E K cX2_readWord RX2 5 s 3 none (fun v F2 => v = none ∧ F2 = rS F G len (wdP (F.2.2.2 2) len (zByt.getD i []) (zLen.getD i 0) ps).1 (wdP (F.2.2.2 2) len (zByt.getD i []) (zLen.getD i 0) ps).2 np)) : ∀ (n2 : Nat) (k : Nat), (zLen.getD i 0 - k < n2) → (k ≤ zLen.getD i 0) → Z K (XP E (rS F G len (wdP (F.2.2.2 2) len (zByt.getD i []) k ps).1 (wdP (F.2.2.2 2) len (zByt.getD i []) k ps).2 np) s) 2 [(0, .ref (xadr E.2.2.1 (8, 0, 0))), (1, .ref (E.2.2.2 (10 + i))), (2, .int (nI k))] [] := by
  have C := C0.c
  intro n2
  induction n2 with
  | zero => intro k hk hkl; exact absurd hk (Nat.not_lt_zero _)
  | succ n2 ih =>
    intro k hk hkl
    have hz8 := zLen_all i hi
    refine z_iload_n C 2 dX2_readWord_2 rfl ?_
    refine z_aload_n C 1 dX2_readWord_3 rfl ?_
    refine z_callVS0 C (c_slen l E _ hi) (fun H h => xs_recv h hi) q_X2_81 ⟨by decide, by decide⟩ (Nat.le_of_ble_eq_true rfl) dX2_readWord_4 (fun v F9 hp => ?_)
    obtain ⟨rfl, e9⟩ := hp
    rw [e9]
    clear e9 F9
    refine z_icmp_ge C 25 dX2_readWord_7 (by decide) (fun h7 => ?_) (fun h7 => ?_)
    · skip
      refine z_vret C0 dX2_readWord_25 ?_
      have e : k = (zLen.getD i 0) := by
        rcases Nat.lt_or_ge k ((zLen.getD i 0)) with q | q
        · exact absurd h7 (nI_ge q (by omega))
        · omega
      subst e
      exact ⟨rfl, rfl⟩
    · skip
      have hk2 : k < (zLen.getD i 0) := by
        rcases Nat.lt_or_ge k ((zLen.getD i 0)) with q | q
        · exact q
        · exact absurd (nI_le q (by omega)) h7
      refine z_aload_n C 0 dX2_readWord_10 rfl ?_
      refine z_aload_n C 1 dX2_readWord_11 rfl ?_
      refine z_iload_n C 2 dX2_readWord_12 rfl ?_
      refine z_callVS1 C (c_schr l E _ hi hk2) (fun H h => xs_recv h hi) q_X2_85 ⟨by decide, by decide⟩ (Nat.le_of_ble_eq_true rfl) dX2_readWord_13 (fun v F9 hp => ?_)
      obtain ⟨rfl, e9⟩ := hp
      rw [e9]
      clear e9 F9
      refine z_callV1 C (c_X2_expect l E F G hl (wdP (F.2.2.2 2) len (zByt.getD i []) k ps) (wdP_ok hs) np _ (zch_ne i hi k (by omega))) ⟨by decide, rfl, rfl⟩ rfl rfl q_X2_46 ⟨by decide, by decide⟩ (Nat.le_of_ble_eq_true rfl) dX2_readWord_16 (fun v F9 hp => ?_)
      obtain ⟨rfl, e9⟩ := hp
      rw [e9]
      clear e9 F9
      refine z_iinc C (v := nI (k + 1)) 2 dX2_readWord_19 rfl (nI_1 _) (by decide) ?_
      refine z_goto C 2 dX2_readWord_22 (by decide) ?_
      refine z_pick [1, 2, 0] rfl ?_
      exact ih (k + 1) (by omega) (by omega)
set_option maxRecDepth 100000 in
set_option maxHeartbeats 4000000 in
theorem c_X2_readWord (l : Launch) (E : zE) (F : zF) (G : zGf) {len : Nat} (hl : len ≤ 160) (ps : Nat × Option Nat) (hs : okS len ps) (np : Int32) {i : Nat} (hi : i < 8) : XM l E yX2_readWord cX2_readWord 3 none 5 [.ref (xadr E.2.2.1 (8, 0, 0)), .ref (E.2.2.2 (10 + i))] (rS F G len ps.1 ps.2 np) (fun v F2 => v = none ∧ F2 = rS F G len (wdP (F.2.2.2 2) len (zByt.getD i []) (zLen.getD i 0) ps).1 (wdP (F.2.2.2 2) len (zByt.getD i []) (zLen.getD i 0) ps).2 np) := by
  refine XM.mk kq_X2 (Nat.le_of_ble_eq_true rfl) (fun K s C0 => ?_)
  have C := C0.c
  have hz8 := zLen_all i hi
  refine z_iconst C (v := 0) dX2_readWord_0 rfl ?_
  refine z_istore_n (i := 2) C dX2_readWord_1 rfl (by decide) ?_
  refine z_pick [1, 2, 0] rfl ?_
  exact lp_X2_readWord F G hl ps hs np hi C0 (zLen.getD i 0 + 1) 0 (by omega) (by omega)
set_option maxRecDepth 100000 in
set_option maxHeartbeats 4000000 in
theorem jn_X2_readNumber {l : Launch} {E : zE} {K : zK} {s : State} (F : zF) (G : zGf) {len : Nat} (hl : len ≤ 160) (ps : Nat × Option Nat) (hs : okS len ps) (np : Int32) (lo hi : Int32) (C0 : XR l E K cX2_readNumber RX2 3 s 5 (some .int) (fun v F2 => v = some (.int (nmP (F.2.2.2 2) len lo hi ps).1) ∧ F2 = rS F G len (nmP (F.2.2.2 2) len lo hi ps).2.1 (nmP (F.2.2.2 2) len lo hi ps).2.2 (nmN (F.2.2.2 2) len ps np))) : ∀ (a : Nat) (num : Int32), (dgP (F.2.2.2 2) len 4 (0, (exP (F.2.2.2 2) len 32 ps).1) = (num, a)) → ((exP (F.2.2.2 2) len 32 ps).2 = none) → Z K (XP E (rS F G len a none (nI (exP (F.2.2.2 2) len 32 ps).1)) s) 82 [(0, .ref (xadr E.2.2.1 (8, 0, 0))), (1, .int (lo)), (2, .int (hi)), (3, .int (num))] [] := by
  have C := C0.c
  intro a num hd hn1
  have ok1 : okS len (exP (F.2.2.2 2) len 32 ps) := exP_ok hs
  have ha : a ≤ len := by have := dgP_le (T := (F.2.2.2 2)) (len := len) (n := 4) (d := (0, (exP (F.2.2.2 2) len 32 ps).1)) ok1.1; rw [hd] at this; exact this.1
  have hap := ok1.1
  refine z_aload_n C 0 dX2_readNumber_82 rfl ?_
  refine xg_8 (k := 1) C (by decide) kf_X2_40 dX2_readNumber_83 ?_
  refine z_top (nI a) (rfl) ?_
  refine z_aload_n C 0 dX2_readNumber_86 rfl ?_
  refine xg_8 (k := 3) C (by decide) kf_X2_89 dX2_readNumber_87 ?_
  refine z_top (nI ((exP (F.2.2.2 2) len 32 ps).1)) (rfl) ?_
  refine z_icmp_eq C 103 dX2_readNumber_90 (by decide) (fun h90 => ?_) (fun h90 => ?_)
  · skip
    refine z_aload_n C 0 dX2_readNumber_103 rfl ?_
    refine z_aload_n C 0 dX2_readNumber_104 rfl ?_
    refine xg_8 (k := 3) C (by decide) kf_X2_89 dX2_readNumber_105 ?_
    refine z_top (nI ((exP (F.2.2.2 2) len 32 ps).1)) (rfl) ?_
    refine z_callV1 C (c_X2_blame l E F G hl a none bf_n _ _) ⟨by decide, rfl, rfl⟩ rfl rfl q_X2_54 ⟨by decide, by decide⟩ (Nat.le_of_ble_eq_true rfl) dX2_readNumber_108 (fun v F9 hp => ?_)
    obtain ⟨rfl, e9⟩ := hp
    rw [e9]
    clear e9 F9
    refine z_iconst C (v := 0) dX2_readNumber_111 rfl ?_
    refine z_iret C0 dX2_readNumber_112 ?_
    rw [nmP_b hn1 hd (Or.inl (by exact (nI_eq (by omega) (by omega)).mp h90)), nmN_t hn1]
    exact ⟨rfl, rfl⟩
  · skip
    refine z_iload_n C 3 dX2_readNumber_93 rfl ?_
    refine z_iload_n C 1 dX2_readNumber_94 rfl ?_
    refine z_icmp_lt C 103 dX2_readNumber_95 (by decide) (fun h95 => ?_) (fun h95 => ?_)
    · skip
      refine z_aload_n C 0 dX2_readNumber_103 rfl ?_
      refine z_aload_n C 0 dX2_readNumber_104 rfl ?_
      refine xg_8 (k := 3) C (by decide) kf_X2_89 dX2_readNumber_105 ?_
      refine z_top (nI ((exP (F.2.2.2 2) len 32 ps).1)) (rfl) ?_
      refine z_callV1 C (c_X2_blame l E F G hl a none bf_n _ _) ⟨by decide, rfl, rfl⟩ rfl rfl q_X2_54 ⟨by decide, by decide⟩ (Nat.le_of_ble_eq_true rfl) dX2_readNumber_108 (fun v F9 hp => ?_)
      obtain ⟨rfl, e9⟩ := hp
      rw [e9]
      clear e9 F9
      refine z_iconst C (v := 0) dX2_readNumber_111 rfl ?_
      refine z_iret C0 dX2_readNumber_112 ?_
      rw [nmP_b hn1 hd (Or.inr (Or.inl h95)), nmN_t hn1]
      exact ⟨rfl, rfl⟩
    · skip
      refine z_iload_n C 3 dX2_readNumber_98 rfl ?_
      refine z_iload_n C 2 dX2_readNumber_99 rfl ?_
      refine z_icmp_le C 113 dX2_readNumber_100 (by decide) (fun h100 => ?_) (fun h100 => ?_)
      · skip
        refine z_iload_n C 3 dX2_readNumber_113 rfl ?_
        refine z_iret C0 dX2_readNumber_114 ?_
        rw [nmP_g hn1 hd (fun z => h90 (by rw [z])) h95 (Int32.not_lt.mpr h100), nmN_t hn1]
        exact ⟨rfl, rfl⟩
      · skip
        refine z_aload_n C 0 dX2_readNumber_103 rfl ?_
        refine z_aload_n C 0 dX2_readNumber_104 rfl ?_
        refine xg_8 (k := 3) C (by decide) kf_X2_89 dX2_readNumber_105 ?_
        refine z_top (nI ((exP (F.2.2.2 2) len 32 ps).1)) (rfl) ?_
        refine z_callV1 C (c_X2_blame l E F G hl a none bf_n _ _) ⟨by decide, rfl, rfl⟩ rfl rfl q_X2_54 ⟨by decide, by decide⟩ (Nat.le_of_ble_eq_true rfl) dX2_readNumber_108 (fun v F9 hp => ?_)
        obtain ⟨rfl, e9⟩ := hp
        rw [e9]
        clear e9 F9
        refine z_iconst C (v := 0) dX2_readNumber_111 rfl ?_
        refine z_iret C0 dX2_readNumber_112 ?_
        rw [nmP_b hn1 hd (Or.inr (Or.inr (Int32.not_le.mp h100))), nmN_t hn1]
        exact ⟨rfl, rfl⟩
set_option maxRecDepth 100000 in
set_option maxHeartbeats 4000000 in
theorem lp_X2_readNumber {l : Launch} {E : zE} {K : zK} {s : State} (F : zF) (G : zGf) {len : Nat} (hl : len ≤ 160) (ps : Nat × Option Nat) (hs : okS len ps) (np : Int32) (lo hi : Int32) (C0 : XR l E K cX2_readNumber RX2 3 s 5 (some .int) (fun v F2 => v = some (.int (nmP (F.2.2.2 2) len lo hi ps).1) ∧ F2 = rS F G len (nmP (F.2.2.2 2) len lo hi ps).2.1 (nmP (F.2.2.2 2) len lo hi ps).2.2 (nmN (F.2.2.2 2) len ps np))) : ∀ (n2 : Nat) (i a : Nat) (num : Int32), (4 - i < n2) → (i ≤ 4) → (a ≤ len) → (dgP (F.2.2.2 2) len (4 - i) (num, a) = dgP (F.2.2.2 2) len 4 (0, (exP (F.2.2.2 2) len 32 ps).1)) → ((exP (F.2.2.2 2) len 32 ps).2 = none) → Z K (XP E (rS F G len a none (nI (exP (F.2.2.2 2) len 32 ps).1)) s) 29 [(0, .ref (xadr E.2.2.1 (8, 0, 0))), (1, .int (lo)), (2, .int (hi)), (3, .int (num)), (4, .int (nI i))] [] := by
  have C := C0.c
  intro n2
  induction n2 with
  | zero => intro i a num hk hi4 ha hd hn1; exact absurd hk (Nat.not_lt_zero _)
  | succ n2 ih =>
    intro i a num hk hi4 ha hd hn1
    refine z_iload C 4 dX2_readNumber_29 rfl ?_
    refine z_iconst C (v := 4) dX2_readNumber_31 rfl ?_
    refine z_icmp_ge C 82 dX2_readNumber_32 (by decide) (fun h32 => ?_) (fun h32 => ?_)
    · skip
      refine z_pick [0, 1, 2, 3] rfl ?_
      have e : i = 4 := by
        rcases Nat.lt_or_ge i 4 with q | q
        · exact absurd (nI_lt (a := i) (b := 4) q (by omega)) (Int32.not_lt.mpr h32)
        · omega
      subst e
      exact jn_X2_readNumber F G hl ps hs np lo hi C0 a num hd.symm hn1
    · skip
      have hi44 : i < 4 := nI_lt_of (b := 4) h32 (by omega) (by omega)
      refine z_aload_n C 0 dX2_readNumber_35 rfl ?_
      refine z_callV0 C (c_X2_next l E F G hl ha _ _) ⟨by decide, rfl, rfl⟩ rfl rfl q_X2_50 ⟨by decide, by decide⟩ (Nat.le_of_ble_eq_true rfl) dX2_readNumber_36 (fun v F9 hp => ?_)
      obtain ⟨rfl, e9⟩ := hp
      rw [e9]
      clear e9 F9
      refine z_bipush C (v := 48) dX2_readNumber_39 rfl ?_
      refine z_icmp_lt C 82 dX2_readNumber_41 (by decide) (fun h41 => ?_) (fun h41 => ?_)
      · skip
        refine z_pick [0, 1, 2, 3] rfl ?_
        exact jn_X2_readNumber F G hl ps hs np lo hi C0 a num (hd.symm.trans (dgP_stop (Or.inl h41))) hn1
      · skip
        refine z_aload_n C 0 dX2_readNumber_44 rfl ?_
        refine z_callV0 C (c_X2_next l E F G hl ha _ _) ⟨by decide, rfl, rfl⟩ rfl rfl q_X2_50 ⟨by decide, by decide⟩ (Nat.le_of_ble_eq_true rfl) dX2_readNumber_45 (fun v F9 hp => ?_)
        obtain ⟨rfl, e9⟩ := hp
        rw [e9]
        clear e9 F9
        refine z_bipush C (v := 57) dX2_readNumber_48 rfl ?_
        refine z_icmp_gt C 82 dX2_readNumber_50 (by decide) (fun h50 => ?_) (fun h50 => ?_)
        · skip
          refine z_pick [0, 1, 2, 3] rfl ?_
          exact jn_X2_readNumber F G hl ps hs np lo hi C0 a num (hd.symm.trans (dgP_stop (Or.inr h50))) hn1
        · skip
          refine z_iload_n C 3 dX2_readNumber_53 rfl ?_
          refine z_bipush C (v := 10) dX2_readNumber_54 rfl ?_
          refine z_imul C dX2_readNumber_56 ?_
          refine z_aload_n C 0 dX2_readNumber_57 rfl ?_
          refine z_callV0 C (c_X2_next l E F G hl ha _ _) ⟨by decide, rfl, rfl⟩ rfl rfl q_X2_50 ⟨by decide, by decide⟩ (Nat.le_of_ble_eq_true rfl) dX2_readNumber_58 (fun v F9 hp => ?_)
          obtain ⟨rfl, e9⟩ := hp
          rw [e9]
          clear e9 F9
          refine z_iadd C dX2_readNumber_61 ?_
          refine z_bipush C (v := 48) dX2_readNumber_62 rfl ?_
          refine z_isub C dX2_readNumber_64 ?_
          refine z_istore_n (i := 3) C dX2_readNumber_65 rfl (by decide) ?_
          refine z_aload_n C 1 dX2_readNumber_66 rfl ?_
          refine z_dup C dX2_readNumber_67 rfl ?_
          refine xg_8 (k := 1) C (by decide) kf_X2_40 dX2_readNumber_68 ?_
          refine z_top (nI a) (rfl) ?_
          refine z_iconst C (v := 1) dX2_readNumber_71 rfl ?_
          refine z_iadd C dX2_readNumber_72 ?_
          refine z_top (nI (a + 1)) (nI_1 _) ?_
          refine xp_8 (k := 1) C (by decide) kf_X2_40 dX2_readNumber_73 ?_
          rw [rS_at]
          have hal : a + 1 ≤ len := nx_lt h41
          refine z_iinc C (v := nI (i + 1)) 4 dX2_readNumber_76 rfl (nI_1 _) (by decide) ?_
          refine z_goto C 29 dX2_readNumber_79 (by decide) ?_
          refine z_pick [2, 3, 4, 1, 0] rfl ?_
          exact ih (i + 1) (a + 1) _ (by omega) (by omega) hal ((dgP_go (show 4 - i = (4 - (i + 1)) + 1 by omega) h41 h50).symm.trans hd) hn1
set_option maxRecDepth 100000 in
set_option maxHeartbeats 4000000 in
theorem c_X2_readNumber (l : Launch) (E : zE) (F : zF) (G : zGf) {len : Nat} (hl : len ≤ 160) (ps : Nat × Option Nat) (hs : okS len ps) (np : Int32) (lo hi : Int32) : XM l E yX2_readNumber cX2_readNumber 5 (some .int) 3 [.ref (xadr E.2.2.1 (8, 0, 0)), .int (lo), .int (hi)] (rS F G len ps.1 ps.2 np) (fun v F2 => v = some (.int (nmP (F.2.2.2 2) len lo hi ps).1) ∧ F2 = rS F G len (nmP (F.2.2.2 2) len lo hi ps).2.1 (nmP (F.2.2.2 2) len lo hi ps).2.2 (nmN (F.2.2.2 2) len ps np)) := by
  refine XM.mk kq_X2 (Nat.le_of_ble_eq_true rfl) (fun K s C0 => ?_)
  have C := C0.c
  refine z_aload_n C 0 dX2_readNumber_0 rfl ?_
  refine z_bipush C (v := 32) dX2_readNumber_1 rfl ?_
  refine z_callV1 C (c_X2_expect l E F G hl ps hs np _ (by decide)) ⟨by decide, rfl, rfl⟩ rfl rfl q_X2_46 ⟨by decide, by decide⟩ (Nat.le_of_ble_eq_true rfl) dX2_readNumber_3 (fun v F9 hp => ?_)
  obtain ⟨rfl, e9⟩ := hp
  rw [e9]
  clear e9 F9
  have ok1 : okS len (exP (F.2.2.2 2) len 32 ps) := exP_ok hs
  refine z_aload_n C 0 dX2_readNumber_6 rfl ?_
  refine xg_8 (k := 2) C (by decide) kf_X2_22 dX2_readNumber_7 ?_
  refine z_top (oI (exP (F.2.2.2 2) len 32 ps).2) (rfl) ?_
  refine z_iconst C (v := (-1)) dX2_readNumber_10 rfl ?_
  refine z_icmp_eq C 16 dX2_readNumber_11 (by decide) (fun h11 => ?_) (fun h11 => ?_)
  · skip
    have hn1 : (exP (F.2.2.2 2) len 32 ps).2 = none := oI_none (okS_bf ok1 hl) h11
    refine z_aload_n C 0 dX2_readNumber_16 rfl ?_
    refine z_aload_n C 0 dX2_readNumber_17 rfl ?_
    refine xg_8 (k := 1) C (by decide) kf_X2_40 dX2_readNumber_18 ?_
    refine z_top (nI ((exP (F.2.2.2 2) len 32 ps).1)) (rfl) ?_
    refine xp_8 (k := 3) C (by decide) kf_X2_89 dX2_readNumber_21 ?_
    rw [rS_np, hn1]
    refine z_iconst C (v := 0) dX2_readNumber_24 rfl ?_
    refine z_istore_n (i := 3) C dX2_readNumber_25 rfl (by decide) ?_
    refine z_iconst C (v := 0) dX2_readNumber_26 rfl ?_
    refine z_istore C dX2_readNumber_27 (by decide) ?_
    refine z_pick [2, 3, 4, 1, 0] rfl ?_
    exact lp_X2_readNumber F G hl ps hs np lo hi C0 5 0 _ 0 (by omega) (by omega) ok1.1 rfl hn1
  · skip
    refine z_iconst C (v := 0) dX2_readNumber_14 rfl ?_
    refine z_iret C0 dX2_readNumber_15 ?_
    have hs1 : ¬ (exP (F.2.2.2 2) len 32 ps).2 = none := fun z => h11 (by rw [z]; rfl)
    rw [nmP_f hs1, nmN_f hs1]
    exact ⟨rfl, rfl⟩
set_option maxRecDepth 100000 in
set_option maxHeartbeats 4000000 in
theorem c_X2_wantRoom (l : Launch) (E : zE) (F : zF) (G : zGf) {len : Nat} (hl : len ≤ 160) (a : Nat) (f : Option Nat) (hf : bf f) (np : Int32) (x : Int32) (p : Nat) : XM l E yX2_wantRoom cX2_wantRoom 3 none 2 [.ref (xadr E.2.2.1 (8, 0, 0)), .int (x), .int (nI p)] (rS F G len a f np) (fun v F2 => v = none ∧ F2 = rS F G len a (if x = 0 then blF f p else f) np) := by
  refine XM.mk kq_X2 (Nat.le_of_ble_eq_true rfl) (fun K s C0 => ?_)
  have C := C0.c
  refine z_iload_n C 1 dX2_wantRoom_0 rfl ?_
  refine z_if_ne C 9 dX2_wantRoom_1 (by decide) (fun h1 => ?_) (fun h1 => ?_)
  · skip
    refine z_vret C0 dX2_wantRoom_9 ?_
    refine ⟨rfl, ?_⟩
    rw [if_neg h1]
  · skip
    refine z_aload_n C 0 dX2_wantRoom_4 rfl ?_
    refine z_iload_n C 2 dX2_wantRoom_5 rfl ?_
    refine z_callV1 C (c_X2_blame l E F G hl _ _ hf _ _) ⟨by decide, rfl, rfl⟩ rfl rfl q_X2_54 ⟨by decide, by decide⟩ (Nat.le_of_ble_eq_true rfl) dX2_wantRoom_6 (fun v F9 hp => ?_)
    obtain ⟨rfl, e9⟩ := hp
    rw [e9]
    clear e9 F9
    refine z_vret C0 dX2_wantRoom_9 ?_
    refine ⟨rfl, ?_⟩
    rw [if_pos h1]
