/-! the reference: all of its garden laid away and taken back -/
def mT (M : zM) (k : Nat) (f : Nat → Int32) : zM := (M.1, M.2.1, va_up M.2.2.1 k f, M.2.2.2)
theorem mT_id {M : zM} {k : Nat} : mT M k (M.2.2.1 k) = M := by unfold mT; rw [va_up_id]
theorem mT_mT {M : zM} {k : Nat} {f f2 : Nat → Int32} : mT (mT M k f) k f2 = mT M k f2 := by unfold mT; simp only [va_up_up]
theorem mIs_of {k : Nat} (h : 10 ≤ k ∧ k ≤ 20) : mIs k := by unfold mIs; omega
theorem mIs_to {k : Nat} (h : 35 ≤ k ∧ k ≤ 37) : mIs k := by unfold mIs; omega
theorem mLen_of {k : Nat} (h : 10 ≤ k ∧ k ≤ 20) : mLen k = 6 := by
  have hk : k = 10 ∨ k = 11 ∨ k = 12 ∨ k = 13 ∨ k = 14 ∨ k = 15 ∨ k = 16 ∨ k = 17 ∨ k = 18 ∨ k = 19 ∨ k = 20 := by omega
  rcases hk with rfl | rfl | rfl | rfl | rfl | rfl | rfl | rfl | rfl | rfl | rfl <;> rfl
theorem mLen_to {k : Nat} (h : 35 ≤ k ∧ k ≤ 37) : mLen k = 80 := by
  have hk : k = 35 ∨ k = 36 ∨ k = 37 := by omega
  rcases hk with rfl | rfl | rfl <;> rfl
theorem mLen_lt (k : Nat) : mLen k < 2 ^ 31 := by unfold mLen; split <;> omega
theorem mArr_o {M : zM} {k : Nat} (h : 21 ≤ k) : mArr M k = M.2.2.1 k := by
  unfold mArr
  split <;> first
    | omega
    | rfl
section MG
variable {l : Launch} {E : zE} {K : zK} {R : Room} {s : State} {mL : Nat} {cc : ByteArray} {M : zM} {pc : Nat} {L : List (Nat × Value)} {st : List Value}
theorem mlg (C : MC l E K cc RX7 R s mL) {k : Nat} (hk : mIs k) {x : Int32} (j : Nat) (hx : x = nI j) (hlt : j < mLen k) (hd : decode cc pc = .ok (.iaload, 1)) (kk : Z K (MP E M s) (pc + 1) L (.int (mArr M k j) :: st)) : Z K (MP E M s) pc L (.int x :: .ref (madr E.2.2.1 (1, k, 0)) :: st) := z_iald (key := (1, k, 0)) C j ⟨hk, rfl⟩ rfl hx hlt (mLen_lt k) hd kk
theorem msT (C : MC l E K cc RX7 R s mL) {k : Nat} (hk : 35 ≤ k ∧ k ≤ 37) {x v : Int32} (j : Nat) (hx : x = nI j) (hlt : j < mLen k) (hd : decode cc pc = .ok (.iastore, 1)) (kk : Z K (MP E (mA M k j v) s) (pc + 1) L st) : Z K (MP E M s) pc L (.int v :: .int x :: .ref (madr E.2.2.1 (1, k, 0)) :: st) := by
  refine z_iast (key := (1, k, 0)) C (mA M k j v) j ⟨mIs_to hk, rfl⟩ rfl ?_ (mo_A rfl rfl (fun i hi => mArr_A hi) rfl) hx hlt (mLen_lt k) hd kk
  show Sum.inl _ = Sum.inl _
  rw [mArr_o (show 21 ≤ k by omega), mArr_o (show 21 ≤ k by omega)]
  simp only [mA, va_up_self]
theorem msS (C : MC l E K cc RX7 R s mL) {k : Nat} (hk : k < 5) {x v : Int32} (j : Nat) (hx : x = nI j) (hlt : j < 6) (hd : decode cc pc = .ok (.iastore, 1)) (kk : Z K (MP E (mSh M j k v) s) (pc + 1) L st) : Z K (MP E M s) pc L (.int v :: .int x :: .ref (madr E.2.2.1 (1, 10 + k, 0)) :: st) := by
  have hk2 : k = 0 ∨ k = 1 ∨ k = 2 ∨ k = 3 ∨ k = 4 := by omega
  rcases hk2 with rfl | rfl | rfl | rfl | rfl
  · exact ms_10 C j hx hlt hd kk
  · exact ms_11 C j hx hlt hd kk
  · exact ms_12 C j hx hlt hd kk
  · exact ms_13 C j hx hlt hd kk
  · exact ms_14 C j hx hlt hd kk
theorem msC (C : MC l E K cc RX7 R s mL) {k : Nat} (hk : k < 6) {x v : Int32} (j : Nat) (hx : x = nI j) (hlt : j < 6) (hd : decode cc pc = .ok (.iastore, 1)) (kk : Z K (MP E (mCh M j k v) s) (pc + 1) L st) : Z K (MP E M s) pc L (.int v :: .int x :: .ref (madr E.2.2.1 (1, 15 + k, 0)) :: st) := by
  have hk2 : k = 0 ∨ k = 1 ∨ k = 2 ∨ k = 3 ∨ k = 4 ∨ k = 5 := by omega
  rcases hk2 with rfl | rfl | rfl | rfl | rfl | rfl
  · exact ms_15 C j hx hlt hd kk
  · exact ms_16 C j hx hlt hd kk
  · exact ms_17 C j hx hlt hd kk
  · exact ms_18 C j hx hlt hd kk
  · exact ms_19 C j hx hlt hd kk
  · exact ms_20 C j hx hlt hd kk
end MG
def cpN (t o : Nat → Int32) (f0 n : Nat) : Nat → Int32 := fun q => if f0 ≤ q ∧ q < f0 + n then o (q - f0) else t q
theorem cp_0 {M : zM} {k2 f0 : Nat} {o : Nat → Int32} : mT M k2 (cpN (M.2.2.1 k2) o f0 0) = M := by
  have e : cpN (M.2.2.1 k2) o f0 0 = M.2.2.1 k2 := by funext q; unfold cpN; rw [if_neg (by omega)]
  rw [e, mT_id]
theorem mArr_T {M : zM} {k k2 : Nat} {f : Nat → Int32} (h : 10 ≤ k ∧ k ≤ 20) (h2 : 35 ≤ k2 ∧ k2 ≤ 37) : mArr (mT M k2 f) k = mArr M k := by
  have hk : k = 10 ∨ k = 11 ∨ k = 12 ∨ k = 13 ∨ k = 14 ∨ k = 15 ∨ k = 16 ∨ k = 17 ∨ k = 18 ∨ k = 19 ∨ k = 20 := by omega
  rcases hk with rfl | rfl | rfl | rfl | rfl | rfl | rfl | rfl | rfl | rfl | rfl <;> rfl
theorem cp_s {M : zM} {k1 k2 f0 i : Nat} (hk1 : 10 ≤ k1 ∧ k1 ≤ 20) (hk2 : 35 ≤ k2 ∧ k2 ≤ 37) : mA (mT M k2 (cpN (M.2.2.1 k2) (mArr M k1) f0 i)) k2 (f0 + i) (mArr (mT M k2 (cpN (M.2.2.1 k2) (mArr M k1) f0 i)) k1 i) = mT M k2 (cpN (M.2.2.1 k2) (mArr M k1) f0 (i + 1)) := by
  rw [mArr_T hk1 hk2]
  unfold mA mT
  simp only [va_up_self, va_up_up]
  congr 4
  funext q
  unfold upd cpN
  by_cases h : q = f0 + i
  · subst h
    rw [if_pos rfl, if_pos (by omega), Nat.add_sub_cancel_left]
  · rw [if_neg h]
    by_cases h2 : f0 ≤ q ∧ q < f0 + i
    · rw [if_pos h2, if_pos (by omega)]
    · rw [if_neg h2, if_neg (by omega)]
def bkS (g : zGc) (k : Nat) (t : Nat → Int32) (f0 n : Nat) : zGc := (g.1, fun s j => if j = k ∧ s < n then t (f0 + s) else g.2.1 s j, g.2.2)
def bkC (g : zGc) (k : Nat) (t : Nat → Int32) (f0 n : Nat) : zGc := (g.1, g.2.1, fun s j => if j = k ∧ s < n then t (f0 + s) else g.2.2 s j)
theorem bkS_0 {M : zM} {k f0 : Nat} {t : Nat → Int32} : mG M (bkS M.1 k t f0 0) = M := by
  have e : bkS M.1 k t f0 0 = M.1 := by
    refine Prod.ext rfl (Prod.ext ?_ rfl)
    funext s j
    show (if _ then _ else _) = _
    rw [if_neg (by omega)]
  rw [e]
  rfl
theorem bkC_0 {M : zM} {k f0 : Nat} {t : Nat → Int32} : mG M (bkC M.1 k t f0 0) = M := by
  have e : bkC M.1 k t f0 0 = M.1 := by
    refine Prod.ext rfl (Prod.ext rfl ?_)
    funext s j
    show (if _ then _ else _) = _
    rw [if_neg (by omega)]
  rw [e]
  rfl
theorem bkS_s {M : zM} {k f0 i : Nat} {t : Nat → Int32} (hk : k < 5) : mSh (mG M (bkS M.1 k t f0 i)) i k (t (f0 + i)) = mG M (bkS M.1 k t f0 (i + 1)) := by
  unfold mSh mG gSh bkS
  congr 3
  funext s j
  by_cases hs : s = i
  · subst hs
    simp only [va_up_self, upd]
    by_cases hj : j = k
    · subst hj; rw [if_pos rfl, if_pos (by omega)]
    · rw [if_neg hj, if_neg (by omega), if_neg (by omega)]
  · simp only [va_up_ne _ _ hs]
    have : (j = k ∧ s < i + 1) = (j = k ∧ s < i) := by apply propext; omega
    simp only [this]
theorem bkC_s {M : zM} {k f0 i : Nat} {t : Nat → Int32} (hk : k < 6) : mCh (mG M (bkC M.1 k t f0 i)) i k (t (f0 + i)) = mG M (bkC M.1 k t f0 (i + 1)) := by
  unfold mCh mG gCh bkC
  congr 3
  funext s j
  by_cases hs : s = i
  · subst hs
    simp only [va_up_self, upd]
    by_cases hj : j = k
    · subst hj; rw [if_pos rfl, if_pos (by omega)]
    · rw [if_neg hj, if_neg (by omega), if_neg (by omega)]
  · simp only [va_up_ne _ _ hs]
    have : (j = k ∧ s < i + 1) = (j = k ∧ s < i) := by apply propext; omega
    simp only [this]
/-- a garden in a row -/
def pk (g : zGc) (q : Nat) : Int32 := if q < 30 then g.2.1 (q % 6) (q / 6) else if q < 66 then g.2.2 ((q - 30) % 6) ((q - 30) / 6) else g.1 (q - 66)
def pkN (t : Nat → Int32) (g : zGc) (n : Nat) : Nat → Int32 := fun q => if q < n then pk g q else t q
theorem pk_0 {M : zM} {k2 : Nat} : mT M k2 (pkN (M.2.2.1 k2) M.1 0) = M := mT_id (M := M) (k := k2)
theorem pkN_at {t : Nat → Int32} {g : zGc} {n q : Nat} (h : q < n) : pkN t g n q = pk g q := if_pos h
theorem pk_s {M : zM} {k2 i : Nat} (hi : i < 5) (hk2 : 35 ≤ k2 ∧ k2 ≤ 37) : mT (mT M k2 (pkN (M.2.2.1 k2) M.1 (6 * i))) k2 (cpN ((mT M k2 (pkN (M.2.2.1 k2) M.1 (6 * i))).2.2.1 k2) (mArr (mT M k2 (pkN (M.2.2.1 k2) M.1 (6 * i))) (10 + i)) (6 * i) 6) = mT M k2 (pkN (M.2.2.1 k2) M.1 (6 * i + 6)) := by
  rw [mT_mT, mArr_T (by omega) hk2]
  congr 1
  funext q
  show cpN (va_up M.2.2.1 k2 _ k2) _ _ _ q = _
  rw [va_up_self]
  unfold cpN pkN
  by_cases h : 6 * i ≤ q ∧ q < 6 * i + 6
  · rw [if_pos h, if_pos h.2]
    unfold pk
    rw [if_pos (by omega), show q % 6 = q - 6 * i by omega, show q / 6 = i by omega]
    have hi2 : i = 0 ∨ i = 1 ∨ i = 2 ∨ i = 3 ∨ i = 4 := by omega
    rcases hi2 with rfl | rfl | rfl | rfl | rfl <;> rfl
  · rw [if_neg h]
    by_cases h2 : q < 6 * i
    · rw [if_pos h2, if_pos (by omega)]
    · rw [if_neg h2, if_neg (by omega)]
theorem pk_c {M : zM} {k2 i : Nat} (hi : i < 6) (hk2 : 35 ≤ k2 ∧ k2 ≤ 37) : mT (mT M k2 (pkN (M.2.2.1 k2) M.1 (6 * (i + 5)))) k2 (cpN ((mT M k2 (pkN (M.2.2.1 k2) M.1 (6 * (i + 5)))).2.2.1 k2) (mArr (mT M k2 (pkN (M.2.2.1 k2) M.1 (6 * (i + 5)))) (15 + i)) (6 * (i + 5)) 6) = mT M k2 (pkN (M.2.2.1 k2) M.1 (6 * (i + 5) + 6)) := by
  rw [mT_mT, mArr_T (by omega) hk2]
  congr 1
  funext q
  show cpN (va_up M.2.2.1 k2 _ k2) _ _ _ q = _
  rw [va_up_self]
  unfold cpN pkN
  by_cases h : 6 * (i + 5) ≤ q ∧ q < 6 * (i + 5) + 6
  · rw [if_pos h, if_pos h.2]
    unfold pk
    rw [if_neg (by omega), if_pos (by omega), show (q - 30) % 6 = q - 6 * (i + 5) by omega, show (q - 30) / 6 = i by omega]
    have hi2 : i = 0 ∨ i = 1 ∨ i = 2 ∨ i = 3 ∨ i = 4 ∨ i = 5 := by omega
    rcases hi2 with rfl | rfl | rfl | rfl | rfl | rfl <;> rfl
  · rw [if_neg h]
    by_cases h2 : q < 6 * (i + 5)
    · rw [if_pos h2, if_pos (by omega)]
    · rw [if_neg h2, if_neg (by omega)]
theorem pk_n {M : zM} {k2 j : Nat} (hj : j < 8) : mA (mT M k2 (pkN (M.2.2.1 k2) M.1 (66 + j))) k2 (66 + j) (M.1.1 j) = mT M k2 (pkN (M.2.2.1 k2) M.1 (67 + j)) := by
  unfold mA mT
  simp only [va_up_self, va_up_up]
  congr 4
  funext q
  unfold upd pkN
  by_cases h : q = 66 + j
  · subst h
    rw [if_pos rfl, if_pos (by omega)]
    unfold pk
    rw [if_neg (by omega), if_neg (by omega), Nat.add_sub_cancel_left]
  · rw [if_neg h]
    by_cases h2 : q < 66 + j
    · rw [if_pos h2, if_pos (by omega)]
    · rw [if_neg h2, if_neg (by omega)]
/-- the first n of a row taken back -/
def bkN (g : zGc) (t : Nat → Int32) (n : Nat) : zGc := (fun k => if k < 8 ∧ 66 + k < n then t (66 + k) else g.1 k, fun s k => if s < 6 ∧ k < 5 ∧ 6 * k + 6 ≤ n then t (6 * k + s) else g.2.1 s k, fun c k => if c < 6 ∧ k < 6 ∧ 6 * (k + 5) + 6 ≤ n then t (6 * (k + 5) + c) else g.2.2 c k)
theorem bk_0 {M : zM} {t : Nat → Int32} : mG M (bkN M.1 t 0) = M := by
  have e : bkN M.1 t 0 = M.1 := by
    refine Prod.ext ?_ (Prod.ext ?_ ?_)
    · funext k; show (if _ then _ else _) = _; rw [if_neg (by omega)]
    · funext s k; show (if _ then _ else _) = _; rw [if_neg (by omega)]
    · funext s k; show (if _ then _ else _) = _; rw [if_neg (by omega)]
  rw [e]
  rfl
theorem bk_s {M : zM} {t : Nat → Int32} {i : Nat} (hi : i < 5) : mG (mG M (bkN M.1 t (6 * i))) (bkS (bkN M.1 t (6 * i)) i t (6 * i) 6) = mG M (bkN M.1 t (6 * i + 6)) := by
  unfold mG
  congr 1
  refine Prod.ext ?_ (Prod.ext ?_ ?_)
  · funext k
    show (if _ then _ else _) = (if _ then _ else _)
    rw [if_neg (by omega), if_neg (by omega)]
  · funext s k
    show (if _ then _ else (if _ then _ else _)) = (if _ then _ else _)
    by_cases h : k = i ∧ s < 6
    · rw [if_pos h, if_pos (by omega), h.1]
    · rw [if_neg h]
      by_cases h2 : s < 6 ∧ k < 5 ∧ 6 * k + 6 ≤ 6 * i
      · rw [if_pos h2, if_pos (by omega)]
      · rw [if_neg h2, if_neg (by omega)]
  · funext s k
    show (if _ then _ else _) = (if _ then _ else _)
    rw [if_neg (by omega), if_neg (by omega)]
theorem bk_c {M : zM} {t : Nat → Int32} {i : Nat} (hi : i < 6) : mG (mG M (bkN M.1 t (6 * (i + 5)))) (bkC (bkN M.1 t (6 * (i + 5))) i t (6 * (i + 5)) 6) = mG M (bkN M.1 t (6 * (i + 5) + 6)) := by
  unfold mG
  congr 1
  refine Prod.ext ?_ (Prod.ext ?_ ?_)
  · funext k
    show (if _ then _ else _) = (if _ then _ else _)
    rw [if_neg (by omega), if_neg (by omega)]
  · funext s k
    show (if _ then _ else _) = (if _ then _ else _)
    by_cases h2 : s < 6 ∧ k < 5 ∧ 6 * k + 6 ≤ 6 * (i + 5)
    · rw [if_pos h2, if_pos (by omega)]
    · rw [if_neg h2, if_neg (by omega)]
  · funext s k
    show (if _ then _ else (if _ then _ else _)) = (if _ then _ else _)
    by_cases h : k = i ∧ s < 6
    · rw [if_pos h, if_pos (by omega), h.1]
    · rw [if_neg h]
      by_cases h2 : s < 6 ∧ k < 6 ∧ 6 * (k + 5) + 6 ≤ 6 * (i + 5)
      · rw [if_pos h2, if_pos (by omega)]
      · rw [if_neg h2, if_neg (by omega)]
theorem bk_n {M : zM} {t : Nat → Int32} {j : Nat} (hj : j < 8) : mK (mG M (bkN M.1 t (66 + j))) j (t (66 + j)) = mG M (bkN M.1 t (67 + j)) := by
  unfold mK mG gSc
  congr 1
  refine Prod.ext ?_ (Prod.ext ?_ ?_)
  · funext k
    show upd _ j _ k = (if _ then _ else _)
    unfold upd
    by_cases h : k = j
    · subst h; rw [if_pos rfl, if_pos (by omega)]
    · rw [if_neg h]
      show (if _ then _ else _) = _
      by_cases h2 : k < 8 ∧ 66 + k < 66 + j
      · rw [if_pos h2, if_pos (by omega)]
      · rw [if_neg h2, if_neg (by omega)]
  · funext s k
    show (if _ then _ else _) = (if _ then _ else _)
    by_cases h2 : s < 6 ∧ k < 5 ∧ 6 * k + 6 ≤ 66 + j
    · rw [if_pos h2, if_pos (by omega)]
    · rw [if_neg h2, if_neg (by omega)]
  · funext s k
    show (if _ then _ else _) = (if _ then _ else _)
    by_cases h2 : s < 6 ∧ k < 6 ∧ 6 * (k + 5) + 6 ≤ 66 + j
    · rw [if_pos h2, if_pos (by omega)]
    · rw [if_neg h2, if_neg (by omega)]
theorem bk_eqv {g2 g : zGc} {t : Nat → Int32} (hz : gz g) (hf : ∀ q, q < 74 → t q = pk g q) : eqv (bkN g2 t 74) g := by
  have h6 := hz.1.2
  have h7 := hz.2.2
  refine ⟨fun k hk => ?_, fun s hs k hk => ?_, fun c hc k hk => ?_⟩
  · show (if _ then _ else _) = _
    rw [if_pos (by omega), hf _ (by omega)]
    unfold pk
    rw [if_neg (by omega), if_neg (by omega), Nat.add_sub_cancel_left]
  · show (if _ then _ else _) = _
    rw [if_pos (by omega), hf _ (by omega)]
    unfold pk
    rw [if_pos (by omega), show (6 * k + s) % 6 = s by omega, show (6 * k + s) / 6 = k by omega]
  · show (if _ then _ else _) = _
    rw [if_pos (by omega), hf _ (by omega)]
    unfold pk
    rw [if_neg (by omega), if_pos (by omega), show (6 * (k + 5) + c - 30) % 6 = c by omega, show (6 * (k + 5) + c - 30) / 6 = k by omega]
/-- behind a try: the garden as it is then, what was is laid away -/
def mTr (M : zM) (g : zGc) (B : Nat → Int32) (d : Int32) : zM := mI (mB (mT M 37 (pkN (M.2.2.1 37) M.1 74)) g B) 39 d
theorem mTr_37 {M : zM} {g : zGc} {B : Nat → Int32} {d : Int32} {q : Nat} (h : q < 74) : (mTr M g B d).2.2.1 37 q = pk M.1 q := pkN_at (t := M.2.2.1 37) h
set_option maxRecDepth 100000 in
set_option maxHeartbeats 4000000 in
theorem lp_carF {l : Launch} {E : zE} {K : zK} {s : State} (M : zM) {k1 k2 f0 : Nat} (hk1 : 10 ≤ k1 ∧ k1 ≤ 20) (hk2 : 35 ≤ k2 ∧ k2 ≤ 37) (hf : f0 + 6 ≤ 80) (C0 : MR l E K cX7_carries RX7 1 s 6 (some .int) (fun v M2 => v = some (.int (nI (f0 + 6))) ∧ M2 = mT M k2 (cpN (M.2.2.1 k2) (mArr M k1) f0 6))) : ∀ (n2 : Nat) (i : Nat), (6 - i < n2) → (i ≤ 6) → Z K (MP E (mT M k2 (cpN (M.2.2.1 k2) (mArr M k1) f0 i)) s) 3 [(0, .ref (madr E.2.2.1 (0, 0, 0))), (1, .ref (madr E.2.2.1 (1, k1, 0))), (2, .ref (madr E.2.2.1 (1, k2, 0))), (3, .int (nI f0)), (4, .int (0)), (5, .int (nI i))] [] := by
  have C := C0.c
  intro n2
  induction n2 with
  | zero => intro i hk hil; exact absurd hk (Nat.not_lt_zero _)
  | succ n2 ih =>
    intro i hk hil
    refine z_iload C 5 dX7_carries_3 rfl ?_
    refine z_bipush C (v := 6) dX7_carries_5 rfl ?_
    refine z_icmp_ge C 44 dX7_carries_7 (by decide) (fun h7 => ?_) (fun h7 => ?_)
    · skip
      refine z_iload_n C 3 dX7_carries_44 rfl ?_
      refine z_bipush C (v := 6) dX7_carries_45 rfl ?_
      refine z_iadd C dX7_carries_47 ?_
      refine z_top (nI (f0 + 6)) (nI_add _ 6) ?_
      refine z_iret C0 dX7_carries_48 ?_
      have e : i = 6 := by
        rcases Nat.lt_or_ge i (6) with q | q
        · exact absurd h7 (nI_ge (b := 6) q (by omega))
        · omega
      subst e
      exact ⟨rfl, rfl⟩
    · skip
      have hi : i < 6 := by
        rcases Nat.lt_or_ge i (6) with q | q
        · exact q
        · exact absurd (nI_le (a := 6) q (by omega)) h7
      refine z_iload C 4 dX7_carries_10 rfl ?_
      refine z_if_eq C 28 dX7_carries_12 (by decide) (fun h12 => ?_) (fun h12 => ?_)
      · skip
        refine z_aload_n C 2 dX7_carries_28 rfl ?_
        refine z_iload_n C 3 dX7_carries_29 rfl ?_
        refine z_iload C 5 dX7_carries_30 rfl ?_
        refine z_iadd C dX7_carries_32 ?_
        refine z_top (nI (f0 + i)) (nI_add _ _) ?_
        refine z_aload_n C 1 dX7_carries_33 rfl ?_
        refine z_iload C 5 dX7_carries_34 rfl ?_
        refine mlg C (k := k1) (mIs_of hk1) i rfl (by rw [mLen_of hk1]; omega) dX7_carries_36 ?_
        refine msT C (k := k2) hk2 (f0 + i) rfl (by rw [mLen_to hk2]; omega) dX7_carries_37 ?_
        rw [cp_s hk1 hk2]
        refine z_iinc C (v := nI (i + 1)) 5 dX7_carries_38 rfl (nI_1 _) (by decide) ?_
        refine z_goto C 3 dX7_carries_41 (by decide) ?_
        refine z_pick [1, 2, 3, 4, 5, 0] rfl ?_
        exact ih (i + 1) (by omega) (by omega)
      · exact absurd h12 (by decide)
set_option maxRecDepth 100000 in
set_option maxHeartbeats 4000000 in
theorem c_carF (l : Launch) (E : zE) (M : zM) {k1 k2 f0 : Nat} (hk1 : 10 ≤ k1 ∧ k1 ≤ 20) (hk2 : 35 ≤ k2 ∧ k2 ≤ 37) (hf : f0 + 6 ≤ 80) : MM l E yX7_carries cX7_carries 6 (some .int) 1 [.ref (madr E.2.2.1 (0, 0, 0)), .ref (madr E.2.2.1 (1, k1, 0)), .ref (madr E.2.2.1 (1, k2, 0)), .int (nI f0), .int (0)] (M) (fun v M2 => v = some (.int (nI (f0 + 6))) ∧ M2 = mT M k2 (cpN (M.2.2.1 k2) (mArr M k1) f0 6)) := by
  refine MM.mk kq_X7 (Nat.le_of_ble_eq_true rfl) (fun K s C0 => ?_)
  have C := C0.c
  refine z_iconst C (v := 0) dX7_carries_0 rfl ?_
  refine z_istore C dX7_carries_1 (by decide) ?_
  refine z_pick [1, 2, 3, 4, 5, 0] rfl ?_
  have q := lp_carF M hk1 hk2 hf C0 7 0 (by omega) (by omega)
  rw [cp_0] at q
  exact q
set_option maxRecDepth 100000 in
set_option maxHeartbeats 4000000 in
theorem lp_carBS {l : Launch} {E : zE} {K : zK} {s : State} (M : zM) {k k2 f0 : Nat} (hk1 : k < 5) (hk2 : 35 ≤ k2 ∧ k2 ≤ 37) (hf : f0 + 6 ≤ 80) (C0 : MR l E K cX7_carries RX7 1 s 6 (some .int) (fun v M2 => v = some (.int (nI (f0 + 6))) ∧ M2 = mG M (bkS M.1 k (M.2.2.1 k2) f0 6))) : ∀ (n2 : Nat) (i : Nat), (6 - i < n2) → (i ≤ 6) → Z K (MP E (mG M (bkS M.1 k (M.2.2.1 k2) f0 i)) s) 3 [(0, .ref (madr E.2.2.1 (0, 0, 0))), (1, .ref (madr E.2.2.1 (1, (10 + k), 0))), (2, .ref (madr E.2.2.1 (1, k2, 0))), (3, .int (nI f0)), (4, .int (1)), (5, .int (nI i))] [] := by
  have C := C0.c
  intro n2
  induction n2 with
  | zero => intro i hk hil; exact absurd hk (Nat.not_lt_zero _)
  | succ n2 ih =>
    intro i hk hil
    refine z_iload C 5 dX7_carries_3 rfl ?_
    refine z_bipush C (v := 6) dX7_carries_5 rfl ?_
    refine z_icmp_ge C 44 dX7_carries_7 (by decide) (fun h7 => ?_) (fun h7 => ?_)
    · skip
      refine z_iload_n C 3 dX7_carries_44 rfl ?_
      refine z_bipush C (v := 6) dX7_carries_45 rfl ?_
      refine z_iadd C dX7_carries_47 ?_
      refine z_top (nI (f0 + 6)) (nI_add _ 6) ?_
      refine z_iret C0 dX7_carries_48 ?_
      have e : i = 6 := by
        rcases Nat.lt_or_ge i (6) with q | q
        · exact absurd h7 (nI_ge (b := 6) q (by omega))
        · omega
      subst e
      exact ⟨rfl, rfl⟩
    · skip
      have hi : i < 6 := by
        rcases Nat.lt_or_ge i (6) with q | q
        · exact q
        · exact absurd (nI_le (a := 6) q (by omega)) h7
      refine z_iload C 4 dX7_carries_10 rfl ?_
      refine z_if_eq C 28 dX7_carries_12 (by decide) (fun h12 => ?_) (fun h12 => ?_)
      · exact absurd h12 (by decide)
      · skip
        refine z_aload_n C 1 dX7_carries_15 rfl ?_
        refine z_iload C 5 dX7_carries_16 rfl ?_
        refine z_aload_n C 2 dX7_carries_18 rfl ?_
        refine z_iload_n C 3 dX7_carries_19 rfl ?_
        refine z_iload C 5 dX7_carries_20 rfl ?_
        refine z_iadd C dX7_carries_22 ?_
        refine z_top (nI (f0 + i)) (nI_add _ _) ?_
        refine mlg C (k := k2) (mIs_to hk2) (f0 + i) rfl (by rw [mLen_to hk2]; omega) dX7_carries_23 ?_
        refine z_top (M.2.2.1 k2 (f0 + i)) (congrFun (mArr_o (M := mG M (bkS M.1 k (M.2.2.1 k2) f0 i)) (by omega)) _) ?_
        refine msS C (k := k) hk1 i rfl hi dX7_carries_24 ?_
        rw [bkS_s hk1]
        refine z_goto C 38 dX7_carries_25 (by decide) ?_
        refine z_iinc C (v := nI (i + 1)) 5 dX7_carries_38 rfl (nI_1 _) (by decide) ?_
        refine z_goto C 3 dX7_carries_41 (by decide) ?_
        refine z_pick [1, 2, 3, 4, 5, 0] rfl ?_
        exact ih (i + 1) (by omega) (by omega)
set_option maxRecDepth 100000 in
set_option maxHeartbeats 4000000 in
theorem c_carBS (l : Launch) (E : zE) (M : zM) {k k2 f0 : Nat} (hk1 : k < 5) (hk2 : 35 ≤ k2 ∧ k2 ≤ 37) (hf : f0 + 6 ≤ 80) : MM l E yX7_carries cX7_carries 6 (some .int) 1 [.ref (madr E.2.2.1 (0, 0, 0)), .ref (madr E.2.2.1 (1, (10 + k), 0)), .ref (madr E.2.2.1 (1, k2, 0)), .int (nI f0), .int (1)] (M) (fun v M2 => v = some (.int (nI (f0 + 6))) ∧ M2 = mG M (bkS M.1 k (M.2.2.1 k2) f0 6)) := by
  refine MM.mk kq_X7 (Nat.le_of_ble_eq_true rfl) (fun K s C0 => ?_)
  have C := C0.c
  refine z_iconst C (v := 0) dX7_carries_0 rfl ?_
  refine z_istore C dX7_carries_1 (by decide) ?_
  refine z_pick [1, 2, 3, 4, 5, 0] rfl ?_
  have q := lp_carBS M hk1 hk2 hf C0 7 0 (by omega) (by omega)
  rw [bkS_0] at q
  exact q
set_option maxRecDepth 100000 in
set_option maxHeartbeats 4000000 in
theorem lp_carBC {l : Launch} {E : zE} {K : zK} {s : State} (M : zM) {k k2 f0 : Nat} (hk1 : k < 6) (hk2 : 35 ≤ k2 ∧ k2 ≤ 37) (hf : f0 + 6 ≤ 80) (C0 : MR l E K cX7_carries RX7 1 s 6 (some .int) (fun v M2 => v = some (.int (nI (f0 + 6))) ∧ M2 = mG M (bkC M.1 k (M.2.2.1 k2) f0 6))) : ∀ (n2 : Nat) (i : Nat), (6 - i < n2) → (i ≤ 6) → Z K (MP E (mG M (bkC M.1 k (M.2.2.1 k2) f0 i)) s) 3 [(0, .ref (madr E.2.2.1 (0, 0, 0))), (1, .ref (madr E.2.2.1 (1, (15 + k), 0))), (2, .ref (madr E.2.2.1 (1, k2, 0))), (3, .int (nI f0)), (4, .int (1)), (5, .int (nI i))] [] := by
  have C := C0.c
  intro n2
  induction n2 with
  | zero => intro i hk hil; exact absurd hk (Nat.not_lt_zero _)
  | succ n2 ih =>
    intro i hk hil
    refine z_iload C 5 dX7_carries_3 rfl ?_
    refine z_bipush C (v := 6) dX7_carries_5 rfl ?_
    refine z_icmp_ge C 44 dX7_carries_7 (by decide) (fun h7 => ?_) (fun h7 => ?_)
    · skip
      refine z_iload_n C 3 dX7_carries_44 rfl ?_
      refine z_bipush C (v := 6) dX7_carries_45 rfl ?_
      refine z_iadd C dX7_carries_47 ?_
      refine z_top (nI (f0 + 6)) (nI_add _ 6) ?_
      refine z_iret C0 dX7_carries_48 ?_
      have e : i = 6 := by
        rcases Nat.lt_or_ge i (6) with q | q
        · exact absurd h7 (nI_ge (b := 6) q (by omega))
        · omega
      subst e
      exact ⟨rfl, rfl⟩
    · skip
      have hi : i < 6 := by
        rcases Nat.lt_or_ge i (6) with q | q
        · exact q
        · exact absurd (nI_le (a := 6) q (by omega)) h7
      refine z_iload C 4 dX7_carries_10 rfl ?_
      refine z_if_eq C 28 dX7_carries_12 (by decide) (fun h12 => ?_) (fun h12 => ?_)
      · exact absurd h12 (by decide)
      · skip
        refine z_aload_n C 1 dX7_carries_15 rfl ?_
        refine z_iload C 5 dX7_carries_16 rfl ?_
        refine z_aload_n C 2 dX7_carries_18 rfl ?_
        refine z_iload_n C 3 dX7_carries_19 rfl ?_
        refine z_iload C 5 dX7_carries_20 rfl ?_
        refine z_iadd C dX7_carries_22 ?_
        refine z_top (nI (f0 + i)) (nI_add _ _) ?_
        refine mlg C (k := k2) (mIs_to hk2) (f0 + i) rfl (by rw [mLen_to hk2]; omega) dX7_carries_23 ?_
        refine z_top (M.2.2.1 k2 (f0 + i)) (congrFun (mArr_o (M := mG M (bkC M.1 k (M.2.2.1 k2) f0 i)) (by omega)) _) ?_
        refine msC C (k := k) hk1 i rfl hi dX7_carries_24 ?_
        rw [bkC_s hk1]
        refine z_goto C 38 dX7_carries_25 (by decide) ?_
        refine z_iinc C (v := nI (i + 1)) 5 dX7_carries_38 rfl (nI_1 _) (by decide) ?_
        refine z_goto C 3 dX7_carries_41 (by decide) ?_
        refine z_pick [1, 2, 3, 4, 5, 0] rfl ?_
        exact ih (i + 1) (by omega) (by omega)
set_option maxRecDepth 100000 in
set_option maxHeartbeats 4000000 in
theorem c_carBC (l : Launch) (E : zE) (M : zM) {k k2 f0 : Nat} (hk1 : k < 6) (hk2 : 35 ≤ k2 ∧ k2 ≤ 37) (hf : f0 + 6 ≤ 80) : MM l E yX7_carries cX7_carries 6 (some .int) 1 [.ref (madr E.2.2.1 (0, 0, 0)), .ref (madr E.2.2.1 (1, (15 + k), 0)), .ref (madr E.2.2.1 (1, k2, 0)), .int (nI f0), .int (1)] (M) (fun v M2 => v = some (.int (nI (f0 + 6))) ∧ M2 = mG M (bkC M.1 k (M.2.2.1 k2) f0 6)) := by
  refine MM.mk kq_X7 (Nat.le_of_ble_eq_true rfl) (fun K s C0 => ?_)
  have C := C0.c
  refine z_iconst C (v := 0) dX7_carries_0 rfl ?_
  refine z_istore C dX7_carries_1 (by decide) ?_
  refine z_pick [1, 2, 3, 4, 5, 0] rfl ?_
  have q := lp_carBC M hk1 hk2 hf C0 7 0 (by omega) (by omega)
  rw [bkC_0] at q
  exact q
set_option maxRecDepth 100000 in
set_option maxHeartbeats 4000000 in
theorem c_allF (l : Launch) (E : zE) (M : zM) {k2 : Nat} (hk2 : 35 ≤ k2 ∧ k2 ≤ 37) : MM l E yX7_all cX7_all 4 none 2 [.ref (madr E.2.2.1 (0, 0, 0)), .ref (madr E.2.2.1 (1, k2, 0)), .int (0)] (M) (fun v M2 => v = none ∧ M2 = mT M k2 (pkN (M.2.2.1 k2) M.1 74)) := by
  refine MM.mk kq_X7 (Nat.le_of_ble_eq_true rfl) (fun K s C0 => ?_)
  have C := C0.c
  have e00 : mT M k2 (pkN (M.2.2.1 k2) M.1 0) = M := pk_0
  refine z_eq (P2 := MP E (mT M k2 (pkN (M.2.2.1 k2) M.1 0)) s) (congrArg (fun z => MP E z s) e00.symm) rfl rfl rfl ?_
  refine z_aload_n C 0 dX7_all_0 rfl ?_
  refine z_aload_n C 0 dX7_all_1 rfl ?_
  refine mg_10 C dX7_all_2 ?_
  refine z_aload_n C 1 dX7_all_5 rfl ?_
  refine z_iconst C (v := 0) dX7_all_6 rfl ?_
  refine z_top (nI 0) (rfl) ?_
  refine z_iload_n C 2 dX7_all_7 rfl ?_
  refine z_callV4 C (c_carF l E _ (k1 := 10) (k2 := k2) (f0 := 0) (by omega) hk2 (by omega)) ⟨rfl, rfl⟩ rfl rfl q_X7_194 ⟨by decide, by decide⟩ (Nat.le_of_ble_eq_true rfl) dX7_all_8 (fun v F9 hp => ?_)
  obtain ⟨rfl, e9⟩ := hp
  rw [e9.trans (show _ = mT M k2 (pkN (M.2.2.1 k2) M.1 6) from pk_s (i := 0) (by omega) hk2)]
  clear e9 F9
  refine z_istore_n (i := 3) C dX7_all_11 rfl (by decide) ?_
  refine z_aload_n C 1 dX7_all_12 rfl ?_
  refine z_aload_n C 1 dX7_all_13 rfl ?_
  refine mg_11 C dX7_all_14 ?_
  refine z_aload_n C 2 dX7_all_17 rfl ?_
  refine z_iload_n C 0 dX7_all_18 rfl ?_
  refine z_iload_n C 3 dX7_all_19 rfl ?_
  refine z_callV4 C (c_carF l E _ (k1 := 11) (k2 := k2) (f0 := 6) (by omega) hk2 (by omega)) ⟨rfl, rfl⟩ rfl rfl q_X7_194 ⟨by decide, by decide⟩ (Nat.le_of_ble_eq_true rfl) dX7_all_20 (fun v F9 hp => ?_)
  obtain ⟨rfl, e9⟩ := hp
  rw [e9.trans (show _ = mT M k2 (pkN (M.2.2.1 k2) M.1 12) from pk_s (i := 1) (by omega) hk2)]
  clear e9 F9
  refine z_istore_n (i := 3) C dX7_all_23 rfl (by decide) ?_
  refine z_aload_n C 1 dX7_all_24 rfl ?_
  refine z_aload_n C 1 dX7_all_25 rfl ?_
  refine mg_12 C dX7_all_26 ?_
  refine z_aload_n C 2 dX7_all_29 rfl ?_
  refine z_iload_n C 0 dX7_all_30 rfl ?_
  refine z_iload_n C 3 dX7_all_31 rfl ?_
  refine z_callV4 C (c_carF l E _ (k1 := 12) (k2 := k2) (f0 := 12) (by omega) hk2 (by omega)) ⟨rfl, rfl⟩ rfl rfl q_X7_194 ⟨by decide, by decide⟩ (Nat.le_of_ble_eq_true rfl) dX7_all_32 (fun v F9 hp => ?_)
  obtain ⟨rfl, e9⟩ := hp
  rw [e9.trans (show _ = mT M k2 (pkN (M.2.2.1 k2) M.1 18) from pk_s (i := 2) (by omega) hk2)]
  clear e9 F9
  refine z_istore_n (i := 3) C dX7_all_35 rfl (by decide) ?_
  refine z_aload_n C 1 dX7_all_36 rfl ?_
  refine z_aload_n C 1 dX7_all_37 rfl ?_
  refine mg_13 C dX7_all_38 ?_
  refine z_aload_n C 2 dX7_all_41 rfl ?_
  refine z_iload_n C 0 dX7_all_42 rfl ?_
  refine z_iload_n C 3 dX7_all_43 rfl ?_
  refine z_callV4 C (c_carF l E _ (k1 := 13) (k2 := k2) (f0 := 18) (by omega) hk2 (by omega)) ⟨rfl, rfl⟩ rfl rfl q_X7_194 ⟨by decide, by decide⟩ (Nat.le_of_ble_eq_true rfl) dX7_all_44 (fun v F9 hp => ?_)
  obtain ⟨rfl, e9⟩ := hp
  rw [e9.trans (show _ = mT M k2 (pkN (M.2.2.1 k2) M.1 24) from pk_s (i := 3) (by omega) hk2)]
  clear e9 F9
  refine z_istore_n (i := 3) C dX7_all_47 rfl (by decide) ?_
  refine z_aload_n C 1 dX7_all_48 rfl ?_
  refine z_aload_n C 1 dX7_all_49 rfl ?_
  refine mg_14 C dX7_all_50 ?_
  refine z_aload_n C 2 dX7_all_53 rfl ?_
  refine z_iload_n C 0 dX7_all_54 rfl ?_
  refine z_iload_n C 3 dX7_all_55 rfl ?_
  refine z_callV4 C (c_carF l E _ (k1 := 14) (k2 := k2) (f0 := 24) (by omega) hk2 (by omega)) ⟨rfl, rfl⟩ rfl rfl q_X7_194 ⟨by decide, by decide⟩ (Nat.le_of_ble_eq_true rfl) dX7_all_56 (fun v F9 hp => ?_)
  obtain ⟨rfl, e9⟩ := hp
  rw [e9.trans (show _ = mT M k2 (pkN (M.2.2.1 k2) M.1 30) from pk_s (i := 4) (by omega) hk2)]
  clear e9 F9
  refine z_istore_n (i := 3) C dX7_all_59 rfl (by decide) ?_
  refine z_aload_n C 1 dX7_all_60 rfl ?_
  refine z_aload_n C 1 dX7_all_61 rfl ?_
  refine mg_15 C dX7_all_62 ?_
  refine z_aload_n C 2 dX7_all_65 rfl ?_
  refine z_iload_n C 0 dX7_all_66 rfl ?_
  refine z_iload_n C 3 dX7_all_67 rfl ?_
  refine z_callV4 C (c_carF l E _ (k1 := 15) (k2 := k2) (f0 := 30) (by omega) hk2 (by omega)) ⟨rfl, rfl⟩ rfl rfl q_X7_194 ⟨by decide, by decide⟩ (Nat.le_of_ble_eq_true rfl) dX7_all_68 (fun v F9 hp => ?_)
  obtain ⟨rfl, e9⟩ := hp
  rw [e9.trans (show _ = mT M k2 (pkN (M.2.2.1 k2) M.1 36) from pk_c (i := 0) (by omega) hk2)]
  clear e9 F9
  refine z_istore_n (i := 3) C dX7_all_71 rfl (by decide) ?_
  refine z_aload_n C 1 dX7_all_72 rfl ?_
  refine z_aload_n C 1 dX7_all_73 rfl ?_
  refine mg_16 C dX7_all_74 ?_
  refine z_aload_n C 2 dX7_all_77 rfl ?_
  refine z_iload_n C 0 dX7_all_78 rfl ?_
  refine z_iload_n C 3 dX7_all_79 rfl ?_
  refine z_callV4 C (c_carF l E _ (k1 := 16) (k2 := k2) (f0 := 36) (by omega) hk2 (by omega)) ⟨rfl, rfl⟩ rfl rfl q_X7_194 ⟨by decide, by decide⟩ (Nat.le_of_ble_eq_true rfl) dX7_all_80 (fun v F9 hp => ?_)
  obtain ⟨rfl, e9⟩ := hp
  rw [e9.trans (show _ = mT M k2 (pkN (M.2.2.1 k2) M.1 42) from pk_c (i := 1) (by omega) hk2)]
  clear e9 F9
  refine z_istore_n (i := 3) C dX7_all_83 rfl (by decide) ?_
  refine z_aload_n C 1 dX7_all_84 rfl ?_
  refine z_aload_n C 1 dX7_all_85 rfl ?_
  refine mg_17 C dX7_all_86 ?_
  refine z_aload_n C 2 dX7_all_89 rfl ?_
  refine z_iload_n C 0 dX7_all_90 rfl ?_
  refine z_iload_n C 3 dX7_all_91 rfl ?_
  refine z_callV4 C (c_carF l E _ (k1 := 17) (k2 := k2) (f0 := 42) (by omega) hk2 (by omega)) ⟨rfl, rfl⟩ rfl rfl q_X7_194 ⟨by decide, by decide⟩ (Nat.le_of_ble_eq_true rfl) dX7_all_92 (fun v F9 hp => ?_)
  obtain ⟨rfl, e9⟩ := hp
  rw [e9.trans (show _ = mT M k2 (pkN (M.2.2.1 k2) M.1 48) from pk_c (i := 2) (by omega) hk2)]
  clear e9 F9
  refine z_istore_n (i := 3) C dX7_all_95 rfl (by decide) ?_
  refine z_aload_n C 1 dX7_all_96 rfl ?_
  refine z_aload_n C 1 dX7_all_97 rfl ?_
  refine mg_18 C dX7_all_98 ?_
  refine z_aload_n C 2 dX7_all_101 rfl ?_
  refine z_iload_n C 0 dX7_all_102 rfl ?_
  refine z_iload_n C 3 dX7_all_103 rfl ?_
  refine z_callV4 C (c_carF l E _ (k1 := 18) (k2 := k2) (f0 := 48) (by omega) hk2 (by omega)) ⟨rfl, rfl⟩ rfl rfl q_X7_194 ⟨by decide, by decide⟩ (Nat.le_of_ble_eq_true rfl) dX7_all_104 (fun v F9 hp => ?_)
  obtain ⟨rfl, e9⟩ := hp
  rw [e9.trans (show _ = mT M k2 (pkN (M.2.2.1 k2) M.1 54) from pk_c (i := 3) (by omega) hk2)]
  clear e9 F9
  refine z_istore_n (i := 3) C dX7_all_107 rfl (by decide) ?_
  refine z_aload_n C 1 dX7_all_108 rfl ?_
  refine z_aload_n C 1 dX7_all_109 rfl ?_
  refine mg_19 C dX7_all_110 ?_
  refine z_aload_n C 2 dX7_all_113 rfl ?_
  refine z_iload_n C 0 dX7_all_114 rfl ?_
  refine z_iload_n C 3 dX7_all_115 rfl ?_
  refine z_callV4 C (c_carF l E _ (k1 := 19) (k2 := k2) (f0 := 54) (by omega) hk2 (by omega)) ⟨rfl, rfl⟩ rfl rfl q_X7_194 ⟨by decide, by decide⟩ (Nat.le_of_ble_eq_true rfl) dX7_all_116 (fun v F9 hp => ?_)
  obtain ⟨rfl, e9⟩ := hp
  rw [e9.trans (show _ = mT M k2 (pkN (M.2.2.1 k2) M.1 60) from pk_c (i := 4) (by omega) hk2)]
  clear e9 F9
  refine z_istore_n (i := 3) C dX7_all_119 rfl (by decide) ?_
  refine z_aload_n C 1 dX7_all_120 rfl ?_
  refine z_aload_n C 1 dX7_all_121 rfl ?_
  refine mg_20 C dX7_all_122 ?_
  refine z_aload_n C 2 dX7_all_125 rfl ?_
  refine z_iload_n C 0 dX7_all_126 rfl ?_
  refine z_iload_n C 3 dX7_all_127 rfl ?_
  refine z_callV4 C (c_carF l E _ (k1 := 20) (k2 := k2) (f0 := 60) (by omega) hk2 (by omega)) ⟨rfl, rfl⟩ rfl rfl q_X7_194 ⟨by decide, by decide⟩ (Nat.le_of_ble_eq_true rfl) dX7_all_128 (fun v F9 hp => ?_)
  obtain ⟨rfl, e9⟩ := hp
  rw [e9.trans (show _ = mT M k2 (pkN (M.2.2.1 k2) M.1 66) from pk_c (i := 5) (by omega) hk2)]
  clear e9 F9
  refine z_istore_n (i := 3) C dX7_all_131 rfl (by decide) ?_
  refine z_iload_n C 3 dX7_all_132 rfl ?_
  refine z_if_eq C 211 dX7_all_133 (by decide) (fun h133 => ?_) (fun h133 => ?_)
  · skip
    refine z_aload_n C 2 dX7_all_211 rfl ?_
    refine z_iload_n C 0 dX7_all_212 rfl ?_
    refine z_aload_n C 1 dX7_all_213 rfl ?_
    refine mg_0 C dX7_all_214 ?_
    refine msT C (k := k2) hk2 66 rfl (by rw [mLen_to hk2]; omega) dX7_all_217 ?_
    have e0 : mA (mT M k2 (pkN (M.2.2.1 k2) M.1 66)) k2 66 (M.1.1 0) = mT M k2 (pkN (M.2.2.1 k2) M.1 67) := pk_n (j := 0) (by omega)
    refine z_eq (P2 := MP E (mT M k2 (pkN (M.2.2.1 k2) M.1 67)) s) (congrArg (fun z => MP E z s) e0) rfl rfl rfl ?_
    refine z_aload_n C 2 dX7_all_218 rfl ?_
    refine z_iload_n C 0 dX7_all_219 rfl ?_
    refine z_iconst C (v := 1) dX7_all_220 rfl ?_
    refine z_iadd C dX7_all_221 ?_
    refine z_aload_n C 1 dX7_all_222 rfl ?_
    refine mg_1 C dX7_all_223 ?_
    refine msT C (k := k2) hk2 67 rfl (by rw [mLen_to hk2]; omega) dX7_all_226 ?_
    have e1 : mA (mT M k2 (pkN (M.2.2.1 k2) M.1 67)) k2 67 (M.1.1 1) = mT M k2 (pkN (M.2.2.1 k2) M.1 68) := pk_n (j := 1) (by omega)
    refine z_eq (P2 := MP E (mT M k2 (pkN (M.2.2.1 k2) M.1 68)) s) (congrArg (fun z => MP E z s) e1) rfl rfl rfl ?_
    refine z_aload_n C 2 dX7_all_227 rfl ?_
    refine z_iload_n C 0 dX7_all_228 rfl ?_
    refine z_iconst C (v := 2) dX7_all_229 rfl ?_
    refine z_iadd C dX7_all_230 ?_
    refine z_aload_n C 1 dX7_all_231 rfl ?_
    refine mg_2 C dX7_all_232 ?_
    refine msT C (k := k2) hk2 68 rfl (by rw [mLen_to hk2]; omega) dX7_all_235 ?_
    have e2 : mA (mT M k2 (pkN (M.2.2.1 k2) M.1 68)) k2 68 (M.1.1 2) = mT M k2 (pkN (M.2.2.1 k2) M.1 69) := pk_n (j := 2) (by omega)
    refine z_eq (P2 := MP E (mT M k2 (pkN (M.2.2.1 k2) M.1 69)) s) (congrArg (fun z => MP E z s) e2) rfl rfl rfl ?_
    refine z_aload_n C 2 dX7_all_236 rfl ?_
    refine z_iload_n C 0 dX7_all_237 rfl ?_
    refine z_iconst C (v := 3) dX7_all_238 rfl ?_
    refine z_iadd C dX7_all_239 ?_
    refine z_aload_n C 1 dX7_all_240 rfl ?_
    refine mg_3 C dX7_all_241 ?_
    refine msT C (k := k2) hk2 69 rfl (by rw [mLen_to hk2]; omega) dX7_all_244 ?_
    have e3 : mA (mT M k2 (pkN (M.2.2.1 k2) M.1 69)) k2 69 (M.1.1 3) = mT M k2 (pkN (M.2.2.1 k2) M.1 70) := pk_n (j := 3) (by omega)
    refine z_eq (P2 := MP E (mT M k2 (pkN (M.2.2.1 k2) M.1 70)) s) (congrArg (fun z => MP E z s) e3) rfl rfl rfl ?_
    refine z_aload_n C 2 dX7_all_245 rfl ?_
    refine z_iload_n C 0 dX7_all_246 rfl ?_
    refine z_iconst C (v := 4) dX7_all_247 rfl ?_
    refine z_iadd C dX7_all_248 ?_
    refine z_aload_n C 1 dX7_all_249 rfl ?_
    refine mg_4 C dX7_all_250 ?_
    refine msT C (k := k2) hk2 70 rfl (by rw [mLen_to hk2]; omega) dX7_all_253 ?_
    have e4 : mA (mT M k2 (pkN (M.2.2.1 k2) M.1 70)) k2 70 (M.1.1 4) = mT M k2 (pkN (M.2.2.1 k2) M.1 71) := pk_n (j := 4) (by omega)
    refine z_eq (P2 := MP E (mT M k2 (pkN (M.2.2.1 k2) M.1 71)) s) (congrArg (fun z => MP E z s) e4) rfl rfl rfl ?_
    refine z_aload_n C 2 dX7_all_254 rfl ?_
    refine z_iload_n C 0 dX7_all_255 rfl ?_
    refine z_iconst C (v := 5) dX7_all_256 rfl ?_
    refine z_iadd C dX7_all_257 ?_
    refine z_aload_n C 1 dX7_all_258 rfl ?_
    refine mg_5 C dX7_all_259 ?_
    refine msT C (k := k2) hk2 71 rfl (by rw [mLen_to hk2]; omega) dX7_all_262 ?_
    have e5 : mA (mT M k2 (pkN (M.2.2.1 k2) M.1 71)) k2 71 (M.1.1 5) = mT M k2 (pkN (M.2.2.1 k2) M.1 72) := pk_n (j := 5) (by omega)
    refine z_eq (P2 := MP E (mT M k2 (pkN (M.2.2.1 k2) M.1 72)) s) (congrArg (fun z => MP E z s) e5) rfl rfl rfl ?_
    refine z_aload_n C 2 dX7_all_263 rfl ?_
    refine z_iload_n C 0 dX7_all_264 rfl ?_
    refine z_bipush C (v := 6) dX7_all_265 rfl ?_
    refine z_iadd C dX7_all_267 ?_
    refine z_aload_n C 1 dX7_all_268 rfl ?_
    refine mg_6 C dX7_all_269 ?_
    refine msT C (k := k2) hk2 72 rfl (by rw [mLen_to hk2]; omega) dX7_all_272 ?_
    have e6 : mA (mT M k2 (pkN (M.2.2.1 k2) M.1 72)) k2 72 (M.1.1 6) = mT M k2 (pkN (M.2.2.1 k2) M.1 73) := pk_n (j := 6) (by omega)
    refine z_eq (P2 := MP E (mT M k2 (pkN (M.2.2.1 k2) M.1 73)) s) (congrArg (fun z => MP E z s) e6) rfl rfl rfl ?_
    refine z_aload_n C 2 dX7_all_273 rfl ?_
    refine z_iload_n C 0 dX7_all_274 rfl ?_
    refine z_bipush C (v := 7) dX7_all_275 rfl ?_
    refine z_iadd C dX7_all_277 ?_
    refine z_aload_n C 1 dX7_all_278 rfl ?_
    refine mg_7 C dX7_all_279 ?_
    refine msT C (k := k2) hk2 73 rfl (by rw [mLen_to hk2]; omega) dX7_all_282 ?_
    have e7 : mA (mT M k2 (pkN (M.2.2.1 k2) M.1 73)) k2 73 (M.1.1 7) = mT M k2 (pkN (M.2.2.1 k2) M.1 74) := pk_n (j := 7) (by omega)
    refine z_eq (P2 := MP E (mT M k2 (pkN (M.2.2.1 k2) M.1 74)) s) (congrArg (fun z => MP E z s) e7) rfl rfl rfl ?_
    refine z_vret C0 dX7_all_283 ?_
    exact ⟨rfl, rfl⟩
  · exact absurd h133 (by decide)
set_option maxRecDepth 100000 in
set_option maxHeartbeats 4000000 in
theorem c_allB (l : Launch) (E : zE) (M : zM) {k2 : Nat} (hk2 : 35 ≤ k2 ∧ k2 ≤ 37) : MM l E yX7_all cX7_all 4 none 2 [.ref (madr E.2.2.1 (0, 0, 0)), .ref (madr E.2.2.1 (1, k2, 0)), .int (1)] (M) (fun v M2 => v = none ∧ M2 = mG M (bkN M.1 (M.2.2.1 k2) 74)) := by
  refine MM.mk kq_X7 (Nat.le_of_ble_eq_true rfl) (fun K s C0 => ?_)
  have C := C0.c
  have e00 : mG M (bkN M.1 (M.2.2.1 k2) 0) = M := bk_0
  refine z_eq (P2 := MP E (mG M (bkN M.1 (M.2.2.1 k2) 0)) s) (congrArg (fun z => MP E z s) e00.symm) rfl rfl rfl ?_
  refine z_aload_n C 0 dX7_all_0 rfl ?_
  refine z_aload_n C 0 dX7_all_1 rfl ?_
  refine mg_10 C dX7_all_2 ?_
  refine z_aload_n C 1 dX7_all_5 rfl ?_
  refine z_iconst C (v := 0) dX7_all_6 rfl ?_
  refine z_top (nI 0) (rfl) ?_
  refine z_iload_n C 2 dX7_all_7 rfl ?_
  refine z_callV4 C (c_carBS l E _ (k := 0) (k2 := k2) (f0 := 0) (by omega) hk2 (by omega)) ⟨rfl, rfl⟩ rfl rfl q_X7_194 ⟨by decide, by decide⟩ (Nat.le_of_ble_eq_true rfl) dX7_all_8 (fun v F9 hp => ?_)
  obtain ⟨rfl, e9⟩ := hp
  rw [e9.trans (show _ = mG M (bkN M.1 (M.2.2.1 k2) 6) from bk_s (i := 0) (by omega))]
  clear e9 F9
  refine z_istore_n (i := 3) C dX7_all_11 rfl (by decide) ?_
  refine z_aload_n C 1 dX7_all_12 rfl ?_
  refine z_aload_n C 1 dX7_all_13 rfl ?_
  refine mg_11 C dX7_all_14 ?_
  refine z_aload_n C 2 dX7_all_17 rfl ?_
  refine z_iload_n C 0 dX7_all_18 rfl ?_
  refine z_iload_n C 3 dX7_all_19 rfl ?_
  refine z_callV4 C (c_carBS l E _ (k := 1) (k2 := k2) (f0 := 6) (by omega) hk2 (by omega)) ⟨rfl, rfl⟩ rfl rfl q_X7_194 ⟨by decide, by decide⟩ (Nat.le_of_ble_eq_true rfl) dX7_all_20 (fun v F9 hp => ?_)
  obtain ⟨rfl, e9⟩ := hp
  rw [e9.trans (show _ = mG M (bkN M.1 (M.2.2.1 k2) 12) from bk_s (i := 1) (by omega))]
  clear e9 F9
  refine z_istore_n (i := 3) C dX7_all_23 rfl (by decide) ?_
  refine z_aload_n C 1 dX7_all_24 rfl ?_
  refine z_aload_n C 1 dX7_all_25 rfl ?_
  refine mg_12 C dX7_all_26 ?_
  refine z_aload_n C 2 dX7_all_29 rfl ?_
  refine z_iload_n C 0 dX7_all_30 rfl ?_
  refine z_iload_n C 3 dX7_all_31 rfl ?_
  refine z_callV4 C (c_carBS l E _ (k := 2) (k2 := k2) (f0 := 12) (by omega) hk2 (by omega)) ⟨rfl, rfl⟩ rfl rfl q_X7_194 ⟨by decide, by decide⟩ (Nat.le_of_ble_eq_true rfl) dX7_all_32 (fun v F9 hp => ?_)
  obtain ⟨rfl, e9⟩ := hp
  rw [e9.trans (show _ = mG M (bkN M.1 (M.2.2.1 k2) 18) from bk_s (i := 2) (by omega))]
  clear e9 F9
  refine z_istore_n (i := 3) C dX7_all_35 rfl (by decide) ?_
  refine z_aload_n C 1 dX7_all_36 rfl ?_
  refine z_aload_n C 1 dX7_all_37 rfl ?_
  refine mg_13 C dX7_all_38 ?_
  refine z_aload_n C 2 dX7_all_41 rfl ?_
  refine z_iload_n C 0 dX7_all_42 rfl ?_
  refine z_iload_n C 3 dX7_all_43 rfl ?_
  refine z_callV4 C (c_carBS l E _ (k := 3) (k2 := k2) (f0 := 18) (by omega) hk2 (by omega)) ⟨rfl, rfl⟩ rfl rfl q_X7_194 ⟨by decide, by decide⟩ (Nat.le_of_ble_eq_true rfl) dX7_all_44 (fun v F9 hp => ?_)
  obtain ⟨rfl, e9⟩ := hp
  rw [e9.trans (show _ = mG M (bkN M.1 (M.2.2.1 k2) 24) from bk_s (i := 3) (by omega))]
  clear e9 F9
  refine z_istore_n (i := 3) C dX7_all_47 rfl (by decide) ?_
  refine z_aload_n C 1 dX7_all_48 rfl ?_
  refine z_aload_n C 1 dX7_all_49 rfl ?_
  refine mg_14 C dX7_all_50 ?_
  refine z_aload_n C 2 dX7_all_53 rfl ?_
  refine z_iload_n C 0 dX7_all_54 rfl ?_
  refine z_iload_n C 3 dX7_all_55 rfl ?_
  refine z_callV4 C (c_carBS l E _ (k := 4) (k2 := k2) (f0 := 24) (by omega) hk2 (by omega)) ⟨rfl, rfl⟩ rfl rfl q_X7_194 ⟨by decide, by decide⟩ (Nat.le_of_ble_eq_true rfl) dX7_all_56 (fun v F9 hp => ?_)
  obtain ⟨rfl, e9⟩ := hp
  rw [e9.trans (show _ = mG M (bkN M.1 (M.2.2.1 k2) 30) from bk_s (i := 4) (by omega))]
  clear e9 F9
  refine z_istore_n (i := 3) C dX7_all_59 rfl (by decide) ?_
  refine z_aload_n C 1 dX7_all_60 rfl ?_
  refine z_aload_n C 1 dX7_all_61 rfl ?_
  refine mg_15 C dX7_all_62 ?_
  refine z_aload_n C 2 dX7_all_65 rfl ?_
  refine z_iload_n C 0 dX7_all_66 rfl ?_
  refine z_iload_n C 3 dX7_all_67 rfl ?_
  refine z_callV4 C (c_carBC l E _ (k := 0) (k2 := k2) (f0 := 30) (by omega) hk2 (by omega)) ⟨rfl, rfl⟩ rfl rfl q_X7_194 ⟨by decide, by decide⟩ (Nat.le_of_ble_eq_true rfl) dX7_all_68 (fun v F9 hp => ?_)
  obtain ⟨rfl, e9⟩ := hp
  rw [e9.trans (show _ = mG M (bkN M.1 (M.2.2.1 k2) 36) from bk_c (i := 0) (by omega))]
  clear e9 F9
  refine z_istore_n (i := 3) C dX7_all_71 rfl (by decide) ?_
  refine z_aload_n C 1 dX7_all_72 rfl ?_
  refine z_aload_n C 1 dX7_all_73 rfl ?_
  refine mg_16 C dX7_all_74 ?_
  refine z_aload_n C 2 dX7_all_77 rfl ?_
  refine z_iload_n C 0 dX7_all_78 rfl ?_
  refine z_iload_n C 3 dX7_all_79 rfl ?_
  refine z_callV4 C (c_carBC l E _ (k := 1) (k2 := k2) (f0 := 36) (by omega) hk2 (by omega)) ⟨rfl, rfl⟩ rfl rfl q_X7_194 ⟨by decide, by decide⟩ (Nat.le_of_ble_eq_true rfl) dX7_all_80 (fun v F9 hp => ?_)
  obtain ⟨rfl, e9⟩ := hp
  rw [e9.trans (show _ = mG M (bkN M.1 (M.2.2.1 k2) 42) from bk_c (i := 1) (by omega))]
  clear e9 F9
  refine z_istore_n (i := 3) C dX7_all_83 rfl (by decide) ?_
  refine z_aload_n C 1 dX7_all_84 rfl ?_
  refine z_aload_n C 1 dX7_all_85 rfl ?_
  refine mg_17 C dX7_all_86 ?_
  refine z_aload_n C 2 dX7_all_89 rfl ?_
  refine z_iload_n C 0 dX7_all_90 rfl ?_
  refine z_iload_n C 3 dX7_all_91 rfl ?_
  refine z_callV4 C (c_carBC l E _ (k := 2) (k2 := k2) (f0 := 42) (by omega) hk2 (by omega)) ⟨rfl, rfl⟩ rfl rfl q_X7_194 ⟨by decide, by decide⟩ (Nat.le_of_ble_eq_true rfl) dX7_all_92 (fun v F9 hp => ?_)
  obtain ⟨rfl, e9⟩ := hp
  rw [e9.trans (show _ = mG M (bkN M.1 (M.2.2.1 k2) 48) from bk_c (i := 2) (by omega))]
  clear e9 F9
  refine z_istore_n (i := 3) C dX7_all_95 rfl (by decide) ?_
  refine z_aload_n C 1 dX7_all_96 rfl ?_
  refine z_aload_n C 1 dX7_all_97 rfl ?_
  refine mg_18 C dX7_all_98 ?_
  refine z_aload_n C 2 dX7_all_101 rfl ?_
  refine z_iload_n C 0 dX7_all_102 rfl ?_
  refine z_iload_n C 3 dX7_all_103 rfl ?_
  refine z_callV4 C (c_carBC l E _ (k := 3) (k2 := k2) (f0 := 48) (by omega) hk2 (by omega)) ⟨rfl, rfl⟩ rfl rfl q_X7_194 ⟨by decide, by decide⟩ (Nat.le_of_ble_eq_true rfl) dX7_all_104 (fun v F9 hp => ?_)
  obtain ⟨rfl, e9⟩ := hp
  rw [e9.trans (show _ = mG M (bkN M.1 (M.2.2.1 k2) 54) from bk_c (i := 3) (by omega))]
  clear e9 F9
  refine z_istore_n (i := 3) C dX7_all_107 rfl (by decide) ?_
  refine z_aload_n C 1 dX7_all_108 rfl ?_
  refine z_aload_n C 1 dX7_all_109 rfl ?_
  refine mg_19 C dX7_all_110 ?_
  refine z_aload_n C 2 dX7_all_113 rfl ?_
  refine z_iload_n C 0 dX7_all_114 rfl ?_
  refine z_iload_n C 3 dX7_all_115 rfl ?_
  refine z_callV4 C (c_carBC l E _ (k := 4) (k2 := k2) (f0 := 54) (by omega) hk2 (by omega)) ⟨rfl, rfl⟩ rfl rfl q_X7_194 ⟨by decide, by decide⟩ (Nat.le_of_ble_eq_true rfl) dX7_all_116 (fun v F9 hp => ?_)
  obtain ⟨rfl, e9⟩ := hp
  rw [e9.trans (show _ = mG M (bkN M.1 (M.2.2.1 k2) 60) from bk_c (i := 4) (by omega))]
  clear e9 F9
  refine z_istore_n (i := 3) C dX7_all_119 rfl (by decide) ?_
  refine z_aload_n C 1 dX7_all_120 rfl ?_
  refine z_aload_n C 1 dX7_all_121 rfl ?_
  refine mg_20 C dX7_all_122 ?_
  refine z_aload_n C 2 dX7_all_125 rfl ?_
  refine z_iload_n C 0 dX7_all_126 rfl ?_
  refine z_iload_n C 3 dX7_all_127 rfl ?_
  refine z_callV4 C (c_carBC l E _ (k := 5) (k2 := k2) (f0 := 60) (by omega) hk2 (by omega)) ⟨rfl, rfl⟩ rfl rfl q_X7_194 ⟨by decide, by decide⟩ (Nat.le_of_ble_eq_true rfl) dX7_all_128 (fun v F9 hp => ?_)
  obtain ⟨rfl, e9⟩ := hp
  rw [e9.trans (show _ = mG M (bkN M.1 (M.2.2.1 k2) 66) from bk_c (i := 5) (by omega))]
  clear e9 F9
  refine z_istore_n (i := 3) C dX7_all_131 rfl (by decide) ?_
  refine z_iload_n C 3 dX7_all_132 rfl ?_
  refine z_if_eq C 211 dX7_all_133 (by decide) (fun h133 => ?_) (fun h133 => ?_)
  · exact absurd h133 (by decide)
  · skip
    refine z_aload_n C 1 dX7_all_136 rfl ?_
    refine z_aload_n C 2 dX7_all_137 rfl ?_
    refine z_iload_n C 0 dX7_all_138 rfl ?_
    refine mlg C (k := k2) (mIs_to hk2) 66 rfl (by rw [mLen_to hk2]; omega) dX7_all_139 ?_
    refine z_top (M.2.2.1 k2 66) (congrFun (mArr_o (M := mG M (bkN M.1 (M.2.2.1 k2) 66)) (by omega)) _) ?_
    refine mp_0 C dX7_all_140 ?_
    have e0 : mK (mG M (bkN M.1 (M.2.2.1 k2) 66)) 0 (M.2.2.1 k2 66) = mG M (bkN M.1 (M.2.2.1 k2) 67) := bk_n (j := 0) (by omega)
    refine z_eq (P2 := MP E (mG M (bkN M.1 (M.2.2.1 k2) 67)) s) (congrArg (fun z => MP E z s) e0) rfl rfl rfl ?_
    refine z_aload_n C 1 dX7_all_143 rfl ?_
    refine z_aload_n C 2 dX7_all_144 rfl ?_
    refine z_iload_n C 0 dX7_all_145 rfl ?_
    refine z_iconst C (v := 1) dX7_all_146 rfl ?_
    refine z_iadd C dX7_all_147 ?_
    refine mlg C (k := k2) (mIs_to hk2) 67 rfl (by rw [mLen_to hk2]; omega) dX7_all_148 ?_
    refine z_top (M.2.2.1 k2 67) (congrFun (mArr_o (M := mG M (bkN M.1 (M.2.2.1 k2) 67)) (by omega)) _) ?_
    refine mp_1 C dX7_all_149 ?_
    have e1 : mK (mG M (bkN M.1 (M.2.2.1 k2) 67)) 1 (M.2.2.1 k2 67) = mG M (bkN M.1 (M.2.2.1 k2) 68) := bk_n (j := 1) (by omega)
    refine z_eq (P2 := MP E (mG M (bkN M.1 (M.2.2.1 k2) 68)) s) (congrArg (fun z => MP E z s) e1) rfl rfl rfl ?_
    refine z_aload_n C 1 dX7_all_152 rfl ?_
    refine z_aload_n C 2 dX7_all_153 rfl ?_
    refine z_iload_n C 0 dX7_all_154 rfl ?_
    refine z_iconst C (v := 2) dX7_all_155 rfl ?_
    refine z_iadd C dX7_all_156 ?_
    refine mlg C (k := k2) (mIs_to hk2) 68 rfl (by rw [mLen_to hk2]; omega) dX7_all_157 ?_
    refine z_top (M.2.2.1 k2 68) (congrFun (mArr_o (M := mG M (bkN M.1 (M.2.2.1 k2) 68)) (by omega)) _) ?_
    refine mp_2 C dX7_all_158 ?_
    have e2 : mK (mG M (bkN M.1 (M.2.2.1 k2) 68)) 2 (M.2.2.1 k2 68) = mG M (bkN M.1 (M.2.2.1 k2) 69) := bk_n (j := 2) (by omega)
    refine z_eq (P2 := MP E (mG M (bkN M.1 (M.2.2.1 k2) 69)) s) (congrArg (fun z => MP E z s) e2) rfl rfl rfl ?_
    refine z_aload_n C 1 dX7_all_161 rfl ?_
    refine z_aload_n C 2 dX7_all_162 rfl ?_
    refine z_iload_n C 0 dX7_all_163 rfl ?_
    refine z_iconst C (v := 3) dX7_all_164 rfl ?_
    refine z_iadd C dX7_all_165 ?_
    refine mlg C (k := k2) (mIs_to hk2) 69 rfl (by rw [mLen_to hk2]; omega) dX7_all_166 ?_
    refine z_top (M.2.2.1 k2 69) (congrFun (mArr_o (M := mG M (bkN M.1 (M.2.2.1 k2) 69)) (by omega)) _) ?_
    refine mp_3 C dX7_all_167 ?_
    have e3 : mK (mG M (bkN M.1 (M.2.2.1 k2) 69)) 3 (M.2.2.1 k2 69) = mG M (bkN M.1 (M.2.2.1 k2) 70) := bk_n (j := 3) (by omega)
    refine z_eq (P2 := MP E (mG M (bkN M.1 (M.2.2.1 k2) 70)) s) (congrArg (fun z => MP E z s) e3) rfl rfl rfl ?_
    refine z_aload_n C 1 dX7_all_170 rfl ?_
    refine z_aload_n C 2 dX7_all_171 rfl ?_
    refine z_iload_n C 0 dX7_all_172 rfl ?_
    refine z_iconst C (v := 4) dX7_all_173 rfl ?_
    refine z_iadd C dX7_all_174 ?_
    refine mlg C (k := k2) (mIs_to hk2) 70 rfl (by rw [mLen_to hk2]; omega) dX7_all_175 ?_
    refine z_top (M.2.2.1 k2 70) (congrFun (mArr_o (M := mG M (bkN M.1 (M.2.2.1 k2) 70)) (by omega)) _) ?_
    refine mp_4 C dX7_all_176 ?_
    have e4 : mK (mG M (bkN M.1 (M.2.2.1 k2) 70)) 4 (M.2.2.1 k2 70) = mG M (bkN M.1 (M.2.2.1 k2) 71) := bk_n (j := 4) (by omega)
    refine z_eq (P2 := MP E (mG M (bkN M.1 (M.2.2.1 k2) 71)) s) (congrArg (fun z => MP E z s) e4) rfl rfl rfl ?_
    refine z_aload_n C 1 dX7_all_179 rfl ?_
    refine z_aload_n C 2 dX7_all_180 rfl ?_
    refine z_iload_n C 0 dX7_all_181 rfl ?_
    refine z_iconst C (v := 5) dX7_all_182 rfl ?_
    refine z_iadd C dX7_all_183 ?_
    refine mlg C (k := k2) (mIs_to hk2) 71 rfl (by rw [mLen_to hk2]; omega) dX7_all_184 ?_
    refine z_top (M.2.2.1 k2 71) (congrFun (mArr_o (M := mG M (bkN M.1 (M.2.2.1 k2) 71)) (by omega)) _) ?_
    refine mp_5 C dX7_all_185 ?_
    have e5 : mK (mG M (bkN M.1 (M.2.2.1 k2) 71)) 5 (M.2.2.1 k2 71) = mG M (bkN M.1 (M.2.2.1 k2) 72) := bk_n (j := 5) (by omega)
    refine z_eq (P2 := MP E (mG M (bkN M.1 (M.2.2.1 k2) 72)) s) (congrArg (fun z => MP E z s) e5) rfl rfl rfl ?_
    refine z_aload_n C 1 dX7_all_188 rfl ?_
    refine z_aload_n C 2 dX7_all_189 rfl ?_
    refine z_iload_n C 0 dX7_all_190 rfl ?_
    refine z_bipush C (v := 6) dX7_all_191 rfl ?_
    refine z_iadd C dX7_all_193 ?_
    refine mlg C (k := k2) (mIs_to hk2) 72 rfl (by rw [mLen_to hk2]; omega) dX7_all_194 ?_
    refine z_top (M.2.2.1 k2 72) (congrFun (mArr_o (M := mG M (bkN M.1 (M.2.2.1 k2) 72)) (by omega)) _) ?_
    refine mp_6 C dX7_all_195 ?_
    have e6 : mK (mG M (bkN M.1 (M.2.2.1 k2) 72)) 6 (M.2.2.1 k2 72) = mG M (bkN M.1 (M.2.2.1 k2) 73) := bk_n (j := 6) (by omega)
    refine z_eq (P2 := MP E (mG M (bkN M.1 (M.2.2.1 k2) 73)) s) (congrArg (fun z => MP E z s) e6) rfl rfl rfl ?_
    refine z_aload_n C 1 dX7_all_198 rfl ?_
    refine z_aload_n C 2 dX7_all_199 rfl ?_
    refine z_iload_n C 0 dX7_all_200 rfl ?_
    refine z_bipush C (v := 7) dX7_all_201 rfl ?_
    refine z_iadd C dX7_all_203 ?_
    refine mlg C (k := k2) (mIs_to hk2) 73 rfl (by rw [mLen_to hk2]; omega) dX7_all_204 ?_
    refine z_top (M.2.2.1 k2 73) (congrFun (mArr_o (M := mG M (bkN M.1 (M.2.2.1 k2) 73)) (by omega)) _) ?_
    refine mp_7 C dX7_all_205 ?_
    have e7 : mK (mG M (bkN M.1 (M.2.2.1 k2) 73)) 7 (M.2.2.1 k2 73) = mG M (bkN M.1 (M.2.2.1 k2) 74) := bk_n (j := 7) (by omega)
    refine z_eq (P2 := MP E (mG M (bkN M.1 (M.2.2.1 k2) 74)) s) (congrArg (fun z => MP E z s) e7) rfl rfl rfl ?_
    refine z_goto C 283 dX7_all_208 (by decide) ?_
    refine z_vret C0 dX7_all_283 ?_
    exact ⟨rfl, rfl⟩
set_option maxRecDepth 100000 in
set_option maxHeartbeats 4000000 in
theorem c_X7_tries (l : Launch) (E : zE) (M : zM) (hz : gz M.1) {N : Nat} (h : rg N M.1) (rule : Int32) {n : Nat} (hn : n < 1000) (hN : N + 6 * n + 6 ≤ 134217728) : MM l E yX7_tries cX7_tries 4 none 7 [.ref (madr E.2.2.1 (0, 0, 0)), .int (rule), .int (nI n)] (M) (fun v M2 => v = none ∧ ∃ B, M2 = mTr M (run rule n M.1) B ((run rule n M.1).1 6 - M.1.1 6)) := by
  refine MM.mk kq_X7 (Nat.le_of_ble_eq_true rfl) (fun K s C0 => ?_)
  have C := C0.c
  refine z_aload_n C 0 dX7_tries_0 rfl ?_
  refine z_aload_n C 0 dX7_tries_1 rfl ?_
  refine mg_37 C dX7_tries_2 ?_
  refine z_iconst C (v := 0) dX7_tries_5 rfl ?_
  refine z_callV2 C (c_allF l E _ (k2 := 37) (by omega)) ⟨rfl, rfl⟩ rfl rfl q_X7_210 ⟨by decide, by decide⟩ (Nat.le_of_ble_eq_true rfl) dX7_tries_6 (fun v F9 hp => ?_)
  obtain ⟨rfl, e9⟩ := hp
  rw [e9]
  clear e9 F9
  refine z_aload_n C 0 dX7_tries_9 rfl ?_
  refine mg_6 C dX7_tries_10 ?_
  refine z_istore_n (i := 3) C dX7_tries_13 rfl (by decide) ?_
  refine z_aload_n C 1 dX7_tries_14 rfl ?_
  refine z_iload_n C 2 dX7_tries_15 rfl ?_
  refine z_iload_n C 3 dX7_tries_16 rfl ?_
  refine z_callV2 C (c_X7_livesOn l E (mT M 37 (pkN (M.2.2.1 37) M.1 74)) hz h rule hn hN) ⟨rfl, rfl⟩ rfl rfl q_X7_250 ⟨by decide, by decide⟩ (Nat.le_of_ble_eq_true rfl) dX7_tries_17 (fun v F9 hp => ?_)
  obtain ⟨rfl, B, e9⟩ := hp
  rw [e9]
  clear e9 F9
  refine z_aload_n C 1 dX7_tries_20 rfl ?_
  refine z_aload_n C 1 dX7_tries_21 rfl ?_
  refine mg_6 C dX7_tries_22 ?_
  refine z_iload_n C 0 dX7_tries_25 rfl ?_
  refine z_isub C dX7_tries_26 ?_
  refine mp_39 C dX7_tries_27 ?_
  refine z_vret C0 dX7_tries_30 ?_
  exact ⟨rfl, B, rfl⟩
set_option maxRecDepth 100000 in
set_option maxHeartbeats 4000000 in
theorem c_X7_takesBack (l : Launch) (E : zE) (M : zM) {g : zGc} (hz : gz g) (hf : ∀ q, q < 74 → M.2.2.1 37 q = pk g q) : MM l E yX7_takesBack cX7_takesBack 1 none 3 [.ref (madr E.2.2.1 (0, 0, 0))] (M) (fun v M2 => v = none ∧ ∃ g2, M2 = mG M g2 ∧ eqv g2 g) := by
  refine MM.mk kq_X7 (Nat.le_of_ble_eq_true rfl) (fun K s C0 => ?_)
  have C := C0.c
  refine z_aload_n C 0 dX7_takesBack_0 rfl ?_
  refine z_aload_n C 0 dX7_takesBack_1 rfl ?_
  refine mg_37 C dX7_takesBack_2 ?_
  refine z_iconst C (v := 1) dX7_takesBack_5 rfl ?_
  refine z_callV2 C (c_allB l E _ (k2 := 37) (by omega)) ⟨rfl, rfl⟩ rfl rfl q_X7_210 ⟨by decide, by decide⟩ (Nat.le_of_ble_eq_true rfl) dX7_takesBack_6 (fun v F9 hp => ?_)
  obtain ⟨rfl, e9⟩ := hp
  rw [e9]
  clear e9 F9
  refine z_vret C0 dX7_takesBack_9 ?_
  exact ⟨rfl, _, rfl, bk_eqv hz hf⟩
