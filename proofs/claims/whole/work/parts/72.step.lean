/-! a call on both sides: the same answer, and alike again -/
theorem if0 {c : Bool} {x y : Int32} (h : (if c = false then x else y) = 0) (hx : ¬ x = 0) : c = true ∧ y = 0 := by
  cases c with
  | false => exact absurd h hx
  | true => exact ⟨rfl, h⟩
theorem ifp0 {p : Prop} [Decidable p] {x y : Int32} (h : (if p then x else y) = 0) (hx : ¬ x = 0) : ¬ p ∧ y = 0 := by
  by_cases q : p
  · rw [if_pos q] at h; exact absurd h hx
  · rw [if_neg q] at h; exact ⟨q, h⟩
theorem RR.inC {N : Nat} {F : zF} {M : zM} (h : RR N F M) {a : Int32} (e : inR a ((F.1 0).1.1 1) = true) : ∃ c, c < nC M.1 ∧ a.toNatClampNeg = c ∧ a = nI c := by
  have hz := h.z
  rw [h.2.1.1 1 (by omega), hz.2.1] at e
  obtain ⟨c, hc, ec⟩ := inR_of e (by have := hz.2.2; omega)
  exact ⟨c, hc, by rw [ec]; exact nI_clamp (by have := hz.2.2; omega), ec⟩
theorem RR.inS {N : Nat} {F : zF} {M : zM} (h : RR N F M) {a : Int32} (e : inR a ((F.1 0).1.1 0) = true) : ∃ c, c < nS M.1 ∧ a.toNatClampNeg = c ∧ a = nI c := by
  have hz := h.z
  rw [h.2.1.1 0 (by omega), hz.1.1] at e
  obtain ⟨c, hc, ec⟩ := inR_of e (by have := hz.1.2; omega)
  exact ⟨c, hc, by rw [ec]; exact nI_clamp (by have := hz.1.2; omega), ec⟩
theorem i_ab {a b : Nat} {x : Int32} (h : ¬ x < nI a) (h2 : ¬ nI b < x) (ha : a < 2 ^ 31 := by omega) (hb : b < 2 ^ 31 := by omega) : ∃ y, a ≤ y ∧ y ≤ b ∧ x = nI y := by
  rw [i_lt, nI_toInt ha] at h
  rw [i_lt, nI_toInt hb] at h2
  exact ⟨x.toInt.toNat, by omega, by omega, i_nat (by omega)⟩
theorem i_0n {b : Nat} {x : Int32} (h : ¬ x < 0) (h2 : ¬ nI b < x) (hb : b < 2 ^ 31 := by omega) : ∃ y, y ≤ b ∧ x = nI y := by
  obtain ⟨y, -, h3, e⟩ := i_ab (a := 0) h h2
  exact ⟨y, h3, e⟩
theorem st_may {N : Nat} {F F2 : zF} {M M2 : zM} {r1 r2 : Option Value} (h : RR N F M) (hN : N ≤ 98000000) {a : Int32} (hx : (xpo F (kMay (F.1 0).1 a) (mayN (F.1 0).1 a.toNatClampNeg 16) (fun F2 => F2 = F)) r1 F2) (hm : (mpo M (kMay M.1 a) (mayN M.1 a.toNatClampNeg 16) (fun M2 => M2 = M)) r2 M2) : r1 = r2 ∧ RR (N) F2 M2 := by
  have ge := h.2.1
  have hz := h.z
  have hg := h.2.2.1
  have hok : okK (kMay (F.1 0).1 a) := by
    unfold kMay
    repeat' split
    all_goals first | exact Or.inl rfl | exact Or.inr (by decide)
  have hk : kMay M.1 a = kMay (F.1 0).1 a := (by simp only [kMay, ge.1 0 (by omega), ge.1 1 (by omega)])
  refine h.po (Nat.le_refl _) hk hok hx hm (fun h0 => ?_) (fun h0 e1 e2 => ?_)
  · obtain ⟨q1, q2⟩ := if0 h0 (by decide)
    obtain ⟨c, hc, ec, -⟩ := h.inC q1
    rw [ec]
    exact e_mayN ge hz hc
  · have e1 : F2 = F := e1
    have e2 : M2 = M := e2
    rw [e1, e2]
    exact h
theorem st_behind {N : Nat} {F F2 : zF} {M M2 : zM} {r1 r2 : Option Value} (h : RR N F M) (hN : N ≤ 98000000) {rule n a w : Int32} (hx : (xpo F (kBehind (F.1 0).1 rule n a w) (aBehind (run rule n.toNatClampNeg (F.1 0).1) a.toNatClampNeg w) (thO F)) r1 F2) (hm : (mpo M (kBehind M.1 rule n a w) (aBehind (run rule n.toNatClampNeg M.1) a.toNatClampNeg w) (mSm M)) r2 M2) : r1 = r2 ∧ RR (N) F2 M2 := by
  have ge := h.2.1
  have hz := h.z
  have hg := h.2.2.1
  have hok : okK (kBehind (F.1 0).1 rule n a w) := by
    unfold kBehind
    repeat' split
    all_goals first | exact Or.inl rfl | exact Or.inr (by decide)
  have hk : kBehind M.1 rule n a w = kBehind (F.1 0).1 rule n a w := (by simp only [kBehind, ge.1 0 (by omega), ge.1 1 (by omega)])
  refine h.po (Nat.le_refl _) hk hok hx hm (fun h0 => ?_) (fun h0 e1 e2 => ?_)
  · obtain ⟨q1, q2⟩ := if0 h0 (by decide)
    obtain ⟨c, hc, ec, -⟩ := h.inC q1
    have er := e_rung (rule := rule) (n := n.toNatClampNeg) ge hz
    have hc2 : c < nC (run rule n.toNatClampNeg M.1) := by rw [sk_run.C]; exact hc
    unfold aBehind
    rw [ec, er.2.2 c hc2 1 (by omega), er.2.2 c hc2 2 (by omega), er.2.2 c hc2 4 (by omega)]
  · exact h.th e1 e2
theorem st_asks {N : Nat} {F F2 : zF} {M M2 : zM} {r1 r2 : Option Value} (h : RR N F M) (hN : N ≤ 98000000) {rule n p : Int32} (hx : (xpo F (kAsks (F.1 0).1 rule n p) (askS (run rule n.toNatClampNeg (F.1 0).1) p.toNatClampNeg) (thO F)) r1 F2) (hm : (mpo M (kAsks M.1 rule n p) (askS (run rule n.toNatClampNeg M.1) p.toNatClampNeg) (mSm M)) r2 M2) : r1 = r2 ∧ RR (N) F2 M2 := by
  have ge := h.2.1
  have hz := h.z
  have hg := h.2.2.1
  have hok : okK (kAsks (F.1 0).1 rule n p) := by
    unfold kAsks
    repeat' split
    all_goals first | exact Or.inl rfl | exact Or.inr (by decide)
  have hk : kAsks M.1 rule n p = kAsks (F.1 0).1 rule n p := (by simp only [kAsks, ge.1 0 (by omega), ge.1 1 (by omega)])
  refine h.po (Nat.le_refl _) hk hok hx hm (fun h0 => ?_) (fun h0 e1 e2 => ?_)
  · obtain ⟨q1, q2⟩ := if0 h0 (by decide)
    obtain ⟨j, hj, ej, -⟩ := h.inS q1
    have er := e_rung (rule := rule) (n := n.toNatClampNeg) ge hz
    rw [ej]
    exact er.ask (by rw [sk_run.S]; exact hj)
  · exact h.th e1 e2
theorem st_deals {N : Nat} {F F2 : zF} {M M2 : zM} {r1 r2 : Option Value} (h : RR N F M) (hN : N ≤ 98000000) {rule n w : Int32} (hx : (xpo F (kDeals rule n w) (aDeals (F.1 0).1 (run rule n.toNatClampNeg (F.1 0).1) w) (thO F)) r1 F2) (hm : (mpo M (kDeals rule n w) (aDeals M.1 (run rule n.toNatClampNeg M.1) w) (mSm M)) r2 M2) : r1 = r2 ∧ RR (N) F2 M2 := by
  have ge := h.2.1
  have hz := h.z
  have hg := h.2.2.1
  have hok : okK (kDeals rule n w) := by
    unfold kDeals
    repeat' split
    all_goals first | exact Or.inl rfl | exact Or.inr (by decide)
  have hk : kDeals rule n w = kDeals rule n w := rfl
  refine h.po (Nat.le_refl _) hk hok hx hm (fun h0 => ?_) (fun h0 e1 e2 => ?_)
  · have er := e_rung (rule := rule) (n := n.toNatClampNeg) ge hz
    unfold aDeals
    rw [er.1 6 (by omega), er.1 3 (by omega), ge.1 6 (by omega)]
  · exact h.th e1 e2
theorem st_runs {N : Nat} {F F2 : zF} {M M2 : zM} {r1 r2 : Option Value} (h : RR N F M) (hN : N ≤ 98000000) {rule n p : Int32} (hx : (xpo F (kRuns (F.1 0).1 rule n p) (cmpI (askS (run rule n.toNatClampNeg (F.1 0).1) p.toNatClampNeg) (askS (F.1 0).1 p.toNatClampNeg)) (thO F)) r1 F2) (hm : (mpo M (kRuns M.1 rule n p) (cmpI (askS (run rule n.toNatClampNeg M.1) p.toNatClampNeg) (askS M.1 p.toNatClampNeg)) (mSm M)) r2 M2) : r1 = r2 ∧ RR (N) F2 M2 := by
  have ge := h.2.1
  have hz := h.z
  have hg := h.2.2.1
  have hok : okK (kRuns (F.1 0).1 rule n p) := by
    unfold kRuns
    repeat' split
    all_goals first | exact Or.inl rfl | exact Or.inr (by decide)
  have hk : kRuns M.1 rule n p = kRuns (F.1 0).1 rule n p := (by simp only [kRuns, ge.1 0 (by omega), ge.1 1 (by omega)])
  refine h.po (Nat.le_refl _) hk hok hx hm (fun h0 => ?_) (fun h0 e1 e2 => ?_)
  · obtain ⟨q1, q2⟩ := if0 h0 (by decide)
    obtain ⟨j, hj, ej, -⟩ := h.inS q1
    have er := e_rung (rule := rule) (n := n.toNatClampNeg) ge hz
    rw [ej, er.ask (by rw [sk_run.S]; exact hj), ge.ask hj]
  · exact h.th e1 e2
theorem st_settles {N : Nat} {F F2 : zF} {M M2 : zM} {r1 r2 : Option Value} (h : RR N F M) (hN : N ≤ 98000000) {rule w : Int32} (hx : (xpo F (kSettles rule w) (if w = 0 then setlN rule (F.1 0).1 240 else aStop (stopN rule (F.1 0).1 240)) (thO F)) r1 F2) (hm : (mpo M (kSettles rule w) (if w = 0 then setlN rule M.1 240 else aStop (stopN rule M.1 240)) (mSm M)) r2 M2) : r1 = r2 ∧ RR (N) F2 M2 := by
  have ge := h.2.1
  have hz := h.z
  have hg := h.2.2.1
  have hok : okK (kSettles rule w) := by
    unfold kSettles
    repeat' split
    all_goals first | exact Or.inl rfl | exact Or.inr (by decide)
  have hk : kSettles rule w = kSettles rule w := rfl
  refine h.po (Nat.le_refl _) hk hok hx hm (fun h0 => ?_) (fun h0 e1 e2 => ?_)
  · rw [e_setlN ge hz, e_stopN ge hz]
  · exact h.th e1 e2
theorem st_picked {N : Nat} {F F2 : zF} {M M2 : zM} {r1 r2 : Option Value} (h : RR N F M) (hN : N ≤ 98000000) {a p : Int32} (hx : (xpo F (kPicked (F.1 0).1 a p) (aPicked (askS (F.1 0).1 p.toNatClampNeg) ((F.1 0).1.2.2 a.toNatClampNeg 0)) (fun F2 => F2 = F)) r1 F2) (hm : (mpo M (kPicked M.1 a p) (aPicked (askS M.1 p.toNatClampNeg) (M.1.2.2 a.toNatClampNeg 0)) (fun M2 => M2 = M)) r2 M2) : r1 = r2 ∧ RR (N) F2 M2 := by
  have ge := h.2.1
  have hz := h.z
  have hg := h.2.2.1
  have hok : okK (kPicked (F.1 0).1 a p) := by
    unfold kPicked
    repeat' split
    all_goals first | exact Or.inl rfl | exact Or.inr (by decide)
  have hk : kPicked M.1 a p = kPicked (F.1 0).1 a p := (by simp only [kPicked, ge.1 0 (by omega), ge.1 1 (by omega)])
  refine h.po (Nat.le_refl _) hk hok hx hm (fun h0 => ?_) (fun h0 e1 e2 => ?_)
  · obtain ⟨q1, q2⟩ := if0 h0 (by decide)
    obtain ⟨c, hc, ec, -⟩ := h.inC q1
    obtain ⟨q3, q4⟩ := if0 q2 (by decide)
    obtain ⟨j, hj, ej, -⟩ := h.inS q3
    rw [ec, ej, ge.ask hj, ge.2.2 c hc 0 (by omega)]
  · have e1 : F2 = F := e1
    have e2 : M2 = M := e2
    rw [e1, e2]
    exact h
theorem st_cheapest {N : Nat} {F F2 : zF} {M M2 : zM} {r1 r2 : Option Value} (h : RR N F M) (hN : N ≤ 98000000) (hx : (xpo F (kCheap (F.1 0).1) (nI (cheapS (F.1 0).1 (nS (F.1 0).1))) (fun F2 => F2 = F)) r1 F2) (hm : (mpo M (kCheap M.1) (nI (cheapS M.1 (nS M.1))) (fun M2 => M2 = M)) r2 M2) : r1 = r2 ∧ RR (N) F2 M2 := by
  have ge := h.2.1
  have hz := h.z
  have hg := h.2.2.1
  have hok : okK (kCheap (F.1 0).1) := by
    unfold kCheap
    repeat' split
    all_goals first | exact Or.inl rfl | exact Or.inr (by decide)
  have hk : kCheap M.1 = kCheap (F.1 0).1 := (by simp only [kCheap, ge.1 0 (by omega), ge.1 1 (by omega)])
  refine h.po (Nat.le_refl _) hk hok hx hm (fun h0 => ?_) (fun h0 e1 e2 => ?_)
  · rw [ge.S, e_cheapS ge (Nat.le_refl _)]
  · have e1 : F2 = F := e1
    have e2 : M2 = M := e2
    rw [e1, e2]
    exact h
theorem st_money {N : Nat} {F F2 : zF} {M M2 : zM} {r1 r2 : Option Value} (h : RR N F M) (hN : N ≤ 98000000) {n : Int32} (hx : (xpo F (kTime n) (aMoney ((run 0 n.toNatClampNeg (F.1 0).1).1 6 - (F.1 0).1.1 6) ((run 2 n.toNatClampNeg (F.1 0).1).1 6 - (F.1 0).1.1 6) (fsum (F.1 0).1 (nC (F.1 0).1))) (thO F)) r1 F2) (hm : (mpo M (kTime n) (aMoney ((run 0 n.toNatClampNeg M.1).1 6 - M.1.1 6) ((run 2 n.toNatClampNeg M.1).1 6 - M.1.1 6) (fsum M.1 (nC M.1))) (mSm M)) r2 M2) : r1 = r2 ∧ RR (N) F2 M2 := by
  have ge := h.2.1
  have hz := h.z
  have hg := h.2.2.1
  have hok : okK (kTime n) := by
    unfold kTime
    repeat' split
    all_goals first | exact Or.inl rfl | exact Or.inr (by decide)
  have hk : kTime n = kTime n := rfl
  refine h.po (Nat.le_refl _) hk hok hx hm (fun h0 => ?_) (fun h0 e1 e2 => ?_)
  · rw [(e_rung (rule := 0) (n := n.toNatClampNeg) ge hz).1 6 (by omega), (e_rung (rule := 2) (n := n.toNatClampNeg) ge hz).1 6 (by omega), ge.1 6 (by omega), ge.C, e_fsum ge (Nat.le_refl _)]
  · exact h.th e1 e2
theorem st_inked {N : Nat} {F F2 : zF} {M M2 : zM} {r1 r2 : Option Value} (h : RR N F M) (hN : N ≤ 98000000) {n : Int32} (hx : (xpo F (kInked n) (inkB (F.1 0).1 n.toNatClampNeg 21).1 (thO F)) r1 F2) (hm : (mpo M (kInked n) (inkB M.1 n.toNatClampNeg 21).1 (mSm M)) r2 M2) : r1 = r2 ∧ RR (N) F2 M2 := by
  have ge := h.2.1
  have hz := h.z
  have hg := h.2.2.1
  have hok : okK (kInked n) := by
    unfold kInked
    repeat' split
    all_goals first | exact Or.inl rfl | exact Or.inr (by decide)
  have hk : kInked n = kInked n := rfl
  refine h.po (Nat.le_refl _) hk hok hx hm (fun h0 => ?_) (fun h0 e1 e2 => ?_)
  · rw [e_inkB ge hz]
  · exact h.th e1 e2
theorem st_keepers {N : Nat} {F F2 : zF} {M M2 : zM} {r1 r2 : Option Value} (h : RR N F M) (hN : N ≤ 98000000) {k i : Int32} (hx : (xpo F (kKeep (F.1 0).1 k i) (aKeep (F.1 0).1 k.toNatClampNeg i) (thO F)) r1 F2) (hm : (mpo M (kKeep M.1 k i) (aKeep M.1 k.toNatClampNeg i) (mSm M)) r2 M2) : r1 = r2 ∧ RR (N) F2 M2 := by
  have ge := h.2.1
  have hz := h.z
  have hg := h.2.2.1
  have hok : okK (kKeep (F.1 0).1 k i) := by
    unfold kKeep
    repeat' split
    all_goals first | exact Or.inl rfl | exact Or.inr (by decide)
  have hk : kKeep M.1 k i = kKeep (F.1 0).1 k i := (by simp only [kKeep, ge.1 0 (by omega), ge.1 1 (by omega)])
  refine h.po (Nat.le_refl _) hk hok hx hm (fun h0 => ?_) (fun h0 e1 e2 => ?_)
  · obtain ⟨q1, q2⟩ := ifp0 h0 (by decide)
    obtain ⟨-, q3⟩ := ifp0 q2 (by decide)
    obtain ⟨-, q4⟩ := ifp0 q3 (by decide)
    obtain ⟨q5, -⟩ := ifp0 q4 (by decide)
    refine e_aKeep ge hz ?_
    rw [ge.1 1 (by omega), hz.2.1] at q5
    rcases Nat.eq_zero_or_pos (nC M.1) with z | z
    · rw [z] at q5
      have e1 : (1 : Int32).toInt = 1 := rfl
      have e0 : (nI 0).toInt = 0 := rfl
      rw [i_lt, e1] at q1
      rw [i_lt, e0] at q5
      omega
    · exact z
  · exact h.th e1 e2
theorem st_bored {N : Nat} {F F2 : zF} {M M2 : zM} {r1 r2 : Option Value} (h : RR N F M) (hN : N ≤ 98000000) {rule n : Int32} (hx : (xpo F (kBored (F.1 0).1 rule n) (nI (boredN (run rule n.toNatClampNeg (F.1 0).1) (nC (F.1 0).1))) (thO F)) r1 F2) (hm : (mpo M (kBored M.1 rule n) (nI (boredN (run rule n.toNatClampNeg M.1) (nC M.1))) (mSm M)) r2 M2) : r1 = r2 ∧ RR (N) F2 M2 := by
  have ge := h.2.1
  have hz := h.z
  have hg := h.2.2.1
  have hok : okK (kBored (F.1 0).1 rule n) := by
    unfold kBored
    repeat' split
    all_goals first | exact Or.inl rfl | exact Or.inr (by decide)
  have hk : kBored M.1 rule n = kBored (F.1 0).1 rule n := (by simp only [kBored, ge.1 0 (by omega), ge.1 1 (by omega)])
  refine h.po (Nat.le_refl _) hk hok hx hm (fun h0 => ?_) (fun h0 e1 e2 => ?_)
  · obtain ⟨q1, -⟩ := ifp0 h0 (by decide)
    have er := e_rung (rule := rule) (n := n.toNatClampNeg) ge hz
    have h1 : 1 ≤ nC M.1 := by
      rcases Nat.eq_zero_or_pos (nC M.1) with z | z
      · exact absurd (by rw [ge.1 1 (by omega), hz.2.1, z]; rfl) q1
      · exact z
    rw [ge.C, e_boredN er h1 (by rw [sk_run.C]; exact Nat.le_refl _)]
  · exact h.th e1 e2
theorem st_bank {N : Nat} {F F2 : zF} {M M2 : zM} {r1 r2 : Option Value} (h : RR N F M) (hN : N ≤ 98000000) {n : Int32} (hx : (xpo F (kTime n) (bankN (run 0 n.toNatClampNeg (F.1 0).1) (nC (F.1 0).1)) (thO F)) r1 F2) (hm : (mpo M (kTime n) (bankN (run 0 n.toNatClampNeg M.1) (nC M.1)) (mSm M)) r2 M2) : r1 = r2 ∧ RR (N) F2 M2 := by
  have ge := h.2.1
  have hz := h.z
  have hg := h.2.2.1
  have hok : okK (kTime n) := by
    unfold kTime
    repeat' split
    all_goals first | exact Or.inl rfl | exact Or.inr (by decide)
  have hk : kTime n = kTime n := rfl
  refine h.po (Nat.le_refl _) hk hok hx hm (fun h0 => ?_) (fun h0 e1 e2 => ?_)
  · rw [ge.C, e_bankN (e_rung (rule := 0) (n := n.toNatClampNeg) ge hz) (by rw [sk_run.C]; exact Nat.le_refl _)]
  · exact h.th e1 e2
theorem st_rot {N : Nat} {F F2 : zF} {M M2 : zM} {r1 r2 : Option Value} (h : RR N F M) (hN : N ≤ 98000000) {rule n : Int32} (hx : (xpo F (kRN rule n) (nightL (run rule n.toNatClampNeg (F.1 0).1)) (thO F)) r1 F2) (hm : (mpo M (kRN rule n) (nightL (run rule n.toNatClampNeg M.1)) (mSm M)) r2 M2) : r1 = r2 ∧ RR (N) F2 M2 := by
  have ge := h.2.1
  have hz := h.z
  have hg := h.2.2.1
  have hok : okK (kRN rule n) := by
    unfold kRN
    repeat' split
    all_goals first | exact Or.inl rfl | exact Or.inr (by decide)
  have hk : kRN rule n = kRN rule n := rfl
  refine h.po (Nat.le_refl _) hk hok hx hm (fun h0 => ?_) (fun h0 e1 e2 => ?_)
  · have er := e_rung (rule := rule) (n := n.toNatClampNeg) ge hz
    exact e_nightL er
  · exact h.th e1 e2
theorem st_trust {N : Nat} {F F2 : zF} {M M2 : zM} {r1 r2 : Option Value} (h : RR N F M) (hN : N ≤ 98000000) {a p : Int32} (hx : (xpo F (kTrust (F.1 0).1 a p) (oI (trN (F.1 0).1 a.toNatClampNeg (askS (F.1 0).1 p.toNatClampNeg) 241)) (thO F)) r1 F2) (hm : (mpo M (kTrust M.1 a p) (oI (trN M.1 a.toNatClampNeg (askS M.1 p.toNatClampNeg) 241)) (fun M2 => M2 = M)) r2 M2) : r1 = r2 ∧ RR (N) F2 M2 := by
  have ge := h.2.1
  have hz := h.z
  have hg := h.2.2.1
  have hok : okK (kTrust (F.1 0).1 a p) := by
    unfold kTrust
    repeat' split
    all_goals first | exact Or.inl rfl | exact Or.inr (by decide)
  have hk : kTrust M.1 a p = kTrust (F.1 0).1 a p := (by simp only [kTrust, ge.1 0 (by omega), ge.1 1 (by omega)])
  refine h.po (Nat.le_refl _) hk hok hx hm (fun h0 => ?_) (fun h0 e1 e2 => ?_)
  · obtain ⟨q1, q2⟩ := if0 h0 (by decide)
    obtain ⟨c, hc, ec, -⟩ := h.inC q1
    obtain ⟨q3, q4⟩ := if0 q2 (by decide)
    obtain ⟨j, hj, ej, -⟩ := h.inS q3
    rw [ec, ej, ge.ask hj, e_trN ge hz hc]
  · have e2 : M2 = M := e2
    rw [e2]
    exact h.thx e1
theorem st_heap {N : Nat} {F F2 : zF} {M M2 : zM} {r1 r2 : Option Value} (h : RR N F M) (hN : N ≤ 98000000) {rule v : Int32} (hx : (xpo F (kHeap rule v) (oI (heapN rule v (F.1 0).1 241)) (thO F)) r1 F2) (hm : (mpo M (kHeap rule v) (oI (heapN rule v M.1 241)) (mSm M)) r2 M2) : r1 = r2 ∧ RR (N) F2 M2 := by
  have ge := h.2.1
  have hz := h.z
  have hg := h.2.2.1
  have hok : okK (kHeap rule v) := by
    unfold kHeap
    repeat' split
    all_goals first | exact Or.inl rfl | exact Or.inr (by decide)
  have hk : kHeap rule v = kHeap rule v := rfl
  refine h.po (Nat.le_refl _) hk hok hx hm (fun h0 => ?_) (fun h0 e1 e2 => ?_)
  · rw [e_heapN ge hz]
  · exact h.th e1 e2
theorem st_shopOf {N : Nat} {F F2 : zF} {M M2 : zM} {r1 r2 : Option Value} (h : RR N F M) (hN : N ≤ 98000000) {s w : Int32} (hx : (xpo F (kShopOf (F.1 0).1 s w) (aShopOf ((F.1 0).1.2.1 s.toNatClampNeg) w) (fun F2 => F2 = F)) r1 F2) (hm : (mpo M (kShopOf M.1 s w) (aShopOf (M.1.2.1 s.toNatClampNeg) w) (fun M2 => M2 = M)) r2 M2) : r1 = r2 ∧ RR (N) F2 M2 := by
  have ge := h.2.1
  have hz := h.z
  have hg := h.2.2.1
  have hok : okK (kShopOf (F.1 0).1 s w) := by
    unfold kShopOf
    repeat' split
    all_goals first | exact Or.inl rfl | exact Or.inr (by decide)
  have hk : kShopOf M.1 s w = kShopOf (F.1 0).1 s w := (by simp only [kShopOf, ge.1 0 (by omega), ge.1 1 (by omega)])
  refine h.po (Nat.le_refl _) hk hok hx hm (fun h0 => ?_) (fun h0 e1 e2 => ?_)
  · obtain ⟨q1, q2⟩ := if0 h0 (by decide)
    obtain ⟨j, hj, ej, -⟩ := h.inS q1
    obtain ⟨q3, -⟩ := if0 q2 (by decide)
    obtain ⟨q, hq, eq⟩ := inR_of (n := 6) q3 (by omega)
    unfold aShopOf
    rw [ej]
    by_cases w5 : w = 5
    · rw [if_pos w5, if_pos w5]; exact ge.ask hj
    · rw [if_neg w5, if_neg w5, eq, nI_clamp (by omega)]
      have : q ≠ 5 := fun z => w5 (by rw [eq, z]; rfl)
      exact ge.2.1 j hj q (by omega)
  · have e1 : F2 = F := e1
    have e2 : M2 = M := e2
    rw [e1, e2]
    exact h
theorem st_childOf {N : Nat} {F F2 : zF} {M M2 : zM} {r1 r2 : Option Value} (h : RR N F M) (hN : N ≤ 98000000) {s w : Int32} (hx : (xpo F (kChildOf (F.1 0).1 s w) (aChildOf ((F.1 0).1.2.2 s.toNatClampNeg) w) (fun F2 => F2 = F)) r1 F2) (hm : (mpo M (kChildOf M.1 s w) (aChildOf (M.1.2.2 s.toNatClampNeg) w) (fun M2 => M2 = M)) r2 M2) : r1 = r2 ∧ RR (N) F2 M2 := by
  have ge := h.2.1
  have hz := h.z
  have hg := h.2.2.1
  have hok : okK (kChildOf (F.1 0).1 s w) := by
    unfold kChildOf
    repeat' split
    all_goals first | exact Or.inl rfl | exact Or.inr (by decide)
  have hk : kChildOf M.1 s w = kChildOf (F.1 0).1 s w := (by simp only [kChildOf, ge.1 0 (by omega), ge.1 1 (by omega)])
  refine h.po (Nat.le_refl _) hk hok hx hm (fun h0 => ?_) (fun h0 e1 e2 => ?_)
  · obtain ⟨q1, q2⟩ := if0 h0 (by decide)
    obtain ⟨c, hc, ec, -⟩ := h.inC q1
    obtain ⟨q3, -⟩ := if0 q2 (by decide)
    obtain ⟨q, hq, eq⟩ := inR_of (n := 6) q3 (by omega)
    unfold aChildOf
    rw [ec, ge.2.2 c hc 5 (by omega), eq, nI_clamp (by omega), ge.2.2 c hc q (by omega)]
  · have e1 : F2 = F := e1
    have e2 : M2 = M := e2
    rw [e1, e2]
    exact h
theorem st_shop {N : Nat} {F F2 : zF} {M M2 : zM} {r1 r2 : Option Value} (h : RR N F M) (hN : N ≤ 98000000) {k a p : Int32} (hx : (xpo F (kShop (F.1 0).1 k a p) ((F.1 0).1.1 0) (fun F2 => F2 = sG F 0 (addSh (F.1 0).1 k a p, (F.1 0).2))) r1 F2) (hm : (mpo M (kShop M.1 k a p) (M.1.1 0) (fun M2 => M2 = mG M (addSh M.1 k a p))) r2 M2) : r1 = r2 ∧ RR (N) F2 M2 := by
  have ge := h.2.1
  have hz := h.z
  have hg := h.2.2.1
  have hok : okK (kShop (F.1 0).1 k a p) := by
    unfold kShop
    repeat' split
    all_goals first | exact Or.inl rfl | exact Or.inr (by decide)
  have hk : kShop M.1 k a p = kShop (F.1 0).1 k a p := (by simp only [kShop, ge.1 0 (by omega), ge.1 1 (by omega)])
  refine h.po (Nat.le_refl _) hk hok hx hm (fun h0 => ?_) (fun h0 e1 e2 => ?_)
  · exact ge.1 0 (by omega)
  · obtain ⟨q1, q2⟩ := if0 h0 (by decide)
    obtain ⟨a1, q3⟩ := ifp0 q2 (by decide)
    obtain ⟨a2, q4⟩ := ifp0 q3 (by decide)
    obtain ⟨p1, q5⟩ := ifp0 q4 (by decide)
    obtain ⟨p2, q6⟩ := ifp0 q5 (by decide)
    have h6 : nS M.1 < 6 := by
      by_cases z : (F.1 0).1.1 0 < 6
      · rw [ge.1 0 (by omega)] at z; exact lt6_of hz.1.1 hz.1.2 z
      · rw [if_neg z] at q6; exact absurd q6 (by decide)
    obtain ⟨x, hx7, ex⟩ := inR_of (n := 7) q1 (by omega)
    have e1 : F2 = sG F 0 (addSh (F.1 0).1 k a p, (F.1 0).2) := e1
    have e2 : M2 = mG M (addSh M.1 k a p) := e2
    rw [e1, e2]
    exact h.gd mRs_G (e_addSh ge hz h6) (gz_addSh hz h6) (rg_addSh hg hz h6 ⟨x, hx7, ex⟩ (i_0n (b := 9) a1 a2) (i_ab (a := 1) (b := 999) p1 p2)) (by show nS M.1 ≤ nS (addSh M.1 k a p); rw [nS_addSh hz h6]; omega) (Nat.le_refl _)
theorem st_child {N : Nat} {F F2 : zF} {M M2 : zM} {r1 r2 : Option Value} (h : RR N F M) (hN : N ≤ 98000000) {n q : Int32} (hx : (xpo F (kChild (F.1 0).1 n q) ((F.1 0).1.1 1) (fun F2 => F2 = sG F 0 (addCh (F.1 0).1 n q, (F.1 0).2))) r1 F2) (hm : (mpo M (kChild M.1 n q) (M.1.1 1) (fun M2 => M2 = mG M (addCh M.1 n q))) r2 M2) : r1 = r2 ∧ RR (N) F2 M2 := by
  have ge := h.2.1
  have hz := h.z
  have hg := h.2.2.1
  have hok : okK (kChild (F.1 0).1 n q) := by
    unfold kChild
    repeat' split
    all_goals first | exact Or.inl rfl | exact Or.inr (by decide)
  have hk : kChild M.1 n q = kChild (F.1 0).1 n q := (by simp only [kChild, ge.1 0 (by omega), ge.1 1 (by omega)])
  refine h.po (Nat.le_refl _) hk hok hx hm (fun h0 => ?_) (fun h0 e1 e2 => ?_)
  · exact ge.1 1 (by omega)
  · obtain ⟨a1, q3⟩ := ifp0 h0 (by decide)
    obtain ⟨a2, q4⟩ := ifp0 q3 (by decide)
    obtain ⟨p1, q5⟩ := ifp0 q4 (by decide)
    obtain ⟨p2, q6⟩ := ifp0 q5 (by decide)
    have h6 : nC M.1 < 6 := by
      by_cases z : (F.1 0).1.1 1 < 6
      · rw [ge.1 1 (by omega)] at z; exact lt6_of hz.2.1 hz.2.2 z
      · rw [if_neg z] at q6; exact absurd q6 (by decide)
    have e1 : F2 = sG F 0 (addCh (F.1 0).1 n q, (F.1 0).2) := e1
    have e2 : M2 = mG M (addCh M.1 n q) := e2
    rw [e1, e2]
    exact h.gd mRs_G (e_addCh ge hz h6) (gz_addCh hz h6) (rg_addCh hg hz h6 (i_ab (a := 1) (b := 99) a1 a2) (i_0n (b := 9999) p1 p2)) (Nat.le_refl _) (Nat.le_refl _)
theorem st_tell {N : Nat} {F F2 : zF} {M M2 : zM} {r1 r2 : Option Value} (h : RR N F M) (hN : N ≤ 98000000) {a w v : Int32} (hx : (xpo F (kTell (F.1 0).1 a w v) ((F.1 0).1.2.2 a.toNatClampNeg w.toNatClampNeg) (fun F2 => F2 = sG F 0 (fCh (F.1 0) a.toNatClampNeg w.toNatClampNeg v))) r1 F2) (hm : (mpo M (kTell M.1 a w v) (M.1.2.2 a.toNatClampNeg w.toNatClampNeg) (fun M2 => M2 = mG M (gCh M.1 a.toNatClampNeg w.toNatClampNeg v))) r2 M2) : r1 = r2 ∧ RR (N) F2 M2 := by
  have ge := h.2.1
  have hz := h.z
  have hg := h.2.2.1
  have hok : okK (kTell (F.1 0).1 a w v) := by
    unfold kTell
    repeat' split
    all_goals first | exact Or.inl rfl | exact Or.inr (by decide)
  have hk : kTell M.1 a w v = kTell (F.1 0).1 a w v := (by simp only [kTell, ge.1 0 (by omega), ge.1 1 (by omega)])
  refine h.po (Nat.le_refl _) hk hok hx hm (fun h0 => ?_) (fun h0 e1 e2 => ?_)
  · obtain ⟨q1, q2⟩ := if0 h0 (by decide)
    obtain ⟨c, hc, ec, -⟩ := h.inC q1
    obtain ⟨w1, q3⟩ := ifp0 q2 (by decide)
    obtain ⟨w2, q4⟩ := ifp0 q3 (by decide)
    obtain ⟨q, hq1, hq2, eq⟩ := i_ab (a := 1) (b := 3) w1 w2
    rw [ec, eq, nI_clamp (by omega)]
    exact ge.2.2 c hc q (by omega)
  · obtain ⟨q1, q2⟩ := if0 h0 (by decide)
    obtain ⟨c, hc, ec, -⟩ := h.inC q1
    obtain ⟨w1, q3⟩ := ifp0 q2 (by decide)
    obtain ⟨w2, q4⟩ := ifp0 q3 (by decide)
    obtain ⟨v1, q5⟩ := ifp0 q4 (by decide)
    obtain ⟨v2, -⟩ := ifp0 q5 (by decide)
    obtain ⟨q, hq1, hq2, eq⟩ := i_ab (a := 1) (b := 3) w1 w2
    have ew : w.toNatClampNeg = q := by rw [eq]; exact nI_clamp (by omega)
    have hr : rg N (gCh M.1 a.toNatClampNeg w.toNatClampNeg v) := by
      rw [ew]
      have hq : q = 1 ∨ q = 2 ∨ q = 3 := by omega
      rcases hq with rfl | rfl | rfl
      · rw [if_neg (by rw [eq]; decide)] at v2; exact rg_c1 hg (i_0n (b := 9999) v1 v2)
      · rw [if_neg (by rw [eq]; decide)] at v2; exact rg_c2 hg (i_0n (b := 9999) v1 v2)
      · rw [if_pos (by rw [eq]; rfl)] at v2; exact rg_c3 hg (i_0n (b := 99) v1 v2)
    have e1 : F2 = sG F 0 (fCh (F.1 0) a.toNatClampNeg w.toNatClampNeg v) := e1
    have e2 : M2 = mG M (gCh M.1 a.toNatClampNeg w.toNatClampNeg v) := e2
    rw [e1, e2]
    exact h.gd mRs_G (e_ch ge) (gz_of rfl rfl hz) (hr) (Nat.le_refl _) (Nat.le_refl _)
theorem st_keeps {N : Nat} {F F2 : zF} {M M2 : zM} {r1 r2 : Option Value} (h : RR N F M) (hN : N ≤ 98000000) {a p : Int32} (hx : (xpo F (kKeeps (F.1 0).1 a p) ((F.1 0).1.2.2 a.toNatClampNeg 5) (fun F2 => F2 = sG F 0 (fCh (F.1 0) a.toNatClampNeg 5 p))) r1 F2) (hm : (mpo M (kKeeps M.1 a p) (M.1.2.2 a.toNatClampNeg 5) (fun M2 => M2 = mG M (gCh M.1 a.toNatClampNeg 5 p))) r2 M2) : r1 = r2 ∧ RR (N) F2 M2 := by
  have ge := h.2.1
  have hz := h.z
  have hg := h.2.2.1
  have hok : okK (kKeeps (F.1 0).1 a p) := by
    unfold kKeeps
    repeat' split
    all_goals first | exact Or.inl rfl | exact Or.inr (by decide)
  have hk : kKeeps M.1 a p = kKeeps (F.1 0).1 a p := (by simp only [kKeeps, ge.1 0 (by omega), ge.1 1 (by omega)])
  refine h.po (Nat.le_refl _) hk hok hx hm (fun h0 => ?_) (fun h0 e1 e2 => ?_)
  · obtain ⟨q1, q2⟩ := if0 h0 (by decide)
    obtain ⟨c, hc, ec, -⟩ := h.inC q1
    rw [ec]
    exact ge.2.2 c hc 5 (by omega)
  · have e1 : F2 = sG F 0 (fCh (F.1 0) a.toNatClampNeg 5 p) := e1
    have e2 : M2 = mG M (gCh M.1 a.toNatClampNeg 5 p) := e2
    rw [e1, e2]
    exact h.gd mRs_G (e_ch ge) (gz_of rfl rfl hz) (rg_c5 hg) (Nat.le_refl _) (Nat.le_refl _)
theorem st_ask {N : Nat} {F F2 : zF} {M M2 : zM} {r1 r2 : Option Value} (h : RR N F M) (hN : N ≤ 98000000) {w v : Int32} (hx : (xpo F (kAsk w v) (if w = 0 then (F.1 0).1.1 4 else (F.1 0).1.1 5) (fun F2 => F2 = sG F 0 (fSc (F.1 0) (if w = 0 then 4 else 5) v))) r1 F2) (hm : (mpo M (kAsk w v) (if w = 0 then M.1.1 4 else M.1.1 5) (fun M2 => M2 = mG M (gSc M.1 (if w = 0 then 4 else 5) v))) r2 M2) : r1 = r2 ∧ RR (N) F2 M2 := by
  have ge := h.2.1
  have hz := h.z
  have hg := h.2.2.1
  have hok : okK (kAsk w v) := by
    unfold kAsk
    repeat' split
    all_goals first | exact Or.inl rfl | exact Or.inr (by decide)
  have hk : kAsk w v = kAsk w v := rfl
  refine h.po (Nat.le_refl _) hk hok hx hm (fun h0 => ?_) (fun h0 e1 e2 => ?_)
  · rw [ge.1 4 (by omega), ge.1 5 (by omega)]
  · have hr : rg N (gSc M.1 (if w = 0 then 4 else 5) v) := by
      unfold kAsk at h0
      by_cases a : w = 0 ∧ inT v 99 = true
      · rw [if_pos a.1]; obtain ⟨x, hx9, e⟩ := inT_of (n := 99) a.2 (by omega); exact rg_k4 hg ⟨x, by omega, e⟩
      · rw [if_neg a] at h0
        by_cases b : w = 1 ∧ inT v 9999 = true
        · rw [if_neg (by rw [b.1]; decide)]; obtain ⟨x, hx9, e⟩ := inT_of (n := 9999) b.2 (by omega); exact rg_k5 hg ⟨x, by omega, e⟩
        · rw [if_neg b] at h0; exact absurd h0 (by decide)
    have hz2 : gz (gSc M.1 (if w = 0 then 4 else 5) v) := by split <;> exact gz_of rfl rfl hz
    have he2 : eqv (gSc (F.1 0).1 (if w = 0 then 4 else 5) v) (gSc M.1 (if w = 0 then 4 else 5) v) := by split <;> exact e_sc ge (by decide) (by decide)
    have hS2 : nS M.1 ≤ nS (gSc M.1 (if w = 0 then 4 else 5) v) := by split <;> exact Nat.le_refl _
    have e1 : F2 = sG F 0 (fSc (F.1 0) (if w = 0 then 4 else 5) v) := e1
    have e2 : M2 = mG M (gSc M.1 (if w = 0 then 4 else 5) v) := e2
    rw [e1, e2]
    exact h.gd mRs_G (he2) (hz2) (hr) (hS2) (Nat.le_refl _)
theorem st_does {N : Nat} {F F2 : zF} {M M2 : zM} {r1 r2 : Option Value} (h : RR N F M) (hN : N ≤ 98000000) {a d : Int32} (hx : (xpo F (kDoes (F.1 0).1 a d) 1 (fun F2 => F2 = sG F 0 (perf (F.1 0) a.toNatClampNeg d))) r1 F2) (hm : (mpo M (kDoes M.1 a d) 1 (fun M2 => M2 = mG M (makes M.1 a.toNatClampNeg d))) r2 M2) : r1 = r2 ∧ RR (N + 1) F2 M2 := by
  have ge := h.2.1
  have hz := h.z
  have hg := h.2.2.1
  have hok : okK (kDoes (F.1 0).1 a d) := by
    unfold kDoes
    repeat' split
    all_goals first | exact Or.inl rfl | exact Or.inr (by decide)
  have hk : kDoes M.1 a d = kDoes (F.1 0).1 a d := by
    unfold kDoes
    rw [← ge.1 1 (by omega)]
    by_cases q : inR a ((F.1 0).1.1 1) = true
    · obtain ⟨c, hc, ec, -⟩ := h.inC q
      rw [e_can ge hz (by rw [ec]; exact hc)]
    · rw [if_pos (by simpa using q), if_pos (by simpa using q)]
  refine h.po (by omega) hk hok hx hm (fun h0 => ?_) (fun h0 e1 e2 => ?_)
  · rfl
  · obtain ⟨q1, q2⟩ := if0 h0 (by decide)
    obtain ⟨c, hc, ec, -⟩ := h.inC q1
    have hcan : can (F.1 0).1 a.toNatClampNeg d = true := (if0 q2 (by decide)).1
    have hca : a.toNatClampNeg < nC M.1 := by rw [ec]; exact hc
    rw [e_can ge hz hca] at hcan
    have hdd := can_dd hz hcan
    have e1 : F2 = sG F 0 (perf (F.1 0) a.toNatClampNeg d) := e1
    have e2 : M2 = mG M (makes M.1 a.toNatClampNeg d) := e2
    rw [e1, e2]
    exact h.gd mRs_G (e_makes ge hz hca hdd) (sk_makes.z hz) (rg_makes hz hg (by omega) hca hcan) (by show nS M.1 ≤ nS (makes M.1 a.toNatClampNeg d); rw [sk_makes.S]; exact Nat.le_refl _) (by omega)
theorem st_minute {N : Nat} {F F2 : zF} {M M2 : zM} {r1 r2 : Option Value} (h : RR N F M) (hN : N ≤ 98000000) {rule : Int32} (hx : (xpo F (kRule rule) ((minutes rule 1 (F.1 0)).1.1 2) (fun F2 => F2 = sG F 0 (minutes rule 1 (F.1 0)))) r1 F2) (hm : (mpo M (kRule rule) ((run rule 1 M.1).1 2) (fun M2 => ∃ B, M2 = mB M (run rule 1 M.1) B)) r2 M2) : r1 = r2 ∧ RR (N + 6) F2 M2 := by
  have ge := h.2.1
  have hz := h.z
  have hg := h.2.2.1
  have hok : okK (kRule rule) := by
    unfold kRule
    repeat' split
    all_goals first | exact Or.inl rfl | exact Or.inr (by decide)
  have hk : kRule rule = kRule rule := rfl
  refine h.po (by omega) hk hok hx hm (fun h0 => ?_) (fun h0 e1 e2 => ?_)
  · exact (e_run (A := F.1 0) (rule := rule) (n := 1) ge hz).1 2 (by omega)
  · obtain ⟨B, e2⟩ := e2
    have e1 : F2 = sG F 0 (minutes rule 1 (F.1 0)) := e1
    rw [e1, e2]
    exact h.gd mRs_B (e_run (A := F.1 0) (rule := rule) (n := 1) ge hz) (sk_run.z hz) (rg_run (n := 1) hz hg (by omega)) (by show nS M.1 ≤ nS (run rule 1 M.1); rw [sk_run.S]; exact Nat.le_refl _) (by omega)
theorem st_afternoon {N : Nat} {F F2 : zF} {M M2 : zM} {r1 r2 : Option Value} (h : RR N F M) (hN : N ≤ 98000000) {n : Int32} (hx : (xpo F (kAft n) ((minsD n.toNatClampNeg (F.1 0)).1.1 6 - (F.1 0).1.1 6) (fun F2 => F2 = sG F 0 (minsD n.toNatClampNeg (F.1 0)))) r1 F2) (hm : (mpo M (kAft n) ((minsD n.toNatClampNeg (M.1, fun _ => 0, fun _ => 0)).1.1 6 - M.1.1 6) (fun M2 => ∃ B, M2 = mB M (minsD n.toNatClampNeg (M.1, fun _ => 0, fun _ => 0)).1 B)) r2 M2) : r1 = r2 ∧ RR (N + 1440) F2 M2 := by
  have ge := h.2.1
  have hz := h.z
  have hg := h.2.2.1
  have hok : okK (kAft n) := by
    unfold kAft
    repeat' split
    all_goals first | exact Or.inl rfl | exact Or.inr (by decide)
  have hk : kAft n = kAft n := rfl
  refine h.po (by omega) hk hok hx hm (fun h0 => ?_) (fun h0 e1 e2 => ?_)
  · have em := e_minsD (A := F.1 0) (B := (M.1, fun _ => 0, fun _ => 0)) (n := n.toNatClampNeg) ge hz
    rw [em.1 6 (by omega), ge.1 6 (by omega)]
  · obtain ⟨B, e2⟩ := e2
    have e1 : F2 = sG F 0 (minsD n.toNatClampNeg (F.1 0)) := e1
    have em := e_minsD (A := F.1 0) (B := (M.1, fun _ => 0, fun _ => 0)) (n := n.toNatClampNeg) ge hz
    obtain ⟨n1, q2⟩ := ifp0 h0 (by decide)
    obtain ⟨n2, -⟩ := ifp0 q2 (by decide)
    obtain ⟨x, hx1, hx2, ex⟩ := i_ab (a := 1) (b := 240) n1 n2
    have en : n.toNatClampNeg = x := by rw [ex]; exact nI_clamp (by omega)
    rw [e1, e2]
    exact h.gd mRs_B em (sk_minsD.z hz) ((rg_minsD hz hg (n := n.toNatClampNeg) (by omega)).up (show N + 6 * n.toNatClampNeg ≤ N + 1440 by omega)) (by show nS M.1 ≤ nS (minsD n.toNatClampNeg (M.1, fun _ => 0, fun _ => 0)).1; rw [sk_minsD.S]; exact Nat.le_refl _) (by omega)
theorem st_fault {N : Nat} {F F2 : zF} {M M2 : zM} {r1 r2 : Option Value} (h : RR N F M) (hN : N ≤ 98000000) (hx : (fun v F2 => v = some (.int (F.2.2.2 1 2)) ∧ F2 = F) r1 F2) (hm : (fun v M2 => v = some (.int (M.2.1 8)) ∧ M2 = M) r2 M2) : r1 = r2 ∧ RR (N) F2 M2 := by
  have ge := h.2.1
  have hz := h.z
  have hg := h.2.2.1
  obtain ⟨x1, x2⟩ := hx
  obtain ⟨m1, m2⟩ := hm
  rw [x1, m1, x2, m2]
  exact ⟨by rw [h.2.2.2.2.2.2.2.1], h⟩
theorem st_night {N : Nat} {F F2 : zF} {M M2 : zM} {r1 r2 : Option Value} (h : RR N F M) (hN : N ≤ 98000000) (hx : (fun v F2 => v = some (.int (nightL (F.1 0).1)) ∧ F2 = sG F 0 (nightG (F.1 0).1, (F.1 0).2)) r1 F2) (hm : (fun v M2 => v = some (.int (nightL M.1)) ∧ M2 = mG M (nightG M.1)) r2 M2) : r1 = r2 ∧ RR (N) F2 M2 := by
  have ge := h.2.1
  have hz := h.z
  have hg := h.2.2.1
  obtain ⟨x1, x2⟩ := hx
  obtain ⟨m1, m2⟩ := hm
  rw [x1, m1, x2, m2]
  exact ⟨by rw [e_nightL ge], h.gd mRs_G (e_nightG ge) (gz_night hz) (rg_night hg) (by show nS M.1 ≤ nS (nightG M.1); unfold nS; rw [show (nightG M.1).1 0 = M.1.1 0 from by show (nightS _ _).1 0 = _; rw [nightS_1, nightC_1]]; exact Nat.le_refl _) (Nat.le_refl _)⟩
theorem st_seed {N : Nat} {F F2 : zF} {M M2 : zM} {r1 r2 : Option Value} (h : RR N F M) (hN : N ≤ 98000000) {x : Int32} (hx : (fun v F2 => v = some (.int ((F.1 0).1.1 7)) ∧ F2 = sG F 0 (fSc (F.1 0) 7 x)) r1 F2) (hm : (fun v M2 => v = some (.int (M.1.1 7)) ∧ M2 = mG M (gSc M.1 7 x)) r2 M2) : r1 = r2 ∧ RR (N) F2 M2 := by
  have ge := h.2.1
  have hz := h.z
  have hg := h.2.2.1
  obtain ⟨x1, x2⟩ := hx
  obtain ⟨m1, m2⟩ := hm
  rw [x1, m1, x2, m2]
  exact ⟨by rw [ge.1 7 (by omega)], h.gd mRs_G (e_sc ge (by decide) (by decide)) (gz_of rfl rfl hz) (rg_k hg (by decide)) (Nat.le_refl _) (Nat.le_refl _)⟩
theorem st_status {N : Nat} {F F2 : zF} {M M2 : zM} {r1 r2 : Option Value} (h : RR N F M) (hN : N ≤ 98000000) {w : Int32} (hx : (fun v F2 => v = some (.int (aStatus (F.1 0).1 (F.2.2.2 3 0) (F.2.2.2 0) w)) ∧ F2 = F) r1 F2) (hm : (fun v M2 => v = some (.int (aStatus M.1 (M.2.1 46) (M.2.2.1 9) w)) ∧ M2 = M) r2 M2) : r1 = r2 ∧ RR (N) F2 M2 := by
  have ge := h.2.1
  have hz := h.z
  have hg := h.2.2.1
  obtain ⟨x1, x2⟩ := hx
  obtain ⟨m1, m2⟩ := hm
  obtain ⟨hI, -, -, s1, s2, s3, s4, s5, s6, s7, s8⟩ := id h
  rw [x1, m1, x2, m2]
  refine ⟨?_, h⟩
  unfold aStatus
  by_cases a : inR w 9 = true
  · rw [if_pos a, if_pos a]
    obtain ⟨q, hq, eq⟩ := inR_of (n := 9) a (by omega)
    by_cases w8 : w = 8
    · rw [if_pos w8, if_pos w8, s6]
    · rw [if_neg w8, if_neg w8, eq, nI_clamp (by omega)]
      have : q ≠ 8 := fun z => w8 (by rw [eq, z]; rfl)
      rw [ge.1 q (by omega)]
  · rw [if_neg a, if_neg a]
    by_cases b : ¬ w < 11 ∧ ¬ 17 < w
    · rw [if_pos b, if_pos b]
      obtain ⟨q, hq1, hq2, eq⟩ := i_ab (a := 11) (b := 17) b.1 b.2
      have ew : (w - 10).toNatClampNeg = q - 10 := by rw [eq, show (10 : Int32) = nI 10 from rfl, pk_sub (by omega)]; exact nI_clamp (by omega)
      rw [ew, s4 (q - 10) (by omega)]
    · rw [if_neg b, if_neg b]
theorem st_trace {N : Nat} {F F2 : zF} {M M2 : zM} {r1 r2 : Option Value} (h : RR N F M) (hN : N ≤ 98000000) {i : Int32} (hx : (fun v F2 => v = some (.int (aTrace (F.2.2.2 3 0) (F.2.2.2 4) i)) ∧ F2 = F) r1 F2) (hm : (fun v M2 => v = some (.int (aTrace (M.2.1 46) (M.2.2.1 45) i)) ∧ M2 = M) r2 M2) : r1 = r2 ∧ RR (N) F2 M2 := by
  have ge := h.2.1
  have hz := h.z
  have hg := h.2.2.1
  obtain ⟨x1, x2⟩ := hx
  obtain ⟨m1, m2⟩ := hm
  obtain ⟨hI, -, -, s1, s2, s3, s4, s5, s6, s7, s8⟩ := id h
  rw [x1, m1, x2, m2]
  refine ⟨?_, h⟩
  unfold aTrace
  by_cases a : inR i 20 = true
  · obtain ⟨q, hq, eq⟩ := inR_of (n := 20) a (by omega)
    rw [if_pos a, if_pos a, s6, eq, nI_clamp (by omega), s7 q hq]
  · rw [if_neg a, if_neg a]
