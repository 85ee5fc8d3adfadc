/-! what always holds of the class's state -/
def xsh (F : zF) (j : Nat) : Prop := (∃ n, n ≤ 160 ∧ F.2.1 j 1 = nI n) ∧ (F.2.1 j 0 = -1 ∨ (∃ p, p < nS (F.1 0).1 ∧ F.2.1 j 0 = nI p) ∨ (∃ o, o < 4 ∧ F.2.1 j 0 = nI (100 + o)))
def XI (F : zF) : Prop := gz (F.1 0).1 ∧ wn (F.1 0).1 ∧ ∀ j, j < 8 → xsh F j
theorem XI.th {F : zF} (h : XI F) (T : zGf) : XI (sG F 1 T) := h
theorem rfu_1 {F : zF} {x : Int32} : (rfu F x).1 = F.1 := by unfold rfu; split <;> rfl
theorem rfu_21 {F : zF} {x : Int32} : (rfu F x).2.1 = F.2.1 := by unfold rfu; split <;> rfl
theorem rfu_22 {F : zF} {x : Int32} : (rfu F x).2.2.1 = F.2.2.1 := by unfold rfu; split <;> rfl
theorem XI.rf {F : zF} (h : XI F) (x : Int32) : XI (rfu F x) := by unfold XI xsh; rw [rfu_1, rfu_21]; exact h
def xLay (F : zF) (j : Nat) (o n : Int32) : zF := sE (sV (sV F j 0 (100 + o)) j 1 n) j (fillN 160 (F.2.2.1 j) 0)
theorem hShop_nI {p : Nat} (h : p < 6) : hShop (nI p) = true := by
  have hp : p = 0 ∨ p = 1 ∨ p = 2 ∨ p = 3 ∨ p = 4 ∨ p = 5 := by omega
  rcases hp with rfl | rfl | rfl | rfl | rfl | rfl <;> decide
theorem hRow_nI {p : Nat} (h : p < 6) : hRow (nI p) = false := by
  have hp : p = 0 ∨ p = 1 ∨ p = 2 ∨ p = 3 ∨ p = 4 ∨ p = 5 := by omega
  rcases hp with rfl | rfl | rfl | rfl | rfl | rfl <;> decide
theorem hShop_row {o : Nat} (h : o < 4) : hShop (nI (100 + o)) = false ∧ hRow (nI (100 + o)) = true := by
  have hp : o = 0 ∨ o = 1 ∨ o = 2 ∨ o = 3 := by omega
  rcases hp with rfl | rfl | rfl | rfl <;> decide
theorem rTr_0 {F : zF} {j : Nat} (hj : j < 8) (hx : xsh F j) (hg : nS (F.1 0).1 ≤ 6) (h : rTr F (nI j) = 0) : ∃ o, o < 4 ∧ F.2.1 j 0 = nI (100 + o) := by
  unfold rTr at h
  rw [if_pos (show inR (nI j) 8 = true from inR_nI (n := 8) hj (by omega)), nI_clamp (by omega)] at h
  unfold sTr at h
  rcases hx.2 with e | ⟨p, hp, e⟩ | ho
  · rw [e] at h; exact absurd h (by decide)
  · rw [e, if_pos (hShop_nI (by omega))] at h; exact absurd h (by decide)
  · exact ho
theorem rTr_in {F : zF} {s : Int32} (h : rTr F s = 0) : ∃ j, j < 8 ∧ s = nI j := by
  unfold rTr at h
  split at h
  · exact inR_of (n := 8) (by assumption) (by omega)
  · exact absurd h (by decide)
theorem put_row {x : Int32} {o : Nat} (ho : o < 4) (h : x = nI (100 + o)) : x - 100 = 0 ∨ x - 100 = 1 ∨ x - 100 = 2 ∨ x - 100 = 3 := by
  subst h
  have hp : o = 0 ∨ o = 1 ∨ o = 2 ∨ o = 3 := by omega
  rcases hp with rfl | rfl | rfl | rfl <;> decide
