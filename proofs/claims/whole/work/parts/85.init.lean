/-! the start: what the constructors leave is the two systems, and they agree -/
theorem ini_RR : RR 0 ini_F ini_M := by
  have hS : nS ini_M.1 = 0 := by decide
  have hC : nC ini_M.1 = 0 := by decide
  have hC2 : nC (ini_F.1 0).1 = 0 := by decide
  refine ⟨⟨⟨⟨by decide, by decide⟩, ⟨by decide, by decide⟩⟩, fun c hc => ?_, fun j hj => ⟨⟨0, by omega, nI_0.symm⟩, Or.inl rfl⟩⟩, ⟨fun k hk => rfl, fun s hs => ?_, fun c hc => ?_⟩, ⟨fun s hs => ?_, fun c hc => ?_, ⟨5, by omega, by decide⟩, ⟨999, by omega, by decide⟩, ⟨0, Nat.le_refl _, by decide⟩⟩, fun j hj => Or.inl ⟨rfl, rfl⟩, fun j hj => ⟨0, by omega, nI_0.symm⟩, fun j hj => ⟨0, by omega, nI_0.symm⟩, fun j hj => rfl, rfl, rfl, fun i hi => rfl, ⟨rfl, fun h => absurd rfl h⟩, fun i hi => rfl, fun i hi => rfl⟩
  · rw [hC2] at hc; exact absurd hc (Nat.not_lt_zero _)
  · rw [hS] at hs; exact absurd hs (Nat.not_lt_zero _)
  · rw [hC] at hc; exact absurd hc (Nat.not_lt_zero _)
  · rw [hS] at hs; exact absurd hs (Nat.not_lt_zero _)
  · rw [hC] at hc; exact absurd hc (Nat.not_lt_zero _)
theorem xfin_len {E : zE} : (xfin E).length = 83 := by unfold xfin; simp
theorem madr_add (m : Nat) (k : zKey) : madr m k = m + madr 0 k := by
  obtain ⟨f, i, j⟩ := k
  cases f with
  | zero => show m = m + 0; omega
  | succ f => show m + moff i = m + (0 + moff i); omega
theorem mky_of {k : zKey} (h : mok k) : mky (madr 0 k) = k ∧ madr 0 k < 31 := by
  obtain ⟨f, i, j⟩ := k
  rcases mok_in h with ⟨rfl, rfl, rfl⟩ | ⟨rfl, h1, rfl⟩ | ⟨rfl, h1, rfl⟩
  · exact ⟨by decide, by decide⟩
  · unfold mIs at h1
    have h2 : i = 9 ∨ i = 10 ∨ i = 11 ∨ i = 12 ∨ i = 13 ∨ i = 14 ∨ i = 15 ∨ i = 16 ∨ i = 17 ∨ i = 18 ∨ i = 19 ∨ i = 20 ∨ i = 21 ∨ i = 22 ∨ i = 23 ∨ i = 24 ∨ i = 27 ∨ i = 28 ∨ i = 29 ∨ i = 35 ∨ i = 36 ∨ i = 37 ∨ i = 38 ∨ i = 40 ∨ i = 41 ∨ i = 42 ∨ i = 43 ∨ i = 45 := by omega
    clear h1 h
    rcases h2 with rfl | rfl | rfl | rfl | rfl | rfl | rfl | rfl | rfl | rfl | rfl | rfl | rfl | rfl | rfl | rfl | rfl | rfl | rfl | rfl | rfl | rfl | rfl | rfl | rfl | rfl | rfl | rfl <;> exact ⟨by decide, by decide⟩
  · rcases h1 with rfl | rfl <;> exact ⟨by decide, by decide⟩
theorem ini_cel {E : zE} {H : Heap} (h : gP E E.2.2.1 (xfin E ++ mfin (E2 E)) H) : zCel E (adrC E) (cellC E) okC (ini_F, ini_M) H := by
  refine cel_of (fun k hk => ?_) (fun k hk => ?_)
  · obtain ⟨f, i, j⟩ := k
    obtain ⟨h1, h2, h3, h4⟩ := xok_kb hk
    obtain ⟨e1, e2⟩ := xkey_of h1 h2 h3 h4
    have h5 := h.2 (xadr 0 (f, i, j)) (xcell E ini_F (f, i, j)) (by
      rw [List.getElem?_append_left (by rw [xfin_len]; exact e2)]
      unfold xfin
      rw [List.getElem?_map, List.getElem?_range e2, Option.map_some, e1])
    rw [← xadr_add] at h5
    exact h5
  · obtain ⟨e1, e2⟩ := mky_of hk
    have h5 := h.2 (83 + madr 0 k) (mcell (E2 E) ini_M k) (by
      rw [List.getElem?_append_right (by rw [xfin_len]; omega), xfin_len, show 83 + madr 0 k - 83 = madr 0 k by omega]
      unfold mfin
      rw [List.getElem?_map, List.getElem?_range e2, Option.map_some, e1])
    have h6 : madr (E2 E).2.2.1 k = E.2.2.1 + (83 + madr 0 k) := by
      rw [madr_add]
      show E.2.2.1 + 83 + madr 0 k = _
      omega
    rw [← h6] at h5
    exact h5
