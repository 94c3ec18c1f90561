/-! the names: all that there must be; the invariant at the start -/
theorem lAll_hn0 : (2, 70, 14) ∉ lAll := by decide +kernel
theorem lAll_hn1 : (2, 71, 2) ∉ lAll := by decide +kernel
theorem lAll_ok : zL lAll := by
  intro n h
  obtain ⟨a, b, c⟩ := n
  have k1 : ∀ w, w < 2 → ∀ n ∈ ([(1, w, 0), (2, w, 24), (3, w, 0), (8, w, 0), (9, w, 0), (11, w, 0), (13, w, 0)] : List ZN), n ∈ lAll := by decide +kernel
  have e1 : ∀ w, w < 2 → (1, w, 0) ∈ lAll ∧ (2, w, 24) ∈ lAll ∧ (3, w, 0) ∈ lAll ∧ (8, w, 0) ∈ lAll ∧ (9, w, 0) ∈ lAll ∧ (11, w, 0) ∈ lAll ∧ (13, w, 0) ∈ lAll := fun w hw => ⟨k1 w hw _ (List.mem_of_getElem? (i := 0) rfl), k1 w hw _ (List.mem_of_getElem? (i := 1) rfl), k1 w hw _ (List.mem_of_getElem? (i := 2) rfl), k1 w hw _ (List.mem_of_getElem? (i := 3) rfl), k1 w hw _ (List.mem_of_getElem? (i := 4) rfl), k1 w hw _ (List.mem_of_getElem? (i := 5) rfl), k1 w hw _ (List.mem_of_getElem? (i := 6) rfl)⟩
  have k4 : ∀ w, w < 2 → ∀ b, b < 4 → (4, w, b) ∈ lAll := by decide +kernel
  have k5 : ∀ w, w < 2 → ∀ b, b < 4 → (5, w, b) ∈ lAll := by decide +kernel
  have e4 : ∀ w, w < 2 → ∀ b, b < 4 → (4, w, b) ∈ lAll ∧ (5, w, b) ∈ lAll := fun w hw b hb => ⟨k4 w hw b hb, k5 w hw b hb⟩
  have e6 : ∀ w, w < 2 → ∀ b, b < 16 → (6, w, b) ∈ lAll := by decide +kernel
  have e7 : ∀ w, w < 2 → ∀ b, b < 47 → (7, w, b) ∈ lAll := by decide +kernel
  have e10 : ∀ w, w < 2 → ∀ b, b < 30 → (10, w, b) ∈ lAll := by decide +kernel
  have k2 : ∀ w, w < 2 → ∀ n ∈ ([(2, 10 + 20 * w, 24), (2, 11 + 20 * w, 4), (2, 12 + 20 * w, 16), (2, 13 + 20 * w, 16), (2, 14 + 20 * w, 16), (2, 15 + 20 * w, 4), (2, 16 + 20 * w, 4), (2, 17 + 20 * w, 4), (2, 18 + 20 * w, 4), (2, 19 + 20 * w, 24), (2, 20 + 20 * w, 90), (2, 21 + 20 * w, 6)] : List ZN), n ∈ lAll := by decide +kernel
  have e2 : ∀ w, w < 2 → (2, 10 + 20 * w, 24) ∈ lAll ∧ (2, 11 + 20 * w, 4) ∈ lAll ∧ (2, 12 + 20 * w, 16) ∈ lAll ∧ (2, 13 + 20 * w, 16) ∈ lAll ∧ (2, 14 + 20 * w, 16) ∈ lAll ∧ (2, 15 + 20 * w, 4) ∈ lAll ∧ (2, 16 + 20 * w, 4) ∈ lAll ∧ (2, 17 + 20 * w, 4) ∈ lAll ∧ (2, 18 + 20 * w, 4) ∈ lAll ∧ (2, 19 + 20 * w, 24) ∈ lAll ∧ (2, 20 + 20 * w, 90) ∈ lAll ∧ (2, 21 + 20 * w, 6) ∈ lAll := fun w hw => ⟨k2 w hw _ (List.mem_of_getElem? (i := 0) rfl), k2 w hw _ (List.mem_of_getElem? (i := 1) rfl), k2 w hw _ (List.mem_of_getElem? (i := 2) rfl), k2 w hw _ (List.mem_of_getElem? (i := 3) rfl), k2 w hw _ (List.mem_of_getElem? (i := 4) rfl), k2 w hw _ (List.mem_of_getElem? (i := 5) rfl), k2 w hw _ (List.mem_of_getElem? (i := 6) rfl), k2 w hw _ (List.mem_of_getElem? (i := 7) rfl), k2 w hw _ (List.mem_of_getElem? (i := 8) rfl), k2 w hw _ (List.mem_of_getElem? (i := 9) rfl), k2 w hw _ (List.mem_of_getElem? (i := 10) rfl), k2 w hw _ (List.mem_of_getElem? (i := 11) rfl)⟩
  have e0 : (0, 0, 0) ∈ lAll ∧ (12, 0, 0) ∈ lAll ∧ (14, 0, 0) ∈ lAll ∧ (2, 60, 2) ∈ lAll := by decide +kernel
  by_cases ha : a ≤ 14
  · rcases (show a = 0 ∨ a = 1 ∨ a = 2 ∨ a = 3 ∨ a = 4 ∨ a = 5 ∨ a = 6 ∨ a = 7 ∨ a = 8 ∨ a = 9 ∨ a = 10 ∨ a = 11 ∨ a = 12 ∨ a = 13 ∨ a = 14 by omega) with rfl | rfl | rfl | rfl | rfl | rfl | rfl | rfl | rfl | rfl | rfl | rfl | rfl | rfl | rfl
    · have h : (b, c) = (0, 0) := h
      cases h
      exact e0.1
    · obtain ⟨h1, h2⟩ := (show b < 2 ∧ c = 0 from h)
      subst h2
      exact (e1 b h1).1
    · rcases (show zok2 b c from h) with ⟨h1, rfl⟩ | ⟨rfl, rfl⟩ | ⟨w, hw, h⟩
      · exact (e1 b h1).2.1
      · exact e0.2.2.2
      · obtain ⟨g0, g1, g2, g3, g4, g5, g6, g7, g8, g9, g10, g11⟩ := e2 w hw
        rcases h with ⟨rfl, rfl⟩ | ⟨rfl, rfl⟩ | ⟨rfl, rfl⟩ | ⟨rfl, rfl⟩ | ⟨rfl, rfl⟩ | ⟨rfl, rfl⟩ | ⟨rfl, rfl⟩ | ⟨rfl, rfl⟩ | ⟨rfl, rfl⟩ | ⟨rfl, rfl⟩ | ⟨rfl, rfl⟩ | ⟨rfl, rfl⟩ <;> assumption
    · obtain ⟨h1, h2⟩ := (show b < 2 ∧ c = 0 from h)
      subst h2
      exact (e1 b h1).2.2.1
    · obtain ⟨h1, h2⟩ := (show b < 2 ∧ c < 4 from h)
      exact (e4 b h1 c h2).1
    · obtain ⟨h1, h2⟩ := (show b < 2 ∧ c < 4 from h)
      exact (e4 b h1 c h2).2
    · obtain ⟨h1, h2⟩ := (show b < 2 ∧ c < 16 from h)
      exact e6 b h1 c h2
    · obtain ⟨h1, h2⟩ := (show b < 2 ∧ c < 47 from h)
      exact e7 b h1 c h2
    · obtain ⟨h1, h2⟩ := (show b < 2 ∧ c = 0 from h)
      subst h2
      exact (e1 b h1).2.2.2.1
    · obtain ⟨h1, h2⟩ := (show b < 2 ∧ c = 0 from h)
      subst h2
      exact (e1 b h1).2.2.2.2.1
    · obtain ⟨h1, h2⟩ := (show b < 2 ∧ c < 30 from h)
      exact e10 b h1 c h2
    · obtain ⟨h1, h2⟩ := (show b < 2 ∧ c = 0 from h)
      subst h2
      exact (e1 b h1).2.2.2.2.2.1
    · have h : (b, c) = (0, 0) := h
      cases h
      exact e0.2.1
    · obtain ⟨h1, h2⟩ := (show b < 2 ∧ c = 0 from h)
      subst h2
      exact (e1 b h1).2.2.2.2.2.2
    · have h : (b, c) = (0, 0) := h
      cases h
      exact e0.2.2.1
  · exfalso
    unfold zok at h
    split at h <;> first | exact h | (rename_i q; have q : a = _ := q; omega)
/-- the invariant where nothing was called yet -/
theorem RQ_0 : RQ km0 km0 0 0 (fun _ => 0) (fun _ => 0) 0 0 0 := by
  have hL : tL km0 km0 0 0 0 := ⟨rfl, by decide, rfl, rfl, by decide, fun j hj => absurd hj (Nat.not_lt_zero j)⟩
  refine ⟨by decide, ⟨rfl, rfl, by decide, rfl, rfl, ⟨10000, by decide, rfl, rfl⟩, ⟨5, by decide, rfl, rfl⟩, fun h hh => ⟨200, by decide, rfl, rfl⟩, fun u hu => ⟨0, 0, by decide, rfl, rfl, rfl, rfl⟩, ⟨0, 0, hL⟩, 0, fun _ => 0, rfl, rfl, fun b hb => absurd hb (Nat.not_lt_zero b), Nat.le_refl 0⟩, hL, fun b _ _ => ⟨rfl, rfl, rfl, rfl, rfl, rfl, rfl, fun o j _ _ _ => rfl, rfl, rfl, rfl, fun j _ _ => rfl⟩, fun b k _ _ _ => rfl, ⟨0, 0, 0, 0, 0, rfl, rfl, rfl, rfl, rfl, rfl, rfl, rfl, rfl, rfl, Nat.le_refl 0⟩, fun b _ => ⟨0, 0, rfl, by decide, rfl, by decide⟩⟩
