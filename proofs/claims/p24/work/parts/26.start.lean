theorem iX_0 : ∀ j : Nat, (bX 0 j).1 ≤ σX 0 j ∧ σX 0 j ≤ (bX 0 j).2 := by
  intro j
  by_cases h : j < 11
  · exact (by decide +kernel : ∀ j : Nat, j < 11 → (bX 0 j).1 ≤ σX 0 j ∧ σX 0 j ≤ (bX 0 j).2) j h
  · have e1 : bX 0 j = (-2147483648, 2147483647) := by
      show List.getD _ j _ = _
      rw [List.getD_eq_getElem?_getD, List.getElem?_eq_none (by show 11 ≤ j; omega)]; rfl
    have e2 : σX 0 j = 0 := by
      have hh : ¬ j < 11 := h
      simp only [σX]
      first | rfl | (simp; omega) | (repeat rw [if_neg (by omega)])
    rw [e1, e2]; decide
theorem iX_1 : ∀ j : Nat, (bX 1 j).1 ≤ σX 1 j ∧ σX 1 j ≤ (bX 1 j).2 := fun j => show (-128 : Int) ≤ 0 ∧ (0 : Int) ≤ 127 from ⟨by decide, by decide⟩
theorem iX_2 : ∀ j : Nat, (bX 2 j).1 ≤ σX 2 j ∧ σX 2 j ≤ (bX 2 j).2 := by
  intro j
  by_cases h : j < 3
  · exact (by decide +kernel : ∀ j : Nat, j < 3 → (bX 2 j).1 ≤ σX 2 j ∧ σX 2 j ≤ (bX 2 j).2) j h
  · have e1 : bX 2 j = (-2147483648, 2147483647) := by
      show List.getD _ j _ = _
      rw [List.getD_eq_getElem?_getD, List.getElem?_eq_none (by show 3 ≤ j; omega)]; rfl
    have e2 : σX 2 j = 0 := by
      have hh : ¬ j < 3 := h
      simp only [σX]
      first | rfl | (simp; omega) | (repeat rw [if_neg (by omega)])
    rw [e1, e2]; decide
theorem iX_3 : ∀ j : Nat, (bX 3 j).1 ≤ σX 3 j ∧ σX 3 j ≤ (bX 3 j).2 := by
  intro j
  by_cases h : j < 7
  · exact (by decide +kernel : ∀ j : Nat, j < 7 → (bX 3 j).1 ≤ σX 3 j ∧ σX 3 j ≤ (bX 3 j).2) j h
  · have e1 : bX 3 j = (-2147483648, 2147483647) := by
      show List.getD _ j _ = _
      rw [List.getD_eq_getElem?_getD, List.getElem?_eq_none (by show 7 ≤ j; omega)]; rfl
    have e2 : σX 3 j = 0 := by
      have hh : ¬ j < 7 := h
      simp only [σX]
      first | rfl | (simp; omega) | (repeat rw [if_neg (by omega)])
    rw [e1, e2]; decide
theorem iX_4 : ∀ j : Nat, (bX 4 j).1 ≤ σX 4 j ∧ σX 4 j ≤ (bX 4 j).2 := fun j => show (0 : Int) ≤ 0 ∧ (0 : Int) ≤ 99 from ⟨by decide, by decide⟩
theorem iX_5 : ∀ j : Nat, (bX 5 j).1 ≤ σX 5 j ∧ σX 5 j ≤ (bX 5 j).2 := fun j => show (0 : Int) ≤ 0 ∧ (0 : Int) ≤ 99 from ⟨by decide, by decide⟩
theorem iX_6 : ∀ j : Nat, (bX 6 j).1 ≤ σX 6 j ∧ σX 6 j ≤ (bX 6 j).2 := fun j => show (0 : Int) ≤ 0 ∧ (0 : Int) ≤ 99 from ⟨by decide, by decide⟩
theorem iX_7 : ∀ j : Nat, (bX 7 j).1 ≤ σX 7 j ∧ σX 7 j ≤ (bX 7 j).2 := fun j => show (-2147483648 : Int) ≤ 0 ∧ (0 : Int) ≤ 2147483647 from ⟨by decide, by decide⟩
theorem iX_8 : ∀ j : Nat, (bX 8 j).1 ≤ σX 8 j ∧ σX 8 j ≤ (bX 8 j).2 := by
  intro j
  by_cases h : j < 9
  · exact (by decide +kernel : ∀ j : Nat, j < 9 → (bX 8 j).1 ≤ σX 8 j ∧ σX 8 j ≤ (bX 8 j).2) j h
  · have e1 : bX 8 j = (-2147483648, 2147483647) := by
      show List.getD _ j _ = _
      rw [List.getD_eq_getElem?_getD, List.getElem?_eq_none (by show 9 ≤ j; omega)]; rfl
    have e2 : σX 8 j = 0 := by
      have hh : ¬ j < 9 := h
      simp only [σX]
      first | rfl | (simp; omega) | (repeat rw [if_neg (by omega)])
    rw [e1, e2]; decide
theorem iX_9 : ∀ j : Nat, (bX 9 j).1 ≤ σX 9 j ∧ σX 9 j ≤ (bX 9 j).2 := by
  intro j
  by_cases h : j < 9
  · exact (by decide +kernel : ∀ j : Nat, j < 9 → (bX 9 j).1 ≤ σX 9 j ∧ σX 9 j ≤ (bX 9 j).2) j h
  · have e1 : bX 9 j = (-2147483648, 2147483647) := by
      show List.getD _ j _ = _
      rw [List.getD_eq_getElem?_getD, List.getElem?_eq_none (by show 9 ≤ j; omega)]; rfl
    have e2 : σX 9 j = 0 := by
      have hh : ¬ j < 9 := h
      simp only [σX]
      first | rfl | (simp; omega) | (repeat rw [if_neg (by omega)])
    rw [e1, e2]; decide
theorem iX_10 : ∀ j : Nat, (bX 10 j).1 ≤ σX 10 j ∧ σX 10 j ≤ (bX 10 j).2 := by
  intro j
  by_cases h : j < 9
  · exact (by decide +kernel : ∀ j : Nat, j < 9 → (bX 10 j).1 ≤ σX 10 j ∧ σX 10 j ≤ (bX 10 j).2) j h
  · have e1 : bX 10 j = (-2147483648, 2147483647) := by
      show List.getD _ j _ = _
      rw [List.getD_eq_getElem?_getD, List.getElem?_eq_none (by show 9 ≤ j; omega)]; rfl
    have e2 : σX 10 j = 0 := by
      have hh : ¬ j < 9 := h
      simp only [σX]
      first | rfl | (simp; omega) | (repeat rw [if_neg (by omega)])
    rw [e1, e2]; decide
theorem iX_11 : ∀ j : Nat, (bX 11 j).1 ≤ σX 11 j ∧ σX 11 j ≤ (bX 11 j).2 := by
  intro j
  by_cases h : j < 9
  · exact (by decide +kernel : ∀ j : Nat, j < 9 → (bX 11 j).1 ≤ σX 11 j ∧ σX 11 j ≤ (bX 11 j).2) j h
  · have e1 : bX 11 j = (-2147483648, 2147483647) := by
      show List.getD _ j _ = _
      rw [List.getD_eq_getElem?_getD, List.getElem?_eq_none (by show 9 ≤ j; omega)]; rfl
    have e2 : σX 11 j = 0 := by
      have hh : ¬ j < 9 := h
      simp only [σX]
      first | rfl | (simp; omega) | (repeat rw [if_neg (by omega)])
    rw [e1, e2]; decide
theorem iX_12 : ∀ j : Nat, (bX 12 j).1 ≤ σX 12 j ∧ σX 12 j ≤ (bX 12 j).2 := by
  intro j
  by_cases h : j < 4
  · exact (by decide +kernel : ∀ j : Nat, j < 4 → (bX 12 j).1 ≤ σX 12 j ∧ σX 12 j ≤ (bX 12 j).2) j h
  · have e1 : bX 12 j = (-2147483648, 2147483647) := by
      show List.getD _ j _ = _
      rw [List.getD_eq_getElem?_getD, List.getElem?_eq_none (by show 4 ≤ j; omega)]; rfl
    have e2 : σX 12 j = 0 := by
      have hh : ¬ j < 4 := h
      simp only [σX]
      first | rfl | (simp; omega) | (repeat rw [if_neg (by omega)])
    rw [e1, e2]; decide
theorem iX_13 : ∀ j : Nat, (bX 13 j).1 ≤ σX 13 j ∧ σX 13 j ≤ (bX 13 j).2 := fun j => show (-10000 : Int) ≤ 0 ∧ (0 : Int) ≤ 10000 from ⟨by decide, by decide⟩
theorem iX_14 : ∀ j : Nat, (bX 14 j).1 ≤ σX 14 j ∧ σX 14 j ≤ (bX 14 j).2 := fun j => show (0 : Int) ≤ 0 ∧ (0 : Int) ≤ 99 from ⟨by decide, by decide⟩
theorem iX_15 : ∀ j : Nat, (bX 15 j).1 ≤ σX 15 j ∧ σX 15 j ≤ (bX 15 j).2 := by
  intro j
  by_cases h : j < 15
  · exact (by decide +kernel : ∀ j : Nat, j < 15 → (bX 15 j).1 ≤ σX 15 j ∧ σX 15 j ≤ (bX 15 j).2) j h
  · have e1 : bX 15 j = (-2147483648, 2147483647) := by
      show List.getD _ j _ = _
      rw [List.getD_eq_getElem?_getD, List.getElem?_eq_none (by show 15 ≤ j; omega)]; rfl
    have e2 : σX 15 j = 0 := by
      have hh : ¬ j < 15 := h
      simp only [σX]
      first | rfl | (simp; omega) | (repeat rw [if_neg (by omega)])
    rw [e1, e2]; decide
theorem iX_16 : ∀ j : Nat, (bX 16 j).1 ≤ σX 16 j ∧ σX 16 j ≤ (bX 16 j).2 := by
  intro j
  by_cases h : j < 5
  · exact (by decide +kernel : ∀ j : Nat, j < 5 → (bX 16 j).1 ≤ σX 16 j ∧ σX 16 j ≤ (bX 16 j).2) j h
  · have e1 : bX 16 j = (-2147483648, 2147483647) := by
      show List.getD _ j _ = _
      rw [List.getD_eq_getElem?_getD, List.getElem?_eq_none (by show 5 ≤ j; omega)]; rfl
    have e2 : σX 16 j = 0 := by
      have hh : ¬ j < 5 := h
      simp only [σX]
      first | rfl | (simp; omega) | (repeat rw [if_neg (by omega)])
    rw [e1, e2]; decide
theorem iX_17 : ∀ j : Nat, (bX 17 j).1 ≤ σX 17 j ∧ σX 17 j ≤ (bX 17 j).2 := fun j => show (-2147483648 : Int) ≤ 0 ∧ (0 : Int) ≤ 2147483647 from ⟨by decide, by decide⟩
theorem iX_18 : ∀ j : Nat, (bX 18 j).1 ≤ σX 18 j ∧ σX 18 j ≤ (bX 18 j).2 := fun j => show (0 : Int) ≤ 0 ∧ (0 : Int) ≤ 500 from ⟨by decide, by decide⟩
theorem iX_19 : ∀ j : Nat, (bX 19 j).1 ≤ σX 19 j ∧ σX 19 j ≤ (bX 19 j).2 := fun j => show (0 : Int) ≤ 0 ∧ (0 : Int) ≤ 1000 from ⟨by decide, by decide⟩
theorem iX_20 : ∀ j : Nat, (bX 20 j).1 ≤ σX 20 j ∧ σX 20 j ≤ (bX 20 j).2 := fun j => show (0 : Int) ≤ 0 ∧ (0 : Int) ≤ 10 from ⟨by decide, by decide⟩
theorem iX_21 : ∀ j : Nat, (bX 21 j).1 ≤ σX 21 j ∧ σX 21 j ≤ (bX 21 j).2 := fun j => show (0 : Int) ≤ 0 ∧ (0 : Int) ≤ 99 from ⟨by decide, by decide⟩
theorem iX_22 : ∀ j : Nat, (bX 22 j).1 ≤ σX 22 j ∧ σX 22 j ≤ (bX 22 j).2 := fun j => show (0 : Int) ≤ 0 ∧ (0 : Int) ≤ 7 from ⟨by decide, by decide⟩
theorem iX_23 : ∀ j : Nat, (bX 23 j).1 ≤ σX 23 j ∧ σX 23 j ≤ (bX 23 j).2 := fun j => show (0 : Int) ≤ 0 ∧ (0 : Int) ≤ 60 from ⟨by decide, by decide⟩
theorem iX_24 : ∀ j : Nat, (bX 24 j).1 ≤ σX 24 j ∧ σX 24 j ≤ (bX 24 j).2 := fun j => show (-1 : Int) ≤ 0 ∧ (0 : Int) ≤ 7 from ⟨by decide, by decide⟩
theorem iX_25 : ∀ j : Nat, (bX 25 j).1 ≤ σX 25 j ∧ σX 25 j ≤ (bX 25 j).2 := fun j => show (-999 : Int) ≤ 0 ∧ (0 : Int) ≤ 999 from ⟨by decide, by decide⟩
theorem iX_26 : ∀ j : Nat, (bX 26 j).1 ≤ σX 26 j ∧ σX 26 j ≤ (bX 26 j).2 := fun j => show (0 : Int) ≤ 0 ∧ (0 : Int) ≤ 59 from ⟨by decide, by decide⟩
theorem iX_27 : ∀ j : Nat, (bX 27 j).1 ≤ σX 27 j ∧ σX 27 j ≤ (bX 27 j).2 := by
  intro j
  by_cases h : j < 7
  · exact (by decide +kernel : ∀ j : Nat, j < 7 → (bX 27 j).1 ≤ σX 27 j ∧ σX 27 j ≤ (bX 27 j).2) j h
  · have e1 : bX 27 j = (-2147483648, 2147483647) := by
      show List.getD _ j _ = _
      rw [List.getD_eq_getElem?_getD, List.getElem?_eq_none (by show 7 ≤ j; omega)]; rfl
    have e2 : σX 27 j = 0 := by
      have hh : ¬ j < 7 := h
      simp only [σX]
      first | rfl | (simp; omega) | (repeat rw [if_neg (by omega)])
    rw [e1, e2]; decide
theorem iX_28 : ∀ j : Nat, (bX 28 j).1 ≤ σX 28 j ∧ σX 28 j ≤ (bX 28 j).2 := fun j => show (0 : Int) ≤ 0 ∧ (0 : Int) ≤ 99 from ⟨by decide, by decide⟩
theorem iX_29 : ∀ j : Nat, (bX 29 j).1 ≤ σX 29 j ∧ σX 29 j ≤ (bX 29 j).2 := by
  intro j
  by_cases h : j < 6
  · exact (by decide +kernel : ∀ j : Nat, j < 6 → (bX 29 j).1 ≤ σX 29 j ∧ σX 29 j ≤ (bX 29 j).2) j h
  · have e1 : bX 29 j = (-2147483648, 2147483647) := by
      show List.getD _ j _ = _
      rw [List.getD_eq_getElem?_getD, List.getElem?_eq_none (by show 6 ≤ j; omega)]; rfl
    have e2 : σX 29 j = 0 := by
      have hh : ¬ j < 6 := h
      simp only [σX]
      first | rfl | (simp; omega) | (repeat rw [if_neg (by omega)])
    rw [e1, e2]; decide
theorem iX_30 : ∀ j : Nat, (bX 30 j).1 ≤ σX 30 j ∧ σX 30 j ≤ (bX 30 j).2 := fun j => show (0 : Int) ≤ 0 ∧ (0 : Int) ≤ 1 from ⟨by decide, by decide⟩
theorem iX_31 : ∀ j : Nat, (bX 31 j).1 ≤ σX 31 j ∧ σX 31 j ≤ (bX 31 j).2 := fun j => show (-10 : Int) ≤ 0 ∧ (0 : Int) ≤ 99 from ⟨by decide, by decide⟩
theorem iX_32 : ∀ j : Nat, (bX 32 j).1 ≤ σX 32 j ∧ σX 32 j ≤ (bX 32 j).2 := by
  intro j
  by_cases h : j < 13
  · exact (by decide +kernel : ∀ j : Nat, j < 13 → (bX 32 j).1 ≤ σX 32 j ∧ σX 32 j ≤ (bX 32 j).2) j h
  · have e1 : bX 32 j = (-2147483648, 2147483647) := by
      show List.getD _ j _ = _
      rw [List.getD_eq_getElem?_getD, List.getElem?_eq_none (by show 13 ≤ j; omega)]; rfl
    have e2 : σX 32 j = 0 := by
      have hh : ¬ j < 13 := h
      simp only [σX]
      first | rfl | (simp; omega) | (repeat rw [if_neg (by omega)])
    rw [e1, e2]; decide
theorem iX_33 : ∀ j : Nat, (bX 33 j).1 ≤ σX 33 j ∧ σX 33 j ≤ (bX 33 j).2 := by
  intro j
  by_cases h : j < 7
  · exact (by decide +kernel : ∀ j : Nat, j < 7 → (bX 33 j).1 ≤ σX 33 j ∧ σX 33 j ≤ (bX 33 j).2) j h
  · have e1 : bX 33 j = (-2147483648, 2147483647) := by
      show List.getD _ j _ = _
      rw [List.getD_eq_getElem?_getD, List.getElem?_eq_none (by show 7 ≤ j; omega)]; rfl
    have e2 : σX 33 j = 0 := by
      have hh : ¬ j < 7 := h
      simp only [σX]
      first | rfl | (simp; omega) | (repeat rw [if_neg (by omega)])
    rw [e1, e2]; decide
theorem iX_34 : ∀ j : Nat, (bX 34 j).1 ≤ σX 34 j ∧ σX 34 j ≤ (bX 34 j).2 := fun j => show (0 : Int) ≤ 0 ∧ (0 : Int) ≤ 99 from ⟨by decide, by decide⟩
theorem iX_35 : ∀ j : Nat, (bX 35 j).1 ≤ σX 35 j ∧ σX 35 j ≤ (bX 35 j).2 := fun j => show (0 : Int) ≤ 0 ∧ (0 : Int) ≤ 99 from ⟨by decide, by decide⟩
theorem iX_36 : ∀ j : Nat, (bX 36 j).1 ≤ σX 36 j ∧ σX 36 j ≤ (bX 36 j).2 := fun j => show (0 : Int) ≤ 0 ∧ (0 : Int) ≤ 99 from ⟨by decide, by decide⟩
theorem iX_37 : ∀ j : Nat, (bX 37 j).1 ≤ σX 37 j ∧ σX 37 j ≤ (bX 37 j).2 := fun j => show (-2147483648 : Int) ≤ 0 ∧ (0 : Int) ≤ 2147483647 from ⟨by decide, by decide⟩
theorem iX_38 : ∀ j : Nat, (bX 38 j).1 ≤ σX 38 j ∧ σX 38 j ≤ (bX 38 j).2 := fun j => show (-10 : Int) ≤ 0 ∧ (0 : Int) ≤ 99 from ⟨by decide, by decide⟩
theorem iX_39 : ∀ j : Nat, (bX 39 j).1 ≤ σX 39 j ∧ σX 39 j ≤ (bX 39 j).2 := fun j => show (-10 : Int) ≤ 0 ∧ (0 : Int) ≤ 99 from ⟨by decide, by decide⟩
theorem iX_40 : ∀ j : Nat, (bX 40 j).1 ≤ σX 40 j ∧ σX 40 j ≤ (bX 40 j).2 := fun j => show (-10 : Int) ≤ 0 ∧ (0 : Int) ≤ 99 from ⟨by decide, by decide⟩
theorem iX_41 : ∀ j : Nat, (bX 41 j).1 ≤ σX 41 j ∧ σX 41 j ≤ (bX 41 j).2 := fun j => show (-10 : Int) ≤ 0 ∧ (0 : Int) ≤ 99 from ⟨by decide, by decide⟩
theorem iX_42 : ∀ j : Nat, (bX 42 j).1 ≤ σX 42 j ∧ σX 42 j ≤ (bX 42 j).2 := fun j => show (0 : Int) ≤ 0 ∧ (0 : Int) ≤ 100 from ⟨by decide, by decide⟩
theorem iX_43 : ∀ j : Nat, (bX 43 j).1 ≤ σX 43 j ∧ σX 43 j ≤ (bX 43 j).2 := fun j => show (0 : Int) ≤ 0 ∧ (0 : Int) ≤ 100 from ⟨by decide, by decide⟩
theorem iX_44 : ∀ j : Nat, (bX 44 j).1 ≤ σX 44 j ∧ σX 44 j ≤ (bX 44 j).2 := by
  intro j
  by_cases h : j < 4
  · exact (by decide +kernel : ∀ j : Nat, j < 4 → (bX 44 j).1 ≤ σX 44 j ∧ σX 44 j ≤ (bX 44 j).2) j h
  · have e1 : bX 44 j = (-2147483648, 2147483647) := by
      show List.getD _ j _ = _
      rw [List.getD_eq_getElem?_getD, List.getElem?_eq_none (by show 4 ≤ j; omega)]; rfl
    have e2 : σX 44 j = 0 := by
      have hh : ¬ j < 4 := h
      simp only [σX]
      first | rfl | (simp; omega) | (repeat rw [if_neg (by omega)])
    rw [e1, e2]; decide
theorem iX_45 : ∀ j : Nat, (bX 45 j).1 ≤ σX 45 j ∧ σX 45 j ≤ (bX 45 j).2 := fun j => show (0 : Int) ≤ 0 ∧ (0 : Int) ≤ 3 from ⟨by decide, by decide⟩
theorem iX_46 : ∀ j : Nat, (bX 46 j).1 ≤ σX 46 j ∧ σX 46 j ≤ (bX 46 j).2 := fun j => show (0 : Int) ≤ 0 ∧ (0 : Int) ≤ 999 from ⟨by decide, by decide⟩
theorem iX_47 : ∀ j : Nat, (bX 47 j).1 ≤ σX 47 j ∧ σX 47 j ≤ (bX 47 j).2 := fun j => show (0 : Int) ≤ 0 ∧ (0 : Int) ≤ 99 from ⟨by decide, by decide⟩
theorem iX_48 : ∀ j : Nat, (bX 48 j).1 ≤ σX 48 j ∧ σX 48 j ≤ (bX 48 j).2 := by
  intro j
  by_cases h : j < 9
  · exact (by decide +kernel : ∀ j : Nat, j < 9 → (bX 48 j).1 ≤ σX 48 j ∧ σX 48 j ≤ (bX 48 j).2) j h
  · have e1 : bX 48 j = (-2147483648, 2147483647) := by
      show List.getD _ j _ = _
      rw [List.getD_eq_getElem?_getD, List.getElem?_eq_none (by show 9 ≤ j; omega)]; rfl
    have e2 : σX 48 j = 0 := by
      have hh : ¬ j < 9 := h
      simp only [σX]
      first | rfl | (simp; omega) | (repeat rw [if_neg (by omega)])
    rw [e1, e2]; decide
theorem iX_49 : ∀ j : Nat, (bX 49 j).1 ≤ σX 49 j ∧ σX 49 j ≤ (bX 49 j).2 := fun j => show (-1 : Int) ≤ 0 ∧ (0 : Int) ≤ 5 from ⟨by decide, by decide⟩
theorem iX_50 : ∀ j : Nat, (bX 50 j).1 ≤ σX 50 j ∧ σX 50 j ≤ (bX 50 j).2 := fun j => show (-1 : Int) ≤ 0 ∧ (0 : Int) ≤ 3 from ⟨by decide, by decide⟩
theorem iX_51 : ∀ j : Nat, (bX 51 j).1 ≤ σX 51 j ∧ σX 51 j ≤ (bX 51 j).2 := fun j => show (-1 : Int) ≤ 0 ∧ (0 : Int) ≤ 99 from ⟨by decide, by decide⟩
theorem iX_52 : ∀ j : Nat, (bX 52 j).1 ≤ σX 52 j ∧ σX 52 j ≤ (bX 52 j).2 := fun j => show (0 : Int) ≤ 0 ∧ (0 : Int) ≤ 999 from ⟨by decide, by decide⟩
theorem iX_53 : ∀ j : Nat, (bX 53 j).1 ≤ σX 53 j ∧ σX 53 j ≤ (bX 53 j).2 := fun j => show (0 : Int) ≤ 0 ∧ (0 : Int) ≤ 1 from ⟨by decide, by decide⟩
theorem iX_54 : ∀ j : Nat, (bX 54 j).1 ≤ σX 54 j ∧ σX 54 j ≤ (bX 54 j).2 := fun j => show (-2147483648 : Int) ≤ 0 ∧ (0 : Int) ≤ 2147483647 from ⟨by decide, by decide⟩
theorem ibx0 : IBX σX := by
  intro c j
  by_cases h : c < 55
  · revert j
    have key : ∀ c : Nat, c < 55 → (c = 0 ∨ c = 1 ∨ c = 2 ∨ c = 3 ∨ c = 4 ∨ c = 5 ∨ c = 6 ∨ c = 7 ∨ c = 8 ∨ c = 9 ∨ c = 10 ∨ c = 11 ∨ c = 12 ∨ c = 13 ∨ c = 14 ∨ c = 15 ∨ c = 16 ∨ c = 17 ∨ c = 18 ∨ c = 19 ∨ c = 20 ∨ c = 21 ∨ c = 22 ∨ c = 23 ∨ c = 24 ∨ c = 25 ∨ c = 26 ∨ c = 27 ∨ c = 28 ∨ c = 29 ∨ c = 30 ∨ c = 31 ∨ c = 32 ∨ c = 33 ∨ c = 34 ∨ c = 35 ∨ c = 36 ∨ c = 37 ∨ c = 38 ∨ c = 39 ∨ c = 40 ∨ c = 41 ∨ c = 42 ∨ c = 43 ∨ c = 44 ∨ c = 45 ∨ c = 46 ∨ c = 47 ∨ c = 48 ∨ c = 49 ∨ c = 50 ∨ c = 51 ∨ c = 52 ∨ c = 53 ∨ c = 54) := fun c h => by omega
    rcases key c h with rfl | rfl | rfl | rfl | rfl | rfl | rfl | rfl | rfl | rfl | rfl | rfl | rfl | rfl | rfl | rfl | rfl | rfl | rfl | rfl | rfl | rfl | rfl | rfl | rfl | rfl | rfl | rfl | rfl | rfl | rfl | rfl | rfl | rfl | rfl | rfl | rfl | rfl | rfl | rfl | rfl | rfl | rfl | rfl | rfl | rfl | rfl | rfl | rfl | rfl | rfl | rfl | rfl | rfl | rfl
    · exact iX_0
    · exact iX_1
    · exact iX_2
    · exact iX_3
    · exact iX_4
    · exact iX_5
    · exact iX_6
    · exact iX_7
    · exact iX_8
    · exact iX_9
    · exact iX_10
    · exact iX_11
    · exact iX_12
    · exact iX_13
    · exact iX_14
    · exact iX_15
    · exact iX_16
    · exact iX_17
    · exact iX_18
    · exact iX_19
    · exact iX_20
    · exact iX_21
    · exact iX_22
    · exact iX_23
    · exact iX_24
    · exact iX_25
    · exact iX_26
    · exact iX_27
    · exact iX_28
    · exact iX_29
    · exact iX_30
    · exact iX_31
    · exact iX_32
    · exact iX_33
    · exact iX_34
    · exact iX_35
    · exact iX_36
    · exact iX_37
    · exact iX_38
    · exact iX_39
    · exact iX_40
    · exact iX_41
    · exact iX_42
    · exact iX_43
    · exact iX_44
    · exact iX_45
    · exact iX_46
    · exact iX_47
    · exact iX_48
    · exact iX_49
    · exact iX_50
    · exact iX_51
    · exact iX_52
    · exact iX_53
    · exact iX_54
  · have e1 : bX c j = (-2147483648, 2147483647) := by
      have e0 : bXt.getD c (fun _ => (-2147483648, 2147483647)) = fun _ => (-2147483648, 2147483647) := by
        rw [List.getD_eq_getElem?_getD, List.getElem?_eq_none (by show 55 ≤ c; omega)]; rfl
      show bXt.getD c (fun _ => (-2147483648, 2147483647)) j = _
      rw [e0]
    have e2 : σX c j = 0 := by
      simp only [σX]
      repeat rw [if_neg (by omega)]
    rw [e1, e2]; decide
theorem iY_0 : ∀ j : Nat, (bY 0 j).1 ≤ σY 0 j ∧ σY 0 j ≤ (bY 0 j).2 := by
  intro j
  by_cases h : j < 68
  · exact (by decide +kernel : ∀ j : Nat, j < 68 → (bY 0 j).1 ≤ σY 0 j ∧ σY 0 j ≤ (bY 0 j).2) j h
  · have e1 : bY 0 j = (-2147483648, 2147483647) := by
      show List.getD _ j _ = _
      rw [List.getD_eq_getElem?_getD, List.getElem?_eq_none (by show 68 ≤ j; omega)]; rfl
    have e2 : σY 0 j = 0 := by
      have hh : ¬ j < 68 := h
      simp only [σY]
      first | rfl | (simp; omega) | (repeat rw [if_neg (by omega)])
    rw [e1, e2]; decide
theorem iY_1 : ∀ j : Nat, (bY 1 j).1 ≤ σY 1 j ∧ σY 1 j ≤ (bY 1 j).2 := fun j => show (0 : Int) ≤ 0 ∧ (0 : Int) ≤ 255 from ⟨by decide, by decide⟩
theorem iY_2 : ∀ j : Nat, (bY 2 j).1 ≤ σY 2 j ∧ σY 2 j ≤ (bY 2 j).2 := fun j => show (0 : Int) ≤ 0 ∧ (0 : Int) ≤ 9 from ⟨by decide, by decide⟩
theorem iY_3 : ∀ j : Nat, (bY 3 j).1 ≤ σY 3 j ∧ σY 3 j ≤ (bY 3 j).2 := fun j => show (0 : Int) ≤ 0 ∧ (0 : Int) ≤ 99 from ⟨by decide, by decide⟩
theorem iY_4 : ∀ j : Nat, (bY 4 j).1 ≤ σY 4 j ∧ σY 4 j ≤ (bY 4 j).2 := fun j => show (-1 : Int) ≤ 0 ∧ (0 : Int) ≤ 99 from ⟨by decide, by decide⟩
theorem iY_5 : ∀ j : Nat, (bY 5 j).1 ≤ σY 5 j ∧ σY 5 j ≤ (bY 5 j).2 := fun j => show (0 : Int) ≤ 0 ∧ (0 : Int) ≤ 3 from ⟨by decide, by decide⟩
theorem iY_6 : ∀ j : Nat, (bY 6 j).1 ≤ σY 6 j ∧ σY 6 j ≤ (bY 6 j).2 := fun j => show (0 : Int) ≤ 0 ∧ (0 : Int) ≤ 900 from ⟨by decide, by decide⟩
theorem iY_7 : ∀ j : Nat, (bY 7 j).1 ≤ σY 7 j ∧ σY 7 j ≤ (bY 7 j).2 := fun j => show (0 : Int) ≤ 0 ∧ (0 : Int) ≤ 50 from ⟨by decide, by decide⟩
theorem iY_8 : ∀ j : Nat, (bY 8 j).1 ≤ σY 8 j ∧ σY 8 j ≤ (bY 8 j).2 := fun j => show (0 : Int) ≤ 0 ∧ (0 : Int) ≤ 99 from ⟨by decide, by decide⟩
theorem iY_9 : ∀ j : Nat, (bY 9 j).1 ≤ σY 9 j ∧ σY 9 j ≤ (bY 9 j).2 := fun j => show (0 : Int) ≤ 0 ∧ (0 : Int) ≤ 60 from ⟨by decide, by decide⟩
theorem iY_10 : ∀ j : Nat, (bY 10 j).1 ≤ σY 10 j ∧ σY 10 j ≤ (bY 10 j).2 := fun j => show (0 : Int) ≤ 0 ∧ (0 : Int) ≤ 99 from ⟨by decide, by decide⟩
theorem iY_11 : ∀ j : Nat, (bY 11 j).1 ≤ σY 11 j ∧ σY 11 j ≤ (bY 11 j).2 := fun j => show (0 : Int) ≤ 0 ∧ (0 : Int) ≤ 100 from ⟨by decide, by decide⟩
theorem iY_12 : ∀ j : Nat, (bY 12 j).1 ≤ σY 12 j ∧ σY 12 j ≤ (bY 12 j).2 := fun j => show (-10000 : Int) ≤ 0 ∧ (0 : Int) ≤ 10000 from ⟨by decide, by decide⟩
theorem iY_13 : ∀ j : Nat, (bY 13 j).1 ≤ σY 13 j ∧ σY 13 j ≤ (bY 13 j).2 := fun j => show (0 : Int) ≤ 0 ∧ (0 : Int) ≤ 99 from ⟨by decide, by decide⟩
theorem iY_14 : ∀ j : Nat, (bY 14 j).1 ≤ σY 14 j ∧ σY 14 j ≤ (bY 14 j).2 := by
  intro j
  by_cases h : j < 36
  · exact (by decide +kernel : ∀ j : Nat, j < 36 → (bY 14 j).1 ≤ σY 14 j ∧ σY 14 j ≤ (bY 14 j).2) j h
  · have e1 : bY 14 j = (-2147483648, 2147483647) := by
      show List.getD _ j _ = _
      rw [List.getD_eq_getElem?_getD, List.getElem?_eq_none (by show 36 ≤ j; omega)]; rfl
    have e2 : σY 14 j = 0 := by
      have hne : ∀ i : Nat, i < 36 → j ≠ i := fun i hi q => h (by omega)
      show rowW j = 0
      unfold rowW
      simp only [hs_up]
      rw [if_neg (hne 35 (by decide)), if_neg (hne 34 (by decide)), if_neg (hne 33 (by decide)), if_neg (hne 32 (by decide)), if_neg (hne 31 (by decide)), if_neg (hne 30 (by decide)), if_neg (hne 29 (by decide)), if_neg (hne 28 (by decide)), if_neg (hne 27 (by decide)), if_neg (hne 26 (by decide)), if_neg (hne 25 (by decide)), if_neg (hne 24 (by decide)), if_neg (hne 23 (by decide)), if_neg (hne 22 (by decide)), if_neg (hne 21 (by decide)), if_neg (hne 20 (by decide)), if_neg (hne 19 (by decide)), if_neg (hne 18 (by decide)), if_neg (hne 17 (by decide)), if_neg (hne 16 (by decide)), if_neg (hne 15 (by decide)), if_neg (hne 14 (by decide)), if_neg (hne 13 (by decide)), if_neg (hne 12 (by decide)), if_neg (hne 11 (by decide)), if_neg (hne 10 (by decide)), if_neg (hne 9 (by decide)), if_neg (hne 8 (by decide)), if_neg (hne 7 (by decide)), if_neg (hne 6 (by decide)), if_neg (hne 5 (by decide)), if_neg (hne 4 (by decide)), if_neg (hne 3 (by decide)), if_neg (hne 2 (by decide)), if_neg (hne 1 (by decide)), if_neg (hne 0 (by decide))]
    rw [e1, e2]; decide
theorem iY_15 : ∀ j : Nat, (bY 15 j).1 ≤ σY 15 j ∧ σY 15 j ≤ (bY 15 j).2 := fun j => show (0 : Int) ≤ 0 ∧ (0 : Int) ≤ 6 from ⟨by decide, by decide⟩
theorem iY_16 : ∀ j : Nat, (bY 16 j).1 ≤ σY 16 j ∧ σY 16 j ≤ (bY 16 j).2 := fun j => show (0 : Int) ≤ 0 ∧ (0 : Int) ≤ 99 from ⟨by decide, by decide⟩
theorem iY_17 : ∀ j : Nat, (bY 17 j).1 ≤ σY 17 j ∧ σY 17 j ≤ (bY 17 j).2 := fun j => show (-1 : Int) ≤ 0 ∧ (0 : Int) ≤ 7 from ⟨by decide, by decide⟩
theorem iY_18 : ∀ j : Nat, (bY 18 j).1 ≤ σY 18 j ∧ σY 18 j ≤ (bY 18 j).2 := fun j => show (-1 : Int) ≤ 0 ∧ (0 : Int) ≤ 7 from ⟨by decide, by decide⟩
theorem iY_19 : ∀ j : Nat, (bY 19 j).1 ≤ σY 19 j ∧ σY 19 j ≤ (bY 19 j).2 := fun j => show (-999 : Int) ≤ 0 ∧ (0 : Int) ≤ 999 from ⟨by decide, by decide⟩
theorem iY_20 : ∀ j : Nat, (bY 20 j).1 ≤ σY 20 j ∧ σY 20 j ≤ (bY 20 j).2 := fun j => show (-1 : Int) ≤ 0 ∧ (0 : Int) ≤ 7 from ⟨by decide, by decide⟩
theorem iY_21 : ∀ j : Nat, (bY 21 j).1 ≤ σY 21 j ∧ σY 21 j ≤ (bY 21 j).2 := fun j => show (-999 : Int) ≤ 0 ∧ (0 : Int) ≤ 999 from ⟨by decide, by decide⟩
theorem iY_22 : ∀ j : Nat, (bY 22 j).1 ≤ σY 22 j ∧ σY 22 j ≤ (bY 22 j).2 := fun j => show (0 : Int) ≤ 0 ∧ (0 : Int) ≤ 60 from ⟨by decide, by decide⟩
theorem iY_23 : ∀ j : Nat, (bY 23 j).1 ≤ σY 23 j ∧ σY 23 j ≤ (bY 23 j).2 := fun j => show (0 : Int) ≤ 0 ∧ (0 : Int) ≤ 59 from ⟨by decide, by decide⟩
theorem iY_24 : ∀ j : Nat, (bY 24 j).1 ≤ σY 24 j ∧ σY 24 j ≤ (bY 24 j).2 := fun j => show (0 : Int) ≤ 0 ∧ (0 : Int) ≤ 99 from ⟨by decide, by decide⟩
theorem iY_25 : ∀ j : Nat, (bY 25 j).1 ≤ σY 25 j ∧ σY 25 j ≤ (bY 25 j).2 := fun j => show (0 : Int) ≤ 0 ∧ (0 : Int) ≤ 59 from ⟨by decide, by decide⟩
theorem iY_26 : ∀ j : Nat, (bY 26 j).1 ≤ σY 26 j ∧ σY 26 j ≤ (bY 26 j).2 := fun j => show (0 : Int) ≤ 0 ∧ (0 : Int) ≤ 200 from ⟨by decide, by decide⟩
theorem iY_27 : ∀ j : Nat, (bY 27 j).1 ≤ σY 27 j ∧ σY 27 j ≤ (bY 27 j).2 := fun j => show (0 : Int) ≤ 0 ∧ (0 : Int) ≤ 1 from ⟨by decide, by decide⟩
theorem iY_28 : ∀ j : Nat, (bY 28 j).1 ≤ σY 28 j ∧ σY 28 j ≤ (bY 28 j).2 := fun j => show (0 : Int) ≤ 0 ∧ (0 : Int) ≤ 1000 from ⟨by decide, by decide⟩
theorem iY_29 : ∀ j : Nat, (bY 29 j).1 ≤ σY 29 j ∧ σY 29 j ≤ (bY 29 j).2 := fun j => show (0 : Int) ≤ 0 ∧ (0 : Int) ≤ 100 from ⟨by decide, by decide⟩
theorem iY_30 : ∀ j : Nat, (bY 30 j).1 ≤ σY 30 j ∧ σY 30 j ≤ (bY 30 j).2 := fun j => show (0 : Int) ≤ 0 ∧ (0 : Int) ≤ 1000 from ⟨by decide, by decide⟩
theorem iY_31 : ∀ j : Nat, (bY 31 j).1 ≤ σY 31 j ∧ σY 31 j ≤ (bY 31 j).2 := fun j => show (-2147483648 : Int) ≤ 0 ∧ (0 : Int) ≤ 2147483647 from ⟨by decide, by decide⟩
theorem iY_32 : ∀ j : Nat, (bY 32 j).1 ≤ σY 32 j ∧ σY 32 j ≤ (bY 32 j).2 := fun j => show (0 : Int) ≤ 0 ∧ (0 : Int) ≤ 99 from ⟨by decide, by decide⟩
theorem iY_33 : ∀ j : Nat, (bY 33 j).1 ≤ σY 33 j ∧ σY 33 j ≤ (bY 33 j).2 := fun j => show (0 : Int) ≤ 0 ∧ (0 : Int) ≤ 100 from ⟨by decide, by decide⟩
theorem iY_34 : ∀ j : Nat, (bY 34 j).1 ≤ σY 34 j ∧ σY 34 j ≤ (bY 34 j).2 := fun j => show (0 : Int) ≤ 0 ∧ (0 : Int) ≤ 1 from ⟨by decide, by decide⟩
theorem iY_35 : ∀ j : Nat, (bY 35 j).1 ≤ σY 35 j ∧ σY 35 j ≤ (bY 35 j).2 := fun j => show (0 : Int) ≤ 0 ∧ (0 : Int) ≤ 999 from ⟨by decide, by decide⟩
theorem iY_36 : ∀ j : Nat, (bY 36 j).1 ≤ σY 36 j ∧ σY 36 j ≤ (bY 36 j).2 := fun j => show (0 : Int) ≤ 0 ∧ (0 : Int) ≤ 79 from ⟨by decide, by decide⟩
theorem iY_37 : ∀ j : Nat, (bY 37 j).1 ≤ σY 37 j ∧ σY 37 j ≤ (bY 37 j).2 := fun j => show (0 : Int) ≤ 0 ∧ (0 : Int) ≤ 3 from ⟨by decide, by decide⟩
theorem iY_38 : ∀ j : Nat, (bY 38 j).1 ≤ σY 38 j ∧ σY 38 j ≤ (bY 38 j).2 := fun j => show (-1 : Int) ≤ 0 ∧ (0 : Int) ≤ 99 from ⟨by decide, by decide⟩
theorem iY_39 : ∀ j : Nat, (bY 39 j).1 ≤ σY 39 j ∧ σY 39 j ≤ (bY 39 j).2 := fun j => show (0 : Int) ≤ 0 ∧ (0 : Int) ≤ 1 from ⟨by decide, by decide⟩
theorem iby0 : IBY σY := by
  intro c j
  by_cases h : c < 40
  · revert j
    have key : ∀ c : Nat, c < 40 → (c = 0 ∨ c = 1 ∨ c = 2 ∨ c = 3 ∨ c = 4 ∨ c = 5 ∨ c = 6 ∨ c = 7 ∨ c = 8 ∨ c = 9 ∨ c = 10 ∨ c = 11 ∨ c = 12 ∨ c = 13 ∨ c = 14 ∨ c = 15 ∨ c = 16 ∨ c = 17 ∨ c = 18 ∨ c = 19 ∨ c = 20 ∨ c = 21 ∨ c = 22 ∨ c = 23 ∨ c = 24 ∨ c = 25 ∨ c = 26 ∨ c = 27 ∨ c = 28 ∨ c = 29 ∨ c = 30 ∨ c = 31 ∨ c = 32 ∨ c = 33 ∨ c = 34 ∨ c = 35 ∨ c = 36 ∨ c = 37 ∨ c = 38 ∨ c = 39) := fun c h => by omega
    rcases key c h with rfl | rfl | rfl | rfl | rfl | rfl | rfl | rfl | rfl | rfl | rfl | rfl | rfl | rfl | rfl | rfl | rfl | rfl | rfl | rfl | rfl | rfl | rfl | rfl | rfl | rfl | rfl | rfl | rfl | rfl | rfl | rfl | rfl | rfl | rfl | rfl | rfl | rfl | rfl | rfl
    · exact iY_0
    · exact iY_1
    · exact iY_2
    · exact iY_3
    · exact iY_4
    · exact iY_5
    · exact iY_6
    · exact iY_7
    · exact iY_8
    · exact iY_9
    · exact iY_10
    · exact iY_11
    · exact iY_12
    · exact iY_13
    · exact iY_14
    · exact iY_15
    · exact iY_16
    · exact iY_17
    · exact iY_18
    · exact iY_19
    · exact iY_20
    · exact iY_21
    · exact iY_22
    · exact iY_23
    · exact iY_24
    · exact iY_25
    · exact iY_26
    · exact iY_27
    · exact iY_28
    · exact iY_29
    · exact iY_30
    · exact iY_31
    · exact iY_32
    · exact iY_33
    · exact iY_34
    · exact iY_35
    · exact iY_36
    · exact iY_37
    · exact iY_38
    · exact iY_39
  · have e1 : bY c j = (-2147483648, 2147483647) := by
      have e0 : bYt.getD c (fun _ => (-2147483648, 2147483647)) = fun _ => (-2147483648, 2147483647) := by
        rw [List.getD_eq_getElem?_getD, List.getElem?_eq_none (by show 40 ≤ c; omega)]; rfl
      show bYt.getD c (fun _ => (-2147483648, 2147483647)) j = _
      rw [e0]
    have e2 : σY c j = 0 := by
      simp only [σY]
      repeat rw [if_neg (by omega)]
    rw [e1, e2]; decide
theorem gx0 : GX σX σX := ⟨ibx0, kx_rf, fun w _ => by show (0 ≤ (0 : Int) ∧ (0 : Int) ≤ 0) ∧ (0 ≤ (0 : Int) ∧ (0 : Int) ≤ 0); omega, fun k hk => by exfalso; exact absurd (show (0 : Int) = -1 from hk) (by decide)⟩
theorem gy0 : GY σY σY := ⟨iby0, ky_rf⟩
/-- what class and reference have in common -/
def RXY (x y : hs_S) : Prop := x 0 9 = y 0 1 ∧ x 0 10 = y 0 18 ∧ x 3 3 = y 0 3 ∧ x 3 4 = y 0 6 ∧ x 48 8 = y 0 61
def LI (x y : hs_S) : Prop := GX x x ∧ GY y y ∧ RXY x y
theorem li0 : LI σX σY := ⟨gx0, gy0, rfl, rfl, rfl, rfl, rfl⟩
theorem li_keep {x y x1 y1 : hs_S} (h : LI x y) (kx : GX x x1) (ky : GY y y1) : LI x1 y1 := by
  refine ⟨gx_self kx, gy_self ky, ?_⟩
  have h1 := h.2.2
  have h2 := kx.2.1
  have h3 := ky.2
  unfold RXY KX KY at *
  omega
