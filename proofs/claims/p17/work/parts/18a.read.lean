def WFo (k f : Int) : Prop := (k = 0 ∧ f = 0) ∨ (k = 1 ∧ f = 5) ∨ (k = 2 ∧ f = 11) ∨ (k = 3 ∧ f = 16) ∨ (k = 4 ∧ f = 21) ∨ (k = 5 ∧ f = 25) ∨ (k = 6 ∧ f = 31) ∨ (k = 7 ∧ f = 36)
def WLe (k n : Int) : Prop := (k = 0 → n ≤ 4) ∧ (k = 1 → n ≤ 5) ∧ (k = 2 → n ≤ 4) ∧ (k = 3 → n ≤ 4) ∧ (k = 4 → n ≤ 3) ∧ (k = 5 → n ≤ 5) ∧ (k = 6 → n ≤ 4)
def WFu (k n : Int) : Prop := (k = 0 ∧ n = 4) ∨ (k = 1 ∧ n = 5) ∨ (k = 2 ∧ n = 4) ∨ (k = 3 ∧ n = 4) ∨ (k = 4 ∧ n = 3) ∨ (k = 5 ∧ n = 5) ∨ (k = 6 ∧ n = 4)
theorem wo_b {σ : hs_S} (h : IBY σ) (j : Nat) (hj : j < 36) : 0 ≤ σ 14 j ∧ σ 14 j ≤ 127 := by
  rcases (show j = 0 ∨ j = 1 ∨ j = 2 ∨ j = 3 ∨ j = 4 ∨ j = 5 ∨ j = 6 ∨ j = 7 ∨ j = 8 ∨ j = 9 ∨ j = 10 ∨ j = 11 ∨ j = 12 ∨ j = 13 ∨ j = 14 ∨ j = 15 ∨ j = 16 ∨ j = 17 ∨ j = 18 ∨ j = 19 ∨ j = 20 ∨ j = 21 ∨ j = 22 ∨ j = 23 ∨ j = 24 ∨ j = 25 ∨ j = 26 ∨ j = 27 ∨ j = 28 ∨ j = 29 ∨ j = 30 ∨ j = 31 ∨ j = 32 ∨ j = 33 ∨ j = 34 ∨ j = 35 by omega) with rfl | rfl | rfl | rfl | rfl | rfl | rfl | rfl | rfl | rfl | rfl | rfl | rfl | rfl | rfl | rfl | rfl | rfl | rfl | rfl | rfl | rfl | rfl | rfl | rfl | rfl | rfl | rfl | rfl | rfl | rfl | rfl | rfl | rfl | rfl | rfl
  · have q : (108 : Int) ≤ σ 14 0 ∧ σ 14 0 ≤ 108 := h 14 0
    omega
  · have q : (101 : Int) ≤ σ 14 1 ∧ σ 14 1 ≤ 101 := h 14 1
    omega
  · have q : (102 : Int) ≤ σ 14 2 ∧ σ 14 2 ≤ 102 := h 14 2
    omega
  · have q : (116 : Int) ≤ σ 14 3 ∧ σ 14 3 ≤ 116 := h 14 3
    omega
  · have q : (32 : Int) ≤ σ 14 4 ∧ σ 14 4 ≤ 32 := h 14 4
    omega
  · have q : (114 : Int) ≤ σ 14 5 ∧ σ 14 5 ≤ 114 := h 14 5
    omega
  · have q : (105 : Int) ≤ σ 14 6 ∧ σ 14 6 ≤ 105 := h 14 6
    omega
  · have q : (103 : Int) ≤ σ 14 7 ∧ σ 14 7 ≤ 103 := h 14 7
    omega
  · have q : (104 : Int) ≤ σ 14 8 ∧ σ 14 8 ≤ 104 := h 14 8
    omega
  · have q : (116 : Int) ≤ σ 14 9 ∧ σ 14 9 ≤ 116 := h 14 9
    omega
  · have q : (32 : Int) ≤ σ 14 10 ∧ σ 14 10 ≤ 32 := h 14 10
    omega
  · have q : (98 : Int) ≤ σ 14 11 ∧ σ 14 11 ≤ 98 := h 14 11
    omega
  · have q : (97 : Int) ≤ σ 14 12 ∧ σ 14 12 ≤ 97 := h 14 12
    omega
  · have q : (99 : Int) ≤ σ 14 13 ∧ σ 14 13 ≤ 99 := h 14 13
    omega
  · have q : (107 : Int) ≤ σ 14 14 ∧ σ 14 14 ≤ 107 := h 14 14
    omega
  · have q : (32 : Int) ≤ σ 14 15 ∧ σ 14 15 ≤ 32 := h 14 15
    omega
  · have q : (102 : Int) ≤ σ 14 16 ∧ σ 14 16 ≤ 102 := h 14 16
    omega
  · have q : (101 : Int) ≤ σ 14 17 ∧ σ 14 17 ≤ 101 := h 14 17
    omega
  · have q : (101 : Int) ≤ σ 14 18 ∧ σ 14 18 ≤ 101 := h 14 18
    omega
  · have q : (108 : Int) ≤ σ 14 19 ∧ σ 14 19 ≤ 108 := h 14 19
    omega
  · have q : (32 : Int) ≤ σ 14 20 ∧ σ 14 20 ≤ 32 := h 14 20
    omega
  · have q : (116 : Int) ≤ σ 14 21 ∧ σ 14 21 ≤ 116 := h 14 21
    omega
  · have q : (114 : Int) ≤ σ 14 22 ∧ σ 14 22 ≤ 114 := h 14 22
    omega
  · have q : (121 : Int) ≤ σ 14 23 ∧ σ 14 23 ≤ 121 := h 14 23
    omega
  · have q : (32 : Int) ≤ σ 14 24 ∧ σ 14 24 ≤ 32 := h 14 24
    omega
  · have q : (97 : Int) ≤ σ 14 25 ∧ σ 14 25 ≤ 97 := h 14 25
    omega
  · have q : (103 : Int) ≤ σ 14 26 ∧ σ 14 26 ≤ 103 := h 14 26
    omega
  · have q : (97 : Int) ≤ σ 14 27 ∧ σ 14 27 ≤ 97 := h 14 27
    omega
  · have q : (105 : Int) ≤ σ 14 28 ∧ σ 14 28 ≤ 105 := h 14 28
    omega
  · have q : (110 : Int) ≤ σ 14 29 ∧ σ 14 29 ≤ 110 := h 14 29
    omega
  · have q : (32 : Int) ≤ σ 14 30 ∧ σ 14 30 ≤ 32 := h 14 30
    omega
  · have q : (101 : Int) ≤ σ 14 31 ∧ σ 14 31 ≤ 101 := h 14 31
    omega
  · have q : (97 : Int) ≤ σ 14 32 ∧ σ 14 32 ≤ 97 := h 14 32
    omega
  · have q : (99 : Int) ≤ σ 14 33 ∧ σ 14 33 ≤ 99 := h 14 33
    omega
  · have q : (104 : Int) ≤ σ 14 34 ∧ σ 14 34 ≤ 104 := h 14 34
    omega
  · have q : (32 : Int) ≤ σ 14 35 ∧ σ 14 35 ≤ 32 := h 14 35
    omega
theorem wo_at {σ : hs_S} (h : IBY σ) {k f n : Int} (hk : WFo k f) (hk6 : k ≤ 6) (hn : 0 ≤ n) (hl : WLe k n) : (σ 14 (f + n).toNat = 32 ↔ WFu k n) := by
  unfold WFo at hk
  unfold WLe at hl
  unfold WFu
  rcases (show (k = 0 ∧ f = 0 ∧ n = 0) ∨ (k = 0 ∧ f = 0 ∧ n = 1) ∨ (k = 0 ∧ f = 0 ∧ n = 2) ∨ (k = 0 ∧ f = 0 ∧ n = 3) ∨ (k = 0 ∧ f = 0 ∧ n = 4) ∨ (k = 1 ∧ f = 5 ∧ n = 0) ∨ (k = 1 ∧ f = 5 ∧ n = 1) ∨ (k = 1 ∧ f = 5 ∧ n = 2) ∨ (k = 1 ∧ f = 5 ∧ n = 3) ∨ (k = 1 ∧ f = 5 ∧ n = 4) ∨ (k = 1 ∧ f = 5 ∧ n = 5) ∨ (k = 2 ∧ f = 11 ∧ n = 0) ∨ (k = 2 ∧ f = 11 ∧ n = 1) ∨ (k = 2 ∧ f = 11 ∧ n = 2) ∨ (k = 2 ∧ f = 11 ∧ n = 3) ∨ (k = 2 ∧ f = 11 ∧ n = 4) ∨ (k = 3 ∧ f = 16 ∧ n = 0) ∨ (k = 3 ∧ f = 16 ∧ n = 1) ∨ (k = 3 ∧ f = 16 ∧ n = 2) ∨ (k = 3 ∧ f = 16 ∧ n = 3) ∨ (k = 3 ∧ f = 16 ∧ n = 4) ∨ (k = 4 ∧ f = 21 ∧ n = 0) ∨ (k = 4 ∧ f = 21 ∧ n = 1) ∨ (k = 4 ∧ f = 21 ∧ n = 2) ∨ (k = 4 ∧ f = 21 ∧ n = 3) ∨ (k = 5 ∧ f = 25 ∧ n = 0) ∨ (k = 5 ∧ f = 25 ∧ n = 1) ∨ (k = 5 ∧ f = 25 ∧ n = 2) ∨ (k = 5 ∧ f = 25 ∧ n = 3) ∨ (k = 5 ∧ f = 25 ∧ n = 4) ∨ (k = 5 ∧ f = 25 ∧ n = 5) ∨ (k = 6 ∧ f = 31 ∧ n = 0) ∨ (k = 6 ∧ f = 31 ∧ n = 1) ∨ (k = 6 ∧ f = 31 ∧ n = 2) ∨ (k = 6 ∧ f = 31 ∧ n = 3) ∨ (k = 6 ∧ f = 31 ∧ n = 4) by omega) with ⟨rfl, rfl, rfl⟩ | ⟨rfl, rfl, rfl⟩ | ⟨rfl, rfl, rfl⟩ | ⟨rfl, rfl, rfl⟩ | ⟨rfl, rfl, rfl⟩ | ⟨rfl, rfl, rfl⟩ | ⟨rfl, rfl, rfl⟩ | ⟨rfl, rfl, rfl⟩ | ⟨rfl, rfl, rfl⟩ | ⟨rfl, rfl, rfl⟩ | ⟨rfl, rfl, rfl⟩ | ⟨rfl, rfl, rfl⟩ | ⟨rfl, rfl, rfl⟩ | ⟨rfl, rfl, rfl⟩ | ⟨rfl, rfl, rfl⟩ | ⟨rfl, rfl, rfl⟩ | ⟨rfl, rfl, rfl⟩ | ⟨rfl, rfl, rfl⟩ | ⟨rfl, rfl, rfl⟩ | ⟨rfl, rfl, rfl⟩ | ⟨rfl, rfl, rfl⟩ | ⟨rfl, rfl, rfl⟩ | ⟨rfl, rfl, rfl⟩ | ⟨rfl, rfl, rfl⟩ | ⟨rfl, rfl, rfl⟩ | ⟨rfl, rfl, rfl⟩ | ⟨rfl, rfl, rfl⟩ | ⟨rfl, rfl, rfl⟩ | ⟨rfl, rfl, rfl⟩ | ⟨rfl, rfl, rfl⟩ | ⟨rfl, rfl, rfl⟩ | ⟨rfl, rfl, rfl⟩ | ⟨rfl, rfl, rfl⟩ | ⟨rfl, rfl, rfl⟩ | ⟨rfl, rfl, rfl⟩ | ⟨rfl, rfl, rfl⟩
  · have q : (108 : Int) ≤ σ 14 0 ∧ σ 14 0 ≤ 108 := h 14 0
    rw [show ((0 : Int) + 0).toNat = 0 from rfl]
    omega
  · have q : (101 : Int) ≤ σ 14 1 ∧ σ 14 1 ≤ 101 := h 14 1
    rw [show ((0 : Int) + 1).toNat = 1 from rfl]
    omega
  · have q : (102 : Int) ≤ σ 14 2 ∧ σ 14 2 ≤ 102 := h 14 2
    rw [show ((0 : Int) + 2).toNat = 2 from rfl]
    omega
  · have q : (116 : Int) ≤ σ 14 3 ∧ σ 14 3 ≤ 116 := h 14 3
    rw [show ((0 : Int) + 3).toNat = 3 from rfl]
    omega
  · have q : (32 : Int) ≤ σ 14 4 ∧ σ 14 4 ≤ 32 := h 14 4
    rw [show ((0 : Int) + 4).toNat = 4 from rfl]
    omega
  · have q : (114 : Int) ≤ σ 14 5 ∧ σ 14 5 ≤ 114 := h 14 5
    rw [show ((5 : Int) + 0).toNat = 5 from rfl]
    omega
  · have q : (105 : Int) ≤ σ 14 6 ∧ σ 14 6 ≤ 105 := h 14 6
    rw [show ((5 : Int) + 1).toNat = 6 from rfl]
    omega
  · have q : (103 : Int) ≤ σ 14 7 ∧ σ 14 7 ≤ 103 := h 14 7
    rw [show ((5 : Int) + 2).toNat = 7 from rfl]
    omega
  · have q : (104 : Int) ≤ σ 14 8 ∧ σ 14 8 ≤ 104 := h 14 8
    rw [show ((5 : Int) + 3).toNat = 8 from rfl]
    omega
  · have q : (116 : Int) ≤ σ 14 9 ∧ σ 14 9 ≤ 116 := h 14 9
    rw [show ((5 : Int) + 4).toNat = 9 from rfl]
    omega
  · have q : (32 : Int) ≤ σ 14 10 ∧ σ 14 10 ≤ 32 := h 14 10
    rw [show ((5 : Int) + 5).toNat = 10 from rfl]
    omega
  · have q : (98 : Int) ≤ σ 14 11 ∧ σ 14 11 ≤ 98 := h 14 11
    rw [show ((11 : Int) + 0).toNat = 11 from rfl]
    omega
  · have q : (97 : Int) ≤ σ 14 12 ∧ σ 14 12 ≤ 97 := h 14 12
    rw [show ((11 : Int) + 1).toNat = 12 from rfl]
    omega
  · have q : (99 : Int) ≤ σ 14 13 ∧ σ 14 13 ≤ 99 := h 14 13
    rw [show ((11 : Int) + 2).toNat = 13 from rfl]
    omega
  · have q : (107 : Int) ≤ σ 14 14 ∧ σ 14 14 ≤ 107 := h 14 14
    rw [show ((11 : Int) + 3).toNat = 14 from rfl]
    omega
  · have q : (32 : Int) ≤ σ 14 15 ∧ σ 14 15 ≤ 32 := h 14 15
    rw [show ((11 : Int) + 4).toNat = 15 from rfl]
    omega
  · have q : (102 : Int) ≤ σ 14 16 ∧ σ 14 16 ≤ 102 := h 14 16
    rw [show ((16 : Int) + 0).toNat = 16 from rfl]
    omega
  · have q : (101 : Int) ≤ σ 14 17 ∧ σ 14 17 ≤ 101 := h 14 17
    rw [show ((16 : Int) + 1).toNat = 17 from rfl]
    omega
  · have q : (101 : Int) ≤ σ 14 18 ∧ σ 14 18 ≤ 101 := h 14 18
    rw [show ((16 : Int) + 2).toNat = 18 from rfl]
    omega
  · have q : (108 : Int) ≤ σ 14 19 ∧ σ 14 19 ≤ 108 := h 14 19
    rw [show ((16 : Int) + 3).toNat = 19 from rfl]
    omega
  · have q : (32 : Int) ≤ σ 14 20 ∧ σ 14 20 ≤ 32 := h 14 20
    rw [show ((16 : Int) + 4).toNat = 20 from rfl]
    omega
  · have q : (116 : Int) ≤ σ 14 21 ∧ σ 14 21 ≤ 116 := h 14 21
    rw [show ((21 : Int) + 0).toNat = 21 from rfl]
    omega
  · have q : (114 : Int) ≤ σ 14 22 ∧ σ 14 22 ≤ 114 := h 14 22
    rw [show ((21 : Int) + 1).toNat = 22 from rfl]
    omega
  · have q : (121 : Int) ≤ σ 14 23 ∧ σ 14 23 ≤ 121 := h 14 23
    rw [show ((21 : Int) + 2).toNat = 23 from rfl]
    omega
  · have q : (32 : Int) ≤ σ 14 24 ∧ σ 14 24 ≤ 32 := h 14 24
    rw [show ((21 : Int) + 3).toNat = 24 from rfl]
    omega
  · have q : (97 : Int) ≤ σ 14 25 ∧ σ 14 25 ≤ 97 := h 14 25
    rw [show ((25 : Int) + 0).toNat = 25 from rfl]
    omega
  · have q : (103 : Int) ≤ σ 14 26 ∧ σ 14 26 ≤ 103 := h 14 26
    rw [show ((25 : Int) + 1).toNat = 26 from rfl]
    omega
  · have q : (97 : Int) ≤ σ 14 27 ∧ σ 14 27 ≤ 97 := h 14 27
    rw [show ((25 : Int) + 2).toNat = 27 from rfl]
    omega
  · have q : (105 : Int) ≤ σ 14 28 ∧ σ 14 28 ≤ 105 := h 14 28
    rw [show ((25 : Int) + 3).toNat = 28 from rfl]
    omega
  · have q : (110 : Int) ≤ σ 14 29 ∧ σ 14 29 ≤ 110 := h 14 29
    rw [show ((25 : Int) + 4).toNat = 29 from rfl]
    omega
  · have q : (32 : Int) ≤ σ 14 30 ∧ σ 14 30 ≤ 32 := h 14 30
    rw [show ((25 : Int) + 5).toNat = 30 from rfl]
    omega
  · have q : (101 : Int) ≤ σ 14 31 ∧ σ 14 31 ≤ 101 := h 14 31
    rw [show ((31 : Int) + 0).toNat = 31 from rfl]
    omega
  · have q : (97 : Int) ≤ σ 14 32 ∧ σ 14 32 ≤ 97 := h 14 32
    rw [show ((31 : Int) + 1).toNat = 32 from rfl]
    omega
  · have q : (99 : Int) ≤ σ 14 33 ∧ σ 14 33 ≤ 99 := h 14 33
    rw [show ((31 : Int) + 2).toNat = 33 from rfl]
    omega
  · have q : (104 : Int) ≤ σ 14 34 ∧ σ 14 34 ≤ 104 := h 14 34
    rw [show ((31 : Int) + 3).toNat = 34 from rfl]
    omega
  · have q : (32 : Int) ≤ σ 14 35 ∧ σ 14 35 ≤ 32 := h 14 35
    rw [show ((31 : Int) + 4).toNat = 35 from rfl]
    omega
def hs_upN (f : Nat → Nat) (k z : Nat) : Nat → Nat := fun j => if j = k then z else f j
theorem hs_upN_same {f : Nat → Nat} {k z : Nat} : hs_upN f k z k = z := by simp [hs_upN]
theorem hs_upN_ne {f : Nat → Nat} {k z j : Nat} (h : j ≠ k) : hs_upN f k z j = f j := by simp [hs_upN, h]
/-! the acts of a text as they lie in one another -/
def OKA (σ : hs_S) (i : Nat) : Prop := (σ 15 i = 6 → 0 ≤ σ 17 i ∧ 1 ≤ σ 16 i) ∧ (σ 15 i ≤ 1 → 1 ≤ σ 16 i)
def CLD (σ : hs_S) (dep : Nat → Nat) (i : Nat) : Prop := dep i ≤ 4 ∧ (i : Int) < σ 22 i ∧ σ 22 i ≤ σ 0 32 ∧ (∀ j : Nat, i < j → (j : Int) < σ 22 i → dep i < dep j ∧ (5 ≤ σ 15 j → σ 22 j ≤ σ 22 i))
def NI (σ : hs_S) : Prop := ∃ dep : Nat → Nat,
  (∀ i : Nat, (i : Int) < σ 0 32 → OKA σ i ∧ (5 ≤ σ 15 i → (CLD σ dep i ∧ ∀ k : Nat, (k : Int) < σ 0 41 → σ 23 k < (i : Int) ∨ σ 22 i ≤ σ 23 k) ∨ ∃ k : Nat, (k : Int) < σ 0 41 ∧ σ 23 k = (i : Int))) ∧
  (∀ k : Nat, (k : Int) < σ 0 41 → 0 ≤ σ 23 k ∧ σ 23 k < σ 0 32 ∧ dep (σ 23 k).toNat = k ∧ (∀ j : Nat, σ 23 k < (j : Int) → (j : Int) < σ 0 32 → k < dep j) ∧ (∀ k2 : Nat, k < k2 → (k2 : Int) < σ 0 41 → σ 23 k < σ 23 k2))
def PG (σ : hs_S) : Prop := ∃ dep : Nat → Nat, ∀ i : Nat, (i : Int) < σ 0 32 → OKA σ i ∧ (5 ≤ σ 15 i → CLD σ dep i)
theorem ni_0 {σ : hs_S} (h1 : σ 0 32 = 0) (h2 : σ 0 41 = 0) : NI σ := ⟨fun _ => 0, fun i hi => by exfalso; omega, fun k hk => by exfalso; omega⟩
theorem ni_pg {σ : hs_S} (h : NI σ) (h0 : σ 0 41 ≤ 0) : PG σ := by
  obtain ⟨dep, hA, -⟩ := h
  refine ⟨dep, fun i hi => ⟨(hA i hi).1, fun h5 => ?_⟩⟩
  rcases (hA i hi).2 h5 with q | ⟨k, hk, -⟩
  · exact q.1
  · exfalso; omega
def okNI (c j : Nat) : Bool := !(c == 15 || c == 16 || c == 17 || c == 22 || c == 23 || (c == 0 && (j == 32 || j == 41)))
theorem OKA_eq {σ σ1 : hs_S} {i : Nat} (h15 : σ1 15 i = σ 15 i) (h16 : σ1 16 i = σ 16 i) (h17 : σ1 17 i = σ 17 i) (h : OKA σ i) : OKA σ1 i := by
  unfold OKA at *
  rw [h15, h16, h17]
  exact h
theorem NI_cg {σ σ1 : hs_S} (h : FRM okNI σ σ1) (k : NI σ) : NI σ1 := by
  obtain ⟨dep, hA, hB⟩ := k
  have e32 : σ1 0 32 = σ 0 32 := h 0 32 rfl
  have e41 : σ1 0 41 = σ 0 41 := h 0 41 rfl
  have e15 : ∀ i, σ1 15 i = σ 15 i := fun i => h 15 i rfl
  have e16 : ∀ i, σ1 16 i = σ 16 i := fun i => h 16 i rfl
  have e17 : ∀ i, σ1 17 i = σ 17 i := fun i => h 17 i rfl
  have e22 : ∀ i, σ1 22 i = σ 22 i := fun i => h 22 i rfl
  have e23 : ∀ i, σ1 23 i = σ 23 i := fun i => h 23 i rfl
  refine ⟨dep, fun i hi => ?_, fun k hk => ?_⟩
  · rw [e32] at hi
    refine ⟨OKA_eq (e15 i) (e16 i) (e17 i) (hA i hi).1, fun h5 => ?_⟩
    rw [e15] at h5
    rcases (hA i hi).2 h5 with ⟨⟨c1, c2, c3, c4⟩, q2⟩ | ⟨k, hk, q⟩
    · left
      refine ⟨⟨c1, by rw [e22]; exact c2, by rw [e22, e32]; exact c3, fun j hj hj2 => ?_⟩, fun k hk => by rw [e23, e22]; exact q2 k (by omega)⟩
      rw [e22] at hj2
      rw [e15, e22, e22]
      exact c4 j hj hj2
    · exact Or.inr ⟨k, by omega, by rw [e23]; exact q⟩
  · rw [e41] at hk
    obtain ⟨b1, b2, b3, b4, b5⟩ := hB k hk
    rw [e23, e32]
    exact ⟨b1, b2, b3, b4, fun k2 h1 h2 => by rw [e23]; exact b5 k2 h1 (by omega)⟩
/-- a loop is closed -/
theorem ni_close {σ σ1 : hs_S} (h : NI σ) {o : Nat} (ho : σ 0 41 = (o : Int) + 1) (ho5 : o ≤ 4) (e41 : σ1 0 41 = (o : Int)) (e32 : σ1 0 32 = σ 0 32) (e15 : ∀ i, σ1 15 i = σ 15 i) (e16 : ∀ i, σ1 16 i = σ 16 i) (e17 : ∀ i, σ1 17 i = σ 17 i) (e23 : ∀ i, σ1 23 i = σ 23 i) (e22a : σ1 22 (σ 23 o).toNat = σ 0 32) (e22 : ∀ i, i ≠ (σ 23 o).toNat → σ1 22 i = σ 22 i) : NI σ1 := by
  obtain ⟨dep, hA, hB⟩ := h
  obtain ⟨t1, t2, t3, t4, -⟩ := hB o (by omega)
  have below : ∀ k : Nat, k < o → σ 23 k < σ 23 o := fun k hk => (hB k (by omega)).2.2.2.2 o hk (by omega)
  refine ⟨dep, fun i hi => ?_, fun k hk => ?_⟩
  · rw [e32] at hi
    refine ⟨OKA_eq (e15 i) (e16 i) (e17 i) (hA i hi).1, fun h5 => ?_⟩
    rw [e15] at h5
    by_cases ei : i = (σ 23 o).toNat
    · left
      subst ei
      refine ⟨⟨by rw [t3]; exact ho5, by rw [e22a]; omega, by rw [e22a, e32]; omega, fun j hj hj2 => ?_⟩, fun k hk => ?_⟩
      · rw [e22a] at hj2
        refine ⟨by rw [t3]; exact t4 j (by omega) hj2, fun hj5 => ?_⟩
        rw [e15] at hj5
        rw [e22a, e22 j (by omega)]
        rcases (hA j hj2).2 hj5 with q | ⟨k, hk, q⟩
        · exact q.1.2.2.1
        · exfalso
          by_cases ek : k = o
          · subst ek; omega
          · have := below k (by omega)
            omega
      · left
        rw [e23]
        have := below k (by omega)
        omega
    · rcases (hA i hi).2 h5 with ⟨⟨c1, c2, c3, c4⟩, q2⟩ | ⟨k, hk, q⟩
      · left
        refine ⟨⟨c1, by rw [e22 i ei]; exact c2, by rw [e22 i ei, e32]; exact c3, fun j hj hj2 => ?_⟩, fun k hk => by rw [e23, e22 i ei]; exact q2 k (by omega)⟩
        rw [e22 i ei] at hj2
        have ej : j ≠ (σ 23 o).toNat := by
          have := q2 o (by omega)
          omega
        rw [e15, e22 i ei, e22 j ej]
        exact c4 j hj hj2
      · right
        refine ⟨k, ?_, by rw [e23]; exact q⟩
        have : k ≠ o := fun e => by subst e; omega
        omega
  · have hk2 : k < o := by omega
    obtain ⟨b1, b2, b3, b4, b5⟩ := hB k (by omega)
    rw [e23, e32]
    exact ⟨b1, b2, b3, b4, fun k2 h1 h2 => by rw [e23]; exact b5 k2 h1 (by omega)⟩
/-- an act more, at the end; bo: it is a loop, opened now -/
theorem ni_add {σ σ1 : hs_S} (h : NI σ) {n : Nat} (hn : σ 0 32 = (n : Int)) (e32 : σ1 0 32 = (n : Int) + 1) (e15 : ∀ i, i < n → σ1 15 i = σ 15 i) (e16 : ∀ i, i < n → σ1 16 i = σ 16 i) (e17 : ∀ i, i < n → σ1 17 i = σ 17 i) (e22 : ∀ i, i < n → σ1 22 i = σ 22 i) (hok : OKA σ1 n)
    (hc : (σ1 15 n < 5 ∧ σ1 0 41 = σ 0 41 ∧ ∀ k : Nat, (k : Int) < σ 0 41 → σ1 23 k = σ 23 k) ∨ (σ 0 41 ≤ 4 ∧ 0 ≤ σ 0 41 ∧ σ1 0 41 = σ 0 41 + 1 ∧ σ1 23 (σ 0 41).toNat = (n : Int) ∧ ∀ k : Nat, (k : Int) < σ 0 41 → σ1 23 k = σ 23 k)) : NI σ1 := by
  obtain ⟨dep, hA, hB⟩ := h
  have e23 : ∀ k : Nat, (k : Int) < σ 0 41 → σ1 23 k = σ 23 k := by rcases hc with q | q; exact q.2.2; exact q.2.2.2.2
  refine ⟨hs_upN dep n (σ 0 41).toNat, fun i hi => ?_, fun k hk => ?_⟩
  · by_cases ei : i = n
    · subst ei
      refine ⟨hok, fun h5 => ?_⟩
      rcases hc with q | q
      · exfalso; omega
      · exact Or.inr ⟨(σ 0 41).toNat, by omega, q.2.2.2.1⟩
    · have hi2 : (i : Int) < σ 0 32 := by omega
      refine ⟨OKA_eq (e15 i (by omega)) (e16 i (by omega)) (e17 i (by omega)) (hA i hi2).1, fun h5 => ?_⟩
      rw [e15 i (by omega)] at h5
      rcases (hA i hi2).2 h5 with ⟨⟨c1, c2, c3, c4⟩, q2⟩ | ⟨k, hk, q⟩
      · left
        refine ⟨⟨by rw [hs_upN_ne ei]; exact c1, by rw [e22 i (by omega)]; exact c2, by rw [e22 i (by omega)]; omega, fun j hj hj2 => ?_⟩, fun k hk => ?_⟩
        · rw [e22 i (by omega)] at hj2
          rw [hs_upN_ne ei, hs_upN_ne (by omega : j ≠ n), e15 j (by omega), e22 i (by omega), e22 j (by omega)]
          exact c4 j hj hj2
        · rw [e22 i (by omega)]
          by_cases ek : (k : Int) < σ 0 41
          · rw [e23 k ek]; exact q2 k ek
          · rcases hc with q | q
            · exfalso; omega
            · right
              have : k = (σ 0 41).toNat := by omega
              rw [this, q.2.2.2.1]
              omega
      · exact Or.inr ⟨k, by rcases hc with r | r <;> omega, by rw [e23 k hk]; exact q⟩
  · by_cases ek : (k : Int) < σ 0 41
    · obtain ⟨b1, b2, b3, b4, b5⟩ := hB k ek
      rw [e23 k ek]
      refine ⟨b1, by omega, by rw [hs_upN_ne (by omega)]; exact b3, fun j hj hj2 => ?_, fun k2 h1 h2 => ?_⟩
      · by_cases ej : j = n
        · rw [ej, hs_upN_same]; omega
        · rw [hs_upN_ne ej]; exact b4 j hj (by omega)
      · by_cases ek2 : (k2 : Int) < σ 0 41
        · rw [e23 k2 ek2]; exact b5 k2 h1 ek2
        · rcases hc with q | q
          · exfalso; omega
          · have : k2 = (σ 0 41).toNat := by omega
            rw [this, q.2.2.2.1]
            omega
    · rcases hc with q | q
      · exfalso; omega
      · have e : k = (σ 0 41).toNat := by omega
        rw [e, q.2.2.2.1]
        refine ⟨by omega, by omega, by rw [show ((n : Int)).toNat = n from Int.toNat_natCast n, hs_upN_same], fun j hj hj2 => by exfalso; omega, fun k2 h1 h2 => by exfalso; omega⟩
def PWr (c j : Nat) : Bool := c == 0 && (j == 25 || j == 26)
def PTa (c j : Nat) : Bool := c == 0 && (j == 28 || j == 29 || j == 30 || j == 31)
def PTw (c j : Nat) : Bool := c == 0 && (j == 25 || j == 26 || j == 28 || j == 29 || j == 30 || j == 31)
def PPl (c j : Nat) : Bool := c == 0 && (j == 25 || j == 26 || j == 28 || j == 29 || j == 30 || j == 31 || j == 43 || j == 44)
def PTr (a c j : Nat) : Bool := (c == 0 && (j == 25 || j == 26 || j == 28 || j == 29 || j == 30 || j == 31 || j == 43 || j == 44)) || (c == 16 && j == a) || c == 18 || c == 19
def PLr (a c j : Nat) : Bool := (c == 0 && (j == 25 || j == 26 || j == 28 || j == 29 || j == 30 || j == 31 || j == 43 || j == 44 || j == 41)) || (c == 16 && j == a) || (c == 17 && j == a) || c == 18 || c == 19 || c == 20 || c == 21 || c == 23
def PAr (c j : Nat) : Bool := (c == 0 && (j == 25 || j == 26 || j == 28 || j == 29 || j == 30 || j == 31 || j == 43 || j == 44 || j == 41 || j == 32)) || c == 15 || c == 16 || c == 17 || c == 18 || c == 19 || c == 20 || c == 21 || c == 22 || c == 23
/-- the token that was taken -/
def TY (σ : hs_S) : Prop := (σ 0 29 = 1 → 0 ≤ σ 0 30 ∧ σ 0 30 ≤ 6) ∧ (σ 0 29 = 2 → 0 ≤ σ 0 30 ∧ σ 0 30 ≤ 7) ∧ (σ 0 29 = 3 → 0 ≤ σ 0 30) ∧ (¬ σ 0 29 = 0 → σ 0 31 < σ 0 28) ∧ σ 0 28 ≤ σ 0 27 ∧ σ 0 31 ≤ σ 0 28
def okTY (c j : Nat) : Bool := !(c == 0 && (j == 27 || j == 28 || j == 29 || j == 30 || j == 31))
theorem TY_cg {σ σ1 : hs_S} (h : FRM okTY σ σ1) (k : TY σ) : TY σ1 := by
  unfold TY at *
  rw [h 0 27 rfl, h 0 28 rfl, h 0 29 rfl, h 0 30 rfl, h 0 31 rfl]
  exact k
set_option maxHeartbeats 4000000 in
set_option maxRecDepth 100000 in
theorem c_X12_wrong (l : Launch) (k : Int) (hk : 1 ≤ k ∧ k ≤ 3) : hs_Met l yX12_wrong cX12_wrong 2 (some .boolean) 1 SHY (fun ad => [.ref (ad 0), vI k]) (fun σ => GY σ σ) (hs_PI (fun σ z σ1 => GY σ σ1 ∧ FRM PWr σ σ1 ∧ z = 0)) := by
  refine hs_from pfX12_wrong (fun _ => Nat.le_of_ble_eq_true rfl) ?_
  intro p e s m args below meth c D dA ad A σ C hpre
  have C : hs_C p s m args meth c D dA SHY ad A 2 cX12_wrong RX12 (some .boolean) := C
  have g0 := hpre
  have f0 : FRM PWr σ σ := frm_rf
  show hs_Wd p l e 1 s m args below meth c D dA SHY ad A 2 (hs_PI (fun σ z σ1 => GY σ σ1 ∧ FRM PWr σ σ1 ∧ z = 0) σ) 0 [(0, .ref (ad 0)), (1, vI k)] [] σ
  refine s_aload_n (pc := 0) C dX12_wrong_0 0 rfl ?_
  refine s_iload_n (pc := 1) C dX12_wrong_1 1 rfl ?_
  refine s_puti (q := 0) (ci := 12) (N := 68) (CN := RX12) (T := TX12) (ty0 := tyX12) (ty := .int) (pc := 2) C 25 dX12_wrong_2 wlX12_224 rfl rfl rfl wfX12 tyX12_ok nmX12 (by decide) rfl rfl rfl (vp_nar_int _) rfl ?_
  have g2 := gy_set (z := k) g0 0 25 rfl (0) (3) rfl ⟨by omega, by omega⟩
  have f2 := frm_set (P := PWr) (z := k) f0 0 25 rfl
  refine s_aload_n (pc := 5) C dX12_wrong_5 0 rfl ?_
  refine s_aload_n (pc := 6) C dX12_wrong_6 0 rfl ?_
  refine s_geti (q := 0) (ci := 12) (N := 68) (CN := RX12) (T := TX12) (pc := 7) C 31 dX12_wrong_7 wlX12_227 rfl rfl rfl wfX12 (by decide) rfl (σ 0 31) rfl ?_
  have b7 : (0 : Int) ≤ σ 0 31 ∧ σ 0 31 ≤ 500 := g2.1 0 31
  refine s_puti (q := 0) (ci := 12) (N := 68) (CN := RX12) (T := TX12) (ty0 := tyX12) (ty := .int) (pc := 10) C 26 dX12_wrong_10 wlX12_56 rfl rfl rfl wfX12 tyX12_ok nmX12 (by decide) rfl rfl rfl (vp_nar_int _) rfl ?_
  have g10 := gy_set (z := (σ 0 31)) g2 0 26 rfl (-1) (500) rfl ⟨by omega, by omega⟩
  have f10 := frm_set (P := PWr) (z := (σ 0 31)) f2 0 26 rfl
  refine s_iconst (pc := 13) C dX12_wrong_13 ?_
  refine s_zret (pc := 14) C (by omega) dX12_wrong_14 ?_
  refine ⟨_, rfl, ?_⟩
  exact ⟨g10, f10, by first | omega | assumption | (constructor <;> omega) | (refine ⟨⟨?_, ?_⟩, ?_⟩ <;> omega) | (simp [hs_ss, hs_up]; omega) | (simp [hs_ss, hs_up]; done)⟩
set_option maxHeartbeats 4000000 in
set_option maxRecDepth 100000 in
theorem c_X12_isSign (l : Launch) (a : Int) (ha : hs_R a) : hs_Met l yX12_isSign cX12_isSign 2 (some .boolean) 1 SHY (fun ad => [.ref (ad 0), vI a]) (fun σ => GY σ σ) (hs_PI (fun σ z σ1 => σ = σ1 ∧ (z = 0 ∨ z = 1) ∧ (z = 1 ↔ σ 0 29 = 4 ∧ σ 0 30 = a))) := by
  refine hs_from pfX12_isSign (fun _ => Nat.le_of_ble_eq_true rfl) ?_
  intro p e s m args below meth c D dA ad A σ C hpre
  have C : hs_C p s m args meth c D dA SHY ad A 2 cX12_isSign RX12 (some .boolean) := C
  have g0 := hpre
  show hs_Wd p l e 1 s m args below meth c D dA SHY ad A 2 (hs_PI (fun σ z σ1 => σ = σ1 ∧ (z = 0 ∨ z = 1) ∧ (z = 1 ↔ σ 0 29 = 4 ∧ σ 0 30 = a)) σ) 0 [(0, .ref (ad 0)), (1, vI a)] [] σ
  refine s_aload_n (pc := 0) C dX12_isSign_0 0 rfl ?_
  refine s_geti (q := 0) (ci := 12) (N := 68) (CN := RX12) (T := TX12) (pc := 1) C 29 dX12_isSign_1 wlX12_236 rfl rfl rfl wfX12 (by decide) rfl (σ 0 29) rfl ?_
  have b1 : (0 : Int) ≤ σ 0 29 ∧ σ 0 29 ≤ 5 := g0.1 0 29
  refine s_iconst (pc := 4) C dX12_isSign_4 ?_
  refine s_icmp_ne (pc := 5) C (tgt := 20) dX12_isSign_5 (by decide) ⟨by omega, by omega⟩ ⟨by decide, by decide⟩ (fun h5 => ?_) (fun h5 => ?_)
  · skip
    refine s_iconst (pc := 20) C dX12_isSign_20 ?_
    refine s_zret (pc := 21) C (by omega) dX12_isSign_21 ?_
    refine ⟨_, rfl, ?_⟩
    exact ⟨rfl, by first | omega | assumption | (constructor <;> omega) | (refine ⟨⟨?_, ?_⟩, ?_⟩ <;> omega) | (simp [hs_ss, hs_up]; omega) | (simp [hs_ss, hs_up]; done)⟩
  · skip
    refine s_aload_n (pc := 8) C dX12_isSign_8 0 rfl ?_
    refine s_geti (q := 0) (ci := 12) (N := 68) (CN := RX12) (T := TX12) (pc := 9) C 30 dX12_isSign_9 wlX12_245 rfl rfl rfl wfX12 (by decide) rfl (σ 0 30) rfl ?_
    have b9 : (-1 : Int) ≤ σ 0 30 ∧ σ 0 30 ≤ 10000 := g0.1 0 30
    refine s_iload_n (pc := 12) C dX12_isSign_12 1 rfl ?_
    refine s_icmp_ne (pc := 13) C (tgt := 20) dX12_isSign_13 (by decide) ⟨by omega, by omega⟩ ⟨by omega, by omega⟩ (fun h13 => ?_) (fun h13 => ?_)
    · skip
      refine s_iconst (pc := 20) C dX12_isSign_20 ?_
      refine s_zret (pc := 21) C (by omega) dX12_isSign_21 ?_
      refine ⟨_, rfl, ?_⟩
      exact ⟨rfl, by first | omega | assumption | (constructor <;> omega) | (refine ⟨⟨?_, ?_⟩, ?_⟩ <;> omega) | (simp [hs_ss, hs_up]; omega) | (simp [hs_ss, hs_up]; done)⟩
    · skip
      refine s_iconst (pc := 16) C dX12_isSign_16 ?_
      refine s_goto (pc := 17) C (tgt := 21) dX12_isSign_17 (by decide) ?_
      refine s_zret (pc := 21) C (by omega) dX12_isSign_21 ?_
      refine ⟨_, rfl, ?_⟩
      exact ⟨rfl, by first | omega | assumption | (constructor <;> omega) | (refine ⟨⟨?_, ?_⟩, ?_⟩ <;> omega) | (simp [hs_ss, hs_up]; omega) | (simp [hs_ss, hs_up]; done)⟩
set_option maxHeartbeats 4000000 in
set_option maxRecDepth 100000 in
theorem c_X12_isSmall (l : Launch) (k : Int) (hk : 0 ≤ k ∧ k ≤ 500) : hs_Met l yX12_isSmall cX12_isSmall 2 (some .boolean) 1 SHY (fun ad => [.ref (ad 0), vI k]) (fun σ => GY σ σ) (hs_PI (fun σ z σ1 => σ = σ1 ∧ (z = 0 ∨ z = 1) ∧ (z = 1 ↔ k < σ 0 27 ∧ 97 ≤ σ 1 k.toNat ∧ σ 1 k.toNat ≤ 122))) := by
  refine hs_from pfX12_isSmall (fun _ => Nat.le_of_ble_eq_true rfl) ?_
  intro p e s m args below meth c D dA ad A σ C hpre
  have C : hs_C p s m args meth c D dA SHY ad A 2 cX12_isSmall RX12 (some .boolean) := C
  have g0 := hpre
  show hs_Wd p l e 1 s m args below meth c D dA SHY ad A 2 (hs_PI (fun σ z σ1 => σ = σ1 ∧ (z = 0 ∨ z = 1) ∧ (z = 1 ↔ k < σ 0 27 ∧ 97 ≤ σ 1 k.toNat ∧ σ 1 k.toNat ≤ 122)) σ) 0 [(0, .ref (ad 0)), (1, vI k)] [] σ
  refine s_iload_n (pc := 0) C dX12_isSmall_0 1 rfl ?_
  refine s_aload_n (pc := 1) C dX12_isSmall_1 0 rfl ?_
  refine s_geti (q := 0) (ci := 12) (N := 68) (CN := RX12) (T := TX12) (pc := 2) C 27 dX12_isSmall_2 wlX12_230 rfl rfl rfl wfX12 (by decide) rfl (σ 0 27) rfl ?_
  have b2 : (0 : Int) ≤ σ 0 27 ∧ σ 0 27 ≤ 500 := g0.1 0 27
  refine s_icmp_ge (pc := 5) C (tgt := 34) dX12_isSmall_5 (by decide) ⟨by omega, by omega⟩ ⟨by omega, by omega⟩ (fun h5 => ?_) (fun h5 => ?_)
  · skip
    refine s_iconst (pc := 34) C dX12_isSmall_34 ?_
    refine s_zret (pc := 35) C (by omega) dX12_isSmall_35 ?_
    refine ⟨_, rfl, ?_⟩
    exact ⟨rfl, by first | omega | assumption | (constructor <;> omega) | (refine ⟨⟨?_, ?_⟩, ?_⟩ <;> omega) | (simp [hs_ss, hs_up]; omega) | (simp [hs_ss, hs_up]; done)⟩
  · skip
    refine s_aload_n (pc := 8) C dX12_isSmall_8 0 rfl ?_
    refine s_getr (q := 0) (ci := 12) (N := 68) (CN := RX12) (T := TX12) (pc := 9) C 0 dX12_isSmall_9 wlX12_7 rfl rfl rfl wfX12 (by decide) rfl ?_
    refine s_iload_n (pc := 12) C dX12_isSmall_12 1 rfl ?_
    refine s_iald (q := 1) (n := 500) (pc := 13) C (σ 1 k.toNat) rfl dX12_isSmall_13 rfl (by omega) (by omega) (by decide) ?_
    have b13 : (0 : Int) ≤ σ 1 k.toNat ∧ σ 1 k.toNat ≤ 255 := g0.1 1 k.toNat
    refine s_bipush (pc := 14) C dX12_isSmall_14 (by decide) ?_
    refine s_icmp_lt (pc := 16) C (tgt := 34) dX12_isSmall_16 (by decide) ⟨by omega, by omega⟩ ⟨by decide, by decide⟩ (fun h16 => ?_) (fun h16 => ?_)
    · skip
      refine s_iconst (pc := 34) C dX12_isSmall_34 ?_
      refine s_zret (pc := 35) C (by omega) dX12_isSmall_35 ?_
      refine ⟨_, rfl, ?_⟩
      exact ⟨rfl, by first | omega | assumption | (constructor <;> omega) | (refine ⟨⟨?_, ?_⟩, ?_⟩ <;> omega) | (simp [hs_ss, hs_up]; omega) | (simp [hs_ss, hs_up]; done)⟩
    · skip
      refine s_aload_n (pc := 19) C dX12_isSmall_19 0 rfl ?_
      refine s_getr (q := 0) (ci := 12) (N := 68) (CN := RX12) (T := TX12) (pc := 20) C 0 dX12_isSmall_20 wlX12_7 rfl rfl rfl wfX12 (by decide) rfl ?_
      refine s_iload_n (pc := 23) C dX12_isSmall_23 1 rfl ?_
      refine s_iald (q := 1) (n := 500) (pc := 24) C (σ 1 k.toNat) rfl dX12_isSmall_24 rfl (by omega) (by omega) (by decide) ?_
      have b24 : (0 : Int) ≤ σ 1 k.toNat ∧ σ 1 k.toNat ≤ 255 := g0.1 1 k.toNat
      refine s_bipush (pc := 25) C dX12_isSmall_25 (by decide) ?_
      refine s_icmp_gt (pc := 27) C (tgt := 34) dX12_isSmall_27 (by decide) ⟨by omega, by omega⟩ ⟨by decide, by decide⟩ (fun h27 => ?_) (fun h27 => ?_)
      · skip
        refine s_iconst (pc := 34) C dX12_isSmall_34 ?_
        refine s_zret (pc := 35) C (by omega) dX12_isSmall_35 ?_
        refine ⟨_, rfl, ?_⟩
        exact ⟨rfl, by first | omega | assumption | (constructor <;> omega) | (refine ⟨⟨?_, ?_⟩, ?_⟩ <;> omega) | (simp [hs_ss, hs_up]; omega) | (simp [hs_ss, hs_up]; done)⟩
      · skip
        refine s_iconst (pc := 30) C dX12_isSmall_30 ?_
        refine s_goto (pc := 31) C (tgt := 35) dX12_isSmall_31 (by decide) ?_
        refine s_zret (pc := 35) C (by omega) dX12_isSmall_35 ?_
        refine ⟨_, rfl, ?_⟩
        exact ⟨rfl, by first | omega | assumption | (constructor <;> omega) | (refine ⟨⟨?_, ?_⟩, ?_⟩ <;> omega) | (simp [hs_ss, hs_up]; omega) | (simp [hs_ss, hs_up]; done)⟩
set_option maxHeartbeats 4000000 in
set_option maxRecDepth 100000 in
theorem c_X12_isDigit (l : Launch) (k : Int) (hk : 0 ≤ k ∧ k ≤ 500) : hs_Met l yX12_isDigit cX12_isDigit 2 (some .boolean) 1 SHY (fun ad => [.ref (ad 0), vI k]) (fun σ => GY σ σ) (hs_PI (fun σ z σ1 => σ = σ1 ∧ (z = 0 ∨ z = 1) ∧ (z = 1 ↔ k < σ 0 27 ∧ 48 ≤ σ 1 k.toNat ∧ σ 1 k.toNat ≤ 57))) := by
  refine hs_from pfX12_isDigit (fun _ => Nat.le_of_ble_eq_true rfl) ?_
  intro p e s m args below meth c D dA ad A σ C hpre
  have C : hs_C p s m args meth c D dA SHY ad A 2 cX12_isDigit RX12 (some .boolean) := C
  have g0 := hpre
  show hs_Wd p l e 1 s m args below meth c D dA SHY ad A 2 (hs_PI (fun σ z σ1 => σ = σ1 ∧ (z = 0 ∨ z = 1) ∧ (z = 1 ↔ k < σ 0 27 ∧ 48 ≤ σ 1 k.toNat ∧ σ 1 k.toNat ≤ 57)) σ) 0 [(0, .ref (ad 0)), (1, vI k)] [] σ
  refine s_iload_n (pc := 0) C dX12_isDigit_0 1 rfl ?_
  refine s_aload_n (pc := 1) C dX12_isDigit_1 0 rfl ?_
  refine s_geti (q := 0) (ci := 12) (N := 68) (CN := RX12) (T := TX12) (pc := 2) C 27 dX12_isDigit_2 wlX12_230 rfl rfl rfl wfX12 (by decide) rfl (σ 0 27) rfl ?_
  have b2 : (0 : Int) ≤ σ 0 27 ∧ σ 0 27 ≤ 500 := g0.1 0 27
  refine s_icmp_ge (pc := 5) C (tgt := 34) dX12_isDigit_5 (by decide) ⟨by omega, by omega⟩ ⟨by omega, by omega⟩ (fun h5 => ?_) (fun h5 => ?_)
  · skip
    refine s_iconst (pc := 34) C dX12_isDigit_34 ?_
    refine s_zret (pc := 35) C (by omega) dX12_isDigit_35 ?_
    refine ⟨_, rfl, ?_⟩
    exact ⟨rfl, by first | omega | assumption | (constructor <;> omega) | (refine ⟨⟨?_, ?_⟩, ?_⟩ <;> omega) | (simp [hs_ss, hs_up]; omega) | (simp [hs_ss, hs_up]; done)⟩
  · skip
    refine s_aload_n (pc := 8) C dX12_isDigit_8 0 rfl ?_
    refine s_getr (q := 0) (ci := 12) (N := 68) (CN := RX12) (T := TX12) (pc := 9) C 0 dX12_isDigit_9 wlX12_7 rfl rfl rfl wfX12 (by decide) rfl ?_
    refine s_iload_n (pc := 12) C dX12_isDigit_12 1 rfl ?_
    refine s_iald (q := 1) (n := 500) (pc := 13) C (σ 1 k.toNat) rfl dX12_isDigit_13 rfl (by omega) (by omega) (by decide) ?_
    have b13 : (0 : Int) ≤ σ 1 k.toNat ∧ σ 1 k.toNat ≤ 255 := g0.1 1 k.toNat
    refine s_bipush (pc := 14) C dX12_isDigit_14 (by decide) ?_
    refine s_icmp_lt (pc := 16) C (tgt := 34) dX12_isDigit_16 (by decide) ⟨by omega, by omega⟩ ⟨by decide, by decide⟩ (fun h16 => ?_) (fun h16 => ?_)
    · skip
      refine s_iconst (pc := 34) C dX12_isDigit_34 ?_
      refine s_zret (pc := 35) C (by omega) dX12_isDigit_35 ?_
      refine ⟨_, rfl, ?_⟩
      exact ⟨rfl, by first | omega | assumption | (constructor <;> omega) | (refine ⟨⟨?_, ?_⟩, ?_⟩ <;> omega) | (simp [hs_ss, hs_up]; omega) | (simp [hs_ss, hs_up]; done)⟩
    · skip
      refine s_aload_n (pc := 19) C dX12_isDigit_19 0 rfl ?_
      refine s_getr (q := 0) (ci := 12) (N := 68) (CN := RX12) (T := TX12) (pc := 20) C 0 dX12_isDigit_20 wlX12_7 rfl rfl rfl wfX12 (by decide) rfl ?_
      refine s_iload_n (pc := 23) C dX12_isDigit_23 1 rfl ?_
      refine s_iald (q := 1) (n := 500) (pc := 24) C (σ 1 k.toNat) rfl dX12_isDigit_24 rfl (by omega) (by omega) (by decide) ?_
      have b24 : (0 : Int) ≤ σ 1 k.toNat ∧ σ 1 k.toNat ≤ 255 := g0.1 1 k.toNat
      refine s_bipush (pc := 25) C dX12_isDigit_25 (by decide) ?_
      refine s_icmp_gt (pc := 27) C (tgt := 34) dX12_isDigit_27 (by decide) ⟨by omega, by omega⟩ ⟨by decide, by decide⟩ (fun h27 => ?_) (fun h27 => ?_)
      · skip
        refine s_iconst (pc := 34) C dX12_isDigit_34 ?_
        refine s_zret (pc := 35) C (by omega) dX12_isDigit_35 ?_
        refine ⟨_, rfl, ?_⟩
        exact ⟨rfl, by first | omega | assumption | (constructor <;> omega) | (refine ⟨⟨?_, ?_⟩, ?_⟩ <;> omega) | (simp [hs_ss, hs_up]; omega) | (simp [hs_ss, hs_up]; done)⟩
      · skip
        refine s_iconst (pc := 30) C dX12_isDigit_30 ?_
        refine s_goto (pc := 31) C (tgt := 35) dX12_isDigit_31 (by decide) ?_
        refine s_zret (pc := 35) C (by omega) dX12_isDigit_35 ?_
        refine ⟨_, rfl, ?_⟩
        exact ⟨rfl, by first | omega | assumption | (constructor <;> omega) | (refine ⟨⟨?_, ?_⟩, ?_⟩ <;> omega) | (simp [hs_ss, hs_up]; omega) | (simp [hs_ss, hs_up]; done)⟩
set_option maxHeartbeats 4000000 in
set_option maxRecDepth 100000 in
theorem c_X12_wordAt (l : Launch) (a b : Int) (ha : 0 ≤ a ∧ a ≤ b ∧ b ≤ 500) : hs_Met l yX12_wordAt cX12_wordAt 8 (some .int) 1 SHY (fun ad => [.ref (ad 0), vI a, vI b]) (fun σ => GY σ σ) (hs_PI (fun σ z σ1 => σ = σ1 ∧ -1 ≤ z ∧ z ≤ 6)) := by
  refine hs_from pfX12_wordAt (fun _ => Nat.le_of_ble_eq_true rfl) ?_
  intro p e s m args below meth c D dA ad A σ C hpre
  have C : hs_C p s m args meth c D dA SHY ad A 8 cX12_wordAt RX12 (some .int) := C
  have g0 := hpre
  show hs_Wd p l e 1 s m args below meth c D dA SHY ad A 8 (hs_PI (fun σ z σ1 => σ = σ1 ∧ -1 ≤ z ∧ z ≤ 6) σ) 0 [(0, .ref (ad 0)), (1, vI a), (2, vI b)] [] σ
  refine s_iconst (pc := 0) C dX12_wordAt_0 ?_
  refine s_istore_n (pc := 1) C [(3, vI 0), (0, .ref (ad 0)), (1, vI a), (2, vI b)] dX12_wordAt_1 (by decide) rfl ?_
  refine s_iconst (pc := 2) C dX12_wordAt_2 ?_
  refine s_istore (pc := 3) C [(4, vI 0), (3, vI 0), (0, .ref (ad 0)), (1, vI a), (2, vI b)] dX12_wordAt_3 (by decide) rfl ?_
  refine s_sub C [2, 3, 4, 1, 0] [(0, .ref (ad 0)), (1, vI a), (2, vI b), (3, vI 0), (4, vI 0)] rfl ?_
  have hi5 : WFo (0 : Int) (0 : Int) := by unfold WFo; omega
  refine hs_loop (α := Int × Int) (fun x_ => (WFo x_.1 x_.2) → hs_Wd p l e 1 s m args below meth c D dA SHY ad A 8 (hs_PI (fun σ z σ1 => σ = σ1 ∧ -1 ≤ z ∧ z ≤ 6) σ) 5 [(0, .ref (ad 0)), (1, vI a), (2, vI b), (3, vI x_.1), (4, vI x_.2)] [] σ) (fun x_ => (8 - x_.1).toNat) ?_ (0, 0) hi5
  rintro ⟨k, f⟩ ih5 hinv
  have hinv : WFo k f := hinv
  show hs_Wd p l e 1 s m args below meth c D dA SHY ad A 8 (hs_PI (fun σ z σ1 => σ = σ1 ∧ -1 ≤ z ∧ z ≤ 6) σ) 5 [(0, .ref (ad 0)), (1, vI a), (2, vI b), (3, vI k), (4, vI f)] [] σ
  have hwf := hinv
  unfold WFo at hwf
  refine s_iload (pc := 5) C dX12_wordAt_5 4 rfl ?_
  refine s_aload_n (pc := 7) C dX12_wordAt_7 0 rfl ?_
  refine s_getr (q := 0) (ci := 12) (N := 68) (CN := RX12) (T := TX12) (pc := 8) C 24 dX12_wordAt_8 wlX12_53 rfl rfl rfl wfX12 (by decide) rfl ?_
  refine s_alen (q := 14) (n := 36) (t := 1) (pc := 11) C dX12_wordAt_11 rfl rfl ?_
  refine s_icmp_ge (pc := 12) C (tgt := 126) dX12_wordAt_12 (by decide) ⟨by omega, by omega⟩ ⟨by omega, by omega⟩ (fun h12 => ?_) (fun h12 => ?_)
  · skip
    refine s_iconst (pc := 126) C dX12_wordAt_126 ?_
    refine s_iret (pc := 127) C dX12_wordAt_127 ?_
    refine ⟨_, rfl, ?_⟩
    exact ⟨rfl, by first | omega | assumption | (constructor <;> omega) | (refine ⟨⟨?_, ?_⟩, ?_⟩ <;> omega) | (simp [hs_ss, hs_up]; omega) | (simp [hs_ss, hs_up]; done)⟩
  · skip
    refine s_iconst (pc := 15) C dX12_wordAt_15 ?_
    refine s_istore (pc := 16) C [(5, vI 0), (0, .ref (ad 0)), (1, vI a), (2, vI b), (3, vI k), (4, vI f)] dX12_wordAt_16 (by decide) rfl ?_
    refine s_sub C [1, 2, 3, 4, 5, 0] [(0, .ref (ad 0)), (1, vI a), (2, vI b), (3, vI k), (4, vI f), (5, vI 0)] rfl ?_
    have hi18 : 0 ≤ (0 : Int) ∧ WLe k (0 : Int) := ⟨by omega, by unfold WLe; omega⟩
    refine hs_loop (α := Int) (fun x_ => (0 ≤ x_ ∧ WLe k x_) → hs_Wd p l e 1 s m args below meth c D dA SHY ad A 8 (hs_PI (fun σ z σ1 => σ = σ1 ∧ -1 ≤ z ∧ z ≤ 6) σ) 18 [(0, .ref (ad 0)), (1, vI a), (2, vI b), (3, vI k), (4, vI f), (5, vI x_)] [] σ) (fun x_ => (6 - x_).toNat) ?_ (0) hi18
    rintro n ih18 hinv
    have hinv : 0 ≤ n ∧ WLe k n := hinv
    show hs_Wd p l e 1 s m args below meth c D dA SHY ad A 8 (hs_PI (fun σ z σ1 => σ = σ1 ∧ -1 ≤ z ∧ z ≤ 6) σ) 18 [(0, .ref (ad 0)), (1, vI a), (2, vI b), (3, vI k), (4, vI f), (5, vI n)] [] σ
    have hwl := hinv.2
    unfold WLe at hwl
    have hn0 := hinv.1
    refine s_aload_n (pc := 18) C dX12_wordAt_18 0 rfl ?_
    refine s_getr (q := 0) (ci := 12) (N := 68) (CN := RX12) (T := TX12) (pc := 19) C 24 dX12_wordAt_19 wlX12_53 rfl rfl rfl wfX12 (by decide) rfl ?_
    refine s_iload (pc := 22) C dX12_wordAt_22 4 rfl ?_
    refine s_iload (pc := 24) C dX12_wordAt_24 5 rfl ?_
    refine s_iadd (pc := 26) C dX12_wordAt_26 ?_
    refine s_iald (q := 14) (n := 36) (pc := 27) C (σ 14 ((f + n).toNat)) rfl dX12_wordAt_27 rfl (by omega) (by omega) (by decide) ?_
    have hb27 := wo_b g0.1 (f + n).toNat (by omega)
    have hw27 := wo_at g0.1 ‹WFo k f› (by omega) hn0 ‹0 ≤ n ∧ WLe k n›.2
    unfold WFu at hw27
    refine s_bipush (pc := 28) C dX12_wordAt_28 (by decide) ?_
    refine s_icmp_eq (pc := 30) C (tgt := 39) dX12_wordAt_30 (by decide) ⟨by omega, by omega⟩ ⟨by decide, by decide⟩ (fun h30 => ?_) (fun h30 => ?_)
    · skip
      refine s_iload (pc := 39) C dX12_wordAt_39 5 rfl ?_
      refine s_iload_n (pc := 41) C dX12_wordAt_41 2 rfl ?_
      refine s_iload_n (pc := 42) C dX12_wordAt_42 1 rfl ?_
      refine s_isub (pc := 43) C dX12_wordAt_43 ?_
      refine s_icmp_ne (pc := 44) C (tgt := 51) dX12_wordAt_44 (by decide) ⟨by omega, by omega⟩ ⟨by omega, by omega⟩ (fun h44 => ?_) (fun h44 => ?_)
      · skip
        refine s_iconst (pc := 51) C dX12_wordAt_51 ?_
        refine s_istore (pc := 52) C [(6, vI 0), (0, .ref (ad 0)), (1, vI a), (2, vI b), (3, vI k), (4, vI f), (5, vI n)] dX12_wordAt_52 (by decide) rfl ?_
        refine s_iconst (pc := 54) C dX12_wordAt_54 ?_
        refine s_istore (pc := 55) C [(7, vI 0), (6, vI 0), (0, .ref (ad 0)), (1, vI a), (2, vI b), (3, vI k), (4, vI f), (5, vI n)] dX12_wordAt_55 (by decide) rfl ?_
        refine s_sub C [2, 3, 4, 5, 6, 7, 1, 0] [(0, .ref (ad 0)), (1, vI a), (2, vI b), (3, vI k), (4, vI f), (5, vI n), (6, vI 0), (7, vI 0)] rfl ?_
        have hi57 : 0 ≤ (0 : Int) ∧ (0 : Int) ≤ n ∧ ((0 : Int) = 0 ∨ (0 : Int) = 1) ∧ ((0 : Int) = 1 → n = b - a) := (by first | omega | assumption | (constructor <;> omega) | (refine ⟨⟨?_, ?_⟩, ?_⟩ <;> omega) | (simp [hs_ss, hs_up]; omega) | (simp [hs_ss, hs_up]; done))
        refine hs_loop (α := Int × Int) (fun x_ => (0 ≤ x_.1 ∧ x_.1 ≤ n ∧ (x_.2 = 0 ∨ x_.2 = 1) ∧ (x_.2 = 1 → n = b - a)) → hs_Wd p l e 1 s m args below meth c D dA SHY ad A 8 (hs_PI (fun σ z σ1 => σ = σ1 ∧ -1 ≤ z ∧ z ≤ 6) σ) 57 [(0, .ref (ad 0)), (1, vI a), (2, vI b), (3, vI k), (4, vI f), (5, vI n), (6, vI x_.2), (7, vI x_.1)] [] σ) (fun x_ => (7 - x_.1).toNat) ?_ (0, 0) hi57
        rintro ⟨i, sm⟩ ih57 hinv
        have hinv : 0 ≤ i ∧ i ≤ n ∧ (sm = 0 ∨ sm = 1) ∧ (sm = 1 → n = b - a) := hinv
        show hs_Wd p l e 1 s m args below meth c D dA SHY ad A 8 (hs_PI (fun σ z σ1 => σ = σ1 ∧ -1 ≤ z ∧ z ≤ 6) σ) 57 [(0, .ref (ad 0)), (1, vI a), (2, vI b), (3, vI k), (4, vI f), (5, vI n), (6, vI sm), (7, vI i)] [] σ
        refine s_iload (pc := 57) C dX12_wordAt_57 7 rfl ?_
        refine s_iload (pc := 59) C dX12_wordAt_59 5 rfl ?_
        refine s_icmp_ge (pc := 61) C (tgt := 104) dX12_wordAt_61 (by decide) ⟨by omega, by omega⟩ ⟨by omega, by omega⟩ (fun h61 => ?_) (fun h61 => ?_)
        · skip
          refine s_iload (pc := 104) C dX12_wordAt_104 6 rfl ?_
          refine s_if_eq (pc := 106) C (tgt := 111) dX12_wordAt_106 (by decide) ⟨by omega, by omega⟩ (fun h106 => ?_) (fun h106 => ?_)
          · skip
            refine s_iload (pc := 111) C dX12_wordAt_111 4 rfl ?_
            refine s_iload (pc := 113) C dX12_wordAt_113 5 rfl ?_
            refine s_iconst (pc := 115) C dX12_wordAt_115 ?_
            refine s_iadd (pc := 116) C dX12_wordAt_116 ?_
            refine s_iadd (pc := 117) C dX12_wordAt_117 ?_
            refine s_istore (pc := 118) C [(4, vI (f + (n + 1))), (0, .ref (ad 0)), (1, vI a), (2, vI b), (3, vI k), (5, vI n), (6, vI sm), (7, vI i)] dX12_wordAt_118 (by decide) rfl ?_
            refine s_iinc (pc := 120) C [(3, vI (k + 1)), (4, vI (f + (n + 1))), (0, .ref (ad 0)), (1, vI a), (2, vI b), (5, vI n), (6, vI sm), (7, vI i)] dX12_wordAt_120 4 rfl (by decide) rfl ?_
            refine s_goto (pc := 123) C (tgt := 5) dX12_wordAt_123 (by decide) ?_
            refine s_sub C [2, 3, 4, 0, 1] [(0, .ref (ad 0)), (1, vI a), (2, vI b), (3, vI (k + 1)), (4, vI (f + (n + 1)))] rfl ?_
            have hi5 : WFo (k + 1) (f + (n + 1)) := by unfold WFo; omega
            exact ih5 (k + 1, f + (n + 1)) (by first | omega | (simp only []; omega)) hi5
          · skip
            refine s_iload_n (pc := 109) C dX12_wordAt_109 3 rfl ?_
            refine s_iret (pc := 110) C dX12_wordAt_110 ?_
            refine ⟨_, rfl, ?_⟩
            exact ⟨rfl, by first | omega | assumption | (constructor <;> omega) | (refine ⟨⟨?_, ?_⟩, ?_⟩ <;> omega) | (simp [hs_ss, hs_up]; omega) | (simp [hs_ss, hs_up]; done)⟩
        · skip
          refine s_iload (pc := 64) C dX12_wordAt_64 6 rfl ?_
          refine s_if_eq (pc := 66) C (tgt := 104) dX12_wordAt_66 (by decide) ⟨by omega, by omega⟩ (fun h66 => ?_) (fun h66 => ?_)
          · skip
            refine s_iload (pc := 104) C dX12_wordAt_104 6 rfl ?_
            refine s_if_eq (pc := 106) C (tgt := 111) dX12_wordAt_106 (by decide) ⟨by omega, by omega⟩ (fun h106 => ?_) (fun h106 => ?_)
            · skip
              refine s_iload (pc := 111) C dX12_wordAt_111 4 rfl ?_
              refine s_iload (pc := 113) C dX12_wordAt_113 5 rfl ?_
              refine s_iconst (pc := 115) C dX12_wordAt_115 ?_
              refine s_iadd (pc := 116) C dX12_wordAt_116 ?_
              refine s_iadd (pc := 117) C dX12_wordAt_117 ?_
              refine s_istore (pc := 118) C [(4, vI (f + (n + 1))), (0, .ref (ad 0)), (1, vI a), (2, vI b), (3, vI k), (5, vI n), (6, vI sm), (7, vI i)] dX12_wordAt_118 (by decide) rfl ?_
              refine s_iinc (pc := 120) C [(3, vI (k + 1)), (4, vI (f + (n + 1))), (0, .ref (ad 0)), (1, vI a), (2, vI b), (5, vI n), (6, vI sm), (7, vI i)] dX12_wordAt_120 4 rfl (by decide) rfl ?_
              refine s_goto (pc := 123) C (tgt := 5) dX12_wordAt_123 (by decide) ?_
              refine s_sub C [2, 3, 4, 0, 1] [(0, .ref (ad 0)), (1, vI a), (2, vI b), (3, vI (k + 1)), (4, vI (f + (n + 1)))] rfl ?_
              have hi5 : WFo (k + 1) (f + (n + 1)) := by unfold WFo; omega
              exact ih5 (k + 1, f + (n + 1)) (by first | omega | (simp only []; omega)) hi5
            · skip
              refine s_iload_n (pc := 109) C dX12_wordAt_109 3 rfl ?_
              refine s_iret (pc := 110) C dX12_wordAt_110 ?_
              refine ⟨_, rfl, ?_⟩
              exact ⟨rfl, by first | omega | assumption | (constructor <;> omega) | (refine ⟨⟨?_, ?_⟩, ?_⟩ <;> omega) | (simp [hs_ss, hs_up]; omega) | (simp [hs_ss, hs_up]; done)⟩
          · skip
            refine s_aload_n (pc := 69) C dX12_wordAt_69 0 rfl ?_
            refine s_getr (q := 0) (ci := 12) (N := 68) (CN := RX12) (T := TX12) (pc := 70) C 24 dX12_wordAt_70 wlX12_53 rfl rfl rfl wfX12 (by decide) rfl ?_
            refine s_iload (pc := 73) C dX12_wordAt_73 4 rfl ?_
            refine s_iload (pc := 75) C dX12_wordAt_75 7 rfl ?_
            refine s_iadd (pc := 77) C dX12_wordAt_77 ?_
            refine s_iald (q := 14) (n := 36) (pc := 78) C (σ 14 ((f + i).toNat)) rfl dX12_wordAt_78 rfl (by omega) (by omega) (by decide) ?_
            have hb78 := wo_b g0.1 (f + i).toNat (by omega)
            refine s_aload_n (pc := 79) C dX12_wordAt_79 0 rfl ?_
            refine s_getr (q := 0) (ci := 12) (N := 68) (CN := RX12) (T := TX12) (pc := 80) C 0 dX12_wordAt_80 wlX12_7 rfl rfl rfl wfX12 (by decide) rfl ?_
            refine s_iload_n (pc := 83) C dX12_wordAt_83 1 rfl ?_
            refine s_iload (pc := 84) C dX12_wordAt_84 7 rfl ?_
            refine s_iadd (pc := 86) C dX12_wordAt_86 ?_
            refine s_iald (q := 1) (n := 500) (pc := 87) C (σ 1 ((a + i).toNat)) rfl dX12_wordAt_87 rfl (by omega) (by omega) (by decide) ?_
            have b87 : (0 : Int) ≤ σ 1 ((a + i).toNat) ∧ σ 1 ((a + i).toNat) ≤ 255 := g0.1 1 ((a + i).toNat)
            refine s_icmp_ne (pc := 88) C (tgt := 95) dX12_wordAt_88 (by decide) ⟨by omega, by omega⟩ ⟨by omega, by omega⟩ (fun h88 => ?_) (fun h88 => ?_)
            · skip
              refine s_iconst (pc := 95) C dX12_wordAt_95 ?_
              refine s_istore (pc := 96) C [(6, vI 0), (0, .ref (ad 0)), (1, vI a), (2, vI b), (3, vI k), (4, vI f), (5, vI n), (7, vI i)] dX12_wordAt_96 (by decide) rfl ?_
              refine s_iinc (pc := 98) C [(7, vI (i + 1)), (6, vI 0), (0, .ref (ad 0)), (1, vI a), (2, vI b), (3, vI k), (4, vI f), (5, vI n)] dX12_wordAt_98 7 rfl (by decide) rfl ?_
              refine s_goto (pc := 101) C (tgt := 57) dX12_wordAt_101 (by decide) ?_
              refine s_sub C [2, 3, 4, 5, 6, 7, 1, 0] [(0, .ref (ad 0)), (1, vI a), (2, vI b), (3, vI k), (4, vI f), (5, vI n), (6, vI 0), (7, vI (i + 1))] rfl ?_
              have hi57 : 0 ≤ (i + 1) ∧ (i + 1) ≤ n ∧ ((0 : Int) = 0 ∨ (0 : Int) = 1) ∧ ((0 : Int) = 1 → n = b - a) := (by first | omega | assumption | (constructor <;> omega) | (refine ⟨⟨?_, ?_⟩, ?_⟩ <;> omega) | (simp [hs_ss, hs_up]; omega) | (simp [hs_ss, hs_up]; done))
              exact ih57 (i + 1, 0) (by first | omega | (simp only []; omega)) hi57
            · skip
              refine s_iconst (pc := 91) C dX12_wordAt_91 ?_
              refine s_goto (pc := 92) C (tgt := 96) dX12_wordAt_92 (by decide) ?_
              refine s_istore (pc := 96) C [(6, vI 1), (0, .ref (ad 0)), (1, vI a), (2, vI b), (3, vI k), (4, vI f), (5, vI n), (7, vI i)] dX12_wordAt_96 (by decide) rfl ?_
              refine s_iinc (pc := 98) C [(7, vI (i + 1)), (6, vI 1), (0, .ref (ad 0)), (1, vI a), (2, vI b), (3, vI k), (4, vI f), (5, vI n)] dX12_wordAt_98 7 rfl (by decide) rfl ?_
              refine s_goto (pc := 101) C (tgt := 57) dX12_wordAt_101 (by decide) ?_
              refine s_sub C [2, 3, 4, 5, 6, 7, 1, 0] [(0, .ref (ad 0)), (1, vI a), (2, vI b), (3, vI k), (4, vI f), (5, vI n), (6, vI 1), (7, vI (i + 1))] rfl ?_
              have hi57 : 0 ≤ (i + 1) ∧ (i + 1) ≤ n ∧ ((1 : Int) = 0 ∨ (1 : Int) = 1) ∧ ((1 : Int) = 1 → n = b - a) := (by first | omega | assumption | (constructor <;> omega) | (refine ⟨⟨?_, ?_⟩, ?_⟩ <;> omega) | (simp [hs_ss, hs_up]; omega) | (simp [hs_ss, hs_up]; done))
              exact ih57 (i + 1, 1) (by first | omega | (simp only []; omega)) hi57
      · skip
        refine s_iconst (pc := 47) C dX12_wordAt_47 ?_
        refine s_goto (pc := 48) C (tgt := 52) dX12_wordAt_48 (by decide) ?_
        refine s_istore (pc := 52) C [(6, vI 1), (0, .ref (ad 0)), (1, vI a), (2, vI b), (3, vI k), (4, vI f), (5, vI n)] dX12_wordAt_52 (by decide) rfl ?_
        refine s_iconst (pc := 54) C dX12_wordAt_54 ?_
        refine s_istore (pc := 55) C [(7, vI 0), (6, vI 1), (0, .ref (ad 0)), (1, vI a), (2, vI b), (3, vI k), (4, vI f), (5, vI n)] dX12_wordAt_55 (by decide) rfl ?_
        refine s_sub C [2, 3, 4, 5, 6, 7, 1, 0] [(0, .ref (ad 0)), (1, vI a), (2, vI b), (3, vI k), (4, vI f), (5, vI n), (6, vI 1), (7, vI 0)] rfl ?_
        have hi57 : 0 ≤ (0 : Int) ∧ (0 : Int) ≤ n ∧ ((1 : Int) = 0 ∨ (1 : Int) = 1) ∧ ((1 : Int) = 1 → n = b - a) := (by first | omega | assumption | (constructor <;> omega) | (refine ⟨⟨?_, ?_⟩, ?_⟩ <;> omega) | (simp [hs_ss, hs_up]; omega) | (simp [hs_ss, hs_up]; done))
        refine hs_loop (α := Int × Int) (fun x_ => (0 ≤ x_.1 ∧ x_.1 ≤ n ∧ (x_.2 = 0 ∨ x_.2 = 1) ∧ (x_.2 = 1 → n = b - a)) → hs_Wd p l e 1 s m args below meth c D dA SHY ad A 8 (hs_PI (fun σ z σ1 => σ = σ1 ∧ -1 ≤ z ∧ z ≤ 6) σ) 57 [(0, .ref (ad 0)), (1, vI a), (2, vI b), (3, vI k), (4, vI f), (5, vI n), (6, vI x_.2), (7, vI x_.1)] [] σ) (fun x_ => (7 - x_.1).toNat) ?_ (0, 1) hi57
        rintro ⟨i, sm⟩ ih57 hinv
        have hinv : 0 ≤ i ∧ i ≤ n ∧ (sm = 0 ∨ sm = 1) ∧ (sm = 1 → n = b - a) := hinv
        show hs_Wd p l e 1 s m args below meth c D dA SHY ad A 8 (hs_PI (fun σ z σ1 => σ = σ1 ∧ -1 ≤ z ∧ z ≤ 6) σ) 57 [(0, .ref (ad 0)), (1, vI a), (2, vI b), (3, vI k), (4, vI f), (5, vI n), (6, vI sm), (7, vI i)] [] σ
        refine s_iload (pc := 57) C dX12_wordAt_57 7 rfl ?_
        refine s_iload (pc := 59) C dX12_wordAt_59 5 rfl ?_
        refine s_icmp_ge (pc := 61) C (tgt := 104) dX12_wordAt_61 (by decide) ⟨by omega, by omega⟩ ⟨by omega, by omega⟩ (fun h61 => ?_) (fun h61 => ?_)
        · skip
          refine s_iload (pc := 104) C dX12_wordAt_104 6 rfl ?_
          refine s_if_eq (pc := 106) C (tgt := 111) dX12_wordAt_106 (by decide) ⟨by omega, by omega⟩ (fun h106 => ?_) (fun h106 => ?_)
          · skip
            refine s_iload (pc := 111) C dX12_wordAt_111 4 rfl ?_
            refine s_iload (pc := 113) C dX12_wordAt_113 5 rfl ?_
            refine s_iconst (pc := 115) C dX12_wordAt_115 ?_
            refine s_iadd (pc := 116) C dX12_wordAt_116 ?_
            refine s_iadd (pc := 117) C dX12_wordAt_117 ?_
            refine s_istore (pc := 118) C [(4, vI (f + (n + 1))), (0, .ref (ad 0)), (1, vI a), (2, vI b), (3, vI k), (5, vI n), (6, vI sm), (7, vI i)] dX12_wordAt_118 (by decide) rfl ?_
            refine s_iinc (pc := 120) C [(3, vI (k + 1)), (4, vI (f + (n + 1))), (0, .ref (ad 0)), (1, vI a), (2, vI b), (5, vI n), (6, vI sm), (7, vI i)] dX12_wordAt_120 4 rfl (by decide) rfl ?_
            refine s_goto (pc := 123) C (tgt := 5) dX12_wordAt_123 (by decide) ?_
            refine s_sub C [2, 3, 4, 0, 1] [(0, .ref (ad 0)), (1, vI a), (2, vI b), (3, vI (k + 1)), (4, vI (f + (n + 1)))] rfl ?_
            have hi5 : WFo (k + 1) (f + (n + 1)) := by unfold WFo; omega
            exact ih5 (k + 1, f + (n + 1)) (by first | omega | (simp only []; omega)) hi5
          · skip
            refine s_iload_n (pc := 109) C dX12_wordAt_109 3 rfl ?_
            refine s_iret (pc := 110) C dX12_wordAt_110 ?_
            refine ⟨_, rfl, ?_⟩
            exact ⟨rfl, by first | omega | assumption | (constructor <;> omega) | (refine ⟨⟨?_, ?_⟩, ?_⟩ <;> omega) | (simp [hs_ss, hs_up]; omega) | (simp [hs_ss, hs_up]; done)⟩
        · skip
          refine s_iload (pc := 64) C dX12_wordAt_64 6 rfl ?_
          refine s_if_eq (pc := 66) C (tgt := 104) dX12_wordAt_66 (by decide) ⟨by omega, by omega⟩ (fun h66 => ?_) (fun h66 => ?_)
          · skip
            refine s_iload (pc := 104) C dX12_wordAt_104 6 rfl ?_
            refine s_if_eq (pc := 106) C (tgt := 111) dX12_wordAt_106 (by decide) ⟨by omega, by omega⟩ (fun h106 => ?_) (fun h106 => ?_)
            · skip
              refine s_iload (pc := 111) C dX12_wordAt_111 4 rfl ?_
              refine s_iload (pc := 113) C dX12_wordAt_113 5 rfl ?_
              refine s_iconst (pc := 115) C dX12_wordAt_115 ?_
              refine s_iadd (pc := 116) C dX12_wordAt_116 ?_
              refine s_iadd (pc := 117) C dX12_wordAt_117 ?_
              refine s_istore (pc := 118) C [(4, vI (f + (n + 1))), (0, .ref (ad 0)), (1, vI a), (2, vI b), (3, vI k), (5, vI n), (6, vI sm), (7, vI i)] dX12_wordAt_118 (by decide) rfl ?_
              refine s_iinc (pc := 120) C [(3, vI (k + 1)), (4, vI (f + (n + 1))), (0, .ref (ad 0)), (1, vI a), (2, vI b), (5, vI n), (6, vI sm), (7, vI i)] dX12_wordAt_120 4 rfl (by decide) rfl ?_
              refine s_goto (pc := 123) C (tgt := 5) dX12_wordAt_123 (by decide) ?_
              refine s_sub C [2, 3, 4, 0, 1] [(0, .ref (ad 0)), (1, vI a), (2, vI b), (3, vI (k + 1)), (4, vI (f + (n + 1)))] rfl ?_
              have hi5 : WFo (k + 1) (f + (n + 1)) := by unfold WFo; omega
              exact ih5 (k + 1, f + (n + 1)) (by first | omega | (simp only []; omega)) hi5
            · skip
              refine s_iload_n (pc := 109) C dX12_wordAt_109 3 rfl ?_
              refine s_iret (pc := 110) C dX12_wordAt_110 ?_
              refine ⟨_, rfl, ?_⟩
              exact ⟨rfl, by first | omega | assumption | (constructor <;> omega) | (refine ⟨⟨?_, ?_⟩, ?_⟩ <;> omega) | (simp [hs_ss, hs_up]; omega) | (simp [hs_ss, hs_up]; done)⟩
          · skip
            refine s_aload_n (pc := 69) C dX12_wordAt_69 0 rfl ?_
            refine s_getr (q := 0) (ci := 12) (N := 68) (CN := RX12) (T := TX12) (pc := 70) C 24 dX12_wordAt_70 wlX12_53 rfl rfl rfl wfX12 (by decide) rfl ?_
            refine s_iload (pc := 73) C dX12_wordAt_73 4 rfl ?_
            refine s_iload (pc := 75) C dX12_wordAt_75 7 rfl ?_
            refine s_iadd (pc := 77) C dX12_wordAt_77 ?_
            refine s_iald (q := 14) (n := 36) (pc := 78) C (σ 14 ((f + i).toNat)) rfl dX12_wordAt_78 rfl (by omega) (by omega) (by decide) ?_
            have hb78 := wo_b g0.1 (f + i).toNat (by omega)
            refine s_aload_n (pc := 79) C dX12_wordAt_79 0 rfl ?_
            refine s_getr (q := 0) (ci := 12) (N := 68) (CN := RX12) (T := TX12) (pc := 80) C 0 dX12_wordAt_80 wlX12_7 rfl rfl rfl wfX12 (by decide) rfl ?_
            refine s_iload_n (pc := 83) C dX12_wordAt_83 1 rfl ?_
            refine s_iload (pc := 84) C dX12_wordAt_84 7 rfl ?_
            refine s_iadd (pc := 86) C dX12_wordAt_86 ?_
            refine s_iald (q := 1) (n := 500) (pc := 87) C (σ 1 ((a + i).toNat)) rfl dX12_wordAt_87 rfl (by omega) (by omega) (by decide) ?_
            have b87 : (0 : Int) ≤ σ 1 ((a + i).toNat) ∧ σ 1 ((a + i).toNat) ≤ 255 := g0.1 1 ((a + i).toNat)
            refine s_icmp_ne (pc := 88) C (tgt := 95) dX12_wordAt_88 (by decide) ⟨by omega, by omega⟩ ⟨by omega, by omega⟩ (fun h88 => ?_) (fun h88 => ?_)
            · skip
              refine s_iconst (pc := 95) C dX12_wordAt_95 ?_
              refine s_istore (pc := 96) C [(6, vI 0), (0, .ref (ad 0)), (1, vI a), (2, vI b), (3, vI k), (4, vI f), (5, vI n), (7, vI i)] dX12_wordAt_96 (by decide) rfl ?_
              refine s_iinc (pc := 98) C [(7, vI (i + 1)), (6, vI 0), (0, .ref (ad 0)), (1, vI a), (2, vI b), (3, vI k), (4, vI f), (5, vI n)] dX12_wordAt_98 7 rfl (by decide) rfl ?_
              refine s_goto (pc := 101) C (tgt := 57) dX12_wordAt_101 (by decide) ?_
              refine s_sub C [2, 3, 4, 5, 6, 7, 1, 0] [(0, .ref (ad 0)), (1, vI a), (2, vI b), (3, vI k), (4, vI f), (5, vI n), (6, vI 0), (7, vI (i + 1))] rfl ?_
              have hi57 : 0 ≤ (i + 1) ∧ (i + 1) ≤ n ∧ ((0 : Int) = 0 ∨ (0 : Int) = 1) ∧ ((0 : Int) = 1 → n = b - a) := (by first | omega | assumption | (constructor <;> omega) | (refine ⟨⟨?_, ?_⟩, ?_⟩ <;> omega) | (simp [hs_ss, hs_up]; omega) | (simp [hs_ss, hs_up]; done))
              exact ih57 (i + 1, 0) (by first | omega | (simp only []; omega)) hi57
            · skip
              refine s_iconst (pc := 91) C dX12_wordAt_91 ?_
              refine s_goto (pc := 92) C (tgt := 96) dX12_wordAt_92 (by decide) ?_
              refine s_istore (pc := 96) C [(6, vI 1), (0, .ref (ad 0)), (1, vI a), (2, vI b), (3, vI k), (4, vI f), (5, vI n), (7, vI i)] dX12_wordAt_96 (by decide) rfl ?_
              refine s_iinc (pc := 98) C [(7, vI (i + 1)), (6, vI 1), (0, .ref (ad 0)), (1, vI a), (2, vI b), (3, vI k), (4, vI f), (5, vI n)] dX12_wordAt_98 7 rfl (by decide) rfl ?_
              refine s_goto (pc := 101) C (tgt := 57) dX12_wordAt_101 (by decide) ?_
              refine s_sub C [2, 3, 4, 5, 6, 7, 1, 0] [(0, .ref (ad 0)), (1, vI a), (2, vI b), (3, vI k), (4, vI f), (5, vI n), (6, vI 1), (7, vI (i + 1))] rfl ?_
              have hi57 : 0 ≤ (i + 1) ∧ (i + 1) ≤ n ∧ ((1 : Int) = 0 ∨ (1 : Int) = 1) ∧ ((1 : Int) = 1 → n = b - a) := (by first | omega | assumption | (constructor <;> omega) | (refine ⟨⟨?_, ?_⟩, ?_⟩ <;> omega) | (simp [hs_ss, hs_up]; omega) | (simp [hs_ss, hs_up]; done))
              exact ih57 (i + 1, 1) (by first | omega | (simp only []; omega)) hi57
    · skip
      refine s_iinc (pc := 33) C [(5, vI (n + 1)), (0, .ref (ad 0)), (1, vI a), (2, vI b), (3, vI k), (4, vI f)] dX12_wordAt_33 5 rfl (by decide) rfl ?_
      refine s_goto (pc := 36) C (tgt := 18) dX12_wordAt_36 (by decide) ?_
      refine s_sub C [1, 2, 3, 4, 5, 0] [(0, .ref (ad 0)), (1, vI a), (2, vI b), (3, vI k), (4, vI f), (5, vI (n + 1))] rfl ?_
      have hi18 : 0 ≤ (n + 1) ∧ WLe k (n + 1) := ⟨by omega, by unfold WLe; omega⟩
      exact ih18 (n + 1) (by first | omega | (simp only []; omega)) hi18
set_option maxHeartbeats 4000000 in
set_option maxRecDepth 100000 in
theorem c_X12_take (l : Launch)  : hs_Met l yX12_take cX12_take 2 none 2 SHY (fun ad => [.ref (ad 0)]) (fun σ => GY σ σ ∧ σ 0 28 ≤ σ 0 27) (hs_PV (fun σ σ1 => GY σ σ1 ∧ FRM PTa σ σ1 ∧ TY σ1 ∧ σ 0 28 ≤ σ1 0 31)) := by
  refine hs_from pfX12_take (fun _ => Nat.le_of_ble_eq_true rfl) ?_
  intro p e s m args below meth c D dA ad A σ C hpre
  have C : hs_C p s m args meth c D dA SHY ad A 2 cX12_take RX12 none := C
  obtain ⟨g0, hpre⟩ := hpre
  have f0 : FRM PTa σ σ := frm_rf
  show hs_Wd p l e 2 s m args below meth c D dA SHY ad A 2 (hs_PV (fun σ σ1 => GY σ σ1 ∧ FRM PTa σ σ1 ∧ TY σ1 ∧ σ 0 28 ≤ σ1 0 31) σ) 0 [(0, .ref (ad 0))] [] σ
  refine s_sub C [0] [(0, .ref (ad 0))] rfl ?_
  have hi0 : GY σ σ ∧ FRM PTa σ σ ∧ σ 0 28 ≤ σ 0 28 ∧ σ 0 28 ≤ σ 0 27 := ⟨g0, f0, ⟨by omega, by omega⟩⟩
  refine hs_loop (α := hs_S) (fun x_ => (GY σ x_ ∧ FRM PTa σ x_ ∧ σ 0 28 ≤ x_ 0 28 ∧ x_ 0 28 ≤ x_ 0 27) → hs_Wd p l e 2 s m args below meth c D dA SHY ad A 2 (hs_PV (fun σ σ1 => GY σ σ1 ∧ FRM PTa σ σ1 ∧ TY σ1 ∧ σ 0 28 ≤ σ1 0 31) σ) 0 [(0, .ref (ad 0))] [] x_) (fun x_ => (501 - x_ 0 28).toNat) ?_ (σ) hi0
  rintro σ1 ih0 hinv
  have hinv : GY σ σ1 ∧ FRM PTa σ σ1 ∧ σ 0 28 ≤ σ1 0 28 ∧ σ1 0 28 ≤ σ1 0 27 := hinv
  obtain ⟨hg0, hf0, hv0⟩ := hinv
  show hs_Wd p l e 2 s m args below meth c D dA SHY ad A 2 (hs_PV (fun σ σ1 => GY σ σ1 ∧ FRM PTa σ σ1 ∧ TY σ1 ∧ σ 0 28 ≤ σ1 0 31) σ) 0 [(0, .ref (ad 0))] [] σ1
  obtain ⟨hn0, hn1⟩ := hv0
  have b28 : (0 : Int) ≤ σ1 0 28 ∧ σ1 0 28 ≤ 500 := hg0.1 0 28
  have b27 : (0 : Int) ≤ σ1 0 27 ∧ σ1 0 27 ≤ 500 := hg0.1 0 27
  refine s_aload_n (pc := 0) C dX12_take_0 0 rfl ?_
  have j52 : (True) → hs_Wd p l e 2 s m args below meth c D dA SHY ad A 2 (hs_PV (fun σ σ1 => GY σ σ1 ∧ FRM PTa σ σ1 ∧ TY σ1 ∧ σ 0 28 ≤ σ1 0 31) σ) 52 [(0, .ref (ad 0))] [] σ1 := by
    intro  hj52
    refine s_aload_n (pc := 52) C dX12_take_52 0 rfl ?_
    refine s_aload_n (pc := 53) C dX12_take_53 0 rfl ?_
    refine s_geti (q := 0) (ci := 12) (N := 68) (CN := RX12) (T := TX12) (pc := 54) C 28 dX12_take_54 wlX12_233 rfl rfl rfl wfX12 (by decide) rfl (σ1 0 28) rfl ?_
    have b54 : (0 : Int) ≤ σ1 0 28 ∧ σ1 0 28 ≤ 500 := hg0.1 0 28
    refine s_puti (q := 0) (ci := 12) (N := 68) (CN := RX12) (T := TX12) (ty0 := tyX12) (ty := .int) (pc := 57) C 31 dX12_take_57 wlX12_227 rfl rfl rfl wfX12 tyX12_ok nmX12 (by decide) rfl rfl rfl (vp_nar_int _) rfl ?_
    have g57 := gy_set (z := (σ1 0 28)) hg0 0 31 rfl (0) (500) rfl ⟨by omega, by omega⟩
    have f57 := frm_set (P := PTa) (z := (σ1 0 28)) hf0 0 31 rfl
    refine s_aload_n (pc := 60) C dX12_take_60 0 rfl ?_
    refine s_geti (q := 0) (ci := 12) (N := 68) (CN := RX12) (T := TX12) (pc := 61) C 28 dX12_take_61 wlX12_233 rfl rfl rfl wfX12 (by decide) rfl (σ1 0 28) rfl ?_
    have b61 : (0 : Int) ≤ σ1 0 28 ∧ σ1 0 28 ≤ 500 := g57.1 0 28
    refine s_aload_n (pc := 64) C dX12_take_64 0 rfl ?_
    refine s_geti (q := 0) (ci := 12) (N := 68) (CN := RX12) (T := TX12) (pc := 65) C 27 dX12_take_65 wlX12_230 rfl rfl rfl wfX12 (by decide) rfl (σ1 0 27) rfl ?_
    have b65 : (0 : Int) ≤ σ1 0 27 ∧ σ1 0 27 ≤ 500 := g57.1 0 27
    refine s_icmp_ne (pc := 68) C (tgt := 79) dX12_take_68 (by decide) ⟨by omega, by omega⟩ ⟨by omega, by omega⟩ (fun h68 => ?_) (fun h68 => ?_)
    · skip
      refine s_aload_n (pc := 79) C dX12_take_79 0 rfl ?_
      refine s_aload_n (pc := 80) C dX12_take_80 0 rfl ?_
      refine s_geti (q := 0) (ci := 12) (N := 68) (CN := RX12) (T := TX12) (pc := 81) C 28 dX12_take_81 wlX12_233 rfl rfl rfl wfX12 (by decide) rfl (σ1 0 28) rfl ?_
      have b81 : (0 : Int) ≤ σ1 0 28 ∧ σ1 0 28 ≤ 500 := g57.1 0 28
      have r84_0_27 : (hs_ss σ1 0 31 (σ1 0 28)) 0 27 = σ1 0 27 := rfl
      refine s_callVi (pc := 84) C (c_X12_isSmall l (σ1 0 28) (by first | omega | assumption | (constructor <;> omega) | (refine ⟨⟨?_, ?_⟩, ?_⟩ <;> omega) | (simp [hs_ss, hs_up]; omega) | (simp [hs_ss, hs_up]; done))) [vI (σ1 0 28)] [] rfl rfl dX12_take_84 wlX12_239 wiX12_isSmall weX12_isSmall wcX12_isSmall wnX12 noX12_isSmall (by decide) (by decide) (Nat.le_of_ble_eq_true rfl) (gy_self g57) rfl rfl ?_
      rintro z84 _ ⟨rfl, k84⟩
      show hs_Wd _ _ _ _ _ _ _ _ _ _ _ _ _ _ _ _ _ 87 _ [vI z84] (hs_ss σ1 0 31 (σ1 0 28))
      refine s_if_eq (pc := 87) C (tgt := 208) dX12_take_87 (by decide) ⟨by omega, by omega⟩ (fun h87 => ?_) (fun h87 => ?_)
      · skip
        refine s_aload_n (pc := 208) C dX12_take_208 0 rfl ?_
        refine s_aload_n (pc := 209) C dX12_take_209 0 rfl ?_
        refine s_geti (q := 0) (ci := 12) (N := 68) (CN := RX12) (T := TX12) (pc := 210) C 28 dX12_take_210 wlX12_233 rfl rfl rfl wfX12 (by decide) rfl (σ1 0 28) rfl ?_
        have b210 : (0 : Int) ≤ σ1 0 28 ∧ σ1 0 28 ≤ 500 := g57.1 0 28
        have r213_0_27 : (hs_ss σ1 0 31 (σ1 0 28)) 0 27 = σ1 0 27 := rfl
        refine s_callVi (pc := 213) C (c_X12_isDigit l (σ1 0 28) (by first | omega | assumption | (constructor <;> omega) | (refine ⟨⟨?_, ?_⟩, ?_⟩ <;> omega) | (simp [hs_ss, hs_up]; omega) | (simp [hs_ss, hs_up]; done))) [vI (σ1 0 28)] [] rfl rfl dX12_take_213 wlX12_248 wiX12_isDigit weX12_isDigit wcX12_isDigit wnX12 noX12_isDigit (by decide) (by decide) (Nat.le_of_ble_eq_true rfl) (gy_self g57) rfl rfl ?_
        rintro z213 _ ⟨rfl, k213⟩
        show hs_Wd _ _ _ _ _ _ _ _ _ _ _ _ _ _ _ _ _ 216 _ [vI z213] (hs_ss σ1 0 31 (σ1 0 28))
        refine s_if_eq (pc := 216) C (tgt := 294) dX12_take_216 (by decide) ⟨by omega, by omega⟩ (fun h216 => ?_) (fun h216 => ?_)
        · skip
          refine s_aload_n (pc := 294) C dX12_take_294 0 rfl ?_
          refine s_aload_n (pc := 295) C dX12_take_295 0 rfl ?_
          refine s_getr (q := 0) (ci := 12) (N := 68) (CN := RX12) (T := TX12) (pc := 296) C 0 dX12_take_296 wlX12_7 rfl rfl rfl wfX12 (by decide) rfl ?_
          refine s_aload_n (pc := 299) C dX12_take_299 0 rfl ?_
          refine s_geti (q := 0) (ci := 12) (N := 68) (CN := RX12) (T := TX12) (pc := 300) C 28 dX12_take_300 wlX12_233 rfl rfl rfl wfX12 (by decide) rfl (σ1 0 28) rfl ?_
          have b300 : (0 : Int) ≤ σ1 0 28 ∧ σ1 0 28 ≤ 500 := g57.1 0 28
          refine s_iald (q := 1) (n := 500) (pc := 303) C (σ1 1 ((σ1 0 28).toNat)) rfl dX12_take_303 rfl (by omega) (by omega) (by decide) ?_
          have b303 : (0 : Int) ≤ σ1 1 ((σ1 0 28).toNat) ∧ σ1 1 ((σ1 0 28).toNat) ≤ 255 := g57.1 1 ((σ1 0 28).toNat)
          refine s_puti (q := 0) (ci := 12) (N := 68) (CN := RX12) (T := TX12) (ty0 := tyX12) (ty := .int) (pc := 304) C 30 dX12_take_304 wlX12_245 rfl rfl rfl wfX12 tyX12_ok nmX12 (by decide) rfl rfl rfl (vp_nar_int _) rfl ?_
          have g304 := gy_set (z := (σ1 1 ((σ1 0 28).toNat))) g57 0 30 rfl (-1) (10000) rfl ⟨by omega, by omega⟩
          have f304 := frm_set (P := PTa) (z := (σ1 1 ((σ1 0 28).toNat))) f57 0 30 rfl
          refine s_aload_n (pc := 307) C dX12_take_307 0 rfl ?_
          refine s_aload_n (pc := 308) C dX12_take_308 0 rfl ?_
          refine s_geti (q := 0) (ci := 12) (N := 68) (CN := RX12) (T := TX12) (pc := 309) C 30 dX12_take_309 wlX12_245 rfl rfl rfl wfX12 (by decide) rfl (σ1 1 ((σ1 0 28).toNat)) rfl ?_
          have b309 : (-1 : Int) ≤ σ1 1 ((σ1 0 28).toNat) ∧ σ1 1 ((σ1 0 28).toNat) ≤ 10000 := g304.1 0 30
          refine s_bipush (pc := 312) C dX12_take_312 (by decide) ?_
          refine s_icmp_eq (pc := 314) C (tgt := 353) dX12_take_314 (by decide) ⟨by omega, by omega⟩ ⟨by decide, by decide⟩ (fun h314 => ?_) (fun h314 => ?_)
          · skip
            refine s_iconst (pc := 353) C dX12_take_353 ?_
            refine s_goto (pc := 354) C (tgt := 358) dX12_take_354 (by decide) ?_
            refine s_puti (q := 0) (ci := 12) (N := 68) (CN := RX12) (T := TX12) (ty0 := tyX12) (ty := .int) (pc := 358) C 29 dX12_take_358 wlX12_236 rfl rfl rfl wfX12 tyX12_ok nmX12 (by decide) rfl rfl rfl (vp_nar_int _) rfl ?_
            have g358 := gy_set (z := 4) g304 0 29 rfl (0) (5) rfl ⟨by omega, by omega⟩
            have f358 := frm_set (P := PTa) (z := 4) f304 0 29 rfl
            refine s_aload_n (pc := 361) C dX12_take_361 0 rfl ?_
            refine s_dup (pc := 362) C dX12_take_362 rfl ?_
            refine s_geti (q := 0) (ci := 12) (N := 68) (CN := RX12) (T := TX12) (pc := 363) C 28 dX12_take_363 wlX12_233 rfl rfl rfl wfX12 (by decide) rfl (σ1 0 28) rfl ?_
            have b363 : (0 : Int) ≤ σ1 0 28 ∧ σ1 0 28 ≤ 500 := g358.1 0 28
            refine s_iconst (pc := 366) C dX12_take_366 ?_
            refine s_iadd (pc := 367) C dX12_take_367 ?_
            refine s_puti (q := 0) (ci := 12) (N := 68) (CN := RX12) (T := TX12) (ty0 := tyX12) (ty := .int) (pc := 368) C 28 dX12_take_368 wlX12_233 rfl rfl rfl wfX12 tyX12_ok nmX12 (by decide) rfl rfl rfl (vp_nar_int _) rfl ?_
            have g368 := gy_set (z := ((σ1 0 28) + 1)) g358 0 28 rfl (0) (500) rfl ⟨by omega, by omega⟩
            have f368 := frm_set (P := PTa) (z := ((σ1 0 28) + 1)) f358 0 28 rfl
            refine s_vret (pc := 371) C dX12_take_371 ?_
            refine ⟨rfl, ?_⟩
            exact ⟨g368, f368, ⟨by unfold TY; simp [hs_ss, hs_up]; omega, by simp [hs_ss, hs_up]; omega⟩⟩
          · skip
            refine s_aload_n (pc := 317) C dX12_take_317 0 rfl ?_
            refine s_geti (q := 0) (ci := 12) (N := 68) (CN := RX12) (T := TX12) (pc := 318) C 30 dX12_take_318 wlX12_245 rfl rfl rfl wfX12 (by decide) rfl (σ1 1 ((σ1 0 28).toNat)) rfl ?_
            have b318 : (-1 : Int) ≤ σ1 1 ((σ1 0 28).toNat) ∧ σ1 1 ((σ1 0 28).toNat) ≤ 10000 := g304.1 0 30
            refine s_bipush (pc := 321) C dX12_take_321 (by decide) ?_
            refine s_icmp_eq (pc := 323) C (tgt := 353) dX12_take_323 (by decide) ⟨by omega, by omega⟩ ⟨by decide, by decide⟩ (fun h323 => ?_) (fun h323 => ?_)
            · skip
              refine s_iconst (pc := 353) C dX12_take_353 ?_
              refine s_goto (pc := 354) C (tgt := 358) dX12_take_354 (by decide) ?_
              refine s_puti (q := 0) (ci := 12) (N := 68) (CN := RX12) (T := TX12) (ty0 := tyX12) (ty := .int) (pc := 358) C 29 dX12_take_358 wlX12_236 rfl rfl rfl wfX12 tyX12_ok nmX12 (by decide) rfl rfl rfl (vp_nar_int _) rfl ?_
              have g358 := gy_set (z := 4) g304 0 29 rfl (0) (5) rfl ⟨by omega, by omega⟩
              have f358 := frm_set (P := PTa) (z := 4) f304 0 29 rfl
              refine s_aload_n (pc := 361) C dX12_take_361 0 rfl ?_
              refine s_dup (pc := 362) C dX12_take_362 rfl ?_
              refine s_geti (q := 0) (ci := 12) (N := 68) (CN := RX12) (T := TX12) (pc := 363) C 28 dX12_take_363 wlX12_233 rfl rfl rfl wfX12 (by decide) rfl (σ1 0 28) rfl ?_
              have b363 : (0 : Int) ≤ σ1 0 28 ∧ σ1 0 28 ≤ 500 := g358.1 0 28
              refine s_iconst (pc := 366) C dX12_take_366 ?_
              refine s_iadd (pc := 367) C dX12_take_367 ?_
              refine s_puti (q := 0) (ci := 12) (N := 68) (CN := RX12) (T := TX12) (ty0 := tyX12) (ty := .int) (pc := 368) C 28 dX12_take_368 wlX12_233 rfl rfl rfl wfX12 tyX12_ok nmX12 (by decide) rfl rfl rfl (vp_nar_int _) rfl ?_
              have g368 := gy_set (z := ((σ1 0 28) + 1)) g358 0 28 rfl (0) (500) rfl ⟨by omega, by omega⟩
              have f368 := frm_set (P := PTa) (z := ((σ1 0 28) + 1)) f358 0 28 rfl
              refine s_vret (pc := 371) C dX12_take_371 ?_
              refine ⟨rfl, ?_⟩
              exact ⟨g368, f368, ⟨by unfold TY; simp [hs_ss, hs_up]; omega, by simp [hs_ss, hs_up]; omega⟩⟩
            · skip
              refine s_aload_n (pc := 326) C dX12_take_326 0 rfl ?_
              refine s_geti (q := 0) (ci := 12) (N := 68) (CN := RX12) (T := TX12) (pc := 327) C 30 dX12_take_327 wlX12_245 rfl rfl rfl wfX12 (by decide) rfl (σ1 1 ((σ1 0 28).toNat)) rfl ?_
              have b327 : (-1 : Int) ≤ σ1 1 ((σ1 0 28).toNat) ∧ σ1 1 ((σ1 0 28).toNat) ≤ 10000 := g304.1 0 30
              refine s_bipush (pc := 330) C dX12_take_330 (by decide) ?_
              refine s_icmp_eq (pc := 332) C (tgt := 353) dX12_take_332 (by decide) ⟨by omega, by omega⟩ ⟨by decide, by decide⟩ (fun h332 => ?_) (fun h332 => ?_)
              · skip
                refine s_iconst (pc := 353) C dX12_take_353 ?_
                refine s_goto (pc := 354) C (tgt := 358) dX12_take_354 (by decide) ?_
                refine s_puti (q := 0) (ci := 12) (N := 68) (CN := RX12) (T := TX12) (ty0 := tyX12) (ty := .int) (pc := 358) C 29 dX12_take_358 wlX12_236 rfl rfl rfl wfX12 tyX12_ok nmX12 (by decide) rfl rfl rfl (vp_nar_int _) rfl ?_
                have g358 := gy_set (z := 4) g304 0 29 rfl (0) (5) rfl ⟨by omega, by omega⟩
                have f358 := frm_set (P := PTa) (z := 4) f304 0 29 rfl
                refine s_aload_n (pc := 361) C dX12_take_361 0 rfl ?_
                refine s_dup (pc := 362) C dX12_take_362 rfl ?_
                refine s_geti (q := 0) (ci := 12) (N := 68) (CN := RX12) (T := TX12) (pc := 363) C 28 dX12_take_363 wlX12_233 rfl rfl rfl wfX12 (by decide) rfl (σ1 0 28) rfl ?_
                have b363 : (0 : Int) ≤ σ1 0 28 ∧ σ1 0 28 ≤ 500 := g358.1 0 28
                refine s_iconst (pc := 366) C dX12_take_366 ?_
                refine s_iadd (pc := 367) C dX12_take_367 ?_
                refine s_puti (q := 0) (ci := 12) (N := 68) (CN := RX12) (T := TX12) (ty0 := tyX12) (ty := .int) (pc := 368) C 28 dX12_take_368 wlX12_233 rfl rfl rfl wfX12 tyX12_ok nmX12 (by decide) rfl rfl rfl (vp_nar_int _) rfl ?_
                have g368 := gy_set (z := ((σ1 0 28) + 1)) g358 0 28 rfl (0) (500) rfl ⟨by omega, by omega⟩
                have f368 := frm_set (P := PTa) (z := ((σ1 0 28) + 1)) f358 0 28 rfl
                refine s_vret (pc := 371) C dX12_take_371 ?_
                refine ⟨rfl, ?_⟩
                exact ⟨g368, f368, ⟨by unfold TY; simp [hs_ss, hs_up]; omega, by simp [hs_ss, hs_up]; omega⟩⟩
              · skip
                refine s_aload_n (pc := 335) C dX12_take_335 0 rfl ?_
                refine s_geti (q := 0) (ci := 12) (N := 68) (CN := RX12) (T := TX12) (pc := 336) C 30 dX12_take_336 wlX12_245 rfl rfl rfl wfX12 (by decide) rfl (σ1 1 ((σ1 0 28).toNat)) rfl ?_
                have b336 : (-1 : Int) ≤ σ1 1 ((σ1 0 28).toNat) ∧ σ1 1 ((σ1 0 28).toNat) ≤ 10000 := g304.1 0 30
                refine s_bipush (pc := 339) C dX12_take_339 (by decide) ?_
                refine s_icmp_eq (pc := 341) C (tgt := 353) dX12_take_341 (by decide) ⟨by omega, by omega⟩ ⟨by decide, by decide⟩ (fun h341 => ?_) (fun h341 => ?_)
                · skip
                  refine s_iconst (pc := 353) C dX12_take_353 ?_
                  refine s_goto (pc := 354) C (tgt := 358) dX12_take_354 (by decide) ?_
                  refine s_puti (q := 0) (ci := 12) (N := 68) (CN := RX12) (T := TX12) (ty0 := tyX12) (ty := .int) (pc := 358) C 29 dX12_take_358 wlX12_236 rfl rfl rfl wfX12 tyX12_ok nmX12 (by decide) rfl rfl rfl (vp_nar_int _) rfl ?_
                  have g358 := gy_set (z := 4) g304 0 29 rfl (0) (5) rfl ⟨by omega, by omega⟩
                  have f358 := frm_set (P := PTa) (z := 4) f304 0 29 rfl
                  refine s_aload_n (pc := 361) C dX12_take_361 0 rfl ?_
                  refine s_dup (pc := 362) C dX12_take_362 rfl ?_
                  refine s_geti (q := 0) (ci := 12) (N := 68) (CN := RX12) (T := TX12) (pc := 363) C 28 dX12_take_363 wlX12_233 rfl rfl rfl wfX12 (by decide) rfl (σ1 0 28) rfl ?_
                  have b363 : (0 : Int) ≤ σ1 0 28 ∧ σ1 0 28 ≤ 500 := g358.1 0 28
                  refine s_iconst (pc := 366) C dX12_take_366 ?_
                  refine s_iadd (pc := 367) C dX12_take_367 ?_
                  refine s_puti (q := 0) (ci := 12) (N := 68) (CN := RX12) (T := TX12) (ty0 := tyX12) (ty := .int) (pc := 368) C 28 dX12_take_368 wlX12_233 rfl rfl rfl wfX12 tyX12_ok nmX12 (by decide) rfl rfl rfl (vp_nar_int _) rfl ?_
                  have g368 := gy_set (z := ((σ1 0 28) + 1)) g358 0 28 rfl (0) (500) rfl ⟨by omega, by omega⟩
                  have f368 := frm_set (P := PTa) (z := ((σ1 0 28) + 1)) f358 0 28 rfl
                  refine s_vret (pc := 371) C dX12_take_371 ?_
                  refine ⟨rfl, ?_⟩
                  exact ⟨g368, f368, ⟨by unfold TY; simp [hs_ss, hs_up]; omega, by simp [hs_ss, hs_up]; omega⟩⟩
                · skip
                  refine s_aload_n (pc := 344) C dX12_take_344 0 rfl ?_
                  refine s_geti (q := 0) (ci := 12) (N := 68) (CN := RX12) (T := TX12) (pc := 345) C 30 dX12_take_345 wlX12_245 rfl rfl rfl wfX12 (by decide) rfl (σ1 1 ((σ1 0 28).toNat)) rfl ?_
                  have b345 : (-1 : Int) ≤ σ1 1 ((σ1 0 28).toNat) ∧ σ1 1 ((σ1 0 28).toNat) ≤ 10000 := g304.1 0 30
                  refine s_bipush (pc := 348) C dX12_take_348 (by decide) ?_
                  refine s_icmp_ne (pc := 350) C (tgt := 357) dX12_take_350 (by decide) ⟨by omega, by omega⟩ ⟨by decide, by decide⟩ (fun h350 => ?_) (fun h350 => ?_)
                  · skip
                    refine s_iconst (pc := 357) C dX12_take_357 ?_
                    refine s_puti (q := 0) (ci := 12) (N := 68) (CN := RX12) (T := TX12) (ty0 := tyX12) (ty := .int) (pc := 358) C 29 dX12_take_358 wlX12_236 rfl rfl rfl wfX12 tyX12_ok nmX12 (by decide) rfl rfl rfl (vp_nar_int _) rfl ?_
                    have g358 := gy_set (z := 5) g304 0 29 rfl (0) (5) rfl ⟨by omega, by omega⟩
                    have f358 := frm_set (P := PTa) (z := 5) f304 0 29 rfl
                    refine s_aload_n (pc := 361) C dX12_take_361 0 rfl ?_
                    refine s_dup (pc := 362) C dX12_take_362 rfl ?_
                    refine s_geti (q := 0) (ci := 12) (N := 68) (CN := RX12) (T := TX12) (pc := 363) C 28 dX12_take_363 wlX12_233 rfl rfl rfl wfX12 (by decide) rfl (σ1 0 28) rfl ?_
                    have b363 : (0 : Int) ≤ σ1 0 28 ∧ σ1 0 28 ≤ 500 := g358.1 0 28
                    refine s_iconst (pc := 366) C dX12_take_366 ?_
                    refine s_iadd (pc := 367) C dX12_take_367 ?_
                    refine s_puti (q := 0) (ci := 12) (N := 68) (CN := RX12) (T := TX12) (ty0 := tyX12) (ty := .int) (pc := 368) C 28 dX12_take_368 wlX12_233 rfl rfl rfl wfX12 tyX12_ok nmX12 (by decide) rfl rfl rfl (vp_nar_int _) rfl ?_
                    have g368 := gy_set (z := ((σ1 0 28) + 1)) g358 0 28 rfl (0) (500) rfl ⟨by omega, by omega⟩
                    have f368 := frm_set (P := PTa) (z := ((σ1 0 28) + 1)) f358 0 28 rfl
                    refine s_vret (pc := 371) C dX12_take_371 ?_
                    refine ⟨rfl, ?_⟩
                    exact ⟨g368, f368, ⟨by unfold TY; simp [hs_ss, hs_up]; omega, by simp [hs_ss, hs_up]; omega⟩⟩
                  · skip
                    refine s_iconst (pc := 353) C dX12_take_353 ?_
                    refine s_goto (pc := 354) C (tgt := 358) dX12_take_354 (by decide) ?_
                    refine s_puti (q := 0) (ci := 12) (N := 68) (CN := RX12) (T := TX12) (ty0 := tyX12) (ty := .int) (pc := 358) C 29 dX12_take_358 wlX12_236 rfl rfl rfl wfX12 tyX12_ok nmX12 (by decide) rfl rfl rfl (vp_nar_int _) rfl ?_
                    have g358 := gy_set (z := 4) g304 0 29 rfl (0) (5) rfl ⟨by omega, by omega⟩
                    have f358 := frm_set (P := PTa) (z := 4) f304 0 29 rfl
                    refine s_aload_n (pc := 361) C dX12_take_361 0 rfl ?_
                    refine s_dup (pc := 362) C dX12_take_362 rfl ?_
                    refine s_geti (q := 0) (ci := 12) (N := 68) (CN := RX12) (T := TX12) (pc := 363) C 28 dX12_take_363 wlX12_233 rfl rfl rfl wfX12 (by decide) rfl (σ1 0 28) rfl ?_
                    have b363 : (0 : Int) ≤ σ1 0 28 ∧ σ1 0 28 ≤ 500 := g358.1 0 28
                    refine s_iconst (pc := 366) C dX12_take_366 ?_
                    refine s_iadd (pc := 367) C dX12_take_367 ?_
                    refine s_puti (q := 0) (ci := 12) (N := 68) (CN := RX12) (T := TX12) (ty0 := tyX12) (ty := .int) (pc := 368) C 28 dX12_take_368 wlX12_233 rfl rfl rfl wfX12 tyX12_ok nmX12 (by decide) rfl rfl rfl (vp_nar_int _) rfl ?_
                    have g368 := gy_set (z := ((σ1 0 28) + 1)) g358 0 28 rfl (0) (500) rfl ⟨by omega, by omega⟩
                    have f368 := frm_set (P := PTa) (z := ((σ1 0 28) + 1)) f358 0 28 rfl
                    refine s_vret (pc := 371) C dX12_take_371 ?_
                    refine ⟨rfl, ?_⟩
                    exact ⟨g368, f368, ⟨by unfold TY; simp [hs_ss, hs_up]; omega, by simp [hs_ss, hs_up]; omega⟩⟩
        · skip
          refine s_aload_n (pc := 219) C dX12_take_219 0 rfl ?_
          refine s_iconst (pc := 220) C dX12_take_220 ?_
          refine s_puti (q := 0) (ci := 12) (N := 68) (CN := RX12) (T := TX12) (ty0 := tyX12) (ty := .int) (pc := 221) C 29 dX12_take_221 wlX12_236 rfl rfl rfl wfX12 tyX12_ok nmX12 (by decide) rfl rfl rfl (vp_nar_int _) rfl ?_
          have g221 := gy_set (z := 3) g57 0 29 rfl (0) (5) rfl ⟨by omega, by omega⟩
          have f221 := frm_set (P := PTa) (z := 3) f57 0 29 rfl
          refine s_aload_n (pc := 224) C dX12_take_224 0 rfl ?_
          refine s_iconst (pc := 225) C dX12_take_225 ?_
          refine s_puti (q := 0) (ci := 12) (N := 68) (CN := RX12) (T := TX12) (ty0 := tyX12) (ty := .int) (pc := 226) C 30 dX12_take_226 wlX12_245 rfl rfl rfl wfX12 tyX12_ok nmX12 (by decide) rfl rfl rfl (vp_nar_int _) rfl ?_
          have g226 := gy_set (z := 0) g221 0 30 rfl (-1) (10000) rfl ⟨by omega, by omega⟩
          have f226 := frm_set (P := PTa) (z := 0) f221 0 30 rfl
          refine s_sub C [0] [(0, .ref (ad 0))] rfl ?_
          have hi229 : GY σ ((hs_ss (hs_ss (hs_ss σ1 0 31 (σ1 0 28)) 0 29 3) 0 30 0)) ∧ FRM PTa σ ((hs_ss (hs_ss (hs_ss σ1 0 31 (σ1 0 28)) 0 29 3) 0 30 0)) ∧ ((hs_ss (hs_ss (hs_ss σ1 0 31 (σ1 0 28)) 0 29 3) 0 30 0)) 0 31 = σ1 0 28 ∧ ((hs_ss (hs_ss (hs_ss σ1 0 31 (σ1 0 28)) 0 29 3) 0 30 0)) 0 29 = 3 ∧ 0 ≤ ((hs_ss (hs_ss (hs_ss σ1 0 31 (σ1 0 28)) 0 29 3) 0 30 0)) 0 30 ∧ ((hs_ss (hs_ss (hs_ss σ1 0 31 (σ1 0 28)) 0 29 3) 0 30 0)) 0 28 ≤ ((hs_ss (hs_ss (hs_ss σ1 0 31 (σ1 0 28)) 0 29 3) 0 30 0)) 0 27 ∧ (σ1 0 28 < ((hs_ss (hs_ss (hs_ss σ1 0 31 (σ1 0 28)) 0 29 3) 0 30 0)) 0 28 ∨ (((hs_ss (hs_ss (hs_ss σ1 0 31 (σ1 0 28)) 0 29 3) 0 30 0)) 0 28 = σ1 0 28 ∧ ((hs_ss (hs_ss (hs_ss σ1 0 31 (σ1 0 28)) 0 29 3) 0 30 0)) 0 28 < ((hs_ss (hs_ss (hs_ss σ1 0 31 (σ1 0 28)) 0 29 3) 0 30 0)) 0 27 ∧ 48 ≤ ((hs_ss (hs_ss (hs_ss σ1 0 31 (σ1 0 28)) 0 29 3) 0 30 0)) 1 (((hs_ss (hs_ss (hs_ss σ1 0 31 (σ1 0 28)) 0 29 3) 0 30 0)) 0 28).toNat ∧ ((hs_ss (hs_ss (hs_ss σ1 0 31 (σ1 0 28)) 0 29 3) 0 30 0)) 1 (((hs_ss (hs_ss (hs_ss σ1 0 31 (σ1 0 28)) 0 29 3) 0 30 0)) 0 28).toNat ≤ 57)) := ⟨g226, f226, ⟨rfl, rfl, by show (0 : Int) ≤ 0; omega, by show σ1 0 28 ≤ σ1 0 27; omega, Or.inr ⟨rfl, by show σ1 0 28 < σ1 0 27; omega, by show 48 ≤ σ1 1 (σ1 0 28).toNat; omega, by show σ1 1 (σ1 0 28).toNat ≤ 57; omega⟩⟩⟩
          refine hs_loop (α := hs_S) (fun x_ => (GY σ x_ ∧ FRM PTa σ x_ ∧ x_ 0 31 = σ1 0 28 ∧ x_ 0 29 = 3 ∧ 0 ≤ x_ 0 30 ∧ x_ 0 28 ≤ x_ 0 27 ∧ (σ1 0 28 < x_ 0 28 ∨ (x_ 0 28 = σ1 0 28 ∧ x_ 0 28 < x_ 0 27 ∧ 48 ≤ x_ 1 (x_ 0 28).toNat ∧ x_ 1 (x_ 0 28).toNat ≤ 57))) → hs_Wd p l e 2 s m args below meth c D dA SHY ad A 2 (hs_PV (fun σ σ1 => GY σ σ1 ∧ FRM PTa σ σ1 ∧ TY σ1 ∧ σ 0 28 ≤ σ1 0 31) σ) 229 [(0, .ref (ad 0))] [] x_) (fun x_ => (501 - x_ 0 28).toNat) ?_ ((hs_ss (hs_ss (hs_ss σ1 0 31 (σ1 0 28)) 0 29 3) 0 30 0)) hi229
          rintro σ3 ih229 hinv
          have hinv : GY σ σ3 ∧ FRM PTa σ σ3 ∧ σ3 0 31 = σ1 0 28 ∧ σ3 0 29 = 3 ∧ 0 ≤ σ3 0 30 ∧ σ3 0 28 ≤ σ3 0 27 ∧ (σ1 0 28 < σ3 0 28 ∨ (σ3 0 28 = σ1 0 28 ∧ σ3 0 28 < σ3 0 27 ∧ 48 ≤ σ3 1 (σ3 0 28).toNat ∧ σ3 1 (σ3 0 28).toNat ≤ 57)) := hinv
          obtain ⟨hg229, hf229, hv229⟩ := hinv
          show hs_Wd p l e 2 s m args below meth c D dA SHY ad A 2 (hs_PV (fun σ σ1 => GY σ σ1 ∧ FRM PTa σ σ1 ∧ TY σ1 ∧ σ 0 28 ≤ σ1 0 31) σ) 229 [(0, .ref (ad 0))] [] σ3
          obtain ⟨hs31, hs29, hs30, hs28, hsm⟩ := hv229
          have b283 : (0 : Int) ≤ σ3 0 28 ∧ σ3 0 28 ≤ 500 := hg229.1 0 28
          refine s_aload_n (pc := 229) C dX12_take_229 0 rfl ?_
          refine s_aload_n (pc := 230) C dX12_take_230 0 rfl ?_
          refine s_geti (q := 0) (ci := 12) (N := 68) (CN := RX12) (T := TX12) (pc := 231) C 28 dX12_take_231 wlX12_233 rfl rfl rfl wfX12 (by decide) rfl (σ3 0 28) rfl ?_
          have b231 : (0 : Int) ≤ σ3 0 28 ∧ σ3 0 28 ≤ 500 := hg229.1 0 28
          refine s_callVi (pc := 234) C (c_X12_isDigit l (σ3 0 28) (by first | omega | assumption | (constructor <;> omega) | (refine ⟨⟨?_, ?_⟩, ?_⟩ <;> omega) | (simp [hs_ss, hs_up]; omega) | (simp [hs_ss, hs_up]; done))) [vI (σ3 0 28)] [] rfl rfl dX12_take_234 wlX12_248 wiX12_isDigit weX12_isDigit wcX12_isDigit wnX12 noX12_isDigit (by decide) (by decide) (Nat.le_of_ble_eq_true rfl) (gy_self hg229) rfl rfl ?_
          rintro z234 _ ⟨rfl, k234⟩
          show hs_Wd _ _ _ _ _ _ _ _ _ _ _ _ _ _ _ _ _ 237 _ [vI z234] σ3
          refine s_if_eq (pc := 237) C (tgt := 371) dX12_take_237 (by decide) ⟨by omega, by omega⟩ (fun h237 => ?_) (fun h237 => ?_)
          · skip
            refine s_vret (pc := 371) C dX12_take_371 ?_
            refine ⟨rfl, ?_⟩
            exact ⟨hg229, hf229, ⟨by unfold TY; simp [hs_ss, hs_up]; omega, by simp [hs_ss, hs_up]; omega⟩⟩
          · skip
            refine s_aload_n (pc := 240) C dX12_take_240 0 rfl ?_
            refine s_aload_n (pc := 241) C dX12_take_241 0 rfl ?_
            refine s_geti (q := 0) (ci := 12) (N := 68) (CN := RX12) (T := TX12) (pc := 242) C 30 dX12_take_242 wlX12_245 rfl rfl rfl wfX12 (by decide) rfl (σ3 0 30) rfl ?_
            have b242 : (-1 : Int) ≤ σ3 0 30 ∧ σ3 0 30 ≤ 10000 := hg229.1 0 30
            refine s_sipush (pc := 245) C dX12_take_245 (by decide) ?_
            refine s_icmp_le (pc := 248) C (tgt := 258) dX12_take_248 (by decide) ⟨by omega, by omega⟩ ⟨by decide, by decide⟩ (fun h248 => ?_) (fun h248 => ?_)
            · skip
              refine s_bipush (pc := 258) C dX12_take_258 (by decide) ?_
              refine s_aload_n (pc := 260) C dX12_take_260 0 rfl ?_
              refine s_geti (q := 0) (ci := 12) (N := 68) (CN := RX12) (T := TX12) (pc := 261) C 30 dX12_take_261 wlX12_245 rfl rfl rfl wfX12 (by decide) rfl (σ3 0 30) rfl ?_
              have b261 : (-1 : Int) ≤ σ3 0 30 ∧ σ3 0 30 ≤ 10000 := hg229.1 0 30
              refine s_imul (pc := 264) C dX12_take_264 ?_
              refine s_aload_n (pc := 265) C dX12_take_265 0 rfl ?_
              refine s_getr (q := 0) (ci := 12) (N := 68) (CN := RX12) (T := TX12) (pc := 266) C 0 dX12_take_266 wlX12_7 rfl rfl rfl wfX12 (by decide) rfl ?_
              refine s_aload_n (pc := 269) C dX12_take_269 0 rfl ?_
              refine s_geti (q := 0) (ci := 12) (N := 68) (CN := RX12) (T := TX12) (pc := 270) C 28 dX12_take_270 wlX12_233 rfl rfl rfl wfX12 (by decide) rfl (σ3 0 28) rfl ?_
              have b270 : (0 : Int) ≤ σ3 0 28 ∧ σ3 0 28 ≤ 500 := hg229.1 0 28
              refine s_iald (q := 1) (n := 500) (pc := 273) C (σ3 1 ((σ3 0 28).toNat)) rfl dX12_take_273 rfl (by omega) (by omega) (by decide) ?_
              have b273 : (0 : Int) ≤ σ3 1 ((σ3 0 28).toNat) ∧ σ3 1 ((σ3 0 28).toNat) ≤ 255 := hg229.1 1 ((σ3 0 28).toNat)
              refine s_iadd (pc := 274) C dX12_take_274 ?_
              refine s_bipush (pc := 275) C dX12_take_275 (by decide) ?_
              refine s_isub (pc := 277) C dX12_take_277 ?_
              refine s_puti (q := 0) (ci := 12) (N := 68) (CN := RX12) (T := TX12) (ty0 := tyX12) (ty := .int) (pc := 278) C 30 dX12_take_278 wlX12_245 rfl rfl rfl wfX12 tyX12_ok nmX12 (by decide) rfl rfl rfl (vp_nar_int _) rfl ?_
              have g278 := gy_set (z := (((10 * (σ3 0 30)) + (σ3 1 ((σ3 0 28).toNat))) - 48)) hg229 0 30 rfl (-1) (10000) rfl ⟨by omega, by omega⟩
              have f278 := frm_set (P := PTa) (z := (((10 * (σ3 0 30)) + (σ3 1 ((σ3 0 28).toNat))) - 48)) hf229 0 30 rfl
              refine s_aload_n (pc := 281) C dX12_take_281 0 rfl ?_
              refine s_dup (pc := 282) C dX12_take_282 rfl ?_
              refine s_geti (q := 0) (ci := 12) (N := 68) (CN := RX12) (T := TX12) (pc := 283) C 28 dX12_take_283 wlX12_233 rfl rfl rfl wfX12 (by decide) rfl (σ3 0 28) rfl ?_
              have b283 : (0 : Int) ≤ σ3 0 28 ∧ σ3 0 28 ≤ 500 := g278.1 0 28
              refine s_iconst (pc := 286) C dX12_take_286 ?_
              refine s_iadd (pc := 287) C dX12_take_287 ?_
              refine s_puti (q := 0) (ci := 12) (N := 68) (CN := RX12) (T := TX12) (ty0 := tyX12) (ty := .int) (pc := 288) C 28 dX12_take_288 wlX12_233 rfl rfl rfl wfX12 tyX12_ok nmX12 (by decide) rfl rfl rfl (vp_nar_int _) rfl ?_
              have g288 := gy_set (z := ((σ3 0 28) + 1)) g278 0 28 rfl (0) (500) rfl ⟨by omega, by omega⟩
              have f288 := frm_set (P := PTa) (z := ((σ3 0 28) + 1)) f278 0 28 rfl
              refine s_goto (pc := 291) C (tgt := 229) dX12_take_291 (by decide) ?_
              refine s_sub C [0] [(0, .ref (ad 0))] rfl ?_
              have hi229 : GY σ ((hs_ss (hs_ss σ3 0 30 (((10 * (σ3 0 30)) + (σ3 1 ((σ3 0 28).toNat))) - 48)) 0 28 ((σ3 0 28) + 1))) ∧ FRM PTa σ ((hs_ss (hs_ss σ3 0 30 (((10 * (σ3 0 30)) + (σ3 1 ((σ3 0 28).toNat))) - 48)) 0 28 ((σ3 0 28) + 1))) ∧ ((hs_ss (hs_ss σ3 0 30 (((10 * (σ3 0 30)) + (σ3 1 ((σ3 0 28).toNat))) - 48)) 0 28 ((σ3 0 28) + 1))) 0 31 = σ1 0 28 ∧ ((hs_ss (hs_ss σ3 0 30 (((10 * (σ3 0 30)) + (σ3 1 ((σ3 0 28).toNat))) - 48)) 0 28 ((σ3 0 28) + 1))) 0 29 = 3 ∧ 0 ≤ ((hs_ss (hs_ss σ3 0 30 (((10 * (σ3 0 30)) + (σ3 1 ((σ3 0 28).toNat))) - 48)) 0 28 ((σ3 0 28) + 1))) 0 30 ∧ ((hs_ss (hs_ss σ3 0 30 (((10 * (σ3 0 30)) + (σ3 1 ((σ3 0 28).toNat))) - 48)) 0 28 ((σ3 0 28) + 1))) 0 28 ≤ ((hs_ss (hs_ss σ3 0 30 (((10 * (σ3 0 30)) + (σ3 1 ((σ3 0 28).toNat))) - 48)) 0 28 ((σ3 0 28) + 1))) 0 27 ∧ (σ1 0 28 < ((hs_ss (hs_ss σ3 0 30 (((10 * (σ3 0 30)) + (σ3 1 ((σ3 0 28).toNat))) - 48)) 0 28 ((σ3 0 28) + 1))) 0 28 ∨ (((hs_ss (hs_ss σ3 0 30 (((10 * (σ3 0 30)) + (σ3 1 ((σ3 0 28).toNat))) - 48)) 0 28 ((σ3 0 28) + 1))) 0 28 = σ1 0 28 ∧ ((hs_ss (hs_ss σ3 0 30 (((10 * (σ3 0 30)) + (σ3 1 ((σ3 0 28).toNat))) - 48)) 0 28 ((σ3 0 28) + 1))) 0 28 < ((hs_ss (hs_ss σ3 0 30 (((10 * (σ3 0 30)) + (σ3 1 ((σ3 0 28).toNat))) - 48)) 0 28 ((σ3 0 28) + 1))) 0 27 ∧ 48 ≤ ((hs_ss (hs_ss σ3 0 30 (((10 * (σ3 0 30)) + (σ3 1 ((σ3 0 28).toNat))) - 48)) 0 28 ((σ3 0 28) + 1))) 1 (((hs_ss (hs_ss σ3 0 30 (((10 * (σ3 0 30)) + (σ3 1 ((σ3 0 28).toNat))) - 48)) 0 28 ((σ3 0 28) + 1))) 0 28).toNat ∧ ((hs_ss (hs_ss σ3 0 30 (((10 * (σ3 0 30)) + (σ3 1 ((σ3 0 28).toNat))) - 48)) 0 28 ((σ3 0 28) + 1))) 1 (((hs_ss (hs_ss σ3 0 30 (((10 * (σ3 0 30)) + (σ3 1 ((σ3 0 28).toNat))) - 48)) 0 28 ((σ3 0 28) + 1))) 0 28).toNat ≤ 57)) := ⟨g288, f288, ⟨hs31, hs29, by first | (show 0 ≤ σ3 0 30; omega) | (show 0 ≤ 10 * σ3 0 30 + σ3 1 (σ3 0 28).toNat - 48; omega), by show σ3 0 28 + 1 ≤ σ3 0 27; omega, Or.inl (by show σ1 0 28 < σ3 0 28 + 1; omega)⟩⟩
              exact ih229 ((hs_ss (hs_ss σ3 0 30 (((10 * (σ3 0 30)) + (σ3 1 ((σ3 0 28).toNat))) - 48)) 0 28 ((σ3 0 28) + 1))) (by show (501 - (σ3 0 28 + 1)).toNat < (501 - σ3 0 28).toNat; omega) hi229
            · skip
              refine s_aload_n (pc := 251) C dX12_take_251 0 rfl ?_
              refine s_geti (q := 0) (ci := 12) (N := 68) (CN := RX12) (T := TX12) (pc := 252) C 30 dX12_take_252 wlX12_245 rfl rfl rfl wfX12 (by decide) rfl (σ3 0 30) rfl ?_
              have b252 : (-1 : Int) ≤ σ3 0 30 ∧ σ3 0 30 ≤ 10000 := hg229.1 0 30
              refine s_goto (pc := 255) C (tgt := 278) dX12_take_255 (by decide) ?_
              refine s_puti (q := 0) (ci := 12) (N := 68) (CN := RX12) (T := TX12) (ty0 := tyX12) (ty := .int) (pc := 278) C 30 dX12_take_278 wlX12_245 rfl rfl rfl wfX12 tyX12_ok nmX12 (by decide) rfl rfl rfl (vp_nar_int _) rfl ?_
              have g278 := gy_set (z := (σ3 0 30)) hg229 0 30 rfl (-1) (10000) rfl ⟨by omega, by omega⟩
              have f278 := frm_set (P := PTa) (z := (σ3 0 30)) hf229 0 30 rfl
              refine s_aload_n (pc := 281) C dX12_take_281 0 rfl ?_
              refine s_dup (pc := 282) C dX12_take_282 rfl ?_
              refine s_geti (q := 0) (ci := 12) (N := 68) (CN := RX12) (T := TX12) (pc := 283) C 28 dX12_take_283 wlX12_233 rfl rfl rfl wfX12 (by decide) rfl (σ3 0 28) rfl ?_
              have b283 : (0 : Int) ≤ σ3 0 28 ∧ σ3 0 28 ≤ 500 := g278.1 0 28
              refine s_iconst (pc := 286) C dX12_take_286 ?_
              refine s_iadd (pc := 287) C dX12_take_287 ?_
              refine s_puti (q := 0) (ci := 12) (N := 68) (CN := RX12) (T := TX12) (ty0 := tyX12) (ty := .int) (pc := 288) C 28 dX12_take_288 wlX12_233 rfl rfl rfl wfX12 tyX12_ok nmX12 (by decide) rfl rfl rfl (vp_nar_int _) rfl ?_
              have g288 := gy_set (z := ((σ3 0 28) + 1)) g278 0 28 rfl (0) (500) rfl ⟨by omega, by omega⟩
              have f288 := frm_set (P := PTa) (z := ((σ3 0 28) + 1)) f278 0 28 rfl
              refine s_goto (pc := 291) C (tgt := 229) dX12_take_291 (by decide) ?_
              refine s_sub C [0] [(0, .ref (ad 0))] rfl ?_
              have hi229 : GY σ ((hs_ss (hs_ss σ3 0 30 (σ3 0 30)) 0 28 ((σ3 0 28) + 1))) ∧ FRM PTa σ ((hs_ss (hs_ss σ3 0 30 (σ3 0 30)) 0 28 ((σ3 0 28) + 1))) ∧ ((hs_ss (hs_ss σ3 0 30 (σ3 0 30)) 0 28 ((σ3 0 28) + 1))) 0 31 = σ1 0 28 ∧ ((hs_ss (hs_ss σ3 0 30 (σ3 0 30)) 0 28 ((σ3 0 28) + 1))) 0 29 = 3 ∧ 0 ≤ ((hs_ss (hs_ss σ3 0 30 (σ3 0 30)) 0 28 ((σ3 0 28) + 1))) 0 30 ∧ ((hs_ss (hs_ss σ3 0 30 (σ3 0 30)) 0 28 ((σ3 0 28) + 1))) 0 28 ≤ ((hs_ss (hs_ss σ3 0 30 (σ3 0 30)) 0 28 ((σ3 0 28) + 1))) 0 27 ∧ (σ1 0 28 < ((hs_ss (hs_ss σ3 0 30 (σ3 0 30)) 0 28 ((σ3 0 28) + 1))) 0 28 ∨ (((hs_ss (hs_ss σ3 0 30 (σ3 0 30)) 0 28 ((σ3 0 28) + 1))) 0 28 = σ1 0 28 ∧ ((hs_ss (hs_ss σ3 0 30 (σ3 0 30)) 0 28 ((σ3 0 28) + 1))) 0 28 < ((hs_ss (hs_ss σ3 0 30 (σ3 0 30)) 0 28 ((σ3 0 28) + 1))) 0 27 ∧ 48 ≤ ((hs_ss (hs_ss σ3 0 30 (σ3 0 30)) 0 28 ((σ3 0 28) + 1))) 1 (((hs_ss (hs_ss σ3 0 30 (σ3 0 30)) 0 28 ((σ3 0 28) + 1))) 0 28).toNat ∧ ((hs_ss (hs_ss σ3 0 30 (σ3 0 30)) 0 28 ((σ3 0 28) + 1))) 1 (((hs_ss (hs_ss σ3 0 30 (σ3 0 30)) 0 28 ((σ3 0 28) + 1))) 0 28).toNat ≤ 57)) := ⟨g288, f288, ⟨hs31, hs29, by first | (show 0 ≤ σ3 0 30; omega) | (show 0 ≤ 10 * σ3 0 30 + σ3 1 (σ3 0 28).toNat - 48; omega), by show σ3 0 28 + 1 ≤ σ3 0 27; omega, Or.inl (by show σ1 0 28 < σ3 0 28 + 1; omega)⟩⟩
              exact ih229 ((hs_ss (hs_ss σ3 0 30 (σ3 0 30)) 0 28 ((σ3 0 28) + 1))) (by show (501 - (σ3 0 28 + 1)).toNat < (501 - σ3 0 28).toNat; omega) hi229
      · skip
        refine s_sub C [0] [(0, .ref (ad 0))] rfl ?_
        have hi90 : GY σ ((hs_ss σ1 0 31 (σ1 0 28))) ∧ FRM PTa σ ((hs_ss σ1 0 31 (σ1 0 28))) ∧ ((hs_ss σ1 0 31 (σ1 0 28))) 0 31 = σ1 0 28 ∧ ((hs_ss σ1 0 31 (σ1 0 28))) 0 28 ≤ ((hs_ss σ1 0 31 (σ1 0 28))) 0 27 ∧ (σ1 0 28 < ((hs_ss σ1 0 31 (σ1 0 28))) 0 28 ∨ (((hs_ss σ1 0 31 (σ1 0 28))) 0 28 = σ1 0 28 ∧ ((hs_ss σ1 0 31 (σ1 0 28))) 0 28 < ((hs_ss σ1 0 31 (σ1 0 28))) 0 27 ∧ 97 ≤ ((hs_ss σ1 0 31 (σ1 0 28))) 1 (((hs_ss σ1 0 31 (σ1 0 28))) 0 28).toNat ∧ ((hs_ss σ1 0 31 (σ1 0 28))) 1 (((hs_ss σ1 0 31 (σ1 0 28))) 0 28).toNat ≤ 122)) ∧ 97 ≤ ((hs_ss σ1 0 31 (σ1 0 28))) 1 (((hs_ss σ1 0 31 (σ1 0 28))) 0 31).toNat ∧ ((hs_ss σ1 0 31 (σ1 0 28))) 1 (((hs_ss σ1 0 31 (σ1 0 28))) 0 31).toNat ≤ 122 := ⟨g57, f57, ⟨rfl, by show σ1 0 28 ≤ σ1 0 27; omega, Or.inr ⟨rfl, by show σ1 0 28 < σ1 0 27; omega, by show 97 ≤ σ1 1 (σ1 0 28).toNat; omega, by show σ1 1 (σ1 0 28).toNat ≤ 122; omega⟩, by show 97 ≤ σ1 1 (σ1 0 28).toNat; omega, by show σ1 1 (σ1 0 28).toNat ≤ 122; omega⟩⟩
        refine hs_loop (α := hs_S) (fun x_ => (GY σ x_ ∧ FRM PTa σ x_ ∧ x_ 0 31 = σ1 0 28 ∧ x_ 0 28 ≤ x_ 0 27 ∧ (σ1 0 28 < x_ 0 28 ∨ (x_ 0 28 = σ1 0 28 ∧ x_ 0 28 < x_ 0 27 ∧ 97 ≤ x_ 1 (x_ 0 28).toNat ∧ x_ 1 (x_ 0 28).toNat ≤ 122)) ∧ 97 ≤ x_ 1 (x_ 0 31).toNat ∧ x_ 1 (x_ 0 31).toNat ≤ 122) → hs_Wd p l e 2 s m args below meth c D dA SHY ad A 2 (hs_PV (fun σ σ1 => GY σ σ1 ∧ FRM PTa σ σ1 ∧ TY σ1 ∧ σ 0 28 ≤ σ1 0 31) σ) 90 [(0, .ref (ad 0))] [] x_) (fun x_ => (501 - x_ 0 28).toNat) ?_ ((hs_ss σ1 0 31 (σ1 0 28))) hi90
        rintro σ2 ih90 hinv
        have hinv : GY σ σ2 ∧ FRM PTa σ σ2 ∧ σ2 0 31 = σ1 0 28 ∧ σ2 0 28 ≤ σ2 0 27 ∧ (σ1 0 28 < σ2 0 28 ∨ (σ2 0 28 = σ1 0 28 ∧ σ2 0 28 < σ2 0 27 ∧ 97 ≤ σ2 1 (σ2 0 28).toNat ∧ σ2 1 (σ2 0 28).toNat ≤ 122)) ∧ 97 ≤ σ2 1 (σ2 0 31).toNat ∧ σ2 1 (σ2 0 31).toNat ≤ 122 := hinv
        obtain ⟨hg90, hf90, hv90⟩ := hinv
        show hs_Wd p l e 2 s m args below meth c D dA SHY ad A 2 (hs_PV (fun σ σ1 => GY σ σ1 ∧ FRM PTa σ σ1 ∧ TY σ1 ∧ σ 0 28 ≤ σ1 0 31) σ) 90 [(0, .ref (ad 0))] [] σ2
        obtain ⟨hs31, hs28, hsm, ht0, ht1⟩ := hv90
        have b282 : (0 : Int) ≤ σ2 0 28 ∧ σ2 0 28 ≤ 500 := hg90.1 0 28
        refine s_aload_n (pc := 90) C dX12_take_90 0 rfl ?_
        refine s_aload_n (pc := 91) C dX12_take_91 0 rfl ?_
        refine s_geti (q := 0) (ci := 12) (N := 68) (CN := RX12) (T := TX12) (pc := 92) C 28 dX12_take_92 wlX12_233 rfl rfl rfl wfX12 (by decide) rfl (σ2 0 28) rfl ?_
        have b92 : (0 : Int) ≤ σ2 0 28 ∧ σ2 0 28 ≤ 500 := hg90.1 0 28
        refine s_callVi (pc := 95) C (c_X12_isSmall l (σ2 0 28) (by first | omega | assumption | (constructor <;> omega) | (refine ⟨⟨?_, ?_⟩, ?_⟩ <;> omega) | (simp [hs_ss, hs_up]; omega) | (simp [hs_ss, hs_up]; done))) [vI (σ2 0 28)] [] rfl rfl dX12_take_95 wlX12_239 wiX12_isSmall weX12_isSmall wcX12_isSmall wnX12 noX12_isSmall (by decide) (by decide) (Nat.le_of_ble_eq_true rfl) (gy_self hg90) rfl rfl ?_
        rintro z95 _ ⟨rfl, k95⟩
        show hs_Wd _ _ _ _ _ _ _ _ _ _ _ _ _ _ _ _ _ 98 _ [vI z95] σ2
        refine s_if_eq (pc := 98) C (tgt := 114) dX12_take_98 (by decide) ⟨by omega, by omega⟩ (fun h98 => ?_) (fun h98 => ?_)
        · skip
          refine s_aload_n (pc := 114) C dX12_take_114 0 rfl ?_
          refine s_geti (q := 0) (ci := 12) (N := 68) (CN := RX12) (T := TX12) (pc := 115) C 28 dX12_take_115 wlX12_233 rfl rfl rfl wfX12 (by decide) rfl (σ2 0 28) rfl ?_
          have b115 : (0 : Int) ≤ σ2 0 28 ∧ σ2 0 28 ≤ 500 := hg90.1 0 28
          refine s_aload_n (pc := 118) C dX12_take_118 0 rfl ?_
          refine s_geti (q := 0) (ci := 12) (N := 68) (CN := RX12) (T := TX12) (pc := 119) C 31 dX12_take_119 wlX12_227 rfl rfl rfl wfX12 (by decide) rfl (σ2 0 31) rfl ?_
          have b119 : (0 : Int) ≤ σ2 0 31 ∧ σ2 0 31 ≤ 500 := hg90.1 0 31
          refine s_iconst (pc := 122) C dX12_take_122 ?_
          refine s_iadd (pc := 123) C dX12_take_123 ?_
          refine s_icmp_ne (pc := 124) C (tgt := 131) dX12_take_124 (by decide) ⟨by omega, by omega⟩ ⟨by omega, by omega⟩ (fun h124 => ?_) (fun h124 => ?_)
          · skip
            refine s_iconst (pc := 131) C dX12_take_131 ?_
            refine s_istore_n (pc := 132) C [(1, vI 0), (0, .ref (ad 0))] dX12_take_132 (by decide) rfl ?_
            refine s_aload_n (pc := 133) C dX12_take_133 1 rfl ?_
            refine s_iload_n (pc := 134) C dX12_take_134 0 rfl ?_
            refine s_if_eq (pc := 135) C (tgt := 153) dX12_take_135 (by decide) ⟨by decide, by decide⟩ (fun h135 => ?_) (fun h135 => ?_)
            · skip
              refine s_aload_n (pc := 153) C dX12_take_153 1 rfl ?_
              refine s_aload_n (pc := 154) C dX12_take_154 1 rfl ?_
              refine s_geti (q := 0) (ci := 12) (N := 68) (CN := RX12) (T := TX12) (pc := 155) C 31 dX12_take_155 wlX12_227 rfl rfl rfl wfX12 (by decide) rfl (σ2 0 31) rfl ?_
              have b155 : (0 : Int) ≤ σ2 0 31 ∧ σ2 0 31 ≤ 500 := hg90.1 0 31
              refine s_aload_n (pc := 158) C dX12_take_158 1 rfl ?_
              refine s_geti (q := 0) (ci := 12) (N := 68) (CN := RX12) (T := TX12) (pc := 159) C 28 dX12_take_159 wlX12_233 rfl rfl rfl wfX12 (by decide) rfl (σ2 0 28) rfl ?_
              have b159 : (0 : Int) ≤ σ2 0 28 ∧ σ2 0 28 ≤ 500 := hg90.1 0 28
              refine s_callVi (pc := 162) C (c_X12_wordAt l (σ2 0 31) (σ2 0 28) (by first | omega | assumption | (constructor <;> omega) | (refine ⟨⟨?_, ?_⟩, ?_⟩ <;> omega) | (simp [hs_ss, hs_up]; omega) | (simp [hs_ss, hs_up]; done))) [vI (σ2 0 31), vI (σ2 0 28)] [.ref (ad 0)] rfl rfl dX12_take_162 wlX12_242 wiX12_wordAt weX12_wordAt wcX12_wordAt wnX12 noX12_wordAt (by decide) (by decide) (Nat.le_of_ble_eq_true rfl) (gy_self hg90) rfl rfl ?_
              rintro z162 _ ⟨rfl, k162⟩
              show hs_Wd _ _ _ _ _ _ _ _ _ _ _ _ _ _ _ _ _ 165 _ [vI z162, .ref (ad 0)] σ2
              refine s_puti (q := 0) (ci := 12) (N := 68) (CN := RX12) (T := TX12) (ty0 := tyX12) (ty := .int) (pc := 165) C 30 dX12_take_165 wlX12_245 rfl rfl rfl wfX12 tyX12_ok nmX12 (by decide) rfl rfl rfl (vp_nar_int _) rfl ?_
              have g165 := gy_set (z := z162) hg90 0 30 rfl (-1) (10000) rfl ⟨by omega, by omega⟩
              have f165 := frm_set (P := PTa) (z := z162) hf90 0 30 rfl
              refine s_aload_n (pc := 168) C dX12_take_168 1 rfl ?_
              refine s_iload_n (pc := 169) C dX12_take_169 0 rfl ?_
              refine s_if_eq (pc := 170) C (tgt := 190) dX12_take_170 (by decide) ⟨by decide, by decide⟩ (fun h170 => ?_) (fun h170 => ?_)
              · skip
                refine s_aload_n (pc := 190) C dX12_take_190 1 rfl ?_
                refine s_geti (q := 0) (ci := 12) (N := 68) (CN := RX12) (T := TX12) (pc := 191) C 30 dX12_take_191 wlX12_245 rfl rfl rfl wfX12 (by decide) rfl (z162) rfl ?_
                have b191 : (-1 : Int) ≤ z162 ∧ z162 ≤ 10000 := g165.1 0 30
                refine s_if_ge (pc := 194) C (tgt := 201) dX12_take_194 (by decide) ⟨by omega, by omega⟩ (fun h194 => ?_) (fun h194 => ?_)
                · skip
                  refine s_iconst (pc := 201) C dX12_take_201 ?_
                  refine s_puti (q := 0) (ci := 12) (N := 68) (CN := RX12) (T := TX12) (ty0 := tyX12) (ty := .int) (pc := 202) C 29 dX12_take_202 wlX12_236 rfl rfl rfl wfX12 tyX12_ok nmX12 (by decide) rfl rfl rfl (vp_nar_int _) rfl ?_
                  have g202 := gy_set (z := 1) g165 0 29 rfl (0) (5) rfl ⟨by omega, by omega⟩
                  have f202 := frm_set (P := PTa) (z := 1) f165 0 29 rfl
                  refine s_goto (pc := 205) C (tgt := 371) dX12_take_205 (by decide) ?_
                  refine s_vret (pc := 371) C dX12_take_371 ?_
                  refine ⟨rfl, ?_⟩
                  exact ⟨g202, f202, ⟨by unfold TY; simp [hs_ss, hs_up]; omega, by simp [hs_ss, hs_up]; omega⟩⟩
                · skip
                  refine s_iconst (pc := 197) C dX12_take_197 ?_
                  refine s_goto (pc := 198) C (tgt := 202) dX12_take_198 (by decide) ?_
                  refine s_puti (q := 0) (ci := 12) (N := 68) (CN := RX12) (T := TX12) (ty0 := tyX12) (ty := .int) (pc := 202) C 29 dX12_take_202 wlX12_236 rfl rfl rfl wfX12 tyX12_ok nmX12 (by decide) rfl rfl rfl (vp_nar_int _) rfl ?_
                  have g202 := gy_set (z := 5) g165 0 29 rfl (0) (5) rfl ⟨by omega, by omega⟩
                  have f202 := frm_set (P := PTa) (z := 5) f165 0 29 rfl
                  refine s_goto (pc := 205) C (tgt := 371) dX12_take_205 (by decide) ?_
                  refine s_vret (pc := 371) C dX12_take_371 ?_
                  refine ⟨rfl, ?_⟩
                  exact ⟨g202, f202, ⟨by unfold TY; simp [hs_ss, hs_up]; omega, by simp [hs_ss, hs_up]; omega⟩⟩
              · exact absurd h170 (by decide)
            · exact absurd h135 (by decide)
          · skip
            refine s_iconst (pc := 127) C dX12_take_127 ?_
            refine s_goto (pc := 128) C (tgt := 132) dX12_take_128 (by decide) ?_
            refine s_istore_n (pc := 132) C [(1, vI 1), (0, .ref (ad 0))] dX12_take_132 (by decide) rfl ?_
            refine s_aload_n (pc := 133) C dX12_take_133 1 rfl ?_
            refine s_iload_n (pc := 134) C dX12_take_134 0 rfl ?_
            refine s_if_eq (pc := 135) C (tgt := 153) dX12_take_135 (by decide) ⟨by decide, by decide⟩ (fun h135 => ?_) (fun h135 => ?_)
            · exact absurd h135 (by decide)
            · skip
              refine s_aload_n (pc := 138) C dX12_take_138 1 rfl ?_
              refine s_getr (q := 0) (ci := 12) (N := 68) (CN := RX12) (T := TX12) (pc := 139) C 0 dX12_take_139 wlX12_7 rfl rfl rfl wfX12 (by decide) rfl ?_
              refine s_aload_n (pc := 142) C dX12_take_142 1 rfl ?_
              refine s_geti (q := 0) (ci := 12) (N := 68) (CN := RX12) (T := TX12) (pc := 143) C 31 dX12_take_143 wlX12_227 rfl rfl rfl wfX12 (by decide) rfl (σ2 0 31) rfl ?_
              have b143 : (0 : Int) ≤ σ2 0 31 ∧ σ2 0 31 ≤ 500 := hg90.1 0 31
              refine s_iald (q := 1) (n := 500) (pc := 146) C (σ2 1 ((σ2 0 31).toNat)) rfl dX12_take_146 rfl (by omega) (by omega) (by decide) ?_
              have b146 : (0 : Int) ≤ σ2 1 ((σ2 0 31).toNat) ∧ σ2 1 ((σ2 0 31).toNat) ≤ 255 := hg90.1 1 ((σ2 0 31).toNat)
              refine s_bipush (pc := 147) C dX12_take_147 (by decide) ?_
              refine s_isub (pc := 149) C dX12_take_149 ?_
              refine s_goto (pc := 150) C (tgt := 165) dX12_take_150 (by decide) ?_
              refine s_puti (q := 0) (ci := 12) (N := 68) (CN := RX12) (T := TX12) (ty0 := tyX12) (ty := .int) (pc := 165) C 30 dX12_take_165 wlX12_245 rfl rfl rfl wfX12 tyX12_ok nmX12 (by decide) rfl rfl rfl (vp_nar_int _) rfl ?_
              have g165 := gy_set (z := ((σ2 1 ((σ2 0 31).toNat)) - 97)) hg90 0 30 rfl (-1) (10000) rfl ⟨by omega, by omega⟩
              have f165 := frm_set (P := PTa) (z := ((σ2 1 ((σ2 0 31).toNat)) - 97)) hf90 0 30 rfl
              refine s_aload_n (pc := 168) C dX12_take_168 1 rfl ?_
              refine s_iload_n (pc := 169) C dX12_take_169 0 rfl ?_
              refine s_if_eq (pc := 170) C (tgt := 190) dX12_take_170 (by decide) ⟨by decide, by decide⟩ (fun h170 => ?_) (fun h170 => ?_)
              · exact absurd h170 (by decide)
              · skip
                refine s_aload_n (pc := 173) C dX12_take_173 1 rfl ?_
                refine s_geti (q := 0) (ci := 12) (N := 68) (CN := RX12) (T := TX12) (pc := 174) C 30 dX12_take_174 wlX12_245 rfl rfl rfl wfX12 (by decide) rfl ((σ2 1 ((σ2 0 31).toNat)) - 97) rfl ?_
                have b174 : (-1 : Int) ≤ (σ2 1 ((σ2 0 31).toNat)) - 97 ∧ (σ2 1 ((σ2 0 31).toNat)) - 97 ≤ 10000 := g165.1 0 30
                refine s_bipush (pc := 177) C dX12_take_177 (by decide) ?_
                refine s_icmp_ge (pc := 179) C (tgt := 186) dX12_take_179 (by decide) ⟨by omega, by omega⟩ ⟨by decide, by decide⟩ (fun h179 => ?_) (fun h179 => ?_)
                · skip
                  refine s_iconst (pc := 186) C dX12_take_186 ?_
                  refine s_goto (pc := 187) C (tgt := 202) dX12_take_187 (by decide) ?_
                  refine s_puti (q := 0) (ci := 12) (N := 68) (CN := RX12) (T := TX12) (ty0 := tyX12) (ty := .int) (pc := 202) C 29 dX12_take_202 wlX12_236 rfl rfl rfl wfX12 tyX12_ok nmX12 (by decide) rfl rfl rfl (vp_nar_int _) rfl ?_
                  have g202 := gy_set (z := 5) g165 0 29 rfl (0) (5) rfl ⟨by omega, by omega⟩
                  have f202 := frm_set (P := PTa) (z := 5) f165 0 29 rfl
                  refine s_goto (pc := 205) C (tgt := 371) dX12_take_205 (by decide) ?_
                  refine s_vret (pc := 371) C dX12_take_371 ?_
                  refine ⟨rfl, ?_⟩
                  exact ⟨g202, f202, ⟨by unfold TY; simp [hs_ss, hs_up]; omega, by simp [hs_ss, hs_up]; omega⟩⟩
                · skip
                  refine s_iconst (pc := 182) C dX12_take_182 ?_
                  refine s_goto (pc := 183) C (tgt := 202) dX12_take_183 (by decide) ?_
                  refine s_puti (q := 0) (ci := 12) (N := 68) (CN := RX12) (T := TX12) (ty0 := tyX12) (ty := .int) (pc := 202) C 29 dX12_take_202 wlX12_236 rfl rfl rfl wfX12 tyX12_ok nmX12 (by decide) rfl rfl rfl (vp_nar_int _) rfl ?_
                  have g202 := gy_set (z := 2) g165 0 29 rfl (0) (5) rfl ⟨by omega, by omega⟩
                  have f202 := frm_set (P := PTa) (z := 2) f165 0 29 rfl
                  refine s_goto (pc := 205) C (tgt := 371) dX12_take_205 (by decide) ?_
                  refine s_vret (pc := 371) C dX12_take_371 ?_
                  refine ⟨rfl, ?_⟩
                  exact ⟨g202, f202, ⟨by unfold TY; simp [hs_ss, hs_up]; omega, by simp [hs_ss, hs_up]; omega⟩⟩
        · skip
          refine s_aload_n (pc := 101) C dX12_take_101 0 rfl ?_
          refine s_dup (pc := 102) C dX12_take_102 rfl ?_
          refine s_geti (q := 0) (ci := 12) (N := 68) (CN := RX12) (T := TX12) (pc := 103) C 28 dX12_take_103 wlX12_233 rfl rfl rfl wfX12 (by decide) rfl (σ2 0 28) rfl ?_
          have b103 : (0 : Int) ≤ σ2 0 28 ∧ σ2 0 28 ≤ 500 := hg90.1 0 28
          refine s_iconst (pc := 106) C dX12_take_106 ?_
          refine s_iadd (pc := 107) C dX12_take_107 ?_
          refine s_puti (q := 0) (ci := 12) (N := 68) (CN := RX12) (T := TX12) (ty0 := tyX12) (ty := .int) (pc := 108) C 28 dX12_take_108 wlX12_233 rfl rfl rfl wfX12 tyX12_ok nmX12 (by decide) rfl rfl rfl (vp_nar_int _) rfl ?_
          have g108 := gy_set (z := ((σ2 0 28) + 1)) hg90 0 28 rfl (0) (500) rfl ⟨by omega, by omega⟩
          have f108 := frm_set (P := PTa) (z := ((σ2 0 28) + 1)) hf90 0 28 rfl
          refine s_goto (pc := 111) C (tgt := 90) dX12_take_111 (by decide) ?_
          refine s_sub C [0] [(0, .ref (ad 0))] rfl ?_
          have hi90 : GY σ ((hs_ss σ2 0 28 ((σ2 0 28) + 1))) ∧ FRM PTa σ ((hs_ss σ2 0 28 ((σ2 0 28) + 1))) ∧ ((hs_ss σ2 0 28 ((σ2 0 28) + 1))) 0 31 = σ1 0 28 ∧ ((hs_ss σ2 0 28 ((σ2 0 28) + 1))) 0 28 ≤ ((hs_ss σ2 0 28 ((σ2 0 28) + 1))) 0 27 ∧ (σ1 0 28 < ((hs_ss σ2 0 28 ((σ2 0 28) + 1))) 0 28 ∨ (((hs_ss σ2 0 28 ((σ2 0 28) + 1))) 0 28 = σ1 0 28 ∧ ((hs_ss σ2 0 28 ((σ2 0 28) + 1))) 0 28 < ((hs_ss σ2 0 28 ((σ2 0 28) + 1))) 0 27 ∧ 97 ≤ ((hs_ss σ2 0 28 ((σ2 0 28) + 1))) 1 (((hs_ss σ2 0 28 ((σ2 0 28) + 1))) 0 28).toNat ∧ ((hs_ss σ2 0 28 ((σ2 0 28) + 1))) 1 (((hs_ss σ2 0 28 ((σ2 0 28) + 1))) 0 28).toNat ≤ 122)) ∧ 97 ≤ ((hs_ss σ2 0 28 ((σ2 0 28) + 1))) 1 (((hs_ss σ2 0 28 ((σ2 0 28) + 1))) 0 31).toNat ∧ ((hs_ss σ2 0 28 ((σ2 0 28) + 1))) 1 (((hs_ss σ2 0 28 ((σ2 0 28) + 1))) 0 31).toNat ≤ 122 := ⟨g108, f108, ⟨hs31, by show σ2 0 28 + 1 ≤ σ2 0 27; omega, Or.inl (by show σ1 0 28 < σ2 0 28 + 1; omega), ht0, ht1⟩⟩
          exact ih90 ((hs_ss σ2 0 28 ((σ2 0 28) + 1))) (by show (501 - (σ2 0 28 + 1)).toNat < (501 - σ2 0 28).toNat; omega) hi90
    · skip
      refine s_aload_n (pc := 71) C dX12_take_71 0 rfl ?_
      refine s_iconst (pc := 72) C dX12_take_72 ?_
      refine s_puti (q := 0) (ci := 12) (N := 68) (CN := RX12) (T := TX12) (ty0 := tyX12) (ty := .int) (pc := 73) C 29 dX12_take_73 wlX12_236 rfl rfl rfl wfX12 tyX12_ok nmX12 (by decide) rfl rfl rfl (vp_nar_int _) rfl ?_
      have g73 := gy_set (z := 0) g57 0 29 rfl (0) (5) rfl ⟨by omega, by omega⟩
      have f73 := frm_set (P := PTa) (z := 0) f57 0 29 rfl
      refine s_goto (pc := 76) C (tgt := 371) dX12_take_76 (by decide) ?_
      refine s_vret (pc := 371) C dX12_take_371 ?_
      refine ⟨rfl, ?_⟩
      exact ⟨g73, f73, ⟨by unfold TY; simp [hs_ss, hs_up]; omega, by simp [hs_ss, hs_up]; omega⟩⟩
  refine s_geti (q := 0) (ci := 12) (N := 68) (CN := RX12) (T := TX12) (pc := 1) C 28 dX12_take_1 wlX12_233 rfl rfl rfl wfX12 (by decide) rfl (σ1 0 28) rfl ?_
  have b1 : (0 : Int) ≤ σ1 0 28 ∧ σ1 0 28 ≤ 500 := hg0.1 0 28
  refine s_aload_n (pc := 4) C dX12_take_4 0 rfl ?_
  refine s_geti (q := 0) (ci := 12) (N := 68) (CN := RX12) (T := TX12) (pc := 5) C 27 dX12_take_5 wlX12_230 rfl rfl rfl wfX12 (by decide) rfl (σ1 0 27) rfl ?_
  have b5 : (0 : Int) ≤ σ1 0 27 ∧ σ1 0 27 ≤ 500 := hg0.1 0 27
  refine s_icmp_ge (pc := 8) C (tgt := 52) dX12_take_8 (by decide) ⟨by omega, by omega⟩ ⟨by omega, by omega⟩ (fun h8 => ?_) (fun h8 => ?_)
  · skip
    refine s_sub C [0] [(0, .ref (ad 0))] rfl ?_
    exact j52  (by first | omega | assumption | (constructor <;> omega) | (refine ⟨⟨?_, ?_⟩, ?_⟩ <;> omega) | (simp [hs_ss, hs_up]; omega) | (simp [hs_ss, hs_up]; done))
  · skip
    refine s_aload_n (pc := 11) C dX12_take_11 0 rfl ?_
    refine s_getr (q := 0) (ci := 12) (N := 68) (CN := RX12) (T := TX12) (pc := 12) C 0 dX12_take_12 wlX12_7 rfl rfl rfl wfX12 (by decide) rfl ?_
    refine s_aload_n (pc := 15) C dX12_take_15 0 rfl ?_
    refine s_geti (q := 0) (ci := 12) (N := 68) (CN := RX12) (T := TX12) (pc := 16) C 28 dX12_take_16 wlX12_233 rfl rfl rfl wfX12 (by decide) rfl (σ1 0 28) rfl ?_
    have b16 : (0 : Int) ≤ σ1 0 28 ∧ σ1 0 28 ≤ 500 := hg0.1 0 28
    refine s_iald (q := 1) (n := 500) (pc := 19) C (σ1 1 ((σ1 0 28).toNat)) rfl dX12_take_19 rfl (by omega) (by omega) (by decide) ?_
    have b19 : (0 : Int) ≤ σ1 1 ((σ1 0 28).toNat) ∧ σ1 1 ((σ1 0 28).toNat) ≤ 255 := hg0.1 1 ((σ1 0 28).toNat)
    refine s_bipush (pc := 20) C dX12_take_20 (by decide) ?_
    refine s_icmp_eq (pc := 22) C (tgt := 39) dX12_take_22 (by decide) ⟨by omega, by omega⟩ ⟨by decide, by decide⟩ (fun h22 => ?_) (fun h22 => ?_)
    · skip
      refine s_aload_n (pc := 39) C dX12_take_39 0 rfl ?_
      refine s_dup (pc := 40) C dX12_take_40 rfl ?_
      refine s_geti (q := 0) (ci := 12) (N := 68) (CN := RX12) (T := TX12) (pc := 41) C 28 dX12_take_41 wlX12_233 rfl rfl rfl wfX12 (by decide) rfl (σ1 0 28) rfl ?_
      have b41 : (0 : Int) ≤ σ1 0 28 ∧ σ1 0 28 ≤ 500 := hg0.1 0 28
      refine s_iconst (pc := 44) C dX12_take_44 ?_
      refine s_iadd (pc := 45) C dX12_take_45 ?_
      refine s_puti (q := 0) (ci := 12) (N := 68) (CN := RX12) (T := TX12) (ty0 := tyX12) (ty := .int) (pc := 46) C 28 dX12_take_46 wlX12_233 rfl rfl rfl wfX12 tyX12_ok nmX12 (by decide) rfl rfl rfl (vp_nar_int _) rfl ?_
      have g46 := gy_set (z := ((σ1 0 28) + 1)) hg0 0 28 rfl (0) (500) rfl ⟨by omega, by omega⟩
      have f46 := frm_set (P := PTa) (z := ((σ1 0 28) + 1)) hf0 0 28 rfl
      refine s_goto (pc := 49) C (tgt := 0) dX12_take_49 (by decide) ?_
      refine s_sub C [0] [(0, .ref (ad 0))] rfl ?_
      have hi0 : GY σ ((hs_ss σ1 0 28 ((σ1 0 28) + 1))) ∧ FRM PTa σ ((hs_ss σ1 0 28 ((σ1 0 28) + 1))) ∧ σ 0 28 ≤ ((hs_ss σ1 0 28 ((σ1 0 28) + 1))) 0 28 ∧ ((hs_ss σ1 0 28 ((σ1 0 28) + 1))) 0 28 ≤ ((hs_ss σ1 0 28 ((σ1 0 28) + 1))) 0 27 := ⟨g46, f46, ⟨by show σ 0 28 ≤ σ1 0 28 + 1; omega, by show σ1 0 28 + 1 ≤ σ1 0 27; omega⟩⟩
      exact ih0 ((hs_ss σ1 0 28 ((σ1 0 28) + 1))) (by show (501 - (σ1 0 28 + 1)).toNat < (501 - σ1 0 28).toNat; omega) hi0
    · skip
      refine s_aload_n (pc := 25) C dX12_take_25 0 rfl ?_
      refine s_getr (q := 0) (ci := 12) (N := 68) (CN := RX12) (T := TX12) (pc := 26) C 0 dX12_take_26 wlX12_7 rfl rfl rfl wfX12 (by decide) rfl ?_
      refine s_aload_n (pc := 29) C dX12_take_29 0 rfl ?_
      refine s_geti (q := 0) (ci := 12) (N := 68) (CN := RX12) (T := TX12) (pc := 30) C 28 dX12_take_30 wlX12_233 rfl rfl rfl wfX12 (by decide) rfl (σ1 0 28) rfl ?_
      have b30 : (0 : Int) ≤ σ1 0 28 ∧ σ1 0 28 ≤ 500 := hg0.1 0 28
      refine s_iald (q := 1) (n := 500) (pc := 33) C (σ1 1 ((σ1 0 28).toNat)) rfl dX12_take_33 rfl (by omega) (by omega) (by decide) ?_
      have b33 : (0 : Int) ≤ σ1 1 ((σ1 0 28).toNat) ∧ σ1 1 ((σ1 0 28).toNat) ≤ 255 := hg0.1 1 ((σ1 0 28).toNat)
      refine s_bipush (pc := 34) C dX12_take_34 (by decide) ?_
      refine s_icmp_ne (pc := 36) C (tgt := 52) dX12_take_36 (by decide) ⟨by omega, by omega⟩ ⟨by decide, by decide⟩ (fun h36 => ?_) (fun h36 => ?_)
      · skip
        refine s_sub C [0] [(0, .ref (ad 0))] rfl ?_
        exact j52  (by first | omega | assumption | (constructor <;> omega) | (refine ⟨⟨?_, ?_⟩, ?_⟩ <;> omega) | (simp [hs_ss, hs_up]; omega) | (simp [hs_ss, hs_up]; done))
      · skip
        refine s_aload_n (pc := 39) C dX12_take_39 0 rfl ?_
        refine s_dup (pc := 40) C dX12_take_40 rfl ?_
        refine s_geti (q := 0) (ci := 12) (N := 68) (CN := RX12) (T := TX12) (pc := 41) C 28 dX12_take_41 wlX12_233 rfl rfl rfl wfX12 (by decide) rfl (σ1 0 28) rfl ?_
        have b41 : (0 : Int) ≤ σ1 0 28 ∧ σ1 0 28 ≤ 500 := hg0.1 0 28
        refine s_iconst (pc := 44) C dX12_take_44 ?_
        refine s_iadd (pc := 45) C dX12_take_45 ?_
        refine s_puti (q := 0) (ci := 12) (N := 68) (CN := RX12) (T := TX12) (ty0 := tyX12) (ty := .int) (pc := 46) C 28 dX12_take_46 wlX12_233 rfl rfl rfl wfX12 tyX12_ok nmX12 (by decide) rfl rfl rfl (vp_nar_int _) rfl ?_
        have g46 := gy_set (z := ((σ1 0 28) + 1)) hg0 0 28 rfl (0) (500) rfl ⟨by omega, by omega⟩
        have f46 := frm_set (P := PTa) (z := ((σ1 0 28) + 1)) hf0 0 28 rfl
        refine s_goto (pc := 49) C (tgt := 0) dX12_take_49 (by decide) ?_
        refine s_sub C [0] [(0, .ref (ad 0))] rfl ?_
        have hi0 : GY σ ((hs_ss σ1 0 28 ((σ1 0 28) + 1))) ∧ FRM PTa σ ((hs_ss σ1 0 28 ((σ1 0 28) + 1))) ∧ σ 0 28 ≤ ((hs_ss σ1 0 28 ((σ1 0 28) + 1))) 0 28 ∧ ((hs_ss σ1 0 28 ((σ1 0 28) + 1))) 0 28 ≤ ((hs_ss σ1 0 28 ((σ1 0 28) + 1))) 0 27 := ⟨g46, f46, ⟨by show σ 0 28 ≤ σ1 0 28 + 1; omega, by show σ1 0 28 + 1 ≤ σ1 0 27; omega⟩⟩
        exact ih0 ((hs_ss σ1 0 28 ((σ1 0 28) + 1))) (by show (501 - (σ1 0 28 + 1)).toNat < (501 - σ1 0 28).toNat; omega) hi0
set_option maxHeartbeats 4000000 in
set_option maxRecDepth 100000 in
theorem c_X12_numberRead (l : Launch) (a b : Int) (ha : 0 ≤ a ∧ a ≤ b ∧ b ≤ 999) : hs_Met l yX12_numberRead cX12_numberRead 3 (some .boolean) 2 SHY (fun ad => [.ref (ad 0), vI a, vI b]) (fun σ => GY σ σ) (hs_PI (fun σ z σ1 => GY σ σ1 ∧ FRM PWr σ σ1 ∧ (z = 0 ∨ z = 1) ∧ (z = 1 → a ≤ σ 0 30 ∧ σ 0 30 ≤ b))) := by
  refine hs_from pfX12_numberRead (fun _ => Nat.le_of_ble_eq_true rfl) ?_
  intro p e s m args below meth c D dA ad A σ C hpre
  have C : hs_C p s m args meth c D dA SHY ad A 3 cX12_numberRead RX12 (some .boolean) := C
  have g0 := hpre
  have f0 : FRM PWr σ σ := frm_rf
  show hs_Wd p l e 2 s m args below meth c D dA SHY ad A 3 (hs_PI (fun σ z σ1 => GY σ σ1 ∧ FRM PWr σ σ1 ∧ (z = 0 ∨ z = 1) ∧ (z = 1 → a ≤ σ 0 30 ∧ σ 0 30 ≤ b)) σ) 0 [(0, .ref (ad 0)), (1, vI a), (2, vI b)] [] σ
  refine s_aload_n (pc := 0) C dX12_numberRead_0 0 rfl ?_
  refine s_geti (q := 0) (ci := 12) (N := 68) (CN := RX12) (T := TX12) (pc := 1) C 29 dX12_numberRead_1 wlX12_236 rfl rfl rfl wfX12 (by decide) rfl (σ 0 29) rfl ?_
  have b1 : (0 : Int) ≤ σ 0 29 ∧ σ 0 29 ≤ 5 := g0.1 0 29
  refine s_iconst (pc := 4) C dX12_numberRead_4 ?_
  refine s_icmp_eq (pc := 5) C (tgt := 14) dX12_numberRead_5 (by decide) ⟨by omega, by omega⟩ ⟨by decide, by decide⟩ (fun h5 => ?_) (fun h5 => ?_)
  · skip
    refine s_aload_n (pc := 14) C dX12_numberRead_14 0 rfl ?_
    refine s_geti (q := 0) (ci := 12) (N := 68) (CN := RX12) (T := TX12) (pc := 15) C 30 dX12_numberRead_15 wlX12_245 rfl rfl rfl wfX12 (by decide) rfl (σ 0 30) rfl ?_
    have b15 : (-1 : Int) ≤ σ 0 30 ∧ σ 0 30 ≤ 10000 := g0.1 0 30
    refine s_iload_n (pc := 18) C dX12_numberRead_18 1 rfl ?_
    refine s_icmp_lt (pc := 19) C (tgt := 30) dX12_numberRead_19 (by decide) ⟨by omega, by omega⟩ ⟨by omega, by omega⟩ (fun h19 => ?_) (fun h19 => ?_)
    · skip
      refine s_aload_n (pc := 30) C dX12_numberRead_30 0 rfl ?_
      refine s_iconst (pc := 31) C dX12_numberRead_31 ?_
      refine s_callVi (pc := 32) C (c_X12_wrong l 2 (by first | omega | assumption | (constructor <;> omega) | (refine ⟨⟨?_, ?_⟩, ?_⟩ <;> omega) | (simp [hs_ss, hs_up]; omega) | (simp [hs_ss, hs_up]; done))) [vI 2] [] rfl rfl dX12_numberRead_32 wlX12_254 wiX12_wrong weX12_wrong wcX12_wrong wnX12 noX12_wrong (by decide) (by decide) (Nat.le_of_ble_eq_true rfl) (gy_self g0) rfl rfl ?_
      rintro z32 σ32 k32
      have g32 := gy_trans g0 k32.1
      have f32 := frm_tr f0 (frm_mono (Q := PWr) k32.2.1 (fun _ _ h => h))
      have kf32 := k32.2.1
      have k32 := k32.2.2
      show hs_Wd _ _ _ _ _ _ _ _ _ _ _ _ _ _ _ _ _ 35 _ [vI z32] σ32
      refine s_if_eq (pc := 35) C (tgt := 42) dX12_numberRead_35 (by decide) ⟨by omega, by omega⟩ (fun h35 => ?_) (fun h35 => ?_)
      · skip
        refine s_iconst (pc := 42) C dX12_numberRead_42 ?_
        refine s_zret (pc := 43) C (by omega) dX12_numberRead_43 ?_
        refine ⟨_, rfl, ?_⟩
        exact ⟨g32, f32, by first | omega | assumption | (constructor <;> omega) | (refine ⟨⟨?_, ?_⟩, ?_⟩ <;> omega) | (simp [hs_ss, hs_up]; omega) | (simp [hs_ss, hs_up]; done)⟩
      · skip
        refine s_iconst (pc := 38) C dX12_numberRead_38 ?_
        refine s_goto (pc := 39) C (tgt := 43) dX12_numberRead_39 (by decide) ?_
        refine s_zret (pc := 43) C (by omega) dX12_numberRead_43 ?_
        refine ⟨_, rfl, ?_⟩
        exact ⟨g32, f32, by first | omega | assumption | (constructor <;> omega) | (refine ⟨⟨?_, ?_⟩, ?_⟩ <;> omega) | (simp [hs_ss, hs_up]; omega) | (simp [hs_ss, hs_up]; done)⟩
    · skip
      refine s_aload_n (pc := 22) C dX12_numberRead_22 0 rfl ?_
      refine s_geti (q := 0) (ci := 12) (N := 68) (CN := RX12) (T := TX12) (pc := 23) C 30 dX12_numberRead_23 wlX12_245 rfl rfl rfl wfX12 (by decide) rfl (σ 0 30) rfl ?_
      have b23 : (-1 : Int) ≤ σ 0 30 ∧ σ 0 30 ≤ 10000 := g0.1 0 30
      refine s_iload_n (pc := 26) C dX12_numberRead_26 2 rfl ?_
      refine s_icmp_le (pc := 27) C (tgt := 38) dX12_numberRead_27 (by decide) ⟨by omega, by omega⟩ ⟨by omega, by omega⟩ (fun h27 => ?_) (fun h27 => ?_)
      · skip
        refine s_iconst (pc := 38) C dX12_numberRead_38 ?_
        refine s_goto (pc := 39) C (tgt := 43) dX12_numberRead_39 (by decide) ?_
        refine s_zret (pc := 43) C (by omega) dX12_numberRead_43 ?_
        refine ⟨_, rfl, ?_⟩
        exact ⟨g0, f0, by first | omega | assumption | (constructor <;> omega) | (refine ⟨⟨?_, ?_⟩, ?_⟩ <;> omega) | (simp [hs_ss, hs_up]; omega) | (simp [hs_ss, hs_up]; done)⟩
      · skip
        refine s_aload_n (pc := 30) C dX12_numberRead_30 0 rfl ?_
        refine s_iconst (pc := 31) C dX12_numberRead_31 ?_
        refine s_callVi (pc := 32) C (c_X12_wrong l 2 (by first | omega | assumption | (constructor <;> omega) | (refine ⟨⟨?_, ?_⟩, ?_⟩ <;> omega) | (simp [hs_ss, hs_up]; omega) | (simp [hs_ss, hs_up]; done))) [vI 2] [] rfl rfl dX12_numberRead_32 wlX12_254 wiX12_wrong weX12_wrong wcX12_wrong wnX12 noX12_wrong (by decide) (by decide) (Nat.le_of_ble_eq_true rfl) (gy_self g0) rfl rfl ?_
        rintro z32 σ32 k32
        have g32 := gy_trans g0 k32.1
        have f32 := frm_tr f0 (frm_mono (Q := PWr) k32.2.1 (fun _ _ h => h))
        have kf32 := k32.2.1
        have k32 := k32.2.2
        show hs_Wd _ _ _ _ _ _ _ _ _ _ _ _ _ _ _ _ _ 35 _ [vI z32] σ32
        refine s_if_eq (pc := 35) C (tgt := 42) dX12_numberRead_35 (by decide) ⟨by omega, by omega⟩ (fun h35 => ?_) (fun h35 => ?_)
        · skip
          refine s_iconst (pc := 42) C dX12_numberRead_42 ?_
          refine s_zret (pc := 43) C (by omega) dX12_numberRead_43 ?_
          refine ⟨_, rfl, ?_⟩
          exact ⟨g32, f32, by first | omega | assumption | (constructor <;> omega) | (refine ⟨⟨?_, ?_⟩, ?_⟩ <;> omega) | (simp [hs_ss, hs_up]; omega) | (simp [hs_ss, hs_up]; done)⟩
        · skip
          refine s_iconst (pc := 38) C dX12_numberRead_38 ?_
          refine s_goto (pc := 39) C (tgt := 43) dX12_numberRead_39 (by decide) ?_
          refine s_zret (pc := 43) C (by omega) dX12_numberRead_43 ?_
          refine ⟨_, rfl, ?_⟩
          exact ⟨g32, f32, by first | omega | assumption | (constructor <;> omega) | (refine ⟨⟨?_, ?_⟩, ?_⟩ <;> omega) | (simp [hs_ss, hs_up]; omega) | (simp [hs_ss, hs_up]; done)⟩
  · skip
    refine s_aload_n (pc := 8) C dX12_numberRead_8 0 rfl ?_
    refine s_iconst (pc := 9) C dX12_numberRead_9 ?_
    refine s_callVi (pc := 10) C (c_X12_wrong l 1 (by first | omega | assumption | (constructor <;> omega) | (refine ⟨⟨?_, ?_⟩, ?_⟩ <;> omega) | (simp [hs_ss, hs_up]; omega) | (simp [hs_ss, hs_up]; done))) [vI 1] [] rfl rfl dX12_numberRead_10 wlX12_254 wiX12_wrong weX12_wrong wcX12_wrong wnX12 noX12_wrong (by decide) (by decide) (Nat.le_of_ble_eq_true rfl) (gy_self g0) rfl rfl ?_
    rintro z10 σ10 k10
    have g10 := gy_trans g0 k10.1
    have f10 := frm_tr f0 (frm_mono (Q := PWr) k10.2.1 (fun _ _ h => h))
    have kf10 := k10.2.1
    have k10 := k10.2.2
    show hs_Wd _ _ _ _ _ _ _ _ _ _ _ _ _ _ _ _ _ 13 _ [vI z10] σ10
    refine s_zret (pc := 13) C (by omega) dX12_numberRead_13 ?_
    refine ⟨_, rfl, ?_⟩
    exact ⟨g10, f10, by first | omega | assumption | (constructor <;> omega) | (refine ⟨⟨?_, ?_⟩, ?_⟩ <;> omega) | (simp [hs_ss, hs_up]; omega) | (simp [hs_ss, hs_up]; done)⟩
set_option maxHeartbeats 4000000 in
set_option maxRecDepth 100000 in
theorem c_X12_comesSign (l : Launch) (a : Int) (ha : hs_R a) : hs_Met l yX12_comesSign cX12_comesSign 2 (some .boolean) 3 SHY (fun ad => [.ref (ad 0), vI a]) (fun σ => GY σ σ ∧ TY σ) (hs_PI (fun σ z σ1 => GY σ σ1 ∧ FRM PTw σ σ1 ∧ TY σ1 ∧ (z = 0 ∨ z = 1) ∧ σ 0 31 ≤ σ1 0 31)) := by
  refine hs_from pfX12_comesSign (fun _ => Nat.le_of_ble_eq_true rfl) ?_
  intro p e s m args below meth c D dA ad A σ C hpre
  have C : hs_C p s m args meth c D dA SHY ad A 2 cX12_comesSign RX12 (some .boolean) := C
  obtain ⟨g0, p0_TY⟩ := hpre
  have f0 : FRM PTw σ σ := frm_rf
  have up0_TY := p0_TY
  unfold TY at up0_TY
  show hs_Wd p l e 3 s m args below meth c D dA SHY ad A 2 (hs_PI (fun σ z σ1 => GY σ σ1 ∧ FRM PTw σ σ1 ∧ TY σ1 ∧ (z = 0 ∨ z = 1) ∧ σ 0 31 ≤ σ1 0 31) σ) 0 [(0, .ref (ad 0)), (1, vI a)] [] σ
  refine s_aload_n (pc := 0) C dX12_comesSign_0 0 rfl ?_
  refine s_iload_n (pc := 1) C dX12_comesSign_1 1 rfl ?_
  refine s_callVi (pc := 2) C (c_X12_isSign l a ⟨by omega, by omega⟩) [vI a] [] rfl rfl dX12_comesSign_2 wlX12_251 wiX12_isSign weX12_isSign wcX12_isSign wnX12 noX12_isSign (by decide) (by decide) (Nat.le_of_ble_eq_true rfl) (gy_self g0) rfl rfl ?_
  rintro z2 _ ⟨rfl, k2⟩
  show hs_Wd _ _ _ _ _ _ _ _ _ _ _ _ _ _ _ _ _ 5 _ [vI z2] σ
  refine s_if_ne (pc := 5) C (tgt := 14) dX12_comesSign_5 (by decide) ⟨by omega, by omega⟩ (fun h5 => ?_) (fun h5 => ?_)
  · skip
    refine s_aload_n (pc := 14) C dX12_comesSign_14 0 rfl ?_
    refine s_callVv (pc := 15) C (c_X12_take l) [] [] rfl rfl dX12_comesSign_15 wlX12_257 wiX12_take weX12_take wcX12_take wnX12 noX12_take (by decide) (by decide) (Nat.le_of_ble_eq_true rfl) ⟨(gy_self g0), by first | omega | assumption | (constructor <;> omega) | (refine ⟨⟨?_, ?_⟩, ?_⟩ <;> omega) | (simp [hs_ss, hs_up]; omega) | (simp [hs_ss, hs_up]; done)⟩ rfl rfl ?_
    rintro σ15 k15
    have g15 := gy_trans g0 k15.1
    have f15 := frm_tr f0 (frm_mono (Q := PTw) k15.2.1 (fun c j h => by simp [PTa, PTw] at h ⊢ <;> omega))
    have kf15 := k15.2.1
    have x15_0_27 : σ15 0 27 = σ 0 27 := kf15 0 27 rfl
    have x15_0_32 : σ15 0 32 = σ 0 32 := kf15 0 32 rfl
    have x15_0_41 : σ15 0 41 = σ 0 41 := kf15 0 41 rfl
    have k15 := k15.2.2
    have ut15 := k15.1
    unfold TY at ut15
    show hs_Wd _ _ _ _ _ _ _ _ _ _ _ _ _ _ _ _ _ 18 _ [] σ15
    refine s_iconst (pc := 18) C dX12_comesSign_18 ?_
    refine s_zret (pc := 19) C (by omega) dX12_comesSign_19 ?_
    refine ⟨_, rfl, ?_⟩
    exact ⟨g15, f15, k15.1, by first | omega | assumption | (constructor <;> omega) | (refine ⟨⟨?_, ?_⟩, ?_⟩ <;> omega) | (simp [hs_ss, hs_up]; omega) | (simp [hs_ss, hs_up]; done)⟩
  · skip
    refine s_aload_n (pc := 8) C dX12_comesSign_8 0 rfl ?_
    refine s_iconst (pc := 9) C dX12_comesSign_9 ?_
    refine s_callVi (pc := 10) C (c_X12_wrong l 1 (by first | omega | assumption | (constructor <;> omega) | (refine ⟨⟨?_, ?_⟩, ?_⟩ <;> omega) | (simp [hs_ss, hs_up]; omega) | (simp [hs_ss, hs_up]; done))) [vI 1] [] rfl rfl dX12_comesSign_10 wlX12_254 wiX12_wrong weX12_wrong wcX12_wrong wnX12 noX12_wrong (by decide) (by decide) (Nat.le_of_ble_eq_true rfl) (gy_self g0) rfl rfl ?_
    rintro z10 σ10 k10
    have g10 := gy_trans g0 k10.1
    have f10 := frm_tr f0 (frm_mono (Q := PTw) k10.2.1 (fun c j h => by simp [PWr, PTw] at h ⊢ <;> omega))
    have p10_TY := TY_cg (frm_mono (Q := okTY) k10.2.1 (fun c j h => by simp [PWr, okTY] at h ⊢ <;> omega)) p0_TY
    have kf10 := k10.2.1
    have x10_0_27 : σ10 0 27 = σ 0 27 := kf10 0 27 rfl
    have x10_0_28 : σ10 0 28 = σ 0 28 := kf10 0 28 rfl
    have x10_0_29 : σ10 0 29 = σ 0 29 := kf10 0 29 rfl
    have x10_0_30 : σ10 0 30 = σ 0 30 := kf10 0 30 rfl
    have x10_0_31 : σ10 0 31 = σ 0 31 := kf10 0 31 rfl
    have x10_0_32 : σ10 0 32 = σ 0 32 := kf10 0 32 rfl
    have x10_0_41 : σ10 0 41 = σ 0 41 := kf10 0 41 rfl
    have k10 := k10.2.2
    show hs_Wd _ _ _ _ _ _ _ _ _ _ _ _ _ _ _ _ _ 13 _ [vI z10] σ10
    refine s_zret (pc := 13) C (by omega) dX12_comesSign_13 ?_
    refine ⟨_, rfl, ?_⟩
    exact ⟨g10, f10, p10_TY, by first | omega | assumption | (constructor <;> omega) | (refine ⟨⟨?_, ?_⟩, ?_⟩ <;> omega) | (simp [hs_ss, hs_up]; omega) | (simp [hs_ss, hs_up]; done)⟩
set_option maxHeartbeats 4000000 in
set_option maxRecDepth 100000 in
theorem c_X12_isAround (l : Launch) (a : Int) (ha : hs_R a) : hs_Met l yX12_isAround cX12_isAround 3 (some .boolean) 1 SHY (fun ad => [.ref (ad 0), vI a]) (fun σ => GY σ σ) (hs_PI (fun σ z σ1 => σ = σ1 ∧ (z = 0 ∨ z = 1))) := by
  refine hs_from pfX12_isAround (fun _ => Nat.le_of_ble_eq_true rfl) ?_
  intro p e s m args below meth c D dA ad A σ C hpre
  have C : hs_C p s m args meth c D dA SHY ad A 3 cX12_isAround RX12 (some .boolean) := C
  have g0 := hpre
  show hs_Wd p l e 1 s m args below meth c D dA SHY ad A 3 (hs_PI (fun σ z σ1 => σ = σ1 ∧ (z = 0 ∨ z = 1)) σ) 0 [(0, .ref (ad 0)), (1, vI a)] [] σ
  refine s_iconst (pc := 0) C dX12_isAround_0 ?_
  refine s_istore_n (pc := 1) C [(2, vI 0), (0, .ref (ad 0)), (1, vI a)] dX12_isAround_1 (by decide) rfl ?_
  refine s_sub C [1, 2, 0] [(0, .ref (ad 0)), (1, vI a), (2, vI 0)] rfl ?_
  have hi2 : 0 ≤ (0 : Int) ∧ (0 : Int) ≤ 5 := (by first | omega | assumption | (constructor <;> omega) | (refine ⟨⟨?_, ?_⟩, ?_⟩ <;> omega) | (simp [hs_ss, hs_up]; omega) | (simp [hs_ss, hs_up]; done))
  refine hs_loop (α := Int) (fun x_ => (0 ≤ x_ ∧ x_ ≤ 5) → hs_Wd p l e 1 s m args below meth c D dA SHY ad A 3 (hs_PI (fun σ z σ1 => σ = σ1 ∧ (z = 0 ∨ z = 1)) σ) 2 [(0, .ref (ad 0)), (1, vI a), (2, vI x_)] [] σ) (fun x_ => (6 - x_).toNat) ?_ (0) hi2
  rintro k ih2 hinv
  have hinv : 0 ≤ k ∧ k ≤ 5 := hinv
  show hs_Wd p l e 1 s m args below meth c D dA SHY ad A 3 (hs_PI (fun σ z σ1 => σ = σ1 ∧ (z = 0 ∨ z = 1)) σ) 2 [(0, .ref (ad 0)), (1, vI a), (2, vI k)] [] σ
  refine s_iload_n (pc := 2) C dX12_isAround_2 2 rfl ?_
  refine s_aload_n (pc := 3) C dX12_isAround_3 0 rfl ?_
  refine s_geti (q := 0) (ci := 12) (N := 68) (CN := RX12) (T := TX12) (pc := 4) C 41 dX12_isAround_4 wlX12_260 rfl rfl rfl wfX12 (by decide) rfl (σ 0 41) rfl ?_
  have b4 : (0 : Int) ≤ σ 0 41 ∧ σ 0 41 ≤ 5 := g0.1 0 41
  refine s_icmp_ge (pc := 7) C (tgt := 49) dX12_isAround_7 (by decide) ⟨by omega, by omega⟩ ⟨by omega, by omega⟩ (fun h7 => ?_) (fun h7 => ?_)
  · skip
    refine s_iconst (pc := 49) C dX12_isAround_49 ?_
    refine s_zret (pc := 50) C (by omega) dX12_isAround_50 ?_
    refine ⟨_, rfl, ?_⟩
    exact ⟨rfl, by first | omega | assumption | (constructor <;> omega) | (refine ⟨⟨?_, ?_⟩, ?_⟩ <;> omega) | (simp [hs_ss, hs_up]; omega) | (simp [hs_ss, hs_up]; done)⟩
  · skip
    refine s_aload_n (pc := 10) C dX12_isAround_10 0 rfl ?_
    refine s_getr (q := 0) (ci := 12) (N := 68) (CN := RX12) (T := TX12) (pc := 11) C 33 dX12_isAround_11 wlX12_59 rfl rfl rfl wfX12 (by decide) rfl ?_
    refine s_aload_n (pc := 14) C dX12_isAround_14 0 rfl ?_
    refine s_getr (q := 0) (ci := 12) (N := 68) (CN := RX12) (T := TX12) (pc := 15) C 42 dX12_isAround_15 wlX12_83 rfl rfl rfl wfX12 (by decide) rfl ?_
    refine s_iload_n (pc := 18) C dX12_isAround_18 2 rfl ?_
    refine s_iald (q := 23) (n := 5) (pc := 19) C (σ 23 k.toNat) rfl dX12_isAround_19 rfl (by omega) (by omega) (by decide) ?_
    have b19 : (0 : Int) ≤ σ 23 k.toNat ∧ σ 23 k.toNat ≤ 59 := g0.1 23 k.toNat
    refine s_iald (q := 15) (n := 60) (pc := 20) C (σ 15 ((σ 23 k.toNat).toNat)) rfl dX12_isAround_20 rfl (by omega) (by omega) (by decide) ?_
    have b20 : (0 : Int) ≤ σ 15 ((σ 23 k.toNat).toNat) ∧ σ 15 ((σ 23 k.toNat).toNat) ≤ 6 := g0.1 15 ((σ 23 k.toNat).toNat)
    refine s_bipush (pc := 21) C dX12_isAround_21 (by decide) ?_
    refine s_icmp_ne (pc := 23) C (tgt := 43) dX12_isAround_23 (by decide) ⟨by omega, by omega⟩ ⟨by decide, by decide⟩ (fun h23 => ?_) (fun h23 => ?_)
    · skip
      refine s_iinc (pc := 43) C [(2, vI (k + 1)), (0, .ref (ad 0)), (1, vI a)] dX12_isAround_43 2 rfl (by decide) rfl ?_
      refine s_goto (pc := 46) C (tgt := 2) dX12_isAround_46 (by decide) ?_
      refine s_sub C [1, 2, 0] [(0, .ref (ad 0)), (1, vI a), (2, vI (k + 1))] rfl ?_
      have hi2 : 0 ≤ (k + 1) ∧ (k + 1) ≤ 5 := (by first | omega | assumption | (constructor <;> omega) | (refine ⟨⟨?_, ?_⟩, ?_⟩ <;> omega) | (simp [hs_ss, hs_up]; omega) | (simp [hs_ss, hs_up]; done))
      exact ih2 (k + 1) (by first | omega | (simp only []; omega)) hi2
    · skip
      refine s_aload_n (pc := 26) C dX12_isAround_26 0 rfl ?_
      refine s_getr (q := 0) (ci := 12) (N := 68) (CN := RX12) (T := TX12) (pc := 27) C 35 dX12_isAround_27 wlX12_65 rfl rfl rfl wfX12 (by decide) rfl ?_
      refine s_aload_n (pc := 30) C dX12_isAround_30 0 rfl ?_
      refine s_getr (q := 0) (ci := 12) (N := 68) (CN := RX12) (T := TX12) (pc := 31) C 42 dX12_isAround_31 wlX12_83 rfl rfl rfl wfX12 (by decide) rfl ?_
      refine s_iload_n (pc := 34) C dX12_isAround_34 2 rfl ?_
      refine s_iald (q := 23) (n := 5) (pc := 35) C (σ 23 k.toNat) rfl dX12_isAround_35 rfl (by omega) (by omega) (by decide) ?_
      have b35 : (0 : Int) ≤ σ 23 k.toNat ∧ σ 23 k.toNat ≤ 59 := g0.1 23 k.toNat
      refine s_iald (q := 17) (n := 60) (pc := 36) C (σ 17 ((σ 23 k.toNat).toNat)) rfl dX12_isAround_36 rfl (by omega) (by omega) (by decide) ?_
      have b36 : (-1 : Int) ≤ σ 17 ((σ 23 k.toNat).toNat) ∧ σ 17 ((σ 23 k.toNat).toNat) ≤ 7 := g0.1 17 ((σ 23 k.toNat).toNat)
      refine s_iload_n (pc := 37) C dX12_isAround_37 1 rfl ?_
      refine s_icmp_ne (pc := 38) C (tgt := 43) dX12_isAround_38 (by decide) ⟨by omega, by omega⟩ ⟨by omega, by omega⟩ (fun h38 => ?_) (fun h38 => ?_)
      · skip
        refine s_iinc (pc := 43) C [(2, vI (k + 1)), (0, .ref (ad 0)), (1, vI a)] dX12_isAround_43 2 rfl (by decide) rfl ?_
        refine s_goto (pc := 46) C (tgt := 2) dX12_isAround_46 (by decide) ?_
        refine s_sub C [1, 2, 0] [(0, .ref (ad 0)), (1, vI a), (2, vI (k + 1))] rfl ?_
        have hi2 : 0 ≤ (k + 1) ∧ (k + 1) ≤ 5 := (by first | omega | assumption | (constructor <;> omega) | (refine ⟨⟨?_, ?_⟩, ?_⟩ <;> omega) | (simp [hs_ss, hs_up]; omega) | (simp [hs_ss, hs_up]; done))
        exact ih2 (k + 1) (by first | omega | (simp only []; omega)) hi2
      · skip
        refine s_iconst (pc := 41) C dX12_isAround_41 ?_
        refine s_zret (pc := 42) C (by omega) dX12_isAround_42 ?_
        refine ⟨_, rfl, ?_⟩
        exact ⟨rfl, by first | omega | assumption | (constructor <;> omega) | (refine ⟨⟨?_, ?_⟩, ?_⟩ <;> omega) | (simp [hs_ss, hs_up]; omega) | (simp [hs_ss, hs_up]; done)⟩
set_option maxHeartbeats 4000000 in
set_option maxRecDepth 100000 in
theorem c_X12_placeRead (l : Launch)  : hs_Met l yX12_placeRead cX12_placeRead 2 (some .boolean) 3 SHY (fun ad => [.ref (ad 0)]) (fun σ => GY σ σ ∧ TY σ) (hs_PI (fun σ z σ1 => GY σ σ1 ∧ FRM PPl σ σ1 ∧ TY σ1 ∧ (z = 0 ∨ z = 1) ∧ σ 0 31 ≤ σ1 0 31)) := by
  refine hs_from pfX12_placeRead (fun _ => Nat.le_of_ble_eq_true rfl) ?_
  intro p e s m args below meth c D dA ad A σ C hpre
  have C : hs_C p s m args meth c D dA SHY ad A 2 cX12_placeRead RX12 (some .boolean) := C
  obtain ⟨g0, p0_TY⟩ := hpre
  have f0 : FRM PPl σ σ := frm_rf
  have up0_TY := p0_TY
  unfold TY at up0_TY
  show hs_Wd p l e 3 s m args below meth c D dA SHY ad A 2 (hs_PI (fun σ z σ1 => GY σ σ1 ∧ FRM PPl σ σ1 ∧ TY σ1 ∧ (z = 0 ∨ z = 1) ∧ σ 0 31 ≤ σ1 0 31) σ) 0 [(0, .ref (ad 0))] [] σ
  refine s_aload_n (pc := 0) C dX12_placeRead_0 0 rfl ?_
  refine s_iconst (pc := 1) C dX12_placeRead_1 ?_
  refine s_puti (q := 0) (ci := 12) (N := 68) (CN := RX12) (T := TX12) (ty0 := tyX12) (ty := .int) (pc := 2) C 43 dX12_placeRead_2 wlX12_263 rfl rfl rfl wfX12 tyX12_ok nmX12 (by decide) rfl rfl rfl (vp_nar_int _) rfl ?_
  have g2 := gy_set (z := ((-1))) g0 0 43 rfl (-1) (7) rfl ⟨by omega, by omega⟩
  have f2 := frm_set (P := PPl) (z := ((-1))) f0 0 43 rfl
  have p2_TY := TY_cg (frm_one (P := okTY) (z := ((-1))) 0 43 rfl) p0_TY
  refine s_aload_n (pc := 5) C dX12_placeRead_5 0 rfl ?_
  refine s_iconst (pc := 6) C dX12_placeRead_6 ?_
  refine s_puti (q := 0) (ci := 12) (N := 68) (CN := RX12) (T := TX12) (ty0 := tyX12) (ty := .int) (pc := 7) C 44 dX12_placeRead_7 wlX12_266 rfl rfl rfl wfX12 tyX12_ok nmX12 (by decide) rfl rfl rfl (vp_nar_int _) rfl ?_
  have g7 := gy_set (z := 0) g2 0 44 rfl (-999) (999) rfl ⟨by omega, by omega⟩
  have f7 := frm_set (P := PPl) (z := 0) f2 0 44 rfl
  have p7_TY := TY_cg (frm_one (P := okTY) (z := 0) 0 44 rfl) p2_TY
  refine s_aload_n (pc := 10) C dX12_placeRead_10 0 rfl ?_
  refine s_geti (q := 0) (ci := 12) (N := 68) (CN := RX12) (T := TX12) (pc := 11) C 29 dX12_placeRead_11 wlX12_236 rfl rfl rfl wfX12 (by decide) rfl (σ 0 29) rfl ?_
  have b11 : (0 : Int) ≤ σ 0 29 ∧ σ 0 29 ≤ 5 := g7.1 0 29
  refine s_iconst (pc := 14) C dX12_placeRead_14 ?_
  refine s_icmp_ne (pc := 15) C (tgt := 114) dX12_placeRead_15 (by decide) ⟨by omega, by omega⟩ ⟨by decide, by decide⟩ (fun h15 => ?_) (fun h15 => ?_)
  · skip
    refine s_aload_n (pc := 114) C dX12_placeRead_114 0 rfl ?_
    refine s_iconst (pc := 115) C dX12_placeRead_115 ?_
    refine s_sipush (pc := 116) C dX12_placeRead_116 (by decide) ?_
    have r119_0_30 : (hs_ss (hs_ss σ 0 43 ((-1))) 0 44 0) 0 30 = σ 0 30 := rfl
    refine s_callVi (pc := 119) C (c_X12_numberRead l 0 999 (by first | omega | assumption | (constructor <;> omega) | (refine ⟨⟨?_, ?_⟩, ?_⟩ <;> omega) | (simp [hs_ss, hs_up]; omega) | (simp [hs_ss, hs_up]; done))) [vI 0, vI 999] [] rfl rfl dX12_placeRead_119 wlX12_272 wiX12_numberRead weX12_numberRead wcX12_numberRead wnX12 noX12_numberRead (by decide) (by decide) (Nat.le_of_ble_eq_true rfl) (gy_self g7) rfl rfl ?_
    rintro z119 σ119 k119
    have g119 := gy_trans g7 k119.1
    have f119 := frm_tr f7 (frm_mono (Q := PPl) k119.2.1 (fun c j h => by simp [PWr, PPl] at h ⊢ <;> omega))
    have p119_TY := TY_cg (frm_mono (Q := okTY) k119.2.1 (fun c j h => by simp [PWr, okTY] at h ⊢ <;> omega)) p7_TY
    have kf119 := k119.2.1
    have x119_0_27 : σ119 0 27 = σ 0 27 := kf119 0 27 rfl
    have x119_0_28 : σ119 0 28 = σ 0 28 := kf119 0 28 rfl
    have x119_0_29 : σ119 0 29 = σ 0 29 := kf119 0 29 rfl
    have x119_0_30 : σ119 0 30 = σ 0 30 := kf119 0 30 rfl
    have x119_0_31 : σ119 0 31 = σ 0 31 := kf119 0 31 rfl
    have x119_0_32 : σ119 0 32 = σ 0 32 := kf119 0 32 rfl
    have x119_0_41 : σ119 0 41 = σ 0 41 := kf119 0 41 rfl
    have k119 := k119.2.2
    show hs_Wd _ _ _ _ _ _ _ _ _ _ _ _ _ _ _ _ _ 122 _ [vI z119] σ119
    refine s_if_ne (pc := 122) C (tgt := 127) dX12_placeRead_122 (by decide) ⟨by omega, by omega⟩ (fun h122 => ?_) (fun h122 => ?_)
    · skip
      refine s_aload_n (pc := 127) C dX12_placeRead_127 0 rfl ?_
      refine s_aload_n (pc := 128) C dX12_placeRead_128 0 rfl ?_
      refine s_geti (q := 0) (ci := 12) (N := 68) (CN := RX12) (T := TX12) (pc := 129) C 30 dX12_placeRead_129 wlX12_245 rfl rfl rfl wfX12 (by decide) rfl (σ119 0 30) rfl ?_
      have b129 : (-1 : Int) ≤ σ119 0 30 ∧ σ119 0 30 ≤ 10000 := g119.1 0 30
      refine s_puti (q := 0) (ci := 12) (N := 68) (CN := RX12) (T := TX12) (ty0 := tyX12) (ty := .int) (pc := 132) C 44 dX12_placeRead_132 wlX12_266 rfl rfl rfl wfX12 tyX12_ok nmX12 (by decide) rfl rfl rfl (vp_nar_int _) rfl ?_
      have g132 := gy_set (z := (σ119 0 30)) g119 0 44 rfl (-999) (999) rfl ⟨by omega, by omega⟩
      have f132 := frm_set (P := PPl) (z := (σ119 0 30)) f119 0 44 rfl
      have p132_TY := TY_cg (frm_one (P := okTY) (z := (σ119 0 30)) 0 44 rfl) p119_TY
      refine s_aload_n (pc := 135) C dX12_placeRead_135 0 rfl ?_
      have r136_0_27 : (hs_ss σ119 0 44 (σ119 0 30)) 0 27 = σ119 0 27 := rfl
      have r136_0_28 : (hs_ss σ119 0 44 (σ119 0 30)) 0 28 = σ119 0 28 := rfl
      refine s_callVv (pc := 136) C (c_X12_take l) [] [] rfl rfl dX12_placeRead_136 wlX12_257 wiX12_take weX12_take wcX12_take wnX12 noX12_take (by decide) (by decide) (Nat.le_of_ble_eq_true rfl) ⟨(gy_self g132), by first | omega | assumption | (constructor <;> omega) | (refine ⟨⟨?_, ?_⟩, ?_⟩ <;> omega) | (simp [hs_ss, hs_up]; omega) | (simp [hs_ss, hs_up]; done)⟩ rfl rfl ?_
      rintro σ136 k136
      have g136 := gy_trans g132 k136.1
      have f136 := frm_tr f132 (frm_mono (Q := PPl) k136.2.1 (fun c j h => by simp [PTa, PPl] at h ⊢ <;> omega))
      have kf136 := k136.2.1
      have x136_0_27 : σ136 0 27 = σ119 0 27 := kf136 0 27 rfl
      have x136_0_32 : σ136 0 32 = σ119 0 32 := kf136 0 32 rfl
      have x136_0_41 : σ136 0 41 = σ119 0 41 := kf136 0 41 rfl
      have k136 := k136.2.2
      have ut136 := k136.1
      unfold TY at ut136
      show hs_Wd _ _ _ _ _ _ _ _ _ _ _ _ _ _ _ _ _ 139 _ [] σ136
      refine s_iconst (pc := 139) C dX12_placeRead_139 ?_
      refine s_zret (pc := 140) C (by omega) dX12_placeRead_140 ?_
      refine ⟨_, rfl, ?_⟩
      exact ⟨g136, f136, k136.1, by first | omega | assumption | (constructor <;> omega) | (refine ⟨⟨?_, ?_⟩, ?_⟩ <;> omega) | (simp [hs_ss, hs_up]; omega) | (simp [hs_ss, hs_up]; done)⟩
    · skip
      refine s_iconst (pc := 125) C dX12_placeRead_125 ?_
      refine s_zret (pc := 126) C (by omega) dX12_placeRead_126 ?_
      refine ⟨_, rfl, ?_⟩
      exact ⟨g119, f119, p119_TY, by first | omega | assumption | (constructor <;> omega) | (refine ⟨⟨?_, ?_⟩, ?_⟩ <;> omega) | (simp [hs_ss, hs_up]; omega) | (simp [hs_ss, hs_up]; done)⟩
  · skip
    refine s_aload_n (pc := 18) C dX12_placeRead_18 0 rfl ?_
    refine s_aload_n (pc := 19) C dX12_placeRead_19 0 rfl ?_
    refine s_geti (q := 0) (ci := 12) (N := 68) (CN := RX12) (T := TX12) (pc := 20) C 30 dX12_placeRead_20 wlX12_245 rfl rfl rfl wfX12 (by decide) rfl (σ 0 30) rfl ?_
    have b20 : (-1 : Int) ≤ σ 0 30 ∧ σ 0 30 ≤ 10000 := g7.1 0 30
    refine s_callVi (pc := 23) C (c_X12_isAround l (σ 0 30) ⟨by omega, by omega⟩) [vI (σ 0 30)] [] rfl rfl dX12_placeRead_23 wlX12_269 wiX12_isAround weX12_isAround wcX12_isAround wnX12 noX12_isAround (by decide) (by decide) (Nat.le_of_ble_eq_true rfl) (gy_self g7) rfl rfl ?_
    rintro z23 _ ⟨rfl, k23⟩
    show hs_Wd _ _ _ _ _ _ _ _ _ _ _ _ _ _ _ _ _ 26 _ [vI z23] (hs_ss (hs_ss σ 0 43 ((-1))) 0 44 0)
    refine s_if_ne (pc := 26) C (tgt := 35) dX12_placeRead_26 (by decide) ⟨by omega, by omega⟩ (fun h26 => ?_) (fun h26 => ?_)
    · skip
      refine s_aload_n (pc := 35) C dX12_placeRead_35 0 rfl ?_
      refine s_aload_n (pc := 36) C dX12_placeRead_36 0 rfl ?_
      refine s_geti (q := 0) (ci := 12) (N := 68) (CN := RX12) (T := TX12) (pc := 37) C 30 dX12_placeRead_37 wlX12_245 rfl rfl rfl wfX12 (by decide) rfl (σ 0 30) rfl ?_
      have b37 : (-1 : Int) ≤ σ 0 30 ∧ σ 0 30 ≤ 10000 := g7.1 0 30
      refine s_puti (q := 0) (ci := 12) (N := 68) (CN := RX12) (T := TX12) (ty0 := tyX12) (ty := .int) (pc := 40) C 43 dX12_placeRead_40 wlX12_263 rfl rfl rfl wfX12 tyX12_ok nmX12 (by decide) rfl rfl rfl (vp_nar_int _) rfl ?_
      have g40 := gy_set (z := (σ 0 30)) g7 0 43 rfl (-1) (7) rfl ⟨by omega, by omega⟩
      have f40 := frm_set (P := PPl) (z := (σ 0 30)) f7 0 43 rfl
      have p40_TY := TY_cg (frm_one (P := okTY) (z := (σ 0 30)) 0 43 rfl) p7_TY
      refine s_aload_n (pc := 43) C dX12_placeRead_43 0 rfl ?_
      have r44_0_27 : (hs_ss (hs_ss (hs_ss σ 0 43 ((-1))) 0 44 0) 0 43 (σ 0 30)) 0 27 = σ 0 27 := rfl
      have r44_0_28 : (hs_ss (hs_ss (hs_ss σ 0 43 ((-1))) 0 44 0) 0 43 (σ 0 30)) 0 28 = σ 0 28 := rfl
      refine s_callVv (pc := 44) C (c_X12_take l) [] [] rfl rfl dX12_placeRead_44 wlX12_257 wiX12_take weX12_take wcX12_take wnX12 noX12_take (by decide) (by decide) (Nat.le_of_ble_eq_true rfl) ⟨(gy_self g40), by first | omega | assumption | (constructor <;> omega) | (refine ⟨⟨?_, ?_⟩, ?_⟩ <;> omega) | (simp [hs_ss, hs_up]; omega) | (simp [hs_ss, hs_up]; done)⟩ rfl rfl ?_
      rintro σ44 k44
      have g44 := gy_trans g40 k44.1
      have f44 := frm_tr f40 (frm_mono (Q := PPl) k44.2.1 (fun c j h => by simp [PTa, PPl] at h ⊢ <;> omega))
      have kf44 := k44.2.1
      have x44_0_27 : σ44 0 27 = σ 0 27 := kf44 0 27 rfl
      have x44_0_32 : σ44 0 32 = σ 0 32 := kf44 0 32 rfl
      have x44_0_41 : σ44 0 41 = σ 0 41 := kf44 0 41 rfl
      have k44 := k44.2.2
      have ut44 := k44.1
      unfold TY at ut44
      show hs_Wd _ _ _ _ _ _ _ _ _ _ _ _ _ _ _ _ _ 47 _ [] σ44
      refine s_aload_n (pc := 47) C dX12_placeRead_47 0 rfl ?_
      refine s_bipush (pc := 48) C dX12_placeRead_48 (by decide) ?_
      refine s_callVi (pc := 50) C (c_X12_isSign l 43 ⟨by omega, by omega⟩) [vI 43] [] rfl rfl dX12_placeRead_50 wlX12_251 wiX12_isSign weX12_isSign wcX12_isSign wnX12 noX12_isSign (by decide) (by decide) (Nat.le_of_ble_eq_true rfl) (gy_self g44) rfl rfl ?_
      rintro z50 _ ⟨rfl, k50⟩
      show hs_Wd _ _ _ _ _ _ _ _ _ _ _ _ _ _ _ _ _ 53 _ [vI z50] σ44
      refine s_if_ne (pc := 53) C (tgt := 67) dX12_placeRead_53 (by decide) ⟨by omega, by omega⟩ (fun h53 => ?_) (fun h53 => ?_)
      · skip
        refine s_aload_n (pc := 67) C dX12_placeRead_67 0 rfl ?_
        refine s_bipush (pc := 68) C dX12_placeRead_68 (by decide) ?_
        refine s_callVi (pc := 70) C (c_X12_isSign l 45 ⟨by omega, by omega⟩) [vI 45] [] rfl rfl dX12_placeRead_70 wlX12_251 wiX12_isSign weX12_isSign wcX12_isSign wnX12 noX12_isSign (by decide) (by decide) (Nat.le_of_ble_eq_true rfl) (gy_self g44) rfl rfl ?_
        rintro z70 _ ⟨rfl, k70⟩
        show hs_Wd _ _ _ _ _ _ _ _ _ _ _ _ _ _ _ _ _ 73 _ [vI z70] σ44
        refine s_istore_n (pc := 73) C [(1, vI z70), (0, .ref (ad 0))] dX12_placeRead_73 (by decide) rfl ?_
        refine s_aload_n (pc := 74) C dX12_placeRead_74 1 rfl ?_
        refine s_callVv (pc := 75) C (c_X12_take l) [] [] rfl rfl dX12_placeRead_75 wlX12_257 wiX12_take weX12_take wcX12_take wnX12 noX12_take (by decide) (by decide) (Nat.le_of_ble_eq_true rfl) ⟨(gy_self g44), by first | omega | assumption | (constructor <;> omega) | (refine ⟨⟨?_, ?_⟩, ?_⟩ <;> omega) | (simp [hs_ss, hs_up]; omega) | (simp [hs_ss, hs_up]; done)⟩ rfl rfl ?_
        rintro σ75 k75
        have g75 := gy_trans g44 k75.1
        have f75 := frm_tr f44 (frm_mono (Q := PPl) k75.2.1 (fun c j h => by simp [PTa, PPl] at h ⊢ <;> omega))
        have kf75 := k75.2.1
        have x75_0_27 : σ75 0 27 = σ44 0 27 := kf75 0 27 rfl
        have x75_0_32 : σ75 0 32 = σ44 0 32 := kf75 0 32 rfl
        have x75_0_41 : σ75 0 41 = σ44 0 41 := kf75 0 41 rfl
        have k75 := k75.2.2
        have ut75 := k75.1
        unfold TY at ut75
        show hs_Wd _ _ _ _ _ _ _ _ _ _ _ _ _ _ _ _ _ 78 _ [] σ75
        refine s_aload_n (pc := 78) C dX12_placeRead_78 1 rfl ?_
        refine s_iconst (pc := 79) C dX12_placeRead_79 ?_
        refine s_sipush (pc := 80) C dX12_placeRead_80 (by decide) ?_
        refine s_callVi (pc := 83) C (c_X12_numberRead l 0 999 (by first | omega | assumption | (constructor <;> omega) | (refine ⟨⟨?_, ?_⟩, ?_⟩ <;> omega) | (simp [hs_ss, hs_up]; omega) | (simp [hs_ss, hs_up]; done))) [vI 0, vI 999] [] rfl rfl dX12_placeRead_83 wlX12_272 wiX12_numberRead weX12_numberRead wcX12_numberRead wnX12 noX12_numberRead (by decide) (by decide) (Nat.le_of_ble_eq_true rfl) (gy_self g75) rfl rfl ?_
        rintro z83 σ83 k83
        have g83 := gy_trans g75 k83.1
        have f83 := frm_tr f75 (frm_mono (Q := PPl) k83.2.1 (fun c j h => by simp [PWr, PPl] at h ⊢ <;> omega))
        have p83_TY := TY_cg (frm_mono (Q := okTY) k83.2.1 (fun c j h => by simp [PWr, okTY] at h ⊢ <;> omega)) k75.1
        have kf83 := k83.2.1
        have x83_0_27 : σ83 0 27 = σ75 0 27 := kf83 0 27 rfl
        have x83_0_28 : σ83 0 28 = σ75 0 28 := kf83 0 28 rfl
        have x83_0_29 : σ83 0 29 = σ75 0 29 := kf83 0 29 rfl
        have x83_0_30 : σ83 0 30 = σ75 0 30 := kf83 0 30 rfl
        have x83_0_31 : σ83 0 31 = σ75 0 31 := kf83 0 31 rfl
        have x83_0_32 : σ83 0 32 = σ75 0 32 := kf83 0 32 rfl
        have x83_0_41 : σ83 0 41 = σ75 0 41 := kf83 0 41 rfl
        have k83 := k83.2.2
        show hs_Wd _ _ _ _ _ _ _ _ _ _ _ _ _ _ _ _ _ 86 _ [vI z83] σ83
        refine s_if_ne (pc := 86) C (tgt := 91) dX12_placeRead_86 (by decide) ⟨by omega, by omega⟩ (fun h86 => ?_) (fun h86 => ?_)
        · skip
          refine s_aload_n (pc := 91) C dX12_placeRead_91 1 rfl ?_
          refine s_iload_n (pc := 92) C dX12_placeRead_92 0 rfl ?_
          refine s_if_eq (pc := 93) C (tgt := 104) dX12_placeRead_93 (by decide) ⟨by omega, by omega⟩ (fun h93 => ?_) (fun h93 => ?_)
          · skip
            refine s_aload_n (pc := 104) C dX12_placeRead_104 1 rfl ?_
            refine s_geti (q := 0) (ci := 12) (N := 68) (CN := RX12) (T := TX12) (pc := 105) C 30 dX12_placeRead_105 wlX12_245 rfl rfl rfl wfX12 (by decide) rfl (σ83 0 30) rfl ?_
            have b105 : (-1 : Int) ≤ σ83 0 30 ∧ σ83 0 30 ≤ 10000 := g83.1 0 30
            refine s_puti (q := 0) (ci := 12) (N := 68) (CN := RX12) (T := TX12) (ty0 := tyX12) (ty := .int) (pc := 108) C 44 dX12_placeRead_108 wlX12_266 rfl rfl rfl wfX12 tyX12_ok nmX12 (by decide) rfl rfl rfl (vp_nar_int _) rfl ?_
            have g108 := gy_set (z := (σ83 0 30)) g83 0 44 rfl (-999) (999) rfl ⟨by omega, by omega⟩
            have f108 := frm_set (P := PPl) (z := (σ83 0 30)) f83 0 44 rfl
            have p108_TY := TY_cg (frm_one (P := okTY) (z := (σ83 0 30)) 0 44 rfl) p83_TY
            refine s_goto (pc := 111) C (tgt := 135) dX12_placeRead_111 (by decide) ?_
            refine s_aload_n (pc := 135) C dX12_placeRead_135 1 rfl ?_
            have r136_0_27 : (hs_ss σ83 0 44 (σ83 0 30)) 0 27 = σ83 0 27 := rfl
            have r136_0_28 : (hs_ss σ83 0 44 (σ83 0 30)) 0 28 = σ83 0 28 := rfl
            refine s_callVv (pc := 136) C (c_X12_take l) [] [] rfl rfl dX12_placeRead_136 wlX12_257 wiX12_take weX12_take wcX12_take wnX12 noX12_take (by decide) (by decide) (Nat.le_of_ble_eq_true rfl) ⟨(gy_self g108), by first | omega | assumption | (constructor <;> omega) | (refine ⟨⟨?_, ?_⟩, ?_⟩ <;> omega) | (simp [hs_ss, hs_up]; omega) | (simp [hs_ss, hs_up]; done)⟩ rfl rfl ?_
            rintro σ136 k136
            have g136 := gy_trans g108 k136.1
            have f136 := frm_tr f108 (frm_mono (Q := PPl) k136.2.1 (fun c j h => by simp [PTa, PPl] at h ⊢ <;> omega))
            have kf136 := k136.2.1
            have x136_0_27 : σ136 0 27 = σ83 0 27 := kf136 0 27 rfl
            have x136_0_32 : σ136 0 32 = σ83 0 32 := kf136 0 32 rfl
            have x136_0_41 : σ136 0 41 = σ83 0 41 := kf136 0 41 rfl
            have k136 := k136.2.2
            have ut136 := k136.1
            unfold TY at ut136
            show hs_Wd _ _ _ _ _ _ _ _ _ _ _ _ _ _ _ _ _ 139 _ [] σ136
            refine s_iconst (pc := 139) C dX12_placeRead_139 ?_
            refine s_zret (pc := 140) C (by omega) dX12_placeRead_140 ?_
            refine ⟨_, rfl, ?_⟩
            exact ⟨g136, f136, k136.1, by first | omega | assumption | (constructor <;> omega) | (refine ⟨⟨?_, ?_⟩, ?_⟩ <;> omega) | (simp [hs_ss, hs_up]; omega) | (simp [hs_ss, hs_up]; done)⟩
          · skip
            refine s_aload_n (pc := 96) C dX12_placeRead_96 1 rfl ?_
            refine s_geti (q := 0) (ci := 12) (N := 68) (CN := RX12) (T := TX12) (pc := 97) C 30 dX12_placeRead_97 wlX12_245 rfl rfl rfl wfX12 (by decide) rfl (σ83 0 30) rfl ?_
            have b97 : (-1 : Int) ≤ σ83 0 30 ∧ σ83 0 30 ≤ 10000 := g83.1 0 30
            refine s_ineg (pc := 100) C dX12_placeRead_100 ?_
            refine s_goto (pc := 101) C (tgt := 108) dX12_placeRead_101 (by decide) ?_
            refine s_puti (q := 0) (ci := 12) (N := 68) (CN := RX12) (T := TX12) (ty0 := tyX12) (ty := .int) (pc := 108) C 44 dX12_placeRead_108 wlX12_266 rfl rfl rfl wfX12 tyX12_ok nmX12 (by decide) rfl rfl rfl (vp_nar_int _) rfl ?_
            have g108 := gy_set (z := (-(σ83 0 30))) g83 0 44 rfl (-999) (999) rfl ⟨by omega, by omega⟩
            have f108 := frm_set (P := PPl) (z := (-(σ83 0 30))) f83 0 44 rfl
            have p108_TY := TY_cg (frm_one (P := okTY) (z := (-(σ83 0 30))) 0 44 rfl) p83_TY
            refine s_goto (pc := 111) C (tgt := 135) dX12_placeRead_111 (by decide) ?_
            refine s_aload_n (pc := 135) C dX12_placeRead_135 1 rfl ?_
            have r136_0_27 : (hs_ss σ83 0 44 (-(σ83 0 30))) 0 27 = σ83 0 27 := rfl
            have r136_0_28 : (hs_ss σ83 0 44 (-(σ83 0 30))) 0 28 = σ83 0 28 := rfl
            refine s_callVv (pc := 136) C (c_X12_take l) [] [] rfl rfl dX12_placeRead_136 wlX12_257 wiX12_take weX12_take wcX12_take wnX12 noX12_take (by decide) (by decide) (Nat.le_of_ble_eq_true rfl) ⟨(gy_self g108), by first | omega | assumption | (constructor <;> omega) | (refine ⟨⟨?_, ?_⟩, ?_⟩ <;> omega) | (simp [hs_ss, hs_up]; omega) | (simp [hs_ss, hs_up]; done)⟩ rfl rfl ?_
            rintro σ136 k136
            have g136 := gy_trans g108 k136.1
            have f136 := frm_tr f108 (frm_mono (Q := PPl) k136.2.1 (fun c j h => by simp [PTa, PPl] at h ⊢ <;> omega))
            have kf136 := k136.2.1
            have x136_0_27 : σ136 0 27 = σ83 0 27 := kf136 0 27 rfl
            have x136_0_32 : σ136 0 32 = σ83 0 32 := kf136 0 32 rfl
            have x136_0_41 : σ136 0 41 = σ83 0 41 := kf136 0 41 rfl
            have k136 := k136.2.2
            have ut136 := k136.1
            unfold TY at ut136
            show hs_Wd _ _ _ _ _ _ _ _ _ _ _ _ _ _ _ _ _ 139 _ [] σ136
            refine s_iconst (pc := 139) C dX12_placeRead_139 ?_
            refine s_zret (pc := 140) C (by omega) dX12_placeRead_140 ?_
            refine ⟨_, rfl, ?_⟩
            exact ⟨g136, f136, k136.1, by first | omega | assumption | (constructor <;> omega) | (refine ⟨⟨?_, ?_⟩, ?_⟩ <;> omega) | (simp [hs_ss, hs_up]; omega) | (simp [hs_ss, hs_up]; done)⟩
        · skip
          refine s_iconst (pc := 89) C dX12_placeRead_89 ?_
          refine s_zret (pc := 90) C (by omega) dX12_placeRead_90 ?_
          refine ⟨_, rfl, ?_⟩
          exact ⟨g83, f83, p83_TY, by first | omega | assumption | (constructor <;> omega) | (refine ⟨⟨?_, ?_⟩, ?_⟩ <;> omega) | (simp [hs_ss, hs_up]; omega) | (simp [hs_ss, hs_up]; done)⟩
      · skip
        refine s_aload_n (pc := 56) C dX12_placeRead_56 0 rfl ?_
        refine s_bipush (pc := 57) C dX12_placeRead_57 (by decide) ?_
        refine s_callVi (pc := 59) C (c_X12_isSign l 45 ⟨by omega, by omega⟩) [vI 45] [] rfl rfl dX12_placeRead_59 wlX12_251 wiX12_isSign weX12_isSign wcX12_isSign wnX12 noX12_isSign (by decide) (by decide) (Nat.le_of_ble_eq_true rfl) (gy_self g44) rfl rfl ?_
        rintro z59 _ ⟨rfl, k59⟩
        show hs_Wd _ _ _ _ _ _ _ _ _ _ _ _ _ _ _ _ _ 62 _ [vI z59] σ44
        refine s_if_ne (pc := 62) C (tgt := 67) dX12_placeRead_62 (by decide) ⟨by omega, by omega⟩ (fun h62 => ?_) (fun h62 => ?_)
        · skip
          refine s_aload_n (pc := 67) C dX12_placeRead_67 0 rfl ?_
          refine s_bipush (pc := 68) C dX12_placeRead_68 (by decide) ?_
          refine s_callVi (pc := 70) C (c_X12_isSign l 45 ⟨by omega, by omega⟩) [vI 45] [] rfl rfl dX12_placeRead_70 wlX12_251 wiX12_isSign weX12_isSign wcX12_isSign wnX12 noX12_isSign (by decide) (by decide) (Nat.le_of_ble_eq_true rfl) (gy_self g44) rfl rfl ?_
          rintro z70 _ ⟨rfl, k70⟩
          show hs_Wd _ _ _ _ _ _ _ _ _ _ _ _ _ _ _ _ _ 73 _ [vI z70] σ44
          refine s_istore_n (pc := 73) C [(1, vI z70), (0, .ref (ad 0))] dX12_placeRead_73 (by decide) rfl ?_
          refine s_aload_n (pc := 74) C dX12_placeRead_74 1 rfl ?_
          refine s_callVv (pc := 75) C (c_X12_take l) [] [] rfl rfl dX12_placeRead_75 wlX12_257 wiX12_take weX12_take wcX12_take wnX12 noX12_take (by decide) (by decide) (Nat.le_of_ble_eq_true rfl) ⟨(gy_self g44), by first | omega | assumption | (constructor <;> omega) | (refine ⟨⟨?_, ?_⟩, ?_⟩ <;> omega) | (simp [hs_ss, hs_up]; omega) | (simp [hs_ss, hs_up]; done)⟩ rfl rfl ?_
          rintro σ75 k75
          have g75 := gy_trans g44 k75.1
          have f75 := frm_tr f44 (frm_mono (Q := PPl) k75.2.1 (fun c j h => by simp [PTa, PPl] at h ⊢ <;> omega))
          have kf75 := k75.2.1
          have x75_0_27 : σ75 0 27 = σ44 0 27 := kf75 0 27 rfl
          have x75_0_32 : σ75 0 32 = σ44 0 32 := kf75 0 32 rfl
          have x75_0_41 : σ75 0 41 = σ44 0 41 := kf75 0 41 rfl
          have k75 := k75.2.2
          have ut75 := k75.1
          unfold TY at ut75
          show hs_Wd _ _ _ _ _ _ _ _ _ _ _ _ _ _ _ _ _ 78 _ [] σ75
          refine s_aload_n (pc := 78) C dX12_placeRead_78 1 rfl ?_
          refine s_iconst (pc := 79) C dX12_placeRead_79 ?_
          refine s_sipush (pc := 80) C dX12_placeRead_80 (by decide) ?_
          refine s_callVi (pc := 83) C (c_X12_numberRead l 0 999 (by first | omega | assumption | (constructor <;> omega) | (refine ⟨⟨?_, ?_⟩, ?_⟩ <;> omega) | (simp [hs_ss, hs_up]; omega) | (simp [hs_ss, hs_up]; done))) [vI 0, vI 999] [] rfl rfl dX12_placeRead_83 wlX12_272 wiX12_numberRead weX12_numberRead wcX12_numberRead wnX12 noX12_numberRead (by decide) (by decide) (Nat.le_of_ble_eq_true rfl) (gy_self g75) rfl rfl ?_
          rintro z83 σ83 k83
          have g83 := gy_trans g75 k83.1
          have f83 := frm_tr f75 (frm_mono (Q := PPl) k83.2.1 (fun c j h => by simp [PWr, PPl] at h ⊢ <;> omega))
          have p83_TY := TY_cg (frm_mono (Q := okTY) k83.2.1 (fun c j h => by simp [PWr, okTY] at h ⊢ <;> omega)) k75.1
          have kf83 := k83.2.1
          have x83_0_27 : σ83 0 27 = σ75 0 27 := kf83 0 27 rfl
          have x83_0_28 : σ83 0 28 = σ75 0 28 := kf83 0 28 rfl
          have x83_0_29 : σ83 0 29 = σ75 0 29 := kf83 0 29 rfl
          have x83_0_30 : σ83 0 30 = σ75 0 30 := kf83 0 30 rfl
          have x83_0_31 : σ83 0 31 = σ75 0 31 := kf83 0 31 rfl
          have x83_0_32 : σ83 0 32 = σ75 0 32 := kf83 0 32 rfl
          have x83_0_41 : σ83 0 41 = σ75 0 41 := kf83 0 41 rfl
          have k83 := k83.2.2
          show hs_Wd _ _ _ _ _ _ _ _ _ _ _ _ _ _ _ _ _ 86 _ [vI z83] σ83
          refine s_if_ne (pc := 86) C (tgt := 91) dX12_placeRead_86 (by decide) ⟨by omega, by omega⟩ (fun h86 => ?_) (fun h86 => ?_)
          · skip
            refine s_aload_n (pc := 91) C dX12_placeRead_91 1 rfl ?_
            refine s_iload_n (pc := 92) C dX12_placeRead_92 0 rfl ?_
            refine s_if_eq (pc := 93) C (tgt := 104) dX12_placeRead_93 (by decide) ⟨by omega, by omega⟩ (fun h93 => ?_) (fun h93 => ?_)
            · skip
              refine s_aload_n (pc := 104) C dX12_placeRead_104 1 rfl ?_
              refine s_geti (q := 0) (ci := 12) (N := 68) (CN := RX12) (T := TX12) (pc := 105) C 30 dX12_placeRead_105 wlX12_245 rfl rfl rfl wfX12 (by decide) rfl (σ83 0 30) rfl ?_
              have b105 : (-1 : Int) ≤ σ83 0 30 ∧ σ83 0 30 ≤ 10000 := g83.1 0 30
              refine s_puti (q := 0) (ci := 12) (N := 68) (CN := RX12) (T := TX12) (ty0 := tyX12) (ty := .int) (pc := 108) C 44 dX12_placeRead_108 wlX12_266 rfl rfl rfl wfX12 tyX12_ok nmX12 (by decide) rfl rfl rfl (vp_nar_int _) rfl ?_
              have g108 := gy_set (z := (σ83 0 30)) g83 0 44 rfl (-999) (999) rfl ⟨by omega, by omega⟩
              have f108 := frm_set (P := PPl) (z := (σ83 0 30)) f83 0 44 rfl
              have p108_TY := TY_cg (frm_one (P := okTY) (z := (σ83 0 30)) 0 44 rfl) p83_TY
              refine s_goto (pc := 111) C (tgt := 135) dX12_placeRead_111 (by decide) ?_
              refine s_aload_n (pc := 135) C dX12_placeRead_135 1 rfl ?_
              have r136_0_27 : (hs_ss σ83 0 44 (σ83 0 30)) 0 27 = σ83 0 27 := rfl
              have r136_0_28 : (hs_ss σ83 0 44 (σ83 0 30)) 0 28 = σ83 0 28 := rfl
              refine s_callVv (pc := 136) C (c_X12_take l) [] [] rfl rfl dX12_placeRead_136 wlX12_257 wiX12_take weX12_take wcX12_take wnX12 noX12_take (by decide) (by decide) (Nat.le_of_ble_eq_true rfl) ⟨(gy_self g108), by first | omega | assumption | (constructor <;> omega) | (refine ⟨⟨?_, ?_⟩, ?_⟩ <;> omega) | (simp [hs_ss, hs_up]; omega) | (simp [hs_ss, hs_up]; done)⟩ rfl rfl ?_
              rintro σ136 k136
              have g136 := gy_trans g108 k136.1
              have f136 := frm_tr f108 (frm_mono (Q := PPl) k136.2.1 (fun c j h => by simp [PTa, PPl] at h ⊢ <;> omega))
              have kf136 := k136.2.1
              have x136_0_27 : σ136 0 27 = σ83 0 27 := kf136 0 27 rfl
              have x136_0_32 : σ136 0 32 = σ83 0 32 := kf136 0 32 rfl
              have x136_0_41 : σ136 0 41 = σ83 0 41 := kf136 0 41 rfl
              have k136 := k136.2.2
              have ut136 := k136.1
              unfold TY at ut136
              show hs_Wd _ _ _ _ _ _ _ _ _ _ _ _ _ _ _ _ _ 139 _ [] σ136
              refine s_iconst (pc := 139) C dX12_placeRead_139 ?_
              refine s_zret (pc := 140) C (by omega) dX12_placeRead_140 ?_
              refine ⟨_, rfl, ?_⟩
              exact ⟨g136, f136, k136.1, by first | omega | assumption | (constructor <;> omega) | (refine ⟨⟨?_, ?_⟩, ?_⟩ <;> omega) | (simp [hs_ss, hs_up]; omega) | (simp [hs_ss, hs_up]; done)⟩
            · skip
              refine s_aload_n (pc := 96) C dX12_placeRead_96 1 rfl ?_
              refine s_geti (q := 0) (ci := 12) (N := 68) (CN := RX12) (T := TX12) (pc := 97) C 30 dX12_placeRead_97 wlX12_245 rfl rfl rfl wfX12 (by decide) rfl (σ83 0 30) rfl ?_
              have b97 : (-1 : Int) ≤ σ83 0 30 ∧ σ83 0 30 ≤ 10000 := g83.1 0 30
              refine s_ineg (pc := 100) C dX12_placeRead_100 ?_
              refine s_goto (pc := 101) C (tgt := 108) dX12_placeRead_101 (by decide) ?_
              refine s_puti (q := 0) (ci := 12) (N := 68) (CN := RX12) (T := TX12) (ty0 := tyX12) (ty := .int) (pc := 108) C 44 dX12_placeRead_108 wlX12_266 rfl rfl rfl wfX12 tyX12_ok nmX12 (by decide) rfl rfl rfl (vp_nar_int _) rfl ?_
              have g108 := gy_set (z := (-(σ83 0 30))) g83 0 44 rfl (-999) (999) rfl ⟨by omega, by omega⟩
              have f108 := frm_set (P := PPl) (z := (-(σ83 0 30))) f83 0 44 rfl
              have p108_TY := TY_cg (frm_one (P := okTY) (z := (-(σ83 0 30))) 0 44 rfl) p83_TY
              refine s_goto (pc := 111) C (tgt := 135) dX12_placeRead_111 (by decide) ?_
              refine s_aload_n (pc := 135) C dX12_placeRead_135 1 rfl ?_
              have r136_0_27 : (hs_ss σ83 0 44 (-(σ83 0 30))) 0 27 = σ83 0 27 := rfl
              have r136_0_28 : (hs_ss σ83 0 44 (-(σ83 0 30))) 0 28 = σ83 0 28 := rfl
              refine s_callVv (pc := 136) C (c_X12_take l) [] [] rfl rfl dX12_placeRead_136 wlX12_257 wiX12_take weX12_take wcX12_take wnX12 noX12_take (by decide) (by decide) (Nat.le_of_ble_eq_true rfl) ⟨(gy_self g108), by first | omega | assumption | (constructor <;> omega) | (refine ⟨⟨?_, ?_⟩, ?_⟩ <;> omega) | (simp [hs_ss, hs_up]; omega) | (simp [hs_ss, hs_up]; done)⟩ rfl rfl ?_
              rintro σ136 k136
              have g136 := gy_trans g108 k136.1
              have f136 := frm_tr f108 (frm_mono (Q := PPl) k136.2.1 (fun c j h => by simp [PTa, PPl] at h ⊢ <;> omega))
              have kf136 := k136.2.1
              have x136_0_27 : σ136 0 27 = σ83 0 27 := kf136 0 27 rfl
              have x136_0_32 : σ136 0 32 = σ83 0 32 := kf136 0 32 rfl
              have x136_0_41 : σ136 0 41 = σ83 0 41 := kf136 0 41 rfl
              have k136 := k136.2.2
              have ut136 := k136.1
              unfold TY at ut136
              show hs_Wd _ _ _ _ _ _ _ _ _ _ _ _ _ _ _ _ _ 139 _ [] σ136
              refine s_iconst (pc := 139) C dX12_placeRead_139 ?_
              refine s_zret (pc := 140) C (by omega) dX12_placeRead_140 ?_
              refine ⟨_, rfl, ?_⟩
              exact ⟨g136, f136, k136.1, by first | omega | assumption | (constructor <;> omega) | (refine ⟨⟨?_, ?_⟩, ?_⟩ <;> omega) | (simp [hs_ss, hs_up]; omega) | (simp [hs_ss, hs_up]; done)⟩
          · skip
            refine s_iconst (pc := 89) C dX12_placeRead_89 ?_
            refine s_zret (pc := 90) C (by omega) dX12_placeRead_90 ?_
            refine ⟨_, rfl, ?_⟩
            exact ⟨g83, f83, p83_TY, by first | omega | assumption | (constructor <;> omega) | (refine ⟨⟨?_, ?_⟩, ?_⟩ <;> omega) | (simp [hs_ss, hs_up]; omega) | (simp [hs_ss, hs_up]; done)⟩
        · skip
          refine s_iconst (pc := 65) C dX12_placeRead_65 ?_
          refine s_zret (pc := 66) C (by omega) dX12_placeRead_66 ?_
          refine ⟨_, rfl, ?_⟩
          exact ⟨g44, f44, k44.1, by first | omega | assumption | (constructor <;> omega) | (refine ⟨⟨?_, ?_⟩, ?_⟩ <;> omega) | (simp [hs_ss, hs_up]; omega) | (simp [hs_ss, hs_up]; done)⟩
    · skip
      refine s_aload_n (pc := 29) C dX12_placeRead_29 0 rfl ?_
      refine s_iconst (pc := 30) C dX12_placeRead_30 ?_
      refine s_callVi (pc := 31) C (c_X12_wrong l 3 (by first | omega | assumption | (constructor <;> omega) | (refine ⟨⟨?_, ?_⟩, ?_⟩ <;> omega) | (simp [hs_ss, hs_up]; omega) | (simp [hs_ss, hs_up]; done))) [vI 3] [] rfl rfl dX12_placeRead_31 wlX12_254 wiX12_wrong weX12_wrong wcX12_wrong wnX12 noX12_wrong (by decide) (by decide) (Nat.le_of_ble_eq_true rfl) (gy_self g7) rfl rfl ?_
      rintro z31 σ31 k31
      have g31 := gy_trans g7 k31.1
      have f31 := frm_tr f7 (frm_mono (Q := PPl) k31.2.1 (fun c j h => by simp [PWr, PPl] at h ⊢ <;> omega))
      have p31_TY := TY_cg (frm_mono (Q := okTY) k31.2.1 (fun c j h => by simp [PWr, okTY] at h ⊢ <;> omega)) p7_TY
      have kf31 := k31.2.1
      have x31_0_27 : σ31 0 27 = σ 0 27 := kf31 0 27 rfl
      have x31_0_28 : σ31 0 28 = σ 0 28 := kf31 0 28 rfl
      have x31_0_29 : σ31 0 29 = σ 0 29 := kf31 0 29 rfl
      have x31_0_30 : σ31 0 30 = σ 0 30 := kf31 0 30 rfl
      have x31_0_31 : σ31 0 31 = σ 0 31 := kf31 0 31 rfl
      have x31_0_32 : σ31 0 32 = σ 0 32 := kf31 0 32 rfl
      have x31_0_41 : σ31 0 41 = σ 0 41 := kf31 0 41 rfl
      have k31 := k31.2.2
      show hs_Wd _ _ _ _ _ _ _ _ _ _ _ _ _ _ _ _ _ 34 _ [vI z31] σ31
      refine s_zret (pc := 34) C (by omega) dX12_placeRead_34 ?_
      refine ⟨_, rfl, ?_⟩
      exact ⟨g31, f31, p31_TY, by first | omega | assumption | (constructor <;> omega) | (refine ⟨⟨?_, ?_⟩, ?_⟩ <;> omega) | (simp [hs_ss, hs_up]; omega) | (simp [hs_ss, hs_up]; done)⟩
set_option maxHeartbeats 4000000 in
set_option maxRecDepth 100000 in
theorem c_X12_turnRead (l : Launch) (a : Int) (ha : 0 ≤ a ∧ a ≤ 59) (w : Int) (hw : 0 ≤ w ∧ w ≤ 2) : hs_Met l yX12_turnRead cX12_turnRead 3 (some .boolean) 4 SHY (fun ad => [.ref (ad 0), vI a, vI w]) (fun σ => GY σ σ ∧ TY σ) (hs_PI (fun σ z σ1 => GY σ σ1 ∧ FRM (PTr a.toNat) σ σ1 ∧ TY σ1 ∧ (z = 0 ∨ z = 1) ∧ σ 0 31 ≤ σ1 0 31 ∧ 1 ≤ σ1 16 a.toNat)) := by
  refine hs_from pfX12_turnRead (fun _ => Nat.le_of_ble_eq_true rfl) ?_
  intro p e s m args below meth c D dA ad A σ C hpre
  have C : hs_C p s m args meth c D dA SHY ad A 3 cX12_turnRead RX12 (some .boolean) := C
  obtain ⟨g0, p0_TY⟩ := hpre
  have f0 : FRM (PTr a.toNat) σ σ := frm_rf
  have up0_TY := p0_TY
  unfold TY at up0_TY
  show hs_Wd p l e 4 s m args below meth c D dA SHY ad A 3 (hs_PI (fun σ z σ1 => GY σ σ1 ∧ FRM (PTr a.toNat) σ σ1 ∧ TY σ1 ∧ (z = 0 ∨ z = 1) ∧ σ 0 31 ≤ σ1 0 31 ∧ 1 ≤ σ1 16 a.toNat) σ) 0 [(0, .ref (ad 0)), (1, vI a), (2, vI w)] [] σ
  refine s_aload_n (pc := 0) C dX12_turnRead_0 0 rfl ?_
  refine s_getr (q := 0) (ci := 12) (N := 68) (CN := RX12) (T := TX12) (pc := 1) C 34 dX12_turnRead_1 wlX12_62 rfl rfl rfl wfX12 (by decide) rfl ?_
  refine s_iload_n (pc := 4) C dX12_turnRead_4 1 rfl ?_
  refine s_iconst (pc := 5) C dX12_turnRead_5 ?_
  refine s_iast (q := 16) (n := 60) (pc := 6) C dX12_turnRead_6 rfl (by omega) (by omega) (by decide) ?_
  have g6 := gy_set (z := 1) g0 16 a.toNat rfl (0) (99) rfl ⟨by omega, by omega⟩
  have f6 := frm_set (P := (PTr a.toNat)) (z := 1) f0 16 a.toNat (by simp [PTr] <;> omega)
  have p6_TY := TY_cg (frm_one (P := okTY) (z := 1) 16 a.toNat rfl) p0_TY
  refine s_iload_n (pc := 7) C dX12_turnRead_7 2 rfl ?_
  refine s_iconst (pc := 8) C dX12_turnRead_8 ?_
  refine s_icmp_eq (pc := 9) C (tgt := 38) dX12_turnRead_9 (by decide) ⟨by omega, by omega⟩ ⟨by decide, by decide⟩ (fun h9 => ?_) (fun h9 => ?_)
  · skip
    refine s_aload_n (pc := 38) C dX12_turnRead_38 0 rfl ?_
    have r39_0_31 : (hs_ss σ 16 a.toNat 1) 0 31 = σ 0 31 := rfl
    refine s_callVi (pc := 39) C (c_X12_placeRead l) [] [] rfl rfl dX12_turnRead_39 wlX12_275 wiX12_placeRead weX12_placeRead wcX12_placeRead wnX12 noX12_placeRead (by decide) (by decide) (Nat.le_of_ble_eq_true rfl) ⟨(gy_self g6), p6_TY⟩ rfl rfl ?_
    rintro z39 σ39 k39
    have g39 := gy_trans g6 k39.1
    have f39 := frm_tr f6 (frm_mono (Q := (PTr a.toNat)) k39.2.1 (fun c j h => by simp [PPl, PTr] at h ⊢ <;> omega))
    have p39_TY := k39.2.2.1
    have up39_TY := p39_TY
    unfold TY at up39_TY
    have kf39 := k39.2.1
    have x39_0_27 : σ39 0 27 = σ 0 27 := kf39 0 27 rfl
    have x39_0_32 : σ39 0 32 = σ 0 32 := kf39 0 32 rfl
    have x39_0_41 : σ39 0 41 = σ 0 41 := kf39 0 41 rfl
    have x39_16_atoNat : σ39 16 a.toNat = 1 := by first | exact kf39 16 a.toNat rfl | (rw [kf39 16 a.toNat rfl]; simp [hs_ss, hs_up]; done)
    have k39 := k39.2.2.2
    show hs_Wd _ _ _ _ _ _ _ _ _ _ _ _ _ _ _ _ _ 42 _ [vI z39] σ39
    refine s_if_ne (pc := 42) C (tgt := 47) dX12_turnRead_42 (by decide) ⟨by omega, by omega⟩ (fun h42 => ?_) (fun h42 => ?_)
    · skip
      refine s_aload_n (pc := 47) C dX12_turnRead_47 0 rfl ?_
      refine s_getr (q := 0) (ci := 12) (N := 68) (CN := RX12) (T := TX12) (pc := 48) C 36 dX12_turnRead_48 wlX12_68 rfl rfl rfl wfX12 (by decide) rfl ?_
      refine s_iload_n (pc := 51) C dX12_turnRead_51 1 rfl ?_
      refine s_aload_n (pc := 52) C dX12_turnRead_52 0 rfl ?_
      refine s_geti (q := 0) (ci := 12) (N := 68) (CN := RX12) (T := TX12) (pc := 53) C 43 dX12_turnRead_53 wlX12_263 rfl rfl rfl wfX12 (by decide) rfl (σ39 0 43) rfl ?_
      have b53 : (-1 : Int) ≤ σ39 0 43 ∧ σ39 0 43 ≤ 7 := g39.1 0 43
      refine s_iast (q := 18) (n := 60) (pc := 56) C dX12_turnRead_56 rfl (by omega) (by omega) (by decide) ?_
      have g56 := gy_set (z := (σ39 0 43)) g39 18 a.toNat rfl (-1) (7) rfl ⟨by omega, by omega⟩
      have f56 := frm_set (P := (PTr a.toNat)) (z := (σ39 0 43)) f39 18 a.toNat (by simp [PTr] <;> omega)
      have p56_TY := TY_cg (frm_one (P := okTY) (z := (σ39 0 43)) 18 a.toNat rfl) p39_TY
      refine s_aload_n (pc := 57) C dX12_turnRead_57 0 rfl ?_
      refine s_getr (q := 0) (ci := 12) (N := 68) (CN := RX12) (T := TX12) (pc := 58) C 37 dX12_turnRead_58 wlX12_71 rfl rfl rfl wfX12 (by decide) rfl ?_
      refine s_iload_n (pc := 61) C dX12_turnRead_61 1 rfl ?_
      refine s_aload_n (pc := 62) C dX12_turnRead_62 0 rfl ?_
      refine s_geti (q := 0) (ci := 12) (N := 68) (CN := RX12) (T := TX12) (pc := 63) C 44 dX12_turnRead_63 wlX12_266 rfl rfl rfl wfX12 (by decide) rfl (σ39 0 44) rfl ?_
      have b63 : (-999 : Int) ≤ σ39 0 44 ∧ σ39 0 44 ≤ 999 := g56.1 0 44
      refine s_iast (q := 19) (n := 60) (pc := 66) C dX12_turnRead_66 rfl (by omega) (by omega) (by decide) ?_
      have g66 := gy_set (z := (σ39 0 44)) g56 19 a.toNat rfl (-999) (999) rfl ⟨by omega, by omega⟩
      have f66 := frm_set (P := (PTr a.toNat)) (z := (σ39 0 44)) f56 19 a.toNat (by simp [PTr] <;> omega)
      have p66_TY := TY_cg (frm_one (P := okTY) (z := (σ39 0 44)) 19 a.toNat rfl) p56_TY
      refine s_aload_n (pc := 67) C dX12_turnRead_67 0 rfl ?_
      refine s_bipush (pc := 68) C dX12_turnRead_68 (by decide) ?_
      have r70_0_31 : (hs_ss (hs_ss σ39 18 a.toNat (σ39 0 43)) 19 a.toNat (σ39 0 44)) 0 31 = σ39 0 31 := rfl
      refine s_callVi (pc := 70) C (c_X12_comesSign l 59 ⟨by omega, by omega⟩) [vI 59] [] rfl rfl dX12_turnRead_70 wlX12_279 wiX12_comesSign weX12_comesSign wcX12_comesSign wnX12 noX12_comesSign (by decide) (by decide) (Nat.le_of_ble_eq_true rfl) ⟨(gy_self g66), p66_TY⟩ rfl rfl ?_
      rintro z70 σ70 k70
      have g70 := gy_trans g66 k70.1
      have f70 := frm_tr f66 (frm_mono (Q := (PTr a.toNat)) k70.2.1 (fun c j h => by simp [PTw, PTr] at h ⊢ <;> omega))
      have p70_TY := k70.2.2.1
      have up70_TY := p70_TY
      unfold TY at up70_TY
      have kf70 := k70.2.1
      have x70_0_27 : σ70 0 27 = σ39 0 27 := kf70 0 27 rfl
      have x70_0_32 : σ70 0 32 = σ39 0 32 := kf70 0 32 rfl
      have x70_0_41 : σ70 0 41 = σ39 0 41 := kf70 0 41 rfl
      have x70_16_atoNat : σ70 16 a.toNat = σ39 16 a.toNat := by first | exact kf70 16 a.toNat rfl | (rw [kf70 16 a.toNat rfl]; simp [hs_ss, hs_up]; done)
      have k70 := k70.2.2.2
      show hs_Wd _ _ _ _ _ _ _ _ _ _ _ _ _ _ _ _ _ 73 _ [vI z70] σ70
      refine s_zret (pc := 73) C (by omega) dX12_turnRead_73 ?_
      refine ⟨_, rfl, ?_⟩
      exact ⟨g70, f70, p70_TY, by first | omega | assumption | (constructor <;> omega) | (refine ⟨⟨?_, ?_⟩, ?_⟩ <;> omega) | (simp [hs_ss, hs_up]; omega) | (simp [hs_ss, hs_up]; done)⟩
    · skip
      refine s_iconst (pc := 45) C dX12_turnRead_45 ?_
      refine s_zret (pc := 46) C (by omega) dX12_turnRead_46 ?_
      refine ⟨_, rfl, ?_⟩
      exact ⟨g39, f39, p39_TY, by first | omega | assumption | (constructor <;> omega) | (refine ⟨⟨?_, ?_⟩, ?_⟩ <;> omega) | (simp [hs_ss, hs_up]; omega) | (simp [hs_ss, hs_up]; done)⟩
  · skip
    refine s_aload_n (pc := 12) C dX12_turnRead_12 0 rfl ?_
    refine s_iconst (pc := 13) C dX12_turnRead_13 ?_
    refine s_bipush (pc := 14) C dX12_turnRead_14 (by decide) ?_
    have r16_0_30 : (hs_ss σ 16 a.toNat 1) 0 30 = σ 0 30 := rfl
    refine s_callVi (pc := 16) C (c_X12_numberRead l 1 9 (by first | omega | assumption | (constructor <;> omega) | (refine ⟨⟨?_, ?_⟩, ?_⟩ <;> omega) | (simp [hs_ss, hs_up]; omega) | (simp [hs_ss, hs_up]; done))) [vI 1, vI 9] [] rfl rfl dX12_turnRead_16 wlX12_272 wiX12_numberRead weX12_numberRead wcX12_numberRead wnX12 noX12_numberRead (by decide) (by decide) (Nat.le_of_ble_eq_true rfl) (gy_self g6) rfl rfl ?_
    rintro z16 σ16 k16
    have g16 := gy_trans g6 k16.1
    have f16 := frm_tr f6 (frm_mono (Q := (PTr a.toNat)) k16.2.1 (fun c j h => by simp [PWr, PTr] at h ⊢ <;> omega))
    have p16_TY := TY_cg (frm_mono (Q := okTY) k16.2.1 (fun c j h => by simp [PWr, okTY] at h ⊢ <;> omega)) p6_TY
    have kf16 := k16.2.1
    have x16_0_27 : σ16 0 27 = σ 0 27 := kf16 0 27 rfl
    have x16_0_28 : σ16 0 28 = σ 0 28 := kf16 0 28 rfl
    have x16_0_29 : σ16 0 29 = σ 0 29 := kf16 0 29 rfl
    have x16_0_30 : σ16 0 30 = σ 0 30 := kf16 0 30 rfl
    have x16_0_31 : σ16 0 31 = σ 0 31 := kf16 0 31 rfl
    have x16_0_32 : σ16 0 32 = σ 0 32 := kf16 0 32 rfl
    have x16_0_41 : σ16 0 41 = σ 0 41 := kf16 0 41 rfl
    have x16_16_atoNat : σ16 16 a.toNat = 1 := by first | exact kf16 16 a.toNat rfl | (rw [kf16 16 a.toNat rfl]; simp [hs_ss, hs_up]; done)
    have k16 := k16.2.2
    show hs_Wd _ _ _ _ _ _ _ _ _ _ _ _ _ _ _ _ _ 19 _ [vI z16] σ16
    refine s_if_ne (pc := 19) C (tgt := 24) dX12_turnRead_19 (by decide) ⟨by omega, by omega⟩ (fun h19 => ?_) (fun h19 => ?_)
    · skip
      refine s_aload_n (pc := 24) C dX12_turnRead_24 0 rfl ?_
      refine s_getr (q := 0) (ci := 12) (N := 68) (CN := RX12) (T := TX12) (pc := 25) C 34 dX12_turnRead_25 wlX12_62 rfl rfl rfl wfX12 (by decide) rfl ?_
      refine s_iload_n (pc := 28) C dX12_turnRead_28 1 rfl ?_
      refine s_aload_n (pc := 29) C dX12_turnRead_29 0 rfl ?_
      refine s_geti (q := 0) (ci := 12) (N := 68) (CN := RX12) (T := TX12) (pc := 30) C 30 dX12_turnRead_30 wlX12_245 rfl rfl rfl wfX12 (by decide) rfl (σ16 0 30) rfl ?_
      have b30 : (-1 : Int) ≤ σ16 0 30 ∧ σ16 0 30 ≤ 10000 := g16.1 0 30
      refine s_iast (q := 16) (n := 60) (pc := 33) C dX12_turnRead_33 rfl (by omega) (by omega) (by decide) ?_
      have g33 := gy_set (z := (σ16 0 30)) g16 16 a.toNat rfl (0) (99) rfl ⟨by omega, by omega⟩
      have f33 := frm_set (P := (PTr a.toNat)) (z := (σ16 0 30)) f16 16 a.toNat (by simp [PTr] <;> omega)
      have p33_TY := TY_cg (frm_one (P := okTY) (z := (σ16 0 30)) 16 a.toNat rfl) p16_TY
      refine s_aload_n (pc := 34) C dX12_turnRead_34 0 rfl ?_
      have r35_0_27 : (hs_ss σ16 16 a.toNat (σ16 0 30)) 0 27 = σ16 0 27 := rfl
      have r35_0_28 : (hs_ss σ16 16 a.toNat (σ16 0 30)) 0 28 = σ16 0 28 := rfl
      refine s_callVv (pc := 35) C (c_X12_take l) [] [] rfl rfl dX12_turnRead_35 wlX12_257 wiX12_take weX12_take wcX12_take wnX12 noX12_take (by decide) (by decide) (Nat.le_of_ble_eq_true rfl) ⟨(gy_self g33), by first | omega | assumption | (constructor <;> omega) | (refine ⟨⟨?_, ?_⟩, ?_⟩ <;> omega) | (simp [hs_ss, hs_up]; omega) | (simp [hs_ss, hs_up]; done)⟩ rfl rfl ?_
      rintro σ35 k35
      have g35 := gy_trans g33 k35.1
      have f35 := frm_tr f33 (frm_mono (Q := (PTr a.toNat)) k35.2.1 (fun c j h => by simp [PTa, PTr] at h ⊢ <;> omega))
      have kf35 := k35.2.1
      have x35_0_27 : σ35 0 27 = σ16 0 27 := kf35 0 27 rfl
      have x35_0_32 : σ35 0 32 = σ16 0 32 := kf35 0 32 rfl
      have x35_0_41 : σ35 0 41 = σ16 0 41 := kf35 0 41 rfl
      have x35_16_atoNat : σ35 16 a.toNat = σ16 0 30 := by first | exact kf35 16 a.toNat rfl | (rw [kf35 16 a.toNat rfl]; simp [hs_ss, hs_up]; done)
      have k35 := k35.2.2
      have ut35 := k35.1
      unfold TY at ut35
      show hs_Wd _ _ _ _ _ _ _ _ _ _ _ _ _ _ _ _ _ 38 _ [] σ35
      refine s_aload_n (pc := 38) C dX12_turnRead_38 0 rfl ?_
      refine s_callVi (pc := 39) C (c_X12_placeRead l) [] [] rfl rfl dX12_turnRead_39 wlX12_275 wiX12_placeRead weX12_placeRead wcX12_placeRead wnX12 noX12_placeRead (by decide) (by decide) (Nat.le_of_ble_eq_true rfl) ⟨(gy_self g35), k35.1⟩ rfl rfl ?_
      rintro z39 σ39 k39
      have g39 := gy_trans g35 k39.1
      have f39 := frm_tr f35 (frm_mono (Q := (PTr a.toNat)) k39.2.1 (fun c j h => by simp [PPl, PTr] at h ⊢ <;> omega))
      have p39_TY := k39.2.2.1
      have up39_TY := p39_TY
      unfold TY at up39_TY
      have kf39 := k39.2.1
      have x39_0_27 : σ39 0 27 = σ35 0 27 := kf39 0 27 rfl
      have x39_0_32 : σ39 0 32 = σ35 0 32 := kf39 0 32 rfl
      have x39_0_41 : σ39 0 41 = σ35 0 41 := kf39 0 41 rfl
      have x39_16_atoNat : σ39 16 a.toNat = σ35 16 a.toNat := by first | exact kf39 16 a.toNat rfl | (rw [kf39 16 a.toNat rfl]; simp [hs_ss, hs_up]; done)
      have k39 := k39.2.2.2
      show hs_Wd _ _ _ _ _ _ _ _ _ _ _ _ _ _ _ _ _ 42 _ [vI z39] σ39
      refine s_if_ne (pc := 42) C (tgt := 47) dX12_turnRead_42 (by decide) ⟨by omega, by omega⟩ (fun h42 => ?_) (fun h42 => ?_)
      · skip
        refine s_aload_n (pc := 47) C dX12_turnRead_47 0 rfl ?_
        refine s_getr (q := 0) (ci := 12) (N := 68) (CN := RX12) (T := TX12) (pc := 48) C 36 dX12_turnRead_48 wlX12_68 rfl rfl rfl wfX12 (by decide) rfl ?_
        refine s_iload_n (pc := 51) C dX12_turnRead_51 1 rfl ?_
        refine s_aload_n (pc := 52) C dX12_turnRead_52 0 rfl ?_
        refine s_geti (q := 0) (ci := 12) (N := 68) (CN := RX12) (T := TX12) (pc := 53) C 43 dX12_turnRead_53 wlX12_263 rfl rfl rfl wfX12 (by decide) rfl (σ39 0 43) rfl ?_
        have b53 : (-1 : Int) ≤ σ39 0 43 ∧ σ39 0 43 ≤ 7 := g39.1 0 43
        refine s_iast (q := 18) (n := 60) (pc := 56) C dX12_turnRead_56 rfl (by omega) (by omega) (by decide) ?_
        have g56 := gy_set (z := (σ39 0 43)) g39 18 a.toNat rfl (-1) (7) rfl ⟨by omega, by omega⟩
        have f56 := frm_set (P := (PTr a.toNat)) (z := (σ39 0 43)) f39 18 a.toNat (by simp [PTr] <;> omega)
        have p56_TY := TY_cg (frm_one (P := okTY) (z := (σ39 0 43)) 18 a.toNat rfl) p39_TY
        refine s_aload_n (pc := 57) C dX12_turnRead_57 0 rfl ?_
        refine s_getr (q := 0) (ci := 12) (N := 68) (CN := RX12) (T := TX12) (pc := 58) C 37 dX12_turnRead_58 wlX12_71 rfl rfl rfl wfX12 (by decide) rfl ?_
        refine s_iload_n (pc := 61) C dX12_turnRead_61 1 rfl ?_
        refine s_aload_n (pc := 62) C dX12_turnRead_62 0 rfl ?_
        refine s_geti (q := 0) (ci := 12) (N := 68) (CN := RX12) (T := TX12) (pc := 63) C 44 dX12_turnRead_63 wlX12_266 rfl rfl rfl wfX12 (by decide) rfl (σ39 0 44) rfl ?_
        have b63 : (-999 : Int) ≤ σ39 0 44 ∧ σ39 0 44 ≤ 999 := g56.1 0 44
        refine s_iast (q := 19) (n := 60) (pc := 66) C dX12_turnRead_66 rfl (by omega) (by omega) (by decide) ?_
        have g66 := gy_set (z := (σ39 0 44)) g56 19 a.toNat rfl (-999) (999) rfl ⟨by omega, by omega⟩
        have f66 := frm_set (P := (PTr a.toNat)) (z := (σ39 0 44)) f56 19 a.toNat (by simp [PTr] <;> omega)
        have p66_TY := TY_cg (frm_one (P := okTY) (z := (σ39 0 44)) 19 a.toNat rfl) p56_TY
        refine s_aload_n (pc := 67) C dX12_turnRead_67 0 rfl ?_
        refine s_bipush (pc := 68) C dX12_turnRead_68 (by decide) ?_
        have r70_0_31 : (hs_ss (hs_ss σ39 18 a.toNat (σ39 0 43)) 19 a.toNat (σ39 0 44)) 0 31 = σ39 0 31 := rfl
        refine s_callVi (pc := 70) C (c_X12_comesSign l 59 ⟨by omega, by omega⟩) [vI 59] [] rfl rfl dX12_turnRead_70 wlX12_279 wiX12_comesSign weX12_comesSign wcX12_comesSign wnX12 noX12_comesSign (by decide) (by decide) (Nat.le_of_ble_eq_true rfl) ⟨(gy_self g66), p66_TY⟩ rfl rfl ?_
        rintro z70 σ70 k70
        have g70 := gy_trans g66 k70.1
        have f70 := frm_tr f66 (frm_mono (Q := (PTr a.toNat)) k70.2.1 (fun c j h => by simp [PTw, PTr] at h ⊢ <;> omega))
        have p70_TY := k70.2.2.1
        have up70_TY := p70_TY
        unfold TY at up70_TY
        have kf70 := k70.2.1
        have x70_0_27 : σ70 0 27 = σ39 0 27 := kf70 0 27 rfl
        have x70_0_32 : σ70 0 32 = σ39 0 32 := kf70 0 32 rfl
        have x70_0_41 : σ70 0 41 = σ39 0 41 := kf70 0 41 rfl
        have x70_16_atoNat : σ70 16 a.toNat = σ39 16 a.toNat := by first | exact kf70 16 a.toNat rfl | (rw [kf70 16 a.toNat rfl]; simp [hs_ss, hs_up]; done)
        have k70 := k70.2.2.2
        show hs_Wd _ _ _ _ _ _ _ _ _ _ _ _ _ _ _ _ _ 73 _ [vI z70] σ70
        refine s_zret (pc := 73) C (by omega) dX12_turnRead_73 ?_
        refine ⟨_, rfl, ?_⟩
        exact ⟨g70, f70, p70_TY, by first | omega | assumption | (constructor <;> omega) | (refine ⟨⟨?_, ?_⟩, ?_⟩ <;> omega) | (simp [hs_ss, hs_up]; omega) | (simp [hs_ss, hs_up]; done)⟩
      · skip
        refine s_iconst (pc := 45) C dX12_turnRead_45 ?_
        refine s_zret (pc := 46) C (by omega) dX12_turnRead_46 ?_
        refine ⟨_, rfl, ?_⟩
        exact ⟨g39, f39, p39_TY, by first | omega | assumption | (constructor <;> omega) | (refine ⟨⟨?_, ?_⟩, ?_⟩ <;> omega) | (simp [hs_ss, hs_up]; omega) | (simp [hs_ss, hs_up]; done)⟩
    · skip
      refine s_iconst (pc := 22) C dX12_turnRead_22 ?_
      refine s_zret (pc := 23) C (by omega) dX12_turnRead_23 ?_
      refine ⟨_, rfl, ?_⟩
      exact ⟨g16, f16, p16_TY, by first | omega | assumption | (constructor <;> omega) | (refine ⟨⟨?_, ?_⟩, ?_⟩ <;> omega) | (simp [hs_ss, hs_up]; omega) | (simp [hs_ss, hs_up]; done)⟩
set_option maxHeartbeats 4000000 in
set_option maxRecDepth 100000 in
theorem c_X12_loopRead (l : Launch) (a : Int) (ha : 0 ≤ a ∧ a ≤ 59) (w : Int) (hw : w = 5 ∨ w = 6) : hs_Met l yX12_loopRead cX12_loopRead 3 (some .boolean) 4 SHY (fun ad => [.ref (ad 0), vI a, vI w]) (fun σ => GY σ σ ∧ TY σ) (hs_PI (fun σ z σ1 => GY σ σ1 ∧ FRM (PLr a.toNat) σ σ1 ∧ TY σ1 ∧ (z = 0 ∨ z = 1) ∧ σ 0 31 ≤ σ1 0 31 ∧ (z = 1 → σ1 0 41 = σ 0 41 + 1 ∧ σ 0 41 ≤ 4 ∧ σ1 23 (σ 0 41).toNat = a ∧ (w = 6 → 0 ≤ σ1 17 a.toNat ∧ 1 ≤ σ1 16 a.toNat)) ∧ (∀ j : Nat, j ≠ (σ 0 41).toNat → σ1 23 j = σ 23 j))) := by
  refine hs_from pfX12_loopRead (fun _ => Nat.le_of_ble_eq_true rfl) ?_
  intro p e s m args below meth c D dA ad A σ C hpre
  have C : hs_C p s m args meth c D dA SHY ad A 3 cX12_loopRead RX12 (some .boolean) := C
  obtain ⟨g0, p0_TY⟩ := hpre
  have f0 : FRM (PLr a.toNat) σ σ := frm_rf
  have up0_TY := p0_TY
  unfold TY at up0_TY
  show hs_Wd p l e 4 s m args below meth c D dA SHY ad A 3 (hs_PI (fun σ z σ1 => GY σ σ1 ∧ FRM (PLr a.toNat) σ σ1 ∧ TY σ1 ∧ (z = 0 ∨ z = 1) ∧ σ 0 31 ≤ σ1 0 31 ∧ (z = 1 → σ1 0 41 = σ 0 41 + 1 ∧ σ 0 41 ≤ 4 ∧ σ1 23 (σ 0 41).toNat = a ∧ (w = 6 → 0 ≤ σ1 17 a.toNat ∧ 1 ≤ σ1 16 a.toNat)) ∧ (∀ j : Nat, j ≠ (σ 0 41).toNat → σ1 23 j = σ 23 j)) σ) 0 [(0, .ref (ad 0)), (1, vI a), (2, vI w)] [] σ
  have y0_23 : ∀ j : Nat, σ 23 j = σ 23 j := fun _ => rfl
  refine s_iload_n (pc := 0) C dX12_loopRead_0 2 rfl ?_
  refine s_bipush (pc := 1) C dX12_loopRead_1 (by decide) ?_
  refine s_icmp_ne (pc := 3) C (tgt := 109) dX12_loopRead_3 (by decide) ⟨by omega, by omega⟩ ⟨by decide, by decide⟩ (fun h3 => ?_) (fun h3 => ?_)
  · skip
    refine s_aload_n (pc := 109) C dX12_loopRead_109 0 rfl ?_
    refine s_iload_n (pc := 110) C dX12_loopRead_110 2 rfl ?_
    refine s_bipush (pc := 111) C dX12_loopRead_111 (by decide) ?_
    refine s_icmp_ne (pc := 113) C (tgt := 120) dX12_loopRead_113 (by decide) ⟨by omega, by omega⟩ ⟨by decide, by decide⟩ (fun h113 => ?_) (fun h113 => ?_)
    · skip
      refine s_iconst (pc := 120) C dX12_loopRead_120 ?_
      refine s_bipush (pc := 121) C dX12_loopRead_121 (by decide) ?_
      refine s_callVi (pc := 123) C (c_X12_numberRead l 0 99 (by first | omega | assumption | (constructor <;> omega) | (refine ⟨⟨?_, ?_⟩, ?_⟩ <;> omega) | (simp [hs_ss, hs_up]; omega) | (simp [hs_ss, hs_up]; done))) [vI 0, vI 99] [] rfl rfl dX12_loopRead_123 wlX12_272 wiX12_numberRead weX12_numberRead wcX12_numberRead wnX12 noX12_numberRead (by decide) (by decide) (Nat.le_of_ble_eq_true rfl) (gy_self g0) rfl rfl ?_
      rintro z123 σ123 k123
      have g123 := gy_trans g0 k123.1
      have f123 := frm_tr f0 (frm_mono (Q := (PLr a.toNat)) k123.2.1 (fun c j h => by simp [PWr, PLr] at h ⊢ <;> omega))
      have p123_TY := TY_cg (frm_mono (Q := okTY) k123.2.1 (fun c j h => by simp [PWr, okTY] at h ⊢ <;> omega)) p0_TY
      have kf123 := k123.2.1
      have x123_0_27 : σ123 0 27 = σ 0 27 := kf123 0 27 rfl
      have x123_0_28 : σ123 0 28 = σ 0 28 := kf123 0 28 rfl
      have x123_0_29 : σ123 0 29 = σ 0 29 := kf123 0 29 rfl
      have x123_0_30 : σ123 0 30 = σ 0 30 := kf123 0 30 rfl
      have x123_0_31 : σ123 0 31 = σ 0 31 := kf123 0 31 rfl
      have x123_0_32 : σ123 0 32 = σ 0 32 := kf123 0 32 rfl
      have x123_0_41 : σ123 0 41 = σ 0 41 := kf123 0 41 rfl
      have x123_16_atoNat : σ123 16 a.toNat = σ 16 a.toNat := by first | exact kf123 16 a.toNat rfl | (rw [kf123 16 a.toNat rfl]; simp [hs_ss, hs_up]; done)
      have x123_17_atoNat : σ123 17 a.toNat = σ 17 a.toNat := by first | exact kf123 17 a.toNat rfl | (rw [kf123 17 a.toNat rfl]; simp [hs_ss, hs_up]; done)
      have y123_23 : ∀ j : Nat, σ123 23 j = σ 23 j := fun j => (kf123 23 j rfl).trans (y0_23 j)
      have k123 := k123.2.2
      show hs_Wd _ _ _ _ _ _ _ _ _ _ _ _ _ _ _ _ _ 126 _ [vI z123] σ123
      refine s_if_ne (pc := 126) C (tgt := 131) dX12_loopRead_126 (by decide) ⟨by omega, by omega⟩ (fun h126 => ?_) (fun h126 => ?_)
      · skip
        refine s_aload_n (pc := 131) C dX12_loopRead_131 0 rfl ?_
        refine s_getr (q := 0) (ci := 12) (N := 68) (CN := RX12) (T := TX12) (pc := 132) C 34 dX12_loopRead_132 wlX12_62 rfl rfl rfl wfX12 (by decide) rfl ?_
        refine s_iload_n (pc := 135) C dX12_loopRead_135 1 rfl ?_
        refine s_aload_n (pc := 136) C dX12_loopRead_136 0 rfl ?_
        refine s_geti (q := 0) (ci := 12) (N := 68) (CN := RX12) (T := TX12) (pc := 137) C 30 dX12_loopRead_137 wlX12_245 rfl rfl rfl wfX12 (by decide) rfl (σ123 0 30) rfl ?_
        have b137 : (-1 : Int) ≤ σ123 0 30 ∧ σ123 0 30 ≤ 10000 := g123.1 0 30
        refine s_iast (q := 16) (n := 60) (pc := 140) C dX12_loopRead_140 rfl (by omega) (by omega) (by decide) ?_
        have g140 := gy_set (z := (σ123 0 30)) g123 16 a.toNat rfl (0) (99) rfl ⟨by omega, by omega⟩
        have f140 := frm_set (P := (PLr a.toNat)) (z := (σ123 0 30)) f123 16 a.toNat (by simp [PLr] <;> omega)
        have p140_TY := TY_cg (frm_one (P := okTY) (z := (σ123 0 30)) 16 a.toNat rfl) p123_TY
        refine s_aload_n (pc := 141) C dX12_loopRead_141 0 rfl ?_
        have r142_0_27 : (hs_ss σ123 16 a.toNat (σ123 0 30)) 0 27 = σ123 0 27 := rfl
        have r142_0_28 : (hs_ss σ123 16 a.toNat (σ123 0 30)) 0 28 = σ123 0 28 := rfl
        refine s_callVv (pc := 142) C (c_X12_take l) [] [] rfl rfl dX12_loopRead_142 wlX12_257 wiX12_take weX12_take wcX12_take wnX12 noX12_take (by decide) (by decide) (Nat.le_of_ble_eq_true rfl) ⟨(gy_self g140), by first | omega | assumption | (constructor <;> omega) | (refine ⟨⟨?_, ?_⟩, ?_⟩ <;> omega) | (simp [hs_ss, hs_up]; omega) | (simp [hs_ss, hs_up]; done)⟩ rfl rfl ?_
        rintro σ142 k142
        have g142 := gy_trans g140 k142.1
        have f142 := frm_tr f140 (frm_mono (Q := (PLr a.toNat)) k142.2.1 (fun c j h => by simp [PTa, PLr] at h ⊢ <;> omega))
        have kf142 := k142.2.1
        have x142_0_27 : σ142 0 27 = σ123 0 27 := kf142 0 27 rfl
        have x142_0_32 : σ142 0 32 = σ123 0 32 := kf142 0 32 rfl
        have x142_0_41 : σ142 0 41 = σ123 0 41 := kf142 0 41 rfl
        have x142_16_atoNat : σ142 16 a.toNat = σ123 0 30 := by first | exact kf142 16 a.toNat rfl | (rw [kf142 16 a.toNat rfl]; simp [hs_ss, hs_up]; done)
        have x142_17_atoNat : σ142 17 a.toNat = σ123 17 a.toNat := by first | exact kf142 17 a.toNat rfl | (rw [kf142 17 a.toNat rfl]; simp [hs_ss, hs_up]; done)
        have y142_23 : ∀ j : Nat, σ142 23 j = σ 23 j := fun j => (kf142 23 j rfl).trans (y123_23 j)
        have k142 := k142.2.2
        have ut142 := k142.1
        unfold TY at ut142
        show hs_Wd _ _ _ _ _ _ _ _ _ _ _ _ _ _ _ _ _ 145 _ [] σ142
        refine s_aload_n (pc := 145) C dX12_loopRead_145 0 rfl ?_
        refine s_bipush (pc := 146) C dX12_loopRead_146 (by decide) ?_
        refine s_callVi (pc := 148) C (c_X12_isSign l 40 ⟨by omega, by omega⟩) [vI 40] [] rfl rfl dX12_loopRead_148 wlX12_251 wiX12_isSign weX12_isSign wcX12_isSign wnX12 noX12_isSign (by decide) (by decide) (Nat.le_of_ble_eq_true rfl) (gy_self g142) rfl rfl ?_
        rintro z148 _ ⟨rfl, k148⟩
        show hs_Wd _ _ _ _ _ _ _ _ _ _ _ _ _ _ _ _ _ 151 _ [vI z148] σ142
        refine s_if_ne (pc := 151) C (tgt := 160) dX12_loopRead_151 (by decide) ⟨by omega, by omega⟩ (fun h151 => ?_) (fun h151 => ?_)
        · skip
          refine s_aload_n (pc := 160) C dX12_loopRead_160 0 rfl ?_
          refine s_geti (q := 0) (ci := 12) (N := 68) (CN := RX12) (T := TX12) (pc := 161) C 41 dX12_loopRead_161 wlX12_260 rfl rfl rfl wfX12 (by decide) rfl (σ142 0 41) rfl ?_
          have b161 : (0 : Int) ≤ σ142 0 41 ∧ σ142 0 41 ≤ 5 := g142.1 0 41
          refine s_iconst (pc := 164) C dX12_loopRead_164 ?_
          refine s_icmp_ne (pc := 165) C (tgt := 174) dX12_loopRead_165 (by decide) ⟨by omega, by omega⟩ ⟨by decide, by decide⟩ (fun h165 => ?_) (fun h165 => ?_)
          · skip
            have e41 : σ142 0 41 = σ 0 41 := by omega
            refine s_aload_n (pc := 174) C dX12_loopRead_174 0 rfl ?_
            refine s_getr (q := 0) (ci := 12) (N := 68) (CN := RX12) (T := TX12) (pc := 175) C 42 dX12_loopRead_175 wlX12_83 rfl rfl rfl wfX12 (by decide) rfl ?_
            refine s_aload_n (pc := 178) C dX12_loopRead_178 0 rfl ?_
            refine s_geti (q := 0) (ci := 12) (N := 68) (CN := RX12) (T := TX12) (pc := 179) C 41 dX12_loopRead_179 wlX12_260 rfl rfl rfl wfX12 (by decide) rfl (σ142 0 41) rfl ?_
            have b179 : (0 : Int) ≤ σ142 0 41 ∧ σ142 0 41 ≤ 5 := g142.1 0 41
            refine s_iload_n (pc := 182) C dX12_loopRead_182 1 rfl ?_
            refine s_iast (q := 23) (n := 5) (pc := 183) C dX12_loopRead_183 rfl (by omega) (by omega) (by decide) ?_
            have g183 := gy_set (z := a) g142 23 ((σ142 0 41).toNat) rfl (0) (59) rfl ⟨by omega, by omega⟩
            have f183 := frm_set (P := (PLr a.toNat)) (z := a) f142 23 ((σ142 0 41).toNat) (by simp [PLr] <;> omega)
            have p183_TY := TY_cg (frm_one (P := okTY) (z := a) 23 ((σ142 0 41).toNat) rfl) k142.1
            refine s_aload_n (pc := 184) C dX12_loopRead_184 0 rfl ?_
            refine s_dup (pc := 185) C dX12_loopRead_185 rfl ?_
            refine s_geti (q := 0) (ci := 12) (N := 68) (CN := RX12) (T := TX12) (pc := 186) C 41 dX12_loopRead_186 wlX12_260 rfl rfl rfl wfX12 (by decide) rfl (σ142 0 41) rfl ?_
            have b186 : (0 : Int) ≤ σ142 0 41 ∧ σ142 0 41 ≤ 5 := g183.1 0 41
            refine s_iconst (pc := 189) C dX12_loopRead_189 ?_
            refine s_iadd (pc := 190) C dX12_loopRead_190 ?_
            refine s_puti (q := 0) (ci := 12) (N := 68) (CN := RX12) (T := TX12) (ty0 := tyX12) (ty := .int) (pc := 191) C 41 dX12_loopRead_191 wlX12_260 rfl rfl rfl wfX12 tyX12_ok nmX12 (by decide) rfl rfl rfl (vp_nar_int _) rfl ?_
            have g191 := gy_set (z := ((σ142 0 41) + 1)) g183 0 41 rfl (0) (5) rfl ⟨by omega, by omega⟩
            have f191 := frm_set (P := (PLr a.toNat)) (z := ((σ142 0 41) + 1)) f183 0 41 (by simp [PLr] <;> omega)
            have p191_TY := TY_cg (frm_one (P := okTY) (z := ((σ142 0 41) + 1)) 0 41 rfl) p183_TY
            refine s_aload_n (pc := 194) C dX12_loopRead_194 0 rfl ?_
            have r195_0_27 : (hs_ss (hs_ss σ142 23 ((σ142 0 41).toNat) a) 0 41 ((σ142 0 41) + 1)) 0 27 = σ142 0 27 := rfl
            have r195_0_28 : (hs_ss (hs_ss σ142 23 ((σ142 0 41).toNat) a) 0 41 ((σ142 0 41) + 1)) 0 28 = σ142 0 28 := rfl
            refine s_callVv (pc := 195) C (c_X12_take l) [] [] rfl rfl dX12_loopRead_195 wlX12_257 wiX12_take weX12_take wcX12_take wnX12 noX12_take (by decide) (by decide) (Nat.le_of_ble_eq_true rfl) ⟨(gy_self g191), by first | omega | assumption | (constructor <;> omega) | (refine ⟨⟨?_, ?_⟩, ?_⟩ <;> omega) | (simp [hs_ss, hs_up]; omega) | (simp [hs_ss, hs_up]; done)⟩ rfl rfl ?_
            rintro σ195 k195
            have g195 := gy_trans g191 k195.1
            have f195 := frm_tr f191 (frm_mono (Q := (PLr a.toNat)) k195.2.1 (fun c j h => by simp [PTa, PLr] at h ⊢ <;> omega))
            have kf195 := k195.2.1
            have x195_0_27 : σ195 0 27 = σ142 0 27 := kf195 0 27 rfl
            have x195_0_32 : σ195 0 32 = σ142 0 32 := kf195 0 32 rfl
            have x195_0_41 : σ195 0 41 = (σ142 0 41) + 1 := kf195 0 41 rfl
            have x195_16_atoNat : σ195 16 a.toNat = σ142 16 a.toNat := by first | exact kf195 16 a.toNat rfl | (rw [kf195 16 a.toNat rfl]; simp [hs_ss, hs_up]; done)
            have x195_17_atoNat : σ195 17 a.toNat = σ142 17 a.toNat := by first | exact kf195 17 a.toNat rfl | (rw [kf195 17 a.toNat rfl]; simp [hs_ss, hs_up]; done)
            have k195 := k195.2.2
            have ut195 := k195.1
            unfold TY at ut195
            have y195 : ∀ j : Nat, j ≠ (σ 0 41).toNat → σ195 23 j = σ 23 j := fun j hj => by rw [kf195 23 j rfl]; simp [hs_ss, hs_up, e41, hj]; exact y142_23 j
            have x195 : σ195 23 (σ 0 41).toNat = a := by rw [kf195 23 _ rfl]; simp [hs_ss, hs_up, e41]
            show hs_Wd _ _ _ _ _ _ _ _ _ _ _ _ _ _ _ _ _ 198 _ [] σ195
            refine s_iconst (pc := 198) C dX12_loopRead_198 ?_
            refine s_zret (pc := 199) C (by omega) dX12_loopRead_199 ?_
            refine ⟨_, rfl, ?_⟩
            exact ⟨g195, f195, k195.1, ⟨by omega, by omega, fun _ => ⟨by omega, by omega, x195, fun h6 => by first | (exfalso; omega) | omega⟩, y195⟩⟩
          · skip
            refine s_aload_n (pc := 168) C dX12_loopRead_168 0 rfl ?_
            refine s_iconst (pc := 169) C dX12_loopRead_169 ?_
            refine s_callVi (pc := 170) C (c_X12_wrong l 2 (by first | omega | assumption | (constructor <;> omega) | (refine ⟨⟨?_, ?_⟩, ?_⟩ <;> omega) | (simp [hs_ss, hs_up]; omega) | (simp [hs_ss, hs_up]; done))) [vI 2] [] rfl rfl dX12_loopRead_170 wlX12_254 wiX12_wrong weX12_wrong wcX12_wrong wnX12 noX12_wrong (by decide) (by decide) (Nat.le_of_ble_eq_true rfl) (gy_self g142) rfl rfl ?_
            rintro z170 σ170 k170
            have g170 := gy_trans g142 k170.1
            have f170 := frm_tr f142 (frm_mono (Q := (PLr a.toNat)) k170.2.1 (fun c j h => by simp [PWr, PLr] at h ⊢ <;> omega))
            have p170_TY := TY_cg (frm_mono (Q := okTY) k170.2.1 (fun c j h => by simp [PWr, okTY] at h ⊢ <;> omega)) k142.1
            have kf170 := k170.2.1
            have x170_0_27 : σ170 0 27 = σ142 0 27 := kf170 0 27 rfl
            have x170_0_28 : σ170 0 28 = σ142 0 28 := kf170 0 28 rfl
            have x170_0_29 : σ170 0 29 = σ142 0 29 := kf170 0 29 rfl
            have x170_0_30 : σ170 0 30 = σ142 0 30 := kf170 0 30 rfl
            have x170_0_31 : σ170 0 31 = σ142 0 31 := kf170 0 31 rfl
            have x170_0_32 : σ170 0 32 = σ142 0 32 := kf170 0 32 rfl
            have x170_0_41 : σ170 0 41 = σ142 0 41 := kf170 0 41 rfl
            have x170_16_atoNat : σ170 16 a.toNat = σ142 16 a.toNat := by first | exact kf170 16 a.toNat rfl | (rw [kf170 16 a.toNat rfl]; simp [hs_ss, hs_up]; done)
            have x170_17_atoNat : σ170 17 a.toNat = σ142 17 a.toNat := by first | exact kf170 17 a.toNat rfl | (rw [kf170 17 a.toNat rfl]; simp [hs_ss, hs_up]; done)
            have y170_23 : ∀ j : Nat, σ170 23 j = σ 23 j := fun j => (kf170 23 j rfl).trans (y142_23 j)
            have k170 := k170.2.2
            show hs_Wd _ _ _ _ _ _ _ _ _ _ _ _ _ _ _ _ _ 173 _ [vI z170] σ170
            refine s_zret (pc := 173) C (by omega) dX12_loopRead_173 ?_
            refine ⟨_, rfl, ?_⟩
            exact ⟨g170, f170, p170_TY, ⟨by omega, by omega, fun q => by exfalso; omega, fun j _ => y170_23 j⟩⟩
        · skip
          refine s_aload_n (pc := 154) C dX12_loopRead_154 0 rfl ?_
          refine s_iconst (pc := 155) C dX12_loopRead_155 ?_
          refine s_callVi (pc := 156) C (c_X12_wrong l 1 (by first | omega | assumption | (constructor <;> omega) | (refine ⟨⟨?_, ?_⟩, ?_⟩ <;> omega) | (simp [hs_ss, hs_up]; omega) | (simp [hs_ss, hs_up]; done))) [vI 1] [] rfl rfl dX12_loopRead_156 wlX12_254 wiX12_wrong weX12_wrong wcX12_wrong wnX12 noX12_wrong (by decide) (by decide) (Nat.le_of_ble_eq_true rfl) (gy_self g142) rfl rfl ?_
          rintro z156 σ156 k156
          have g156 := gy_trans g142 k156.1
          have f156 := frm_tr f142 (frm_mono (Q := (PLr a.toNat)) k156.2.1 (fun c j h => by simp [PWr, PLr] at h ⊢ <;> omega))
          have p156_TY := TY_cg (frm_mono (Q := okTY) k156.2.1 (fun c j h => by simp [PWr, okTY] at h ⊢ <;> omega)) k142.1
          have kf156 := k156.2.1
          have x156_0_27 : σ156 0 27 = σ142 0 27 := kf156 0 27 rfl
          have x156_0_28 : σ156 0 28 = σ142 0 28 := kf156 0 28 rfl
          have x156_0_29 : σ156 0 29 = σ142 0 29 := kf156 0 29 rfl
          have x156_0_30 : σ156 0 30 = σ142 0 30 := kf156 0 30 rfl
          have x156_0_31 : σ156 0 31 = σ142 0 31 := kf156 0 31 rfl
          have x156_0_32 : σ156 0 32 = σ142 0 32 := kf156 0 32 rfl
          have x156_0_41 : σ156 0 41 = σ142 0 41 := kf156 0 41 rfl
          have x156_16_atoNat : σ156 16 a.toNat = σ142 16 a.toNat := by first | exact kf156 16 a.toNat rfl | (rw [kf156 16 a.toNat rfl]; simp [hs_ss, hs_up]; done)
          have x156_17_atoNat : σ156 17 a.toNat = σ142 17 a.toNat := by first | exact kf156 17 a.toNat rfl | (rw [kf156 17 a.toNat rfl]; simp [hs_ss, hs_up]; done)
          have y156_23 : ∀ j : Nat, σ156 23 j = σ 23 j := fun j => (kf156 23 j rfl).trans (y142_23 j)
          have k156 := k156.2.2
          show hs_Wd _ _ _ _ _ _ _ _ _ _ _ _ _ _ _ _ _ 159 _ [vI z156] σ156
          refine s_zret (pc := 159) C (by omega) dX12_loopRead_159 ?_
          refine ⟨_, rfl, ?_⟩
          exact ⟨g156, f156, p156_TY, ⟨by omega, by omega, fun q => by exfalso; omega, fun j _ => y156_23 j⟩⟩
      · skip
        refine s_iconst (pc := 129) C dX12_loopRead_129 ?_
        refine s_zret (pc := 130) C (by omega) dX12_loopRead_130 ?_
        refine ⟨_, rfl, ?_⟩
        exact ⟨g123, f123, p123_TY, ⟨by omega, by omega, fun q => by exfalso; omega, fun j _ => y123_23 j⟩⟩
    · skip
      refine s_iconst (pc := 116) C dX12_loopRead_116 ?_
      refine s_goto (pc := 117) C (tgt := 121) dX12_loopRead_117 (by decide) ?_
      refine s_bipush (pc := 121) C dX12_loopRead_121 (by decide) ?_
      refine s_callVi (pc := 123) C (c_X12_numberRead l 1 99 (by first | omega | assumption | (constructor <;> omega) | (refine ⟨⟨?_, ?_⟩, ?_⟩ <;> omega) | (simp [hs_ss, hs_up]; omega) | (simp [hs_ss, hs_up]; done))) [vI 1, vI 99] [] rfl rfl dX12_loopRead_123 wlX12_272 wiX12_numberRead weX12_numberRead wcX12_numberRead wnX12 noX12_numberRead (by decide) (by decide) (Nat.le_of_ble_eq_true rfl) (gy_self g0) rfl rfl ?_
      rintro z123 σ123 k123
      have g123 := gy_trans g0 k123.1
      have f123 := frm_tr f0 (frm_mono (Q := (PLr a.toNat)) k123.2.1 (fun c j h => by simp [PWr, PLr] at h ⊢ <;> omega))
      have p123_TY := TY_cg (frm_mono (Q := okTY) k123.2.1 (fun c j h => by simp [PWr, okTY] at h ⊢ <;> omega)) p0_TY
      have kf123 := k123.2.1
      have x123_0_27 : σ123 0 27 = σ 0 27 := kf123 0 27 rfl
      have x123_0_28 : σ123 0 28 = σ 0 28 := kf123 0 28 rfl
      have x123_0_29 : σ123 0 29 = σ 0 29 := kf123 0 29 rfl
      have x123_0_30 : σ123 0 30 = σ 0 30 := kf123 0 30 rfl
      have x123_0_31 : σ123 0 31 = σ 0 31 := kf123 0 31 rfl
      have x123_0_32 : σ123 0 32 = σ 0 32 := kf123 0 32 rfl
      have x123_0_41 : σ123 0 41 = σ 0 41 := kf123 0 41 rfl
      have x123_16_atoNat : σ123 16 a.toNat = σ 16 a.toNat := by first | exact kf123 16 a.toNat rfl | (rw [kf123 16 a.toNat rfl]; simp [hs_ss, hs_up]; done)
      have x123_17_atoNat : σ123 17 a.toNat = σ 17 a.toNat := by first | exact kf123 17 a.toNat rfl | (rw [kf123 17 a.toNat rfl]; simp [hs_ss, hs_up]; done)
      have y123_23 : ∀ j : Nat, σ123 23 j = σ 23 j := fun j => (kf123 23 j rfl).trans (y0_23 j)
      have k123 := k123.2.2
      show hs_Wd _ _ _ _ _ _ _ _ _ _ _ _ _ _ _ _ _ 126 _ [vI z123] σ123
      refine s_if_ne (pc := 126) C (tgt := 131) dX12_loopRead_126 (by decide) ⟨by omega, by omega⟩ (fun h126 => ?_) (fun h126 => ?_)
      · skip
        refine s_aload_n (pc := 131) C dX12_loopRead_131 0 rfl ?_
        refine s_getr (q := 0) (ci := 12) (N := 68) (CN := RX12) (T := TX12) (pc := 132) C 34 dX12_loopRead_132 wlX12_62 rfl rfl rfl wfX12 (by decide) rfl ?_
        refine s_iload_n (pc := 135) C dX12_loopRead_135 1 rfl ?_
        refine s_aload_n (pc := 136) C dX12_loopRead_136 0 rfl ?_
        refine s_geti (q := 0) (ci := 12) (N := 68) (CN := RX12) (T := TX12) (pc := 137) C 30 dX12_loopRead_137 wlX12_245 rfl rfl rfl wfX12 (by decide) rfl (σ123 0 30) rfl ?_
        have b137 : (-1 : Int) ≤ σ123 0 30 ∧ σ123 0 30 ≤ 10000 := g123.1 0 30
        refine s_iast (q := 16) (n := 60) (pc := 140) C dX12_loopRead_140 rfl (by omega) (by omega) (by decide) ?_
        have g140 := gy_set (z := (σ123 0 30)) g123 16 a.toNat rfl (0) (99) rfl ⟨by omega, by omega⟩
        have f140 := frm_set (P := (PLr a.toNat)) (z := (σ123 0 30)) f123 16 a.toNat (by simp [PLr] <;> omega)
        have p140_TY := TY_cg (frm_one (P := okTY) (z := (σ123 0 30)) 16 a.toNat rfl) p123_TY
        refine s_aload_n (pc := 141) C dX12_loopRead_141 0 rfl ?_
        have r142_0_27 : (hs_ss σ123 16 a.toNat (σ123 0 30)) 0 27 = σ123 0 27 := rfl
        have r142_0_28 : (hs_ss σ123 16 a.toNat (σ123 0 30)) 0 28 = σ123 0 28 := rfl
        refine s_callVv (pc := 142) C (c_X12_take l) [] [] rfl rfl dX12_loopRead_142 wlX12_257 wiX12_take weX12_take wcX12_take wnX12 noX12_take (by decide) (by decide) (Nat.le_of_ble_eq_true rfl) ⟨(gy_self g140), by first | omega | assumption | (constructor <;> omega) | (refine ⟨⟨?_, ?_⟩, ?_⟩ <;> omega) | (simp [hs_ss, hs_up]; omega) | (simp [hs_ss, hs_up]; done)⟩ rfl rfl ?_
        rintro σ142 k142
        have g142 := gy_trans g140 k142.1
        have f142 := frm_tr f140 (frm_mono (Q := (PLr a.toNat)) k142.2.1 (fun c j h => by simp [PTa, PLr] at h ⊢ <;> omega))
        have kf142 := k142.2.1
        have x142_0_27 : σ142 0 27 = σ123 0 27 := kf142 0 27 rfl
        have x142_0_32 : σ142 0 32 = σ123 0 32 := kf142 0 32 rfl
        have x142_0_41 : σ142 0 41 = σ123 0 41 := kf142 0 41 rfl
        have x142_16_atoNat : σ142 16 a.toNat = σ123 0 30 := by first | exact kf142 16 a.toNat rfl | (rw [kf142 16 a.toNat rfl]; simp [hs_ss, hs_up]; done)
        have x142_17_atoNat : σ142 17 a.toNat = σ123 17 a.toNat := by first | exact kf142 17 a.toNat rfl | (rw [kf142 17 a.toNat rfl]; simp [hs_ss, hs_up]; done)
        have y142_23 : ∀ j : Nat, σ142 23 j = σ 23 j := fun j => (kf142 23 j rfl).trans (y123_23 j)
        have k142 := k142.2.2
        have ut142 := k142.1
        unfold TY at ut142
        show hs_Wd _ _ _ _ _ _ _ _ _ _ _ _ _ _ _ _ _ 145 _ [] σ142
        refine s_aload_n (pc := 145) C dX12_loopRead_145 0 rfl ?_
        refine s_bipush (pc := 146) C dX12_loopRead_146 (by decide) ?_
        refine s_callVi (pc := 148) C (c_X12_isSign l 40 ⟨by omega, by omega⟩) [vI 40] [] rfl rfl dX12_loopRead_148 wlX12_251 wiX12_isSign weX12_isSign wcX12_isSign wnX12 noX12_isSign (by decide) (by decide) (Nat.le_of_ble_eq_true rfl) (gy_self g142) rfl rfl ?_
        rintro z148 _ ⟨rfl, k148⟩
        show hs_Wd _ _ _ _ _ _ _ _ _ _ _ _ _ _ _ _ _ 151 _ [vI z148] σ142
        refine s_if_ne (pc := 151) C (tgt := 160) dX12_loopRead_151 (by decide) ⟨by omega, by omega⟩ (fun h151 => ?_) (fun h151 => ?_)
        · skip
          refine s_aload_n (pc := 160) C dX12_loopRead_160 0 rfl ?_
          refine s_geti (q := 0) (ci := 12) (N := 68) (CN := RX12) (T := TX12) (pc := 161) C 41 dX12_loopRead_161 wlX12_260 rfl rfl rfl wfX12 (by decide) rfl (σ142 0 41) rfl ?_
          have b161 : (0 : Int) ≤ σ142 0 41 ∧ σ142 0 41 ≤ 5 := g142.1 0 41
          refine s_iconst (pc := 164) C dX12_loopRead_164 ?_
          refine s_icmp_ne (pc := 165) C (tgt := 174) dX12_loopRead_165 (by decide) ⟨by omega, by omega⟩ ⟨by decide, by decide⟩ (fun h165 => ?_) (fun h165 => ?_)
          · skip
            have e41 : σ142 0 41 = σ 0 41 := by omega
            refine s_aload_n (pc := 174) C dX12_loopRead_174 0 rfl ?_
            refine s_getr (q := 0) (ci := 12) (N := 68) (CN := RX12) (T := TX12) (pc := 175) C 42 dX12_loopRead_175 wlX12_83 rfl rfl rfl wfX12 (by decide) rfl ?_
            refine s_aload_n (pc := 178) C dX12_loopRead_178 0 rfl ?_
            refine s_geti (q := 0) (ci := 12) (N := 68) (CN := RX12) (T := TX12) (pc := 179) C 41 dX12_loopRead_179 wlX12_260 rfl rfl rfl wfX12 (by decide) rfl (σ142 0 41) rfl ?_
            have b179 : (0 : Int) ≤ σ142 0 41 ∧ σ142 0 41 ≤ 5 := g142.1 0 41
            refine s_iload_n (pc := 182) C dX12_loopRead_182 1 rfl ?_
            refine s_iast (q := 23) (n := 5) (pc := 183) C dX12_loopRead_183 rfl (by omega) (by omega) (by decide) ?_
            have g183 := gy_set (z := a) g142 23 ((σ142 0 41).toNat) rfl (0) (59) rfl ⟨by omega, by omega⟩
            have f183 := frm_set (P := (PLr a.toNat)) (z := a) f142 23 ((σ142 0 41).toNat) (by simp [PLr] <;> omega)
            have p183_TY := TY_cg (frm_one (P := okTY) (z := a) 23 ((σ142 0 41).toNat) rfl) k142.1
            refine s_aload_n (pc := 184) C dX12_loopRead_184 0 rfl ?_
            refine s_dup (pc := 185) C dX12_loopRead_185 rfl ?_
            refine s_geti (q := 0) (ci := 12) (N := 68) (CN := RX12) (T := TX12) (pc := 186) C 41 dX12_loopRead_186 wlX12_260 rfl rfl rfl wfX12 (by decide) rfl (σ142 0 41) rfl ?_
            have b186 : (0 : Int) ≤ σ142 0 41 ∧ σ142 0 41 ≤ 5 := g183.1 0 41
            refine s_iconst (pc := 189) C dX12_loopRead_189 ?_
            refine s_iadd (pc := 190) C dX12_loopRead_190 ?_
            refine s_puti (q := 0) (ci := 12) (N := 68) (CN := RX12) (T := TX12) (ty0 := tyX12) (ty := .int) (pc := 191) C 41 dX12_loopRead_191 wlX12_260 rfl rfl rfl wfX12 tyX12_ok nmX12 (by decide) rfl rfl rfl (vp_nar_int _) rfl ?_
            have g191 := gy_set (z := ((σ142 0 41) + 1)) g183 0 41 rfl (0) (5) rfl ⟨by omega, by omega⟩
            have f191 := frm_set (P := (PLr a.toNat)) (z := ((σ142 0 41) + 1)) f183 0 41 (by simp [PLr] <;> omega)
            have p191_TY := TY_cg (frm_one (P := okTY) (z := ((σ142 0 41) + 1)) 0 41 rfl) p183_TY
            refine s_aload_n (pc := 194) C dX12_loopRead_194 0 rfl ?_
            have r195_0_27 : (hs_ss (hs_ss σ142 23 ((σ142 0 41).toNat) a) 0 41 ((σ142 0 41) + 1)) 0 27 = σ142 0 27 := rfl
            have r195_0_28 : (hs_ss (hs_ss σ142 23 ((σ142 0 41).toNat) a) 0 41 ((σ142 0 41) + 1)) 0 28 = σ142 0 28 := rfl
            refine s_callVv (pc := 195) C (c_X12_take l) [] [] rfl rfl dX12_loopRead_195 wlX12_257 wiX12_take weX12_take wcX12_take wnX12 noX12_take (by decide) (by decide) (Nat.le_of_ble_eq_true rfl) ⟨(gy_self g191), by first | omega | assumption | (constructor <;> omega) | (refine ⟨⟨?_, ?_⟩, ?_⟩ <;> omega) | (simp [hs_ss, hs_up]; omega) | (simp [hs_ss, hs_up]; done)⟩ rfl rfl ?_
            rintro σ195 k195
            have g195 := gy_trans g191 k195.1
            have f195 := frm_tr f191 (frm_mono (Q := (PLr a.toNat)) k195.2.1 (fun c j h => by simp [PTa, PLr] at h ⊢ <;> omega))
            have kf195 := k195.2.1
            have x195_0_27 : σ195 0 27 = σ142 0 27 := kf195 0 27 rfl
            have x195_0_32 : σ195 0 32 = σ142 0 32 := kf195 0 32 rfl
            have x195_0_41 : σ195 0 41 = (σ142 0 41) + 1 := kf195 0 41 rfl
            have x195_16_atoNat : σ195 16 a.toNat = σ142 16 a.toNat := by first | exact kf195 16 a.toNat rfl | (rw [kf195 16 a.toNat rfl]; simp [hs_ss, hs_up]; done)
            have x195_17_atoNat : σ195 17 a.toNat = σ142 17 a.toNat := by first | exact kf195 17 a.toNat rfl | (rw [kf195 17 a.toNat rfl]; simp [hs_ss, hs_up]; done)
            have k195 := k195.2.2
            have ut195 := k195.1
            unfold TY at ut195
            have y195 : ∀ j : Nat, j ≠ (σ 0 41).toNat → σ195 23 j = σ 23 j := fun j hj => by rw [kf195 23 j rfl]; simp [hs_ss, hs_up, e41, hj]; exact y142_23 j
            have x195 : σ195 23 (σ 0 41).toNat = a := by rw [kf195 23 _ rfl]; simp [hs_ss, hs_up, e41]
            show hs_Wd _ _ _ _ _ _ _ _ _ _ _ _ _ _ _ _ _ 198 _ [] σ195
            refine s_iconst (pc := 198) C dX12_loopRead_198 ?_
            refine s_zret (pc := 199) C (by omega) dX12_loopRead_199 ?_
            refine ⟨_, rfl, ?_⟩
            exact ⟨g195, f195, k195.1, ⟨by omega, by omega, fun _ => ⟨by omega, by omega, x195, fun h6 => by first | (exfalso; omega) | omega⟩, y195⟩⟩
          · skip
            refine s_aload_n (pc := 168) C dX12_loopRead_168 0 rfl ?_
            refine s_iconst (pc := 169) C dX12_loopRead_169 ?_
            refine s_callVi (pc := 170) C (c_X12_wrong l 2 (by first | omega | assumption | (constructor <;> omega) | (refine ⟨⟨?_, ?_⟩, ?_⟩ <;> omega) | (simp [hs_ss, hs_up]; omega) | (simp [hs_ss, hs_up]; done))) [vI 2] [] rfl rfl dX12_loopRead_170 wlX12_254 wiX12_wrong weX12_wrong wcX12_wrong wnX12 noX12_wrong (by decide) (by decide) (Nat.le_of_ble_eq_true rfl) (gy_self g142) rfl rfl ?_
            rintro z170 σ170 k170
            have g170 := gy_trans g142 k170.1
            have f170 := frm_tr f142 (frm_mono (Q := (PLr a.toNat)) k170.2.1 (fun c j h => by simp [PWr, PLr] at h ⊢ <;> omega))
            have p170_TY := TY_cg (frm_mono (Q := okTY) k170.2.1 (fun c j h => by simp [PWr, okTY] at h ⊢ <;> omega)) k142.1
            have kf170 := k170.2.1
            have x170_0_27 : σ170 0 27 = σ142 0 27 := kf170 0 27 rfl
            have x170_0_28 : σ170 0 28 = σ142 0 28 := kf170 0 28 rfl
            have x170_0_29 : σ170 0 29 = σ142 0 29 := kf170 0 29 rfl
            have x170_0_30 : σ170 0 30 = σ142 0 30 := kf170 0 30 rfl
            have x170_0_31 : σ170 0 31 = σ142 0 31 := kf170 0 31 rfl
            have x170_0_32 : σ170 0 32 = σ142 0 32 := kf170 0 32 rfl
            have x170_0_41 : σ170 0 41 = σ142 0 41 := kf170 0 41 rfl
            have x170_16_atoNat : σ170 16 a.toNat = σ142 16 a.toNat := by first | exact kf170 16 a.toNat rfl | (rw [kf170 16 a.toNat rfl]; simp [hs_ss, hs_up]; done)
            have x170_17_atoNat : σ170 17 a.toNat = σ142 17 a.toNat := by first | exact kf170 17 a.toNat rfl | (rw [kf170 17 a.toNat rfl]; simp [hs_ss, hs_up]; done)
            have y170_23 : ∀ j : Nat, σ170 23 j = σ 23 j := fun j => (kf170 23 j rfl).trans (y142_23 j)
            have k170 := k170.2.2
            show hs_Wd _ _ _ _ _ _ _ _ _ _ _ _ _ _ _ _ _ 173 _ [vI z170] σ170
            refine s_zret (pc := 173) C (by omega) dX12_loopRead_173 ?_
            refine ⟨_, rfl, ?_⟩
            exact ⟨g170, f170, p170_TY, ⟨by omega, by omega, fun q => by exfalso; omega, fun j _ => y170_23 j⟩⟩
        · skip
          refine s_aload_n (pc := 154) C dX12_loopRead_154 0 rfl ?_
          refine s_iconst (pc := 155) C dX12_loopRead_155 ?_
          refine s_callVi (pc := 156) C (c_X12_wrong l 1 (by first | omega | assumption | (constructor <;> omega) | (refine ⟨⟨?_, ?_⟩, ?_⟩ <;> omega) | (simp [hs_ss, hs_up]; omega) | (simp [hs_ss, hs_up]; done))) [vI 1] [] rfl rfl dX12_loopRead_156 wlX12_254 wiX12_wrong weX12_wrong wcX12_wrong wnX12 noX12_wrong (by decide) (by decide) (Nat.le_of_ble_eq_true rfl) (gy_self g142) rfl rfl ?_
          rintro z156 σ156 k156
          have g156 := gy_trans g142 k156.1
          have f156 := frm_tr f142 (frm_mono (Q := (PLr a.toNat)) k156.2.1 (fun c j h => by simp [PWr, PLr] at h ⊢ <;> omega))
          have p156_TY := TY_cg (frm_mono (Q := okTY) k156.2.1 (fun c j h => by simp [PWr, okTY] at h ⊢ <;> omega)) k142.1
          have kf156 := k156.2.1
          have x156_0_27 : σ156 0 27 = σ142 0 27 := kf156 0 27 rfl
          have x156_0_28 : σ156 0 28 = σ142 0 28 := kf156 0 28 rfl
          have x156_0_29 : σ156 0 29 = σ142 0 29 := kf156 0 29 rfl
          have x156_0_30 : σ156 0 30 = σ142 0 30 := kf156 0 30 rfl
          have x156_0_31 : σ156 0 31 = σ142 0 31 := kf156 0 31 rfl
          have x156_0_32 : σ156 0 32 = σ142 0 32 := kf156 0 32 rfl
          have x156_0_41 : σ156 0 41 = σ142 0 41 := kf156 0 41 rfl
          have x156_16_atoNat : σ156 16 a.toNat = σ142 16 a.toNat := by first | exact kf156 16 a.toNat rfl | (rw [kf156 16 a.toNat rfl]; simp [hs_ss, hs_up]; done)
          have x156_17_atoNat : σ156 17 a.toNat = σ142 17 a.toNat := by first | exact kf156 17 a.toNat rfl | (rw [kf156 17 a.toNat rfl]; simp [hs_ss, hs_up]; done)
          have y156_23 : ∀ j : Nat, σ156 23 j = σ 23 j := fun j => (kf156 23 j rfl).trans (y142_23 j)
          have k156 := k156.2.2
          show hs_Wd _ _ _ _ _ _ _ _ _ _ _ _ _ _ _ _ _ 159 _ [vI z156] σ156
          refine s_zret (pc := 159) C (by omega) dX12_loopRead_159 ?_
          refine ⟨_, rfl, ?_⟩
          exact ⟨g156, f156, p156_TY, ⟨by omega, by omega, fun q => by exfalso; omega, fun j _ => y156_23 j⟩⟩
      · skip
        refine s_iconst (pc := 129) C dX12_loopRead_129 ?_
        refine s_zret (pc := 130) C (by omega) dX12_loopRead_130 ?_
        refine ⟨_, rfl, ?_⟩
        exact ⟨g123, f123, p123_TY, ⟨by omega, by omega, fun q => by exfalso; omega, fun j _ => y123_23 j⟩⟩
  · skip
    refine s_aload_n (pc := 6) C dX12_loopRead_6 0 rfl ?_
    refine s_geti (q := 0) (ci := 12) (N := 68) (CN := RX12) (T := TX12) (pc := 7) C 29 dX12_loopRead_7 wlX12_236 rfl rfl rfl wfX12 (by decide) rfl (σ 0 29) rfl ?_
    have b7 : (0 : Int) ≤ σ 0 29 ∧ σ 0 29 ≤ 5 := g0.1 0 29
    refine s_iconst (pc := 10) C dX12_loopRead_10 ?_
    refine s_icmp_eq (pc := 11) C (tgt := 20) dX12_loopRead_11 (by decide) ⟨by omega, by omega⟩ ⟨by decide, by decide⟩ (fun h11 => ?_) (fun h11 => ?_)
    · skip
      refine s_aload_n (pc := 20) C dX12_loopRead_20 0 rfl ?_
      refine s_aload_n (pc := 21) C dX12_loopRead_21 0 rfl ?_
      refine s_geti (q := 0) (ci := 12) (N := 68) (CN := RX12) (T := TX12) (pc := 22) C 30 dX12_loopRead_22 wlX12_245 rfl rfl rfl wfX12 (by decide) rfl (σ 0 30) rfl ?_
      have b22 : (-1 : Int) ≤ σ 0 30 ∧ σ 0 30 ≤ 10000 := g0.1 0 30
      refine s_callVi (pc := 25) C (c_X12_isAround l (σ 0 30) ⟨by omega, by omega⟩) [vI (σ 0 30)] [] rfl rfl dX12_loopRead_25 wlX12_269 wiX12_isAround weX12_isAround wcX12_isAround wnX12 noX12_isAround (by decide) (by decide) (Nat.le_of_ble_eq_true rfl) (gy_self g0) rfl rfl ?_
      rintro z25 _ ⟨rfl, k25⟩
      show hs_Wd _ _ _ _ _ _ _ _ _ _ _ _ _ _ _ _ _ 28 _ [vI z25] σ
      refine s_if_eq (pc := 28) C (tgt := 37) dX12_loopRead_28 (by decide) ⟨by omega, by omega⟩ (fun h28 => ?_) (fun h28 => ?_)
      · skip
        refine s_aload_n (pc := 37) C dX12_loopRead_37 0 rfl ?_
        refine s_getr (q := 0) (ci := 12) (N := 68) (CN := RX12) (T := TX12) (pc := 38) C 35 dX12_loopRead_38 wlX12_65 rfl rfl rfl wfX12 (by decide) rfl ?_
        refine s_iload_n (pc := 41) C dX12_loopRead_41 1 rfl ?_
        refine s_aload_n (pc := 42) C dX12_loopRead_42 0 rfl ?_
        refine s_geti (q := 0) (ci := 12) (N := 68) (CN := RX12) (T := TX12) (pc := 43) C 30 dX12_loopRead_43 wlX12_245 rfl rfl rfl wfX12 (by decide) rfl (σ 0 30) rfl ?_
        have b43 : (-1 : Int) ≤ σ 0 30 ∧ σ 0 30 ≤ 10000 := g0.1 0 30
        refine s_iast (q := 17) (n := 60) (pc := 46) C dX12_loopRead_46 rfl (by omega) (by omega) (by decide) ?_
        have g46 := gy_set (z := (σ 0 30)) g0 17 a.toNat rfl (-1) (7) rfl ⟨by omega, by omega⟩
        have f46 := frm_set (P := (PLr a.toNat)) (z := (σ 0 30)) f0 17 a.toNat (by simp [PLr] <;> omega)
        have p46_TY := TY_cg (frm_one (P := okTY) (z := (σ 0 30)) 17 a.toNat rfl) p0_TY
        refine s_aload_n (pc := 47) C dX12_loopRead_47 0 rfl ?_
        have r48_0_27 : (hs_ss σ 17 a.toNat (σ 0 30)) 0 27 = σ 0 27 := rfl
        have r48_0_28 : (hs_ss σ 17 a.toNat (σ 0 30)) 0 28 = σ 0 28 := rfl
        refine s_callVv (pc := 48) C (c_X12_take l) [] [] rfl rfl dX12_loopRead_48 wlX12_257 wiX12_take weX12_take wcX12_take wnX12 noX12_take (by decide) (by decide) (Nat.le_of_ble_eq_true rfl) ⟨(gy_self g46), by first | omega | assumption | (constructor <;> omega) | (refine ⟨⟨?_, ?_⟩, ?_⟩ <;> omega) | (simp [hs_ss, hs_up]; omega) | (simp [hs_ss, hs_up]; done)⟩ rfl rfl ?_
        rintro σ48 k48
        have g48 := gy_trans g46 k48.1
        have f48 := frm_tr f46 (frm_mono (Q := (PLr a.toNat)) k48.2.1 (fun c j h => by simp [PTa, PLr] at h ⊢ <;> omega))
        have kf48 := k48.2.1
        have x48_0_27 : σ48 0 27 = σ 0 27 := kf48 0 27 rfl
        have x48_0_32 : σ48 0 32 = σ 0 32 := kf48 0 32 rfl
        have x48_0_41 : σ48 0 41 = σ 0 41 := kf48 0 41 rfl
        have x48_16_atoNat : σ48 16 a.toNat = σ 16 a.toNat := by first | exact kf48 16 a.toNat rfl | (rw [kf48 16 a.toNat rfl]; simp [hs_ss, hs_up]; done)
        have x48_17_atoNat : σ48 17 a.toNat = σ 0 30 := by first | exact kf48 17 a.toNat rfl | (rw [kf48 17 a.toNat rfl]; simp [hs_ss, hs_up]; done)
        have y48_23 : ∀ j : Nat, σ48 23 j = σ 23 j := fun j => (kf48 23 j rfl).trans (y0_23 j)
        have k48 := k48.2.2
        have ut48 := k48.1
        unfold TY at ut48
        show hs_Wd _ _ _ _ _ _ _ _ _ _ _ _ _ _ _ _ _ 51 _ [] σ48
        refine s_aload_n (pc := 51) C dX12_loopRead_51 0 rfl ?_
        refine s_callVi (pc := 52) C (c_X12_placeRead l) [] [] rfl rfl dX12_loopRead_52 wlX12_275 wiX12_placeRead weX12_placeRead wcX12_placeRead wnX12 noX12_placeRead (by decide) (by decide) (Nat.le_of_ble_eq_true rfl) ⟨(gy_self g48), k48.1⟩ rfl rfl ?_
        rintro z52 σ52 k52
        have g52 := gy_trans g48 k52.1
        have f52 := frm_tr f48 (frm_mono (Q := (PLr a.toNat)) k52.2.1 (fun c j h => by simp [PPl, PLr] at h ⊢ <;> omega))
        have p52_TY := k52.2.2.1
        have up52_TY := p52_TY
        unfold TY at up52_TY
        have kf52 := k52.2.1
        have x52_0_27 : σ52 0 27 = σ48 0 27 := kf52 0 27 rfl
        have x52_0_32 : σ52 0 32 = σ48 0 32 := kf52 0 32 rfl
        have x52_0_41 : σ52 0 41 = σ48 0 41 := kf52 0 41 rfl
        have x52_16_atoNat : σ52 16 a.toNat = σ48 16 a.toNat := by first | exact kf52 16 a.toNat rfl | (rw [kf52 16 a.toNat rfl]; simp [hs_ss, hs_up]; done)
        have x52_17_atoNat : σ52 17 a.toNat = σ48 17 a.toNat := by first | exact kf52 17 a.toNat rfl | (rw [kf52 17 a.toNat rfl]; simp [hs_ss, hs_up]; done)
        have y52_23 : ∀ j : Nat, σ52 23 j = σ 23 j := fun j => (kf52 23 j rfl).trans (y48_23 j)
        have k52 := k52.2.2.2
        show hs_Wd _ _ _ _ _ _ _ _ _ _ _ _ _ _ _ _ _ 55 _ [vI z52] σ52
        refine s_if_ne (pc := 55) C (tgt := 60) dX12_loopRead_55 (by decide) ⟨by omega, by omega⟩ (fun h55 => ?_) (fun h55 => ?_)
        · skip
          refine s_aload_n (pc := 60) C dX12_loopRead_60 0 rfl ?_
          refine s_getr (q := 0) (ci := 12) (N := 68) (CN := RX12) (T := TX12) (pc := 61) C 36 dX12_loopRead_61 wlX12_68 rfl rfl rfl wfX12 (by decide) rfl ?_
          refine s_iload_n (pc := 64) C dX12_loopRead_64 1 rfl ?_
          refine s_aload_n (pc := 65) C dX12_loopRead_65 0 rfl ?_
          refine s_geti (q := 0) (ci := 12) (N := 68) (CN := RX12) (T := TX12) (pc := 66) C 43 dX12_loopRead_66 wlX12_263 rfl rfl rfl wfX12 (by decide) rfl (σ52 0 43) rfl ?_
          have b66 : (-1 : Int) ≤ σ52 0 43 ∧ σ52 0 43 ≤ 7 := g52.1 0 43
          refine s_iast (q := 18) (n := 60) (pc := 69) C dX12_loopRead_69 rfl (by omega) (by omega) (by decide) ?_
          have g69 := gy_set (z := (σ52 0 43)) g52 18 a.toNat rfl (-1) (7) rfl ⟨by omega, by omega⟩
          have f69 := frm_set (P := (PLr a.toNat)) (z := (σ52 0 43)) f52 18 a.toNat (by simp [PLr] <;> omega)
          have p69_TY := TY_cg (frm_one (P := okTY) (z := (σ52 0 43)) 18 a.toNat rfl) p52_TY
          refine s_aload_n (pc := 70) C dX12_loopRead_70 0 rfl ?_
          refine s_getr (q := 0) (ci := 12) (N := 68) (CN := RX12) (T := TX12) (pc := 71) C 37 dX12_loopRead_71 wlX12_71 rfl rfl rfl wfX12 (by decide) rfl ?_
          refine s_iload_n (pc := 74) C dX12_loopRead_74 1 rfl ?_
          refine s_aload_n (pc := 75) C dX12_loopRead_75 0 rfl ?_
          refine s_geti (q := 0) (ci := 12) (N := 68) (CN := RX12) (T := TX12) (pc := 76) C 44 dX12_loopRead_76 wlX12_266 rfl rfl rfl wfX12 (by decide) rfl (σ52 0 44) rfl ?_
          have b76 : (-999 : Int) ≤ σ52 0 44 ∧ σ52 0 44 ≤ 999 := g69.1 0 44
          refine s_iast (q := 19) (n := 60) (pc := 79) C dX12_loopRead_79 rfl (by omega) (by omega) (by decide) ?_
          have g79 := gy_set (z := (σ52 0 44)) g69 19 a.toNat rfl (-999) (999) rfl ⟨by omega, by omega⟩
          have f79 := frm_set (P := (PLr a.toNat)) (z := (σ52 0 44)) f69 19 a.toNat (by simp [PLr] <;> omega)
          have p79_TY := TY_cg (frm_one (P := okTY) (z := (σ52 0 44)) 19 a.toNat rfl) p69_TY
          refine s_aload_n (pc := 80) C dX12_loopRead_80 0 rfl ?_
          have r81_0_31 : (hs_ss (hs_ss σ52 18 a.toNat (σ52 0 43)) 19 a.toNat (σ52 0 44)) 0 31 = σ52 0 31 := rfl
          refine s_callVi (pc := 81) C (c_X12_placeRead l) [] [] rfl rfl dX12_loopRead_81 wlX12_275 wiX12_placeRead weX12_placeRead wcX12_placeRead wnX12 noX12_placeRead (by decide) (by decide) (Nat.le_of_ble_eq_true rfl) ⟨(gy_self g79), p79_TY⟩ rfl rfl ?_
          rintro z81 σ81 k81
          have g81 := gy_trans g79 k81.1
          have f81 := frm_tr f79 (frm_mono (Q := (PLr a.toNat)) k81.2.1 (fun c j h => by simp [PPl, PLr] at h ⊢ <;> omega))
          have p81_TY := k81.2.2.1
          have up81_TY := p81_TY
          unfold TY at up81_TY
          have kf81 := k81.2.1
          have x81_0_27 : σ81 0 27 = σ52 0 27 := kf81 0 27 rfl
          have x81_0_32 : σ81 0 32 = σ52 0 32 := kf81 0 32 rfl
          have x81_0_41 : σ81 0 41 = σ52 0 41 := kf81 0 41 rfl
          have x81_16_atoNat : σ81 16 a.toNat = σ52 16 a.toNat := by first | exact kf81 16 a.toNat rfl | (rw [kf81 16 a.toNat rfl]; simp [hs_ss, hs_up]; done)
          have x81_17_atoNat : σ81 17 a.toNat = σ52 17 a.toNat := by first | exact kf81 17 a.toNat rfl | (rw [kf81 17 a.toNat rfl]; simp [hs_ss, hs_up]; done)
          have y81_23 : ∀ j : Nat, σ81 23 j = σ 23 j := fun j => (kf81 23 j rfl).trans (y52_23 j)
          have k81 := k81.2.2.2
          show hs_Wd _ _ _ _ _ _ _ _ _ _ _ _ _ _ _ _ _ 84 _ [vI z81] σ81
          refine s_if_ne (pc := 84) C (tgt := 89) dX12_loopRead_84 (by decide) ⟨by omega, by omega⟩ (fun h84 => ?_) (fun h84 => ?_)
          · skip
            refine s_aload_n (pc := 89) C dX12_loopRead_89 0 rfl ?_
            refine s_getr (q := 0) (ci := 12) (N := 68) (CN := RX12) (T := TX12) (pc := 90) C 38 dX12_loopRead_90 wlX12_74 rfl rfl rfl wfX12 (by decide) rfl ?_
            refine s_iload_n (pc := 93) C dX12_loopRead_93 1 rfl ?_
            refine s_aload_n (pc := 94) C dX12_loopRead_94 0 rfl ?_
            refine s_geti (q := 0) (ci := 12) (N := 68) (CN := RX12) (T := TX12) (pc := 95) C 43 dX12_loopRead_95 wlX12_263 rfl rfl rfl wfX12 (by decide) rfl (σ81 0 43) rfl ?_
            have b95 : (-1 : Int) ≤ σ81 0 43 ∧ σ81 0 43 ≤ 7 := g81.1 0 43
            refine s_iast (q := 20) (n := 60) (pc := 98) C dX12_loopRead_98 rfl (by omega) (by omega) (by decide) ?_
            have g98 := gy_set (z := (σ81 0 43)) g81 20 a.toNat rfl (-1) (7) rfl ⟨by omega, by omega⟩
            have f98 := frm_set (P := (PLr a.toNat)) (z := (σ81 0 43)) f81 20 a.toNat (by simp [PLr] <;> omega)
            have p98_TY := TY_cg (frm_one (P := okTY) (z := (σ81 0 43)) 20 a.toNat rfl) p81_TY
            refine s_aload_n (pc := 99) C dX12_loopRead_99 0 rfl ?_
            refine s_getr (q := 0) (ci := 12) (N := 68) (CN := RX12) (T := TX12) (pc := 100) C 39 dX12_loopRead_100 wlX12_77 rfl rfl rfl wfX12 (by decide) rfl ?_
            refine s_iload_n (pc := 103) C dX12_loopRead_103 1 rfl ?_
            refine s_aload_n (pc := 104) C dX12_loopRead_104 0 rfl ?_
            refine s_geti (q := 0) (ci := 12) (N := 68) (CN := RX12) (T := TX12) (pc := 105) C 44 dX12_loopRead_105 wlX12_266 rfl rfl rfl wfX12 (by decide) rfl (σ81 0 44) rfl ?_
            have b105 : (-999 : Int) ≤ σ81 0 44 ∧ σ81 0 44 ≤ 999 := g98.1 0 44
            refine s_iast (q := 21) (n := 60) (pc := 108) C dX12_loopRead_108 rfl (by omega) (by omega) (by decide) ?_
            have g108 := gy_set (z := (σ81 0 44)) g98 21 a.toNat rfl (-999) (999) rfl ⟨by omega, by omega⟩
            have f108 := frm_set (P := (PLr a.toNat)) (z := (σ81 0 44)) f98 21 a.toNat (by simp [PLr] <;> omega)
            have p108_TY := TY_cg (frm_one (P := okTY) (z := (σ81 0 44)) 21 a.toNat rfl) p98_TY
            refine s_aload_n (pc := 109) C dX12_loopRead_109 0 rfl ?_
            refine s_iload_n (pc := 110) C dX12_loopRead_110 2 rfl ?_
            refine s_bipush (pc := 111) C dX12_loopRead_111 (by decide) ?_
            refine s_icmp_ne (pc := 113) C (tgt := 120) dX12_loopRead_113 (by decide) ⟨by omega, by omega⟩ ⟨by decide, by decide⟩ (fun h113 => ?_) (fun h113 => ?_)
            · skip
              refine s_iconst (pc := 120) C dX12_loopRead_120 ?_
              refine s_bipush (pc := 121) C dX12_loopRead_121 (by decide) ?_
              have r123_0_30 : (hs_ss (hs_ss σ81 20 a.toNat (σ81 0 43)) 21 a.toNat (σ81 0 44)) 0 30 = σ81 0 30 := rfl
              refine s_callVi (pc := 123) C (c_X12_numberRead l 0 99 (by first | omega | assumption | (constructor <;> omega) | (refine ⟨⟨?_, ?_⟩, ?_⟩ <;> omega) | (simp [hs_ss, hs_up]; omega) | (simp [hs_ss, hs_up]; done))) [vI 0, vI 99] [] rfl rfl dX12_loopRead_123 wlX12_272 wiX12_numberRead weX12_numberRead wcX12_numberRead wnX12 noX12_numberRead (by decide) (by decide) (Nat.le_of_ble_eq_true rfl) (gy_self g108) rfl rfl ?_
              rintro z123 σ123 k123
              have g123 := gy_trans g108 k123.1
              have f123 := frm_tr f108 (frm_mono (Q := (PLr a.toNat)) k123.2.1 (fun c j h => by simp [PWr, PLr] at h ⊢ <;> omega))
              have p123_TY := TY_cg (frm_mono (Q := okTY) k123.2.1 (fun c j h => by simp [PWr, okTY] at h ⊢ <;> omega)) p108_TY
              have kf123 := k123.2.1
              have x123_0_27 : σ123 0 27 = σ81 0 27 := kf123 0 27 rfl
              have x123_0_28 : σ123 0 28 = σ81 0 28 := kf123 0 28 rfl
              have x123_0_29 : σ123 0 29 = σ81 0 29 := kf123 0 29 rfl
              have x123_0_30 : σ123 0 30 = σ81 0 30 := kf123 0 30 rfl
              have x123_0_31 : σ123 0 31 = σ81 0 31 := kf123 0 31 rfl
              have x123_0_32 : σ123 0 32 = σ81 0 32 := kf123 0 32 rfl
              have x123_0_41 : σ123 0 41 = σ81 0 41 := kf123 0 41 rfl
              have x123_16_atoNat : σ123 16 a.toNat = σ81 16 a.toNat := by first | exact kf123 16 a.toNat rfl | (rw [kf123 16 a.toNat rfl]; simp [hs_ss, hs_up]; done)
              have x123_17_atoNat : σ123 17 a.toNat = σ81 17 a.toNat := by first | exact kf123 17 a.toNat rfl | (rw [kf123 17 a.toNat rfl]; simp [hs_ss, hs_up]; done)
              have y123_23 : ∀ j : Nat, σ123 23 j = σ 23 j := fun j => (kf123 23 j rfl).trans (y81_23 j)
              have k123 := k123.2.2
              show hs_Wd _ _ _ _ _ _ _ _ _ _ _ _ _ _ _ _ _ 126 _ [vI z123] σ123
              refine s_if_ne (pc := 126) C (tgt := 131) dX12_loopRead_126 (by decide) ⟨by omega, by omega⟩ (fun h126 => ?_) (fun h126 => ?_)
              · skip
                refine s_aload_n (pc := 131) C dX12_loopRead_131 0 rfl ?_
                refine s_getr (q := 0) (ci := 12) (N := 68) (CN := RX12) (T := TX12) (pc := 132) C 34 dX12_loopRead_132 wlX12_62 rfl rfl rfl wfX12 (by decide) rfl ?_
                refine s_iload_n (pc := 135) C dX12_loopRead_135 1 rfl ?_
                refine s_aload_n (pc := 136) C dX12_loopRead_136 0 rfl ?_
                refine s_geti (q := 0) (ci := 12) (N := 68) (CN := RX12) (T := TX12) (pc := 137) C 30 dX12_loopRead_137 wlX12_245 rfl rfl rfl wfX12 (by decide) rfl (σ123 0 30) rfl ?_
                have b137 : (-1 : Int) ≤ σ123 0 30 ∧ σ123 0 30 ≤ 10000 := g123.1 0 30
                refine s_iast (q := 16) (n := 60) (pc := 140) C dX12_loopRead_140 rfl (by omega) (by omega) (by decide) ?_
                have g140 := gy_set (z := (σ123 0 30)) g123 16 a.toNat rfl (0) (99) rfl ⟨by omega, by omega⟩
                have f140 := frm_set (P := (PLr a.toNat)) (z := (σ123 0 30)) f123 16 a.toNat (by simp [PLr] <;> omega)
                have p140_TY := TY_cg (frm_one (P := okTY) (z := (σ123 0 30)) 16 a.toNat rfl) p123_TY
                refine s_aload_n (pc := 141) C dX12_loopRead_141 0 rfl ?_
                have r142_0_27 : (hs_ss σ123 16 a.toNat (σ123 0 30)) 0 27 = σ123 0 27 := rfl
                have r142_0_28 : (hs_ss σ123 16 a.toNat (σ123 0 30)) 0 28 = σ123 0 28 := rfl
                refine s_callVv (pc := 142) C (c_X12_take l) [] [] rfl rfl dX12_loopRead_142 wlX12_257 wiX12_take weX12_take wcX12_take wnX12 noX12_take (by decide) (by decide) (Nat.le_of_ble_eq_true rfl) ⟨(gy_self g140), by first | omega | assumption | (constructor <;> omega) | (refine ⟨⟨?_, ?_⟩, ?_⟩ <;> omega) | (simp [hs_ss, hs_up]; omega) | (simp [hs_ss, hs_up]; done)⟩ rfl rfl ?_
                rintro σ142 k142
                have g142 := gy_trans g140 k142.1
                have f142 := frm_tr f140 (frm_mono (Q := (PLr a.toNat)) k142.2.1 (fun c j h => by simp [PTa, PLr] at h ⊢ <;> omega))
                have kf142 := k142.2.1
                have x142_0_27 : σ142 0 27 = σ123 0 27 := kf142 0 27 rfl
                have x142_0_32 : σ142 0 32 = σ123 0 32 := kf142 0 32 rfl
                have x142_0_41 : σ142 0 41 = σ123 0 41 := kf142 0 41 rfl
                have x142_16_atoNat : σ142 16 a.toNat = σ123 0 30 := by first | exact kf142 16 a.toNat rfl | (rw [kf142 16 a.toNat rfl]; simp [hs_ss, hs_up]; done)
                have x142_17_atoNat : σ142 17 a.toNat = σ123 17 a.toNat := by first | exact kf142 17 a.toNat rfl | (rw [kf142 17 a.toNat rfl]; simp [hs_ss, hs_up]; done)
                have y142_23 : ∀ j : Nat, σ142 23 j = σ 23 j := fun j => (kf142 23 j rfl).trans (y123_23 j)
                have k142 := k142.2.2
                have ut142 := k142.1
                unfold TY at ut142
                show hs_Wd _ _ _ _ _ _ _ _ _ _ _ _ _ _ _ _ _ 145 _ [] σ142
                refine s_aload_n (pc := 145) C dX12_loopRead_145 0 rfl ?_
                refine s_bipush (pc := 146) C dX12_loopRead_146 (by decide) ?_
                refine s_callVi (pc := 148) C (c_X12_isSign l 40 ⟨by omega, by omega⟩) [vI 40] [] rfl rfl dX12_loopRead_148 wlX12_251 wiX12_isSign weX12_isSign wcX12_isSign wnX12 noX12_isSign (by decide) (by decide) (Nat.le_of_ble_eq_true rfl) (gy_self g142) rfl rfl ?_
                rintro z148 _ ⟨rfl, k148⟩
                show hs_Wd _ _ _ _ _ _ _ _ _ _ _ _ _ _ _ _ _ 151 _ [vI z148] σ142
                refine s_if_ne (pc := 151) C (tgt := 160) dX12_loopRead_151 (by decide) ⟨by omega, by omega⟩ (fun h151 => ?_) (fun h151 => ?_)
                · skip
                  refine s_aload_n (pc := 160) C dX12_loopRead_160 0 rfl ?_
                  refine s_geti (q := 0) (ci := 12) (N := 68) (CN := RX12) (T := TX12) (pc := 161) C 41 dX12_loopRead_161 wlX12_260 rfl rfl rfl wfX12 (by decide) rfl (σ142 0 41) rfl ?_
                  have b161 : (0 : Int) ≤ σ142 0 41 ∧ σ142 0 41 ≤ 5 := g142.1 0 41
                  refine s_iconst (pc := 164) C dX12_loopRead_164 ?_
                  refine s_icmp_ne (pc := 165) C (tgt := 174) dX12_loopRead_165 (by decide) ⟨by omega, by omega⟩ ⟨by decide, by decide⟩ (fun h165 => ?_) (fun h165 => ?_)
                  · skip
                    have e41 : σ142 0 41 = σ 0 41 := by omega
                    refine s_aload_n (pc := 174) C dX12_loopRead_174 0 rfl ?_
                    refine s_getr (q := 0) (ci := 12) (N := 68) (CN := RX12) (T := TX12) (pc := 175) C 42 dX12_loopRead_175 wlX12_83 rfl rfl rfl wfX12 (by decide) rfl ?_
                    refine s_aload_n (pc := 178) C dX12_loopRead_178 0 rfl ?_
                    refine s_geti (q := 0) (ci := 12) (N := 68) (CN := RX12) (T := TX12) (pc := 179) C 41 dX12_loopRead_179 wlX12_260 rfl rfl rfl wfX12 (by decide) rfl (σ142 0 41) rfl ?_
                    have b179 : (0 : Int) ≤ σ142 0 41 ∧ σ142 0 41 ≤ 5 := g142.1 0 41
                    refine s_iload_n (pc := 182) C dX12_loopRead_182 1 rfl ?_
                    refine s_iast (q := 23) (n := 5) (pc := 183) C dX12_loopRead_183 rfl (by omega) (by omega) (by decide) ?_
                    have g183 := gy_set (z := a) g142 23 ((σ142 0 41).toNat) rfl (0) (59) rfl ⟨by omega, by omega⟩
                    have f183 := frm_set (P := (PLr a.toNat)) (z := a) f142 23 ((σ142 0 41).toNat) (by simp [PLr] <;> omega)
                    have p183_TY := TY_cg (frm_one (P := okTY) (z := a) 23 ((σ142 0 41).toNat) rfl) k142.1
                    refine s_aload_n (pc := 184) C dX12_loopRead_184 0 rfl ?_
                    refine s_dup (pc := 185) C dX12_loopRead_185 rfl ?_
                    refine s_geti (q := 0) (ci := 12) (N := 68) (CN := RX12) (T := TX12) (pc := 186) C 41 dX12_loopRead_186 wlX12_260 rfl rfl rfl wfX12 (by decide) rfl (σ142 0 41) rfl ?_
                    have b186 : (0 : Int) ≤ σ142 0 41 ∧ σ142 0 41 ≤ 5 := g183.1 0 41
                    refine s_iconst (pc := 189) C dX12_loopRead_189 ?_
                    refine s_iadd (pc := 190) C dX12_loopRead_190 ?_
                    refine s_puti (q := 0) (ci := 12) (N := 68) (CN := RX12) (T := TX12) (ty0 := tyX12) (ty := .int) (pc := 191) C 41 dX12_loopRead_191 wlX12_260 rfl rfl rfl wfX12 tyX12_ok nmX12 (by decide) rfl rfl rfl (vp_nar_int _) rfl ?_
                    have g191 := gy_set (z := ((σ142 0 41) + 1)) g183 0 41 rfl (0) (5) rfl ⟨by omega, by omega⟩
                    have f191 := frm_set (P := (PLr a.toNat)) (z := ((σ142 0 41) + 1)) f183 0 41 (by simp [PLr] <;> omega)
                    have p191_TY := TY_cg (frm_one (P := okTY) (z := ((σ142 0 41) + 1)) 0 41 rfl) p183_TY
                    refine s_aload_n (pc := 194) C dX12_loopRead_194 0 rfl ?_
                    have r195_0_27 : (hs_ss (hs_ss σ142 23 ((σ142 0 41).toNat) a) 0 41 ((σ142 0 41) + 1)) 0 27 = σ142 0 27 := rfl
                    have r195_0_28 : (hs_ss (hs_ss σ142 23 ((σ142 0 41).toNat) a) 0 41 ((σ142 0 41) + 1)) 0 28 = σ142 0 28 := rfl
                    refine s_callVv (pc := 195) C (c_X12_take l) [] [] rfl rfl dX12_loopRead_195 wlX12_257 wiX12_take weX12_take wcX12_take wnX12 noX12_take (by decide) (by decide) (Nat.le_of_ble_eq_true rfl) ⟨(gy_self g191), by first | omega | assumption | (constructor <;> omega) | (refine ⟨⟨?_, ?_⟩, ?_⟩ <;> omega) | (simp [hs_ss, hs_up]; omega) | (simp [hs_ss, hs_up]; done)⟩ rfl rfl ?_
                    rintro σ195 k195
                    have g195 := gy_trans g191 k195.1
                    have f195 := frm_tr f191 (frm_mono (Q := (PLr a.toNat)) k195.2.1 (fun c j h => by simp [PTa, PLr] at h ⊢ <;> omega))
                    have kf195 := k195.2.1
                    have x195_0_27 : σ195 0 27 = σ142 0 27 := kf195 0 27 rfl
                    have x195_0_32 : σ195 0 32 = σ142 0 32 := kf195 0 32 rfl
                    have x195_0_41 : σ195 0 41 = (σ142 0 41) + 1 := kf195 0 41 rfl
                    have x195_16_atoNat : σ195 16 a.toNat = σ142 16 a.toNat := by first | exact kf195 16 a.toNat rfl | (rw [kf195 16 a.toNat rfl]; simp [hs_ss, hs_up]; done)
                    have x195_17_atoNat : σ195 17 a.toNat = σ142 17 a.toNat := by first | exact kf195 17 a.toNat rfl | (rw [kf195 17 a.toNat rfl]; simp [hs_ss, hs_up]; done)
                    have k195 := k195.2.2
                    have ut195 := k195.1
                    unfold TY at ut195
                    have y195 : ∀ j : Nat, j ≠ (σ 0 41).toNat → σ195 23 j = σ 23 j := fun j hj => by rw [kf195 23 j rfl]; simp [hs_ss, hs_up, e41, hj]; exact y142_23 j
                    have x195 : σ195 23 (σ 0 41).toNat = a := by rw [kf195 23 _ rfl]; simp [hs_ss, hs_up, e41]
                    show hs_Wd _ _ _ _ _ _ _ _ _ _ _ _ _ _ _ _ _ 198 _ [] σ195
                    refine s_iconst (pc := 198) C dX12_loopRead_198 ?_
                    refine s_zret (pc := 199) C (by omega) dX12_loopRead_199 ?_
                    refine ⟨_, rfl, ?_⟩
                    exact ⟨g195, f195, k195.1, ⟨by omega, by omega, fun _ => ⟨by omega, by omega, x195, fun h6 => by first | (exfalso; omega) | omega⟩, y195⟩⟩
                  · skip
                    refine s_aload_n (pc := 168) C dX12_loopRead_168 0 rfl ?_
                    refine s_iconst (pc := 169) C dX12_loopRead_169 ?_
                    refine s_callVi (pc := 170) C (c_X12_wrong l 2 (by first | omega | assumption | (constructor <;> omega) | (refine ⟨⟨?_, ?_⟩, ?_⟩ <;> omega) | (simp [hs_ss, hs_up]; omega) | (simp [hs_ss, hs_up]; done))) [vI 2] [] rfl rfl dX12_loopRead_170 wlX12_254 wiX12_wrong weX12_wrong wcX12_wrong wnX12 noX12_wrong (by decide) (by decide) (Nat.le_of_ble_eq_true rfl) (gy_self g142) rfl rfl ?_
                    rintro z170 σ170 k170
                    have g170 := gy_trans g142 k170.1
                    have f170 := frm_tr f142 (frm_mono (Q := (PLr a.toNat)) k170.2.1 (fun c j h => by simp [PWr, PLr] at h ⊢ <;> omega))
                    have p170_TY := TY_cg (frm_mono (Q := okTY) k170.2.1 (fun c j h => by simp [PWr, okTY] at h ⊢ <;> omega)) k142.1
                    have kf170 := k170.2.1
                    have x170_0_27 : σ170 0 27 = σ142 0 27 := kf170 0 27 rfl
                    have x170_0_28 : σ170 0 28 = σ142 0 28 := kf170 0 28 rfl
                    have x170_0_29 : σ170 0 29 = σ142 0 29 := kf170 0 29 rfl
                    have x170_0_30 : σ170 0 30 = σ142 0 30 := kf170 0 30 rfl
                    have x170_0_31 : σ170 0 31 = σ142 0 31 := kf170 0 31 rfl
                    have x170_0_32 : σ170 0 32 = σ142 0 32 := kf170 0 32 rfl
                    have x170_0_41 : σ170 0 41 = σ142 0 41 := kf170 0 41 rfl
                    have x170_16_atoNat : σ170 16 a.toNat = σ142 16 a.toNat := by first | exact kf170 16 a.toNat rfl | (rw [kf170 16 a.toNat rfl]; simp [hs_ss, hs_up]; done)
                    have x170_17_atoNat : σ170 17 a.toNat = σ142 17 a.toNat := by first | exact kf170 17 a.toNat rfl | (rw [kf170 17 a.toNat rfl]; simp [hs_ss, hs_up]; done)
                    have y170_23 : ∀ j : Nat, σ170 23 j = σ 23 j := fun j => (kf170 23 j rfl).trans (y142_23 j)
                    have k170 := k170.2.2
                    show hs_Wd _ _ _ _ _ _ _ _ _ _ _ _ _ _ _ _ _ 173 _ [vI z170] σ170
                    refine s_zret (pc := 173) C (by omega) dX12_loopRead_173 ?_
                    refine ⟨_, rfl, ?_⟩
                    exact ⟨g170, f170, p170_TY, ⟨by omega, by omega, fun q => by exfalso; omega, fun j _ => y170_23 j⟩⟩
                · skip
                  refine s_aload_n (pc := 154) C dX12_loopRead_154 0 rfl ?_
                  refine s_iconst (pc := 155) C dX12_loopRead_155 ?_
                  refine s_callVi (pc := 156) C (c_X12_wrong l 1 (by first | omega | assumption | (constructor <;> omega) | (refine ⟨⟨?_, ?_⟩, ?_⟩ <;> omega) | (simp [hs_ss, hs_up]; omega) | (simp [hs_ss, hs_up]; done))) [vI 1] [] rfl rfl dX12_loopRead_156 wlX12_254 wiX12_wrong weX12_wrong wcX12_wrong wnX12 noX12_wrong (by decide) (by decide) (Nat.le_of_ble_eq_true rfl) (gy_self g142) rfl rfl ?_
                  rintro z156 σ156 k156
                  have g156 := gy_trans g142 k156.1
                  have f156 := frm_tr f142 (frm_mono (Q := (PLr a.toNat)) k156.2.1 (fun c j h => by simp [PWr, PLr] at h ⊢ <;> omega))
                  have p156_TY := TY_cg (frm_mono (Q := okTY) k156.2.1 (fun c j h => by simp [PWr, okTY] at h ⊢ <;> omega)) k142.1
                  have kf156 := k156.2.1
                  have x156_0_27 : σ156 0 27 = σ142 0 27 := kf156 0 27 rfl
                  have x156_0_28 : σ156 0 28 = σ142 0 28 := kf156 0 28 rfl
                  have x156_0_29 : σ156 0 29 = σ142 0 29 := kf156 0 29 rfl
                  have x156_0_30 : σ156 0 30 = σ142 0 30 := kf156 0 30 rfl
                  have x156_0_31 : σ156 0 31 = σ142 0 31 := kf156 0 31 rfl
                  have x156_0_32 : σ156 0 32 = σ142 0 32 := kf156 0 32 rfl
                  have x156_0_41 : σ156 0 41 = σ142 0 41 := kf156 0 41 rfl
                  have x156_16_atoNat : σ156 16 a.toNat = σ142 16 a.toNat := by first | exact kf156 16 a.toNat rfl | (rw [kf156 16 a.toNat rfl]; simp [hs_ss, hs_up]; done)
                  have x156_17_atoNat : σ156 17 a.toNat = σ142 17 a.toNat := by first | exact kf156 17 a.toNat rfl | (rw [kf156 17 a.toNat rfl]; simp [hs_ss, hs_up]; done)
                  have y156_23 : ∀ j : Nat, σ156 23 j = σ 23 j := fun j => (kf156 23 j rfl).trans (y142_23 j)
                  have k156 := k156.2.2
                  show hs_Wd _ _ _ _ _ _ _ _ _ _ _ _ _ _ _ _ _ 159 _ [vI z156] σ156
                  refine s_zret (pc := 159) C (by omega) dX12_loopRead_159 ?_
                  refine ⟨_, rfl, ?_⟩
                  exact ⟨g156, f156, p156_TY, ⟨by omega, by omega, fun q => by exfalso; omega, fun j _ => y156_23 j⟩⟩
              · skip
                refine s_iconst (pc := 129) C dX12_loopRead_129 ?_
                refine s_zret (pc := 130) C (by omega) dX12_loopRead_130 ?_
                refine ⟨_, rfl, ?_⟩
                exact ⟨g123, f123, p123_TY, ⟨by omega, by omega, fun q => by exfalso; omega, fun j _ => y123_23 j⟩⟩
            · skip
              refine s_iconst (pc := 116) C dX12_loopRead_116 ?_
              refine s_goto (pc := 117) C (tgt := 121) dX12_loopRead_117 (by decide) ?_
              refine s_bipush (pc := 121) C dX12_loopRead_121 (by decide) ?_
              have r123_0_30 : (hs_ss (hs_ss σ81 20 a.toNat (σ81 0 43)) 21 a.toNat (σ81 0 44)) 0 30 = σ81 0 30 := rfl
              refine s_callVi (pc := 123) C (c_X12_numberRead l 1 99 (by first | omega | assumption | (constructor <;> omega) | (refine ⟨⟨?_, ?_⟩, ?_⟩ <;> omega) | (simp [hs_ss, hs_up]; omega) | (simp [hs_ss, hs_up]; done))) [vI 1, vI 99] [] rfl rfl dX12_loopRead_123 wlX12_272 wiX12_numberRead weX12_numberRead wcX12_numberRead wnX12 noX12_numberRead (by decide) (by decide) (Nat.le_of_ble_eq_true rfl) (gy_self g108) rfl rfl ?_
              rintro z123 σ123 k123
              have g123 := gy_trans g108 k123.1
              have f123 := frm_tr f108 (frm_mono (Q := (PLr a.toNat)) k123.2.1 (fun c j h => by simp [PWr, PLr] at h ⊢ <;> omega))
              have p123_TY := TY_cg (frm_mono (Q := okTY) k123.2.1 (fun c j h => by simp [PWr, okTY] at h ⊢ <;> omega)) p108_TY
              have kf123 := k123.2.1
              have x123_0_27 : σ123 0 27 = σ81 0 27 := kf123 0 27 rfl
              have x123_0_28 : σ123 0 28 = σ81 0 28 := kf123 0 28 rfl
              have x123_0_29 : σ123 0 29 = σ81 0 29 := kf123 0 29 rfl
              have x123_0_30 : σ123 0 30 = σ81 0 30 := kf123 0 30 rfl
              have x123_0_31 : σ123 0 31 = σ81 0 31 := kf123 0 31 rfl
              have x123_0_32 : σ123 0 32 = σ81 0 32 := kf123 0 32 rfl
              have x123_0_41 : σ123 0 41 = σ81 0 41 := kf123 0 41 rfl
              have x123_16_atoNat : σ123 16 a.toNat = σ81 16 a.toNat := by first | exact kf123 16 a.toNat rfl | (rw [kf123 16 a.toNat rfl]; simp [hs_ss, hs_up]; done)
              have x123_17_atoNat : σ123 17 a.toNat = σ81 17 a.toNat := by first | exact kf123 17 a.toNat rfl | (rw [kf123 17 a.toNat rfl]; simp [hs_ss, hs_up]; done)
              have y123_23 : ∀ j : Nat, σ123 23 j = σ 23 j := fun j => (kf123 23 j rfl).trans (y81_23 j)
              have k123 := k123.2.2
              show hs_Wd _ _ _ _ _ _ _ _ _ _ _ _ _ _ _ _ _ 126 _ [vI z123] σ123
              refine s_if_ne (pc := 126) C (tgt := 131) dX12_loopRead_126 (by decide) ⟨by omega, by omega⟩ (fun h126 => ?_) (fun h126 => ?_)
              · skip
                refine s_aload_n (pc := 131) C dX12_loopRead_131 0 rfl ?_
                refine s_getr (q := 0) (ci := 12) (N := 68) (CN := RX12) (T := TX12) (pc := 132) C 34 dX12_loopRead_132 wlX12_62 rfl rfl rfl wfX12 (by decide) rfl ?_
                refine s_iload_n (pc := 135) C dX12_loopRead_135 1 rfl ?_
                refine s_aload_n (pc := 136) C dX12_loopRead_136 0 rfl ?_
                refine s_geti (q := 0) (ci := 12) (N := 68) (CN := RX12) (T := TX12) (pc := 137) C 30 dX12_loopRead_137 wlX12_245 rfl rfl rfl wfX12 (by decide) rfl (σ123 0 30) rfl ?_
                have b137 : (-1 : Int) ≤ σ123 0 30 ∧ σ123 0 30 ≤ 10000 := g123.1 0 30
                refine s_iast (q := 16) (n := 60) (pc := 140) C dX12_loopRead_140 rfl (by omega) (by omega) (by decide) ?_
                have g140 := gy_set (z := (σ123 0 30)) g123 16 a.toNat rfl (0) (99) rfl ⟨by omega, by omega⟩
                have f140 := frm_set (P := (PLr a.toNat)) (z := (σ123 0 30)) f123 16 a.toNat (by simp [PLr] <;> omega)
                have p140_TY := TY_cg (frm_one (P := okTY) (z := (σ123 0 30)) 16 a.toNat rfl) p123_TY
                refine s_aload_n (pc := 141) C dX12_loopRead_141 0 rfl ?_
                have r142_0_27 : (hs_ss σ123 16 a.toNat (σ123 0 30)) 0 27 = σ123 0 27 := rfl
                have r142_0_28 : (hs_ss σ123 16 a.toNat (σ123 0 30)) 0 28 = σ123 0 28 := rfl
                refine s_callVv (pc := 142) C (c_X12_take l) [] [] rfl rfl dX12_loopRead_142 wlX12_257 wiX12_take weX12_take wcX12_take wnX12 noX12_take (by decide) (by decide) (Nat.le_of_ble_eq_true rfl) ⟨(gy_self g140), by first | omega | assumption | (constructor <;> omega) | (refine ⟨⟨?_, ?_⟩, ?_⟩ <;> omega) | (simp [hs_ss, hs_up]; omega) | (simp [hs_ss, hs_up]; done)⟩ rfl rfl ?_
                rintro σ142 k142
                have g142 := gy_trans g140 k142.1
                have f142 := frm_tr f140 (frm_mono (Q := (PLr a.toNat)) k142.2.1 (fun c j h => by simp [PTa, PLr] at h ⊢ <;> omega))
                have kf142 := k142.2.1
                have x142_0_27 : σ142 0 27 = σ123 0 27 := kf142 0 27 rfl
                have x142_0_32 : σ142 0 32 = σ123 0 32 := kf142 0 32 rfl
                have x142_0_41 : σ142 0 41 = σ123 0 41 := kf142 0 41 rfl
                have x142_16_atoNat : σ142 16 a.toNat = σ123 0 30 := by first | exact kf142 16 a.toNat rfl | (rw [kf142 16 a.toNat rfl]; simp [hs_ss, hs_up]; done)
                have x142_17_atoNat : σ142 17 a.toNat = σ123 17 a.toNat := by first | exact kf142 17 a.toNat rfl | (rw [kf142 17 a.toNat rfl]; simp [hs_ss, hs_up]; done)
                have y142_23 : ∀ j : Nat, σ142 23 j = σ 23 j := fun j => (kf142 23 j rfl).trans (y123_23 j)
                have k142 := k142.2.2
                have ut142 := k142.1
                unfold TY at ut142
                show hs_Wd _ _ _ _ _ _ _ _ _ _ _ _ _ _ _ _ _ 145 _ [] σ142
                refine s_aload_n (pc := 145) C dX12_loopRead_145 0 rfl ?_
                refine s_bipush (pc := 146) C dX12_loopRead_146 (by decide) ?_
                refine s_callVi (pc := 148) C (c_X12_isSign l 40 ⟨by omega, by omega⟩) [vI 40] [] rfl rfl dX12_loopRead_148 wlX12_251 wiX12_isSign weX12_isSign wcX12_isSign wnX12 noX12_isSign (by decide) (by decide) (Nat.le_of_ble_eq_true rfl) (gy_self g142) rfl rfl ?_
                rintro z148 _ ⟨rfl, k148⟩
                show hs_Wd _ _ _ _ _ _ _ _ _ _ _ _ _ _ _ _ _ 151 _ [vI z148] σ142
                refine s_if_ne (pc := 151) C (tgt := 160) dX12_loopRead_151 (by decide) ⟨by omega, by omega⟩ (fun h151 => ?_) (fun h151 => ?_)
                · skip
                  refine s_aload_n (pc := 160) C dX12_loopRead_160 0 rfl ?_
                  refine s_geti (q := 0) (ci := 12) (N := 68) (CN := RX12) (T := TX12) (pc := 161) C 41 dX12_loopRead_161 wlX12_260 rfl rfl rfl wfX12 (by decide) rfl (σ142 0 41) rfl ?_
                  have b161 : (0 : Int) ≤ σ142 0 41 ∧ σ142 0 41 ≤ 5 := g142.1 0 41
                  refine s_iconst (pc := 164) C dX12_loopRead_164 ?_
                  refine s_icmp_ne (pc := 165) C (tgt := 174) dX12_loopRead_165 (by decide) ⟨by omega, by omega⟩ ⟨by decide, by decide⟩ (fun h165 => ?_) (fun h165 => ?_)
                  · skip
                    have e41 : σ142 0 41 = σ 0 41 := by omega
                    refine s_aload_n (pc := 174) C dX12_loopRead_174 0 rfl ?_
                    refine s_getr (q := 0) (ci := 12) (N := 68) (CN := RX12) (T := TX12) (pc := 175) C 42 dX12_loopRead_175 wlX12_83 rfl rfl rfl wfX12 (by decide) rfl ?_
                    refine s_aload_n (pc := 178) C dX12_loopRead_178 0 rfl ?_
                    refine s_geti (q := 0) (ci := 12) (N := 68) (CN := RX12) (T := TX12) (pc := 179) C 41 dX12_loopRead_179 wlX12_260 rfl rfl rfl wfX12 (by decide) rfl (σ142 0 41) rfl ?_
                    have b179 : (0 : Int) ≤ σ142 0 41 ∧ σ142 0 41 ≤ 5 := g142.1 0 41
                    refine s_iload_n (pc := 182) C dX12_loopRead_182 1 rfl ?_
                    refine s_iast (q := 23) (n := 5) (pc := 183) C dX12_loopRead_183 rfl (by omega) (by omega) (by decide) ?_
                    have g183 := gy_set (z := a) g142 23 ((σ142 0 41).toNat) rfl (0) (59) rfl ⟨by omega, by omega⟩
                    have f183 := frm_set (P := (PLr a.toNat)) (z := a) f142 23 ((σ142 0 41).toNat) (by simp [PLr] <;> omega)
                    have p183_TY := TY_cg (frm_one (P := okTY) (z := a) 23 ((σ142 0 41).toNat) rfl) k142.1
                    refine s_aload_n (pc := 184) C dX12_loopRead_184 0 rfl ?_
                    refine s_dup (pc := 185) C dX12_loopRead_185 rfl ?_
                    refine s_geti (q := 0) (ci := 12) (N := 68) (CN := RX12) (T := TX12) (pc := 186) C 41 dX12_loopRead_186 wlX12_260 rfl rfl rfl wfX12 (by decide) rfl (σ142 0 41) rfl ?_
                    have b186 : (0 : Int) ≤ σ142 0 41 ∧ σ142 0 41 ≤ 5 := g183.1 0 41
                    refine s_iconst (pc := 189) C dX12_loopRead_189 ?_
                    refine s_iadd (pc := 190) C dX12_loopRead_190 ?_
                    refine s_puti (q := 0) (ci := 12) (N := 68) (CN := RX12) (T := TX12) (ty0 := tyX12) (ty := .int) (pc := 191) C 41 dX12_loopRead_191 wlX12_260 rfl rfl rfl wfX12 tyX12_ok nmX12 (by decide) rfl rfl rfl (vp_nar_int _) rfl ?_
                    have g191 := gy_set (z := ((σ142 0 41) + 1)) g183 0 41 rfl (0) (5) rfl ⟨by omega, by omega⟩
                    have f191 := frm_set (P := (PLr a.toNat)) (z := ((σ142 0 41) + 1)) f183 0 41 (by simp [PLr] <;> omega)
                    have p191_TY := TY_cg (frm_one (P := okTY) (z := ((σ142 0 41) + 1)) 0 41 rfl) p183_TY
                    refine s_aload_n (pc := 194) C dX12_loopRead_194 0 rfl ?_
                    have r195_0_27 : (hs_ss (hs_ss σ142 23 ((σ142 0 41).toNat) a) 0 41 ((σ142 0 41) + 1)) 0 27 = σ142 0 27 := rfl
                    have r195_0_28 : (hs_ss (hs_ss σ142 23 ((σ142 0 41).toNat) a) 0 41 ((σ142 0 41) + 1)) 0 28 = σ142 0 28 := rfl
                    refine s_callVv (pc := 195) C (c_X12_take l) [] [] rfl rfl dX12_loopRead_195 wlX12_257 wiX12_take weX12_take wcX12_take wnX12 noX12_take (by decide) (by decide) (Nat.le_of_ble_eq_true rfl) ⟨(gy_self g191), by first | omega | assumption | (constructor <;> omega) | (refine ⟨⟨?_, ?_⟩, ?_⟩ <;> omega) | (simp [hs_ss, hs_up]; omega) | (simp [hs_ss, hs_up]; done)⟩ rfl rfl ?_
                    rintro σ195 k195
                    have g195 := gy_trans g191 k195.1
                    have f195 := frm_tr f191 (frm_mono (Q := (PLr a.toNat)) k195.2.1 (fun c j h => by simp [PTa, PLr] at h ⊢ <;> omega))
                    have kf195 := k195.2.1
                    have x195_0_27 : σ195 0 27 = σ142 0 27 := kf195 0 27 rfl
                    have x195_0_32 : σ195 0 32 = σ142 0 32 := kf195 0 32 rfl
                    have x195_0_41 : σ195 0 41 = (σ142 0 41) + 1 := kf195 0 41 rfl
                    have x195_16_atoNat : σ195 16 a.toNat = σ142 16 a.toNat := by first | exact kf195 16 a.toNat rfl | (rw [kf195 16 a.toNat rfl]; simp [hs_ss, hs_up]; done)
                    have x195_17_atoNat : σ195 17 a.toNat = σ142 17 a.toNat := by first | exact kf195 17 a.toNat rfl | (rw [kf195 17 a.toNat rfl]; simp [hs_ss, hs_up]; done)
                    have k195 := k195.2.2
                    have ut195 := k195.1
                    unfold TY at ut195
                    have y195 : ∀ j : Nat, j ≠ (σ 0 41).toNat → σ195 23 j = σ 23 j := fun j hj => by rw [kf195 23 j rfl]; simp [hs_ss, hs_up, e41, hj]; exact y142_23 j
                    have x195 : σ195 23 (σ 0 41).toNat = a := by rw [kf195 23 _ rfl]; simp [hs_ss, hs_up, e41]
                    show hs_Wd _ _ _ _ _ _ _ _ _ _ _ _ _ _ _ _ _ 198 _ [] σ195
                    refine s_iconst (pc := 198) C dX12_loopRead_198 ?_
                    refine s_zret (pc := 199) C (by omega) dX12_loopRead_199 ?_
                    refine ⟨_, rfl, ?_⟩
                    exact ⟨g195, f195, k195.1, ⟨by omega, by omega, fun _ => ⟨by omega, by omega, x195, fun h6 => by first | (exfalso; omega) | omega⟩, y195⟩⟩
                  · skip
                    refine s_aload_n (pc := 168) C dX12_loopRead_168 0 rfl ?_
                    refine s_iconst (pc := 169) C dX12_loopRead_169 ?_
                    refine s_callVi (pc := 170) C (c_X12_wrong l 2 (by first | omega | assumption | (constructor <;> omega) | (refine ⟨⟨?_, ?_⟩, ?_⟩ <;> omega) | (simp [hs_ss, hs_up]; omega) | (simp [hs_ss, hs_up]; done))) [vI 2] [] rfl rfl dX12_loopRead_170 wlX12_254 wiX12_wrong weX12_wrong wcX12_wrong wnX12 noX12_wrong (by decide) (by decide) (Nat.le_of_ble_eq_true rfl) (gy_self g142) rfl rfl ?_
                    rintro z170 σ170 k170
                    have g170 := gy_trans g142 k170.1
                    have f170 := frm_tr f142 (frm_mono (Q := (PLr a.toNat)) k170.2.1 (fun c j h => by simp [PWr, PLr] at h ⊢ <;> omega))
                    have p170_TY := TY_cg (frm_mono (Q := okTY) k170.2.1 (fun c j h => by simp [PWr, okTY] at h ⊢ <;> omega)) k142.1
                    have kf170 := k170.2.1
                    have x170_0_27 : σ170 0 27 = σ142 0 27 := kf170 0 27 rfl
                    have x170_0_28 : σ170 0 28 = σ142 0 28 := kf170 0 28 rfl
                    have x170_0_29 : σ170 0 29 = σ142 0 29 := kf170 0 29 rfl
                    have x170_0_30 : σ170 0 30 = σ142 0 30 := kf170 0 30 rfl
                    have x170_0_31 : σ170 0 31 = σ142 0 31 := kf170 0 31 rfl
                    have x170_0_32 : σ170 0 32 = σ142 0 32 := kf170 0 32 rfl
                    have x170_0_41 : σ170 0 41 = σ142 0 41 := kf170 0 41 rfl
                    have x170_16_atoNat : σ170 16 a.toNat = σ142 16 a.toNat := by first | exact kf170 16 a.toNat rfl | (rw [kf170 16 a.toNat rfl]; simp [hs_ss, hs_up]; done)
                    have x170_17_atoNat : σ170 17 a.toNat = σ142 17 a.toNat := by first | exact kf170 17 a.toNat rfl | (rw [kf170 17 a.toNat rfl]; simp [hs_ss, hs_up]; done)
                    have y170_23 : ∀ j : Nat, σ170 23 j = σ 23 j := fun j => (kf170 23 j rfl).trans (y142_23 j)
                    have k170 := k170.2.2
                    show hs_Wd _ _ _ _ _ _ _ _ _ _ _ _ _ _ _ _ _ 173 _ [vI z170] σ170
                    refine s_zret (pc := 173) C (by omega) dX12_loopRead_173 ?_
                    refine ⟨_, rfl, ?_⟩
                    exact ⟨g170, f170, p170_TY, ⟨by omega, by omega, fun q => by exfalso; omega, fun j _ => y170_23 j⟩⟩
                · skip
                  refine s_aload_n (pc := 154) C dX12_loopRead_154 0 rfl ?_
                  refine s_iconst (pc := 155) C dX12_loopRead_155 ?_
                  refine s_callVi (pc := 156) C (c_X12_wrong l 1 (by first | omega | assumption | (constructor <;> omega) | (refine ⟨⟨?_, ?_⟩, ?_⟩ <;> omega) | (simp [hs_ss, hs_up]; omega) | (simp [hs_ss, hs_up]; done))) [vI 1] [] rfl rfl dX12_loopRead_156 wlX12_254 wiX12_wrong weX12_wrong wcX12_wrong wnX12 noX12_wrong (by decide) (by decide) (Nat.le_of_ble_eq_true rfl) (gy_self g142) rfl rfl ?_
                  rintro z156 σ156 k156
                  have g156 := gy_trans g142 k156.1
                  have f156 := frm_tr f142 (frm_mono (Q := (PLr a.toNat)) k156.2.1 (fun c j h => by simp [PWr, PLr] at h ⊢ <;> omega))
                  have p156_TY := TY_cg (frm_mono (Q := okTY) k156.2.1 (fun c j h => by simp [PWr, okTY] at h ⊢ <;> omega)) k142.1
                  have kf156 := k156.2.1
                  have x156_0_27 : σ156 0 27 = σ142 0 27 := kf156 0 27 rfl
                  have x156_0_28 : σ156 0 28 = σ142 0 28 := kf156 0 28 rfl
                  have x156_0_29 : σ156 0 29 = σ142 0 29 := kf156 0 29 rfl
                  have x156_0_30 : σ156 0 30 = σ142 0 30 := kf156 0 30 rfl
                  have x156_0_31 : σ156 0 31 = σ142 0 31 := kf156 0 31 rfl
                  have x156_0_32 : σ156 0 32 = σ142 0 32 := kf156 0 32 rfl
                  have x156_0_41 : σ156 0 41 = σ142 0 41 := kf156 0 41 rfl
                  have x156_16_atoNat : σ156 16 a.toNat = σ142 16 a.toNat := by first | exact kf156 16 a.toNat rfl | (rw [kf156 16 a.toNat rfl]; simp [hs_ss, hs_up]; done)
                  have x156_17_atoNat : σ156 17 a.toNat = σ142 17 a.toNat := by first | exact kf156 17 a.toNat rfl | (rw [kf156 17 a.toNat rfl]; simp [hs_ss, hs_up]; done)
                  have y156_23 : ∀ j : Nat, σ156 23 j = σ 23 j := fun j => (kf156 23 j rfl).trans (y142_23 j)
                  have k156 := k156.2.2
                  show hs_Wd _ _ _ _ _ _ _ _ _ _ _ _ _ _ _ _ _ 159 _ [vI z156] σ156
                  refine s_zret (pc := 159) C (by omega) dX12_loopRead_159 ?_
                  refine ⟨_, rfl, ?_⟩
                  exact ⟨g156, f156, p156_TY, ⟨by omega, by omega, fun q => by exfalso; omega, fun j _ => y156_23 j⟩⟩
              · skip
                refine s_iconst (pc := 129) C dX12_loopRead_129 ?_
                refine s_zret (pc := 130) C (by omega) dX12_loopRead_130 ?_
                refine ⟨_, rfl, ?_⟩
                exact ⟨g123, f123, p123_TY, ⟨by omega, by omega, fun q => by exfalso; omega, fun j _ => y123_23 j⟩⟩
          · skip
            refine s_iconst (pc := 87) C dX12_loopRead_87 ?_
            refine s_zret (pc := 88) C (by omega) dX12_loopRead_88 ?_
            refine ⟨_, rfl, ?_⟩
            exact ⟨g81, f81, p81_TY, ⟨by omega, by omega, fun q => by exfalso; omega, fun j _ => y81_23 j⟩⟩
        · skip
          refine s_iconst (pc := 58) C dX12_loopRead_58 ?_
          refine s_zret (pc := 59) C (by omega) dX12_loopRead_59 ?_
          refine ⟨_, rfl, ?_⟩
          exact ⟨g52, f52, p52_TY, ⟨by omega, by omega, fun q => by exfalso; omega, fun j _ => y52_23 j⟩⟩
      · skip
        refine s_aload_n (pc := 31) C dX12_loopRead_31 0 rfl ?_
        refine s_iconst (pc := 32) C dX12_loopRead_32 ?_
        refine s_callVi (pc := 33) C (c_X12_wrong l 3 (by first | omega | assumption | (constructor <;> omega) | (refine ⟨⟨?_, ?_⟩, ?_⟩ <;> omega) | (simp [hs_ss, hs_up]; omega) | (simp [hs_ss, hs_up]; done))) [vI 3] [] rfl rfl dX12_loopRead_33 wlX12_254 wiX12_wrong weX12_wrong wcX12_wrong wnX12 noX12_wrong (by decide) (by decide) (Nat.le_of_ble_eq_true rfl) (gy_self g0) rfl rfl ?_
        rintro z33 σ33 k33
        have g33 := gy_trans g0 k33.1
        have f33 := frm_tr f0 (frm_mono (Q := (PLr a.toNat)) k33.2.1 (fun c j h => by simp [PWr, PLr] at h ⊢ <;> omega))
        have p33_TY := TY_cg (frm_mono (Q := okTY) k33.2.1 (fun c j h => by simp [PWr, okTY] at h ⊢ <;> omega)) p0_TY
        have kf33 := k33.2.1
        have x33_0_27 : σ33 0 27 = σ 0 27 := kf33 0 27 rfl
        have x33_0_28 : σ33 0 28 = σ 0 28 := kf33 0 28 rfl
        have x33_0_29 : σ33 0 29 = σ 0 29 := kf33 0 29 rfl
        have x33_0_30 : σ33 0 30 = σ 0 30 := kf33 0 30 rfl
        have x33_0_31 : σ33 0 31 = σ 0 31 := kf33 0 31 rfl
        have x33_0_32 : σ33 0 32 = σ 0 32 := kf33 0 32 rfl
        have x33_0_41 : σ33 0 41 = σ 0 41 := kf33 0 41 rfl
        have x33_16_atoNat : σ33 16 a.toNat = σ 16 a.toNat := by first | exact kf33 16 a.toNat rfl | (rw [kf33 16 a.toNat rfl]; simp [hs_ss, hs_up]; done)
        have x33_17_atoNat : σ33 17 a.toNat = σ 17 a.toNat := by first | exact kf33 17 a.toNat rfl | (rw [kf33 17 a.toNat rfl]; simp [hs_ss, hs_up]; done)
        have y33_23 : ∀ j : Nat, σ33 23 j = σ 23 j := fun j => (kf33 23 j rfl).trans (y0_23 j)
        have k33 := k33.2.2
        show hs_Wd _ _ _ _ _ _ _ _ _ _ _ _ _ _ _ _ _ 36 _ [vI z33] σ33
        refine s_zret (pc := 36) C (by omega) dX12_loopRead_36 ?_
        refine ⟨_, rfl, ?_⟩
        exact ⟨g33, f33, p33_TY, ⟨by omega, by omega, fun q => by exfalso; omega, fun j _ => y33_23 j⟩⟩
    · skip
      refine s_aload_n (pc := 14) C dX12_loopRead_14 0 rfl ?_
      refine s_iconst (pc := 15) C dX12_loopRead_15 ?_
      refine s_callVi (pc := 16) C (c_X12_wrong l 1 (by first | omega | assumption | (constructor <;> omega) | (refine ⟨⟨?_, ?_⟩, ?_⟩ <;> omega) | (simp [hs_ss, hs_up]; omega) | (simp [hs_ss, hs_up]; done))) [vI 1] [] rfl rfl dX12_loopRead_16 wlX12_254 wiX12_wrong weX12_wrong wcX12_wrong wnX12 noX12_wrong (by decide) (by decide) (Nat.le_of_ble_eq_true rfl) (gy_self g0) rfl rfl ?_
      rintro z16 σ16 k16
      have g16 := gy_trans g0 k16.1
      have f16 := frm_tr f0 (frm_mono (Q := (PLr a.toNat)) k16.2.1 (fun c j h => by simp [PWr, PLr] at h ⊢ <;> omega))
      have p16_TY := TY_cg (frm_mono (Q := okTY) k16.2.1 (fun c j h => by simp [PWr, okTY] at h ⊢ <;> omega)) p0_TY
      have kf16 := k16.2.1
      have x16_0_27 : σ16 0 27 = σ 0 27 := kf16 0 27 rfl
      have x16_0_28 : σ16 0 28 = σ 0 28 := kf16 0 28 rfl
      have x16_0_29 : σ16 0 29 = σ 0 29 := kf16 0 29 rfl
      have x16_0_30 : σ16 0 30 = σ 0 30 := kf16 0 30 rfl
      have x16_0_31 : σ16 0 31 = σ 0 31 := kf16 0 31 rfl
      have x16_0_32 : σ16 0 32 = σ 0 32 := kf16 0 32 rfl
      have x16_0_41 : σ16 0 41 = σ 0 41 := kf16 0 41 rfl
      have x16_16_atoNat : σ16 16 a.toNat = σ 16 a.toNat := by first | exact kf16 16 a.toNat rfl | (rw [kf16 16 a.toNat rfl]; simp [hs_ss, hs_up]; done)
      have x16_17_atoNat : σ16 17 a.toNat = σ 17 a.toNat := by first | exact kf16 17 a.toNat rfl | (rw [kf16 17 a.toNat rfl]; simp [hs_ss, hs_up]; done)
      have y16_23 : ∀ j : Nat, σ16 23 j = σ 23 j := fun j => (kf16 23 j rfl).trans (y0_23 j)
      have k16 := k16.2.2
      show hs_Wd _ _ _ _ _ _ _ _ _ _ _ _ _ _ _ _ _ 19 _ [vI z16] σ16
      refine s_zret (pc := 19) C (by omega) dX12_loopRead_19 ?_
      refine ⟨_, rfl, ?_⟩
      exact ⟨g16, f16, p16_TY, ⟨by omega, by omega, fun q => by exfalso; omega, fun j _ => y16_23 j⟩⟩
set_option maxHeartbeats 4000000 in
set_option maxRecDepth 100000 in
theorem c_X12_actRead (l : Launch)  : hs_Met l yX12_actRead cX12_actRead 3 (some .boolean) 5 SHY (fun ad => [.ref (ad 0)]) (fun σ => GY σ σ ∧ TY σ ∧ NI σ) (hs_PI (fun σ z σ1 => GY σ σ1 ∧ FRM PAr σ σ1 ∧ TY σ1 ∧ (z = 0 ∨ z = 1) ∧ (z = 1 → NI σ1 ∧ σ 0 31 < σ1 0 31))) := by
  refine hs_from pfX12_actRead (fun _ => Nat.le_of_ble_eq_true rfl) ?_
  intro p e s m args below meth c D dA ad A σ C hpre
  have C : hs_C p s m args meth c D dA SHY ad A 3 cX12_actRead RX12 (some .boolean) := C
  obtain ⟨g0, p0_TY, hpre⟩ := hpre
  have f0 : FRM PAr σ σ := frm_rf
  have up0_TY := p0_TY
  unfold TY at up0_TY
  have b32 : (0 : Int) ≤ σ 0 32 ∧ σ 0 32 ≤ 60 := g0.1 0 32
  have b41 : (0 : Int) ≤ σ 0 41 ∧ σ 0 41 ≤ 5 := g0.1 0 41
  show hs_Wd p l e 5 s m args below meth c D dA SHY ad A 3 (hs_PI (fun σ z σ1 => GY σ σ1 ∧ FRM PAr σ σ1 ∧ TY σ1 ∧ (z = 0 ∨ z = 1) ∧ (z = 1 → NI σ1 ∧ σ 0 31 < σ1 0 31)) σ) 0 [(0, .ref (ad 0))] [] σ
  refine s_aload_n (pc := 0) C dX12_actRead_0 0 rfl ?_
  refine s_bipush (pc := 1) C dX12_actRead_1 (by decide) ?_
  refine s_callVi (pc := 3) C (c_X12_isSign l 41 ⟨by omega, by omega⟩) [vI 41] [] rfl rfl dX12_actRead_3 wlX12_251 wiX12_isSign weX12_isSign wcX12_isSign wnX12 noX12_isSign (by decide) (by decide) (Nat.le_of_ble_eq_true rfl) (gy_self g0) rfl rfl ?_
  rintro z3 _ ⟨rfl, k3⟩
  show hs_Wd _ _ _ _ _ _ _ _ _ _ _ _ _ _ _ _ _ 6 _ [vI z3] σ
  refine s_if_eq (pc := 6) C (tgt := 50) dX12_actRead_6 (by decide) ⟨by omega, by omega⟩ (fun h6 => ?_) (fun h6 => ?_)
  · skip
    refine s_aload_n (pc := 50) C dX12_actRead_50 0 rfl ?_
    refine s_geti (q := 0) (ci := 12) (N := 68) (CN := RX12) (T := TX12) (pc := 51) C 29 dX12_actRead_51 wlX12_236 rfl rfl rfl wfX12 (by decide) rfl (σ 0 29) rfl ?_
    have b51 : (0 : Int) ≤ σ 0 29 ∧ σ 0 29 ≤ 5 := g0.1 0 29
    refine s_iconst (pc := 54) C dX12_actRead_54 ?_
    refine s_icmp_eq (pc := 55) C (tgt := 64) dX12_actRead_55 (by decide) ⟨by omega, by omega⟩ ⟨by decide, by decide⟩ (fun h55 => ?_) (fun h55 => ?_)
    · skip
      refine s_aload_n (pc := 64) C dX12_actRead_64 0 rfl ?_
      refine s_geti (q := 0) (ci := 12) (N := 68) (CN := RX12) (T := TX12) (pc := 65) C 32 dX12_actRead_65 wlX12_282 rfl rfl rfl wfX12 (by decide) rfl (σ 0 32) rfl ?_
      have b65 : (0 : Int) ≤ σ 0 32 ∧ σ 0 32 ≤ 60 := g0.1 0 32
      refine s_bipush (pc := 68) C dX12_actRead_68 (by decide) ?_
      refine s_icmp_ne (pc := 70) C (tgt := 79) dX12_actRead_70 (by decide) ⟨by omega, by omega⟩ ⟨by decide, by decide⟩ (fun h70 => ?_) (fun h70 => ?_)
      · skip
        refine s_aload_n (pc := 79) C dX12_actRead_79 0 rfl ?_
        refine s_geti (q := 0) (ci := 12) (N := 68) (CN := RX12) (T := TX12) (pc := 80) C 30 dX12_actRead_80 wlX12_245 rfl rfl rfl wfX12 (by decide) rfl (σ 0 30) rfl ?_
        have b80 : (-1 : Int) ≤ σ 0 30 ∧ σ 0 30 ≤ 10000 := g0.1 0 30
        refine s_istore_n (pc := 83) C [(1, vI (σ 0 30)), (0, .ref (ad 0))] dX12_actRead_83 (by decide) rfl ?_
        refine s_aload_n (pc := 84) C dX12_actRead_84 1 rfl ?_
        refine s_geti (q := 0) (ci := 12) (N := 68) (CN := RX12) (T := TX12) (pc := 85) C 32 dX12_actRead_85 wlX12_282 rfl rfl rfl wfX12 (by decide) rfl (σ 0 32) rfl ?_
        have b85 : (0 : Int) ≤ σ 0 32 ∧ σ 0 32 ≤ 60 := g0.1 0 32
        refine s_istore_n (pc := 88) C [(2, vI (σ 0 32)), (1, vI (σ 0 30)), (0, .ref (ad 0))] dX12_actRead_88 (by decide) rfl ?_
        refine s_aload_n (pc := 89) C dX12_actRead_89 2 rfl ?_
        refine s_getr (q := 0) (ci := 12) (N := 68) (CN := RX12) (T := TX12) (pc := 90) C 33 dX12_actRead_90 wlX12_59 rfl rfl rfl wfX12 (by decide) rfl ?_
        refine s_iload_n (pc := 93) C dX12_actRead_93 0 rfl ?_
        refine s_iload_n (pc := 94) C dX12_actRead_94 1 rfl ?_
        refine s_iast (q := 15) (n := 60) (pc := 95) C dX12_actRead_95 rfl (by omega) (by omega) (by decide) ?_
        have g95 := gy_set (z := (σ 0 30)) g0 15 ((σ 0 32).toNat) rfl (0) (6) rfl ⟨by omega, by omega⟩
        have f95 := frm_set (P := PAr) (z := (σ 0 30)) f0 15 ((σ 0 32).toNat) rfl
        have p95_TY := TY_cg (frm_one (P := okTY) (z := (σ 0 30)) 15 ((σ 0 32).toNat) rfl) p0_TY
        refine s_aload_n (pc := 96) C dX12_actRead_96 2 rfl ?_
        refine s_getr (q := 0) (ci := 12) (N := 68) (CN := RX12) (T := TX12) (pc := 97) C 35 dX12_actRead_97 wlX12_65 rfl rfl rfl wfX12 (by decide) rfl ?_
        refine s_iload_n (pc := 100) C dX12_actRead_100 0 rfl ?_
        refine s_iconst (pc := 101) C dX12_actRead_101 ?_
        refine s_iast (q := 17) (n := 60) (pc := 102) C dX12_actRead_102 rfl (by omega) (by omega) (by decide) ?_
        have g102 := gy_set (z := ((-1))) g95 17 ((σ 0 32).toNat) rfl (-1) (7) rfl ⟨by omega, by omega⟩
        have f102 := frm_set (P := PAr) (z := ((-1))) f95 17 ((σ 0 32).toNat) rfl
        have p102_TY := TY_cg (frm_one (P := okTY) (z := ((-1))) 17 ((σ 0 32).toNat) rfl) p95_TY
        refine s_aload_n (pc := 103) C dX12_actRead_103 2 rfl ?_
        refine s_dup (pc := 104) C dX12_actRead_104 rfl ?_
        refine s_geti (q := 0) (ci := 12) (N := 68) (CN := RX12) (T := TX12) (pc := 105) C 32 dX12_actRead_105 wlX12_282 rfl rfl rfl wfX12 (by decide) rfl (σ 0 32) rfl ?_
        have b105 : (0 : Int) ≤ σ 0 32 ∧ σ 0 32 ≤ 60 := g102.1 0 32
        refine s_iconst (pc := 108) C dX12_actRead_108 ?_
        refine s_iadd (pc := 109) C dX12_actRead_109 ?_
        refine s_puti (q := 0) (ci := 12) (N := 68) (CN := RX12) (T := TX12) (ty0 := tyX12) (ty := .int) (pc := 110) C 32 dX12_actRead_110 wlX12_282 rfl rfl rfl wfX12 tyX12_ok nmX12 (by decide) rfl rfl rfl (vp_nar_int _) rfl ?_
        have g110 := gy_set (z := ((σ 0 32) + 1)) g102 0 32 rfl (0) (60) rfl ⟨by omega, by omega⟩
        have f110 := frm_set (P := PAr) (z := ((σ 0 32) + 1)) f102 0 32 rfl
        have p110_TY := TY_cg (frm_one (P := okTY) (z := ((σ 0 32) + 1)) 0 32 rfl) p102_TY
        refine s_aload_n (pc := 113) C dX12_actRead_113 2 rfl ?_
        have r114_0_27 : (hs_ss (hs_ss (hs_ss σ 15 ((σ 0 32).toNat) (σ 0 30)) 17 ((σ 0 32).toNat) ((-1))) 0 32 ((σ 0 32) + 1)) 0 27 = σ 0 27 := rfl
        have r114_0_28 : (hs_ss (hs_ss (hs_ss σ 15 ((σ 0 32).toNat) (σ 0 30)) 17 ((σ 0 32).toNat) ((-1))) 0 32 ((σ 0 32) + 1)) 0 28 = σ 0 28 := rfl
        refine s_callVv (pc := 114) C (c_X12_take l) [] [] rfl rfl dX12_actRead_114 wlX12_257 wiX12_take weX12_take wcX12_take wnX12 noX12_take (by decide) (by decide) (Nat.le_of_ble_eq_true rfl) ⟨(gy_self g110), by first | omega | assumption | (constructor <;> omega) | (refine ⟨⟨?_, ?_⟩, ?_⟩ <;> omega) | (simp [hs_ss, hs_up]; omega) | (simp [hs_ss, hs_up]; done)⟩ rfl rfl ?_
        rintro σ114 k114
        have g114 := gy_trans g110 k114.1
        have f114 := frm_tr f110 (frm_mono (Q := PAr) k114.2.1 (fun c j h => by simp [PTa, PAr] at h ⊢ <;> omega))
        have kf114 := k114.2.1
        have x114_0_27 : σ114 0 27 = σ 0 27 := kf114 0 27 rfl
        have x114_0_32 : σ114 0 32 = (σ 0 32) + 1 := kf114 0 32 rfl
        have x114_0_41 : σ114 0 41 = σ 0 41 := kf114 0 41 rfl
        have k114 := k114.2.2
        have ut114 := k114.1
        unfold TY at ut114
        show hs_Wd _ _ _ _ _ _ _ _ _ _ _ _ _ _ _ _ _ 117 _ [] σ114
        refine s_iload_n (pc := 117) C dX12_actRead_117 1 rfl ?_
        refine s_iconst (pc := 118) C dX12_actRead_118 ?_
        refine s_icmp_gt (pc := 119) C (tgt := 129) dX12_actRead_119 (by decide) ⟨by omega, by omega⟩ ⟨by decide, by decide⟩ (fun h119 => ?_) (fun h119 => ?_)
        · skip
          refine s_iload_n (pc := 129) C dX12_actRead_129 1 rfl ?_
          refine s_iconst (pc := 130) C dX12_actRead_130 ?_
          refine s_icmp_ge (pc := 131) C (tgt := 143) dX12_actRead_131 (by decide) ⟨by omega, by omega⟩ ⟨by decide, by decide⟩ (fun h131 => ?_) (fun h131 => ?_)
          · skip
            refine s_aload_n (pc := 143) C dX12_actRead_143 2 rfl ?_
            refine s_iload_n (pc := 144) C dX12_actRead_144 0 rfl ?_
            refine s_iload_n (pc := 145) C dX12_actRead_145 1 rfl ?_
            refine s_callVi (pc := 146) C (c_X12_loopRead l (σ 0 32) (by first | omega | assumption | (constructor <;> omega) | (refine ⟨⟨?_, ?_⟩, ?_⟩ <;> omega) | (simp [hs_ss, hs_up]; omega) | (simp [hs_ss, hs_up]; done)) (σ 0 30) (by first | omega | assumption | (constructor <;> omega) | (refine ⟨⟨?_, ?_⟩, ?_⟩ <;> omega) | (simp [hs_ss, hs_up]; omega) | (simp [hs_ss, hs_up]; done))) [vI (σ 0 32), vI (σ 0 30)] [] rfl rfl dX12_actRead_146 wlX12_288 wiX12_loopRead weX12_loopRead wcX12_loopRead wnX12 noX12_loopRead (by decide) (by decide) (Nat.le_of_ble_eq_true rfl) ⟨(gy_self g114), k114.1⟩ rfl rfl ?_
            rintro z146 σ146 k146
            have g146 := gy_trans g114 k146.1
            have f146 := frm_tr f114 (frm_mono (Q := PAr) k146.2.1 (fun c j h => by simp [PLr, PAr] at h ⊢ <;> omega))
            have p146_TY := k146.2.2.1
            have up146_TY := p146_TY
            unfold TY at up146_TY
            have kf146 := k146.2.1
            have x146_0_27 : σ146 0 27 = σ114 0 27 := kf146 0 27 rfl
            have x146_0_32 : σ146 0 32 = σ114 0 32 := kf146 0 32 rfl
            have k146 := k146.2.2.2
            show hs_Wd _ _ _ _ _ _ _ _ _ _ _ _ _ _ _ _ _ 149 _ [vI z146] σ146
            refine s_zret (pc := 149) C (by omega) dX12_actRead_149 ?_
            refine ⟨_, rfl, ?_⟩
            have e15 : σ146 15 (σ 0 32).toNat = σ 0 30 := by rw [kf146 15 _ rfl, kf114 15 _ rfl]; simp [hs_ss, hs_up]
            have hN : z146 = 1 → NI σ146 := fun q => ni_add hpre (n := (σ 0 32).toNat) (by omega) (by omega) (fun i hi => by rw [kf146 15 i rfl, kf114 15 i rfl]; simp [hs_ss, hs_up, (show i ≠ (σ 0 32).toNat by omega)]) (fun i hi => by rw [kf146 16 i (by simp [PLr]; omega), kf114 16 i rfl]; rfl) (fun i hi => by rw [kf146 17 i (by simp [PLr]; omega), kf114 17 i rfl]; simp [hs_ss, hs_up, (show i ≠ (σ 0 32).toNat by omega)]) (fun i hi => by rw [kf146 22 i rfl, kf114 22 i rfl]; rfl) (by unfold OKA; rw [e15]; exact ⟨fun q6 => (k146.2.2.1 q).2.2.2 (by omega), fun q => by exfalso; omega⟩) (Or.inr ⟨by omega, by omega, by omega, (k146.2.2.1 q).2.2.1.trans (by omega), fun k hk => by rw [k146.2.2.2 k (by omega), kf114 23 k rfl]; rfl⟩)
            exact ⟨g146, f146, p146_TY, by omega, fun q => ⟨hN q, by omega⟩⟩
          · skip
            refine s_aload_n (pc := 134) C dX12_actRead_134 2 rfl ?_
            refine s_bipush (pc := 135) C dX12_actRead_135 (by decide) ?_
            refine s_callVi (pc := 137) C (c_X12_comesSign l 59 ⟨by omega, by omega⟩) [vI 59] [] rfl rfl dX12_actRead_137 wlX12_279 wiX12_comesSign weX12_comesSign wcX12_comesSign wnX12 noX12_comesSign (by decide) (by decide) (Nat.le_of_ble_eq_true rfl) ⟨(gy_self g114), k114.1⟩ rfl rfl ?_
            rintro z137 σ137 k137
            have g137 := gy_trans g114 k137.1
            have f137 := frm_tr f114 (frm_mono (Q := PAr) k137.2.1 (fun c j h => by simp [PTw, PAr] at h ⊢ <;> omega))
            have p137_TY := k137.2.2.1
            have up137_TY := p137_TY
            unfold TY at up137_TY
            have kf137 := k137.2.1
            have x137_0_27 : σ137 0 27 = σ114 0 27 := kf137 0 27 rfl
            have x137_0_32 : σ137 0 32 = σ114 0 32 := kf137 0 32 rfl
            have x137_0_41 : σ137 0 41 = σ114 0 41 := kf137 0 41 rfl
            have k137 := k137.2.2.2
            show hs_Wd _ _ _ _ _ _ _ _ _ _ _ _ _ _ _ _ _ 140 _ [vI z137] σ137
            refine s_goto (pc := 140) C (tgt := 149) dX12_actRead_140 (by decide) ?_
            refine s_zret (pc := 149) C (by omega) dX12_actRead_149 ?_
            refine ⟨_, rfl, ?_⟩
            have e15 : σ137 15 (σ 0 32).toNat = σ 0 30 := by rw [kf137 15 _ rfl, kf114 15 _ rfl]; simp [hs_ss, hs_up]
            have hN : z137 = 1 → NI σ137 := fun q => ni_add hpre (n := (σ 0 32).toNat) (by omega) (by omega) (fun i hi => by rw [kf137 15 i rfl, kf114 15 i rfl]; simp [hs_ss, hs_up, (show i ≠ (σ 0 32).toNat by omega)]) (fun i hi => by rw [kf137 16 i rfl, kf114 16 i rfl]; rfl) (fun i hi => by rw [kf137 17 i rfl, kf114 17 i rfl]; simp [hs_ss, hs_up, (show i ≠ (σ 0 32).toNat by omega)]) (fun i hi => by rw [kf137 22 i rfl, kf114 22 i rfl]; rfl) (by unfold OKA; rw [e15]; exact ⟨fun q => by exfalso; omega, fun q => by exfalso; omega⟩) (Or.inl ⟨by omega, by omega, fun k hk => by rw [kf137 23 k rfl, kf114 23 k rfl]; rfl⟩)
            exact ⟨g137, f137, p137_TY, by omega, fun q => ⟨hN q, by omega⟩⟩
        · skip
          refine s_aload_n (pc := 122) C dX12_actRead_122 2 rfl ?_
          refine s_iload_n (pc := 123) C dX12_actRead_123 0 rfl ?_
          refine s_iload_n (pc := 124) C dX12_actRead_124 1 rfl ?_
          refine s_callVi (pc := 125) C (c_X12_turnRead l (σ 0 32) (by first | omega | assumption | (constructor <;> omega) | (refine ⟨⟨?_, ?_⟩, ?_⟩ <;> omega) | (simp [hs_ss, hs_up]; omega) | (simp [hs_ss, hs_up]; done)) (σ 0 30) (by first | omega | assumption | (constructor <;> omega) | (refine ⟨⟨?_, ?_⟩, ?_⟩ <;> omega) | (simp [hs_ss, hs_up]; omega) | (simp [hs_ss, hs_up]; done))) [vI (σ 0 32), vI (σ 0 30)] [] rfl rfl dX12_actRead_125 wlX12_285 wiX12_turnRead weX12_turnRead wcX12_turnRead wnX12 noX12_turnRead (by decide) (by decide) (Nat.le_of_ble_eq_true rfl) ⟨(gy_self g114), k114.1⟩ rfl rfl ?_
          rintro z125 σ125 k125
          have g125 := gy_trans g114 k125.1
          have f125 := frm_tr f114 (frm_mono (Q := PAr) k125.2.1 (fun c j h => by simp [PTr, PAr] at h ⊢ <;> omega))
          have p125_TY := k125.2.2.1
          have up125_TY := p125_TY
          unfold TY at up125_TY
          have kf125 := k125.2.1
          have x125_0_27 : σ125 0 27 = σ114 0 27 := kf125 0 27 rfl
          have x125_0_32 : σ125 0 32 = σ114 0 32 := kf125 0 32 rfl
          have x125_0_41 : σ125 0 41 = σ114 0 41 := kf125 0 41 rfl
          have k125 := k125.2.2.2
          show hs_Wd _ _ _ _ _ _ _ _ _ _ _ _ _ _ _ _ _ 128 _ [vI z125] σ125
          refine s_zret (pc := 128) C (by omega) dX12_actRead_128 ?_
          refine ⟨_, rfl, ?_⟩
          have e15 : σ125 15 (σ 0 32).toNat = σ 0 30 := by rw [kf125 15 _ rfl, kf114 15 _ rfl]; simp [hs_ss, hs_up]
          have hN : z125 = 1 → NI σ125 := fun q => ni_add hpre (n := (σ 0 32).toNat) (by omega) (by omega) (fun i hi => by rw [kf125 15 i rfl, kf114 15 i rfl]; simp [hs_ss, hs_up, (show i ≠ (σ 0 32).toNat by omega)]) (fun i hi => by rw [kf125 16 i (by simp [PTr]; omega), kf114 16 i rfl]; rfl) (fun i hi => by rw [kf125 17 i (by simp [PTr]; omega), kf114 17 i rfl]; simp [hs_ss, hs_up, (show i ≠ (σ 0 32).toNat by omega)]) (fun i hi => by rw [kf125 22 i rfl, kf114 22 i rfl]; rfl) (by unfold OKA; rw [e15]; exact ⟨fun q => by exfalso; omega, fun _ => k125.2.2⟩) (Or.inl ⟨by omega, by omega, fun k hk => by rw [kf125 23 k rfl, kf114 23 k rfl]; rfl⟩)
          exact ⟨g125, f125, p125_TY, by omega, fun q => ⟨hN q, by omega⟩⟩
      · skip
        refine s_aload_n (pc := 73) C dX12_actRead_73 0 rfl ?_
        refine s_iconst (pc := 74) C dX12_actRead_74 ?_
        refine s_callVi (pc := 75) C (c_X12_wrong l 2 (by first | omega | assumption | (constructor <;> omega) | (refine ⟨⟨?_, ?_⟩, ?_⟩ <;> omega) | (simp [hs_ss, hs_up]; omega) | (simp [hs_ss, hs_up]; done))) [vI 2] [] rfl rfl dX12_actRead_75 wlX12_254 wiX12_wrong weX12_wrong wcX12_wrong wnX12 noX12_wrong (by decide) (by decide) (Nat.le_of_ble_eq_true rfl) (gy_self g0) rfl rfl ?_
        rintro z75 σ75 k75
        have g75 := gy_trans g0 k75.1
        have f75 := frm_tr f0 (frm_mono (Q := PAr) k75.2.1 (fun c j h => by simp [PWr, PAr] at h ⊢ <;> omega))
        have p75_TY := TY_cg (frm_mono (Q := okTY) k75.2.1 (fun c j h => by simp [PWr, okTY] at h ⊢ <;> omega)) p0_TY
        have kf75 := k75.2.1
        have x75_0_27 : σ75 0 27 = σ 0 27 := kf75 0 27 rfl
        have x75_0_28 : σ75 0 28 = σ 0 28 := kf75 0 28 rfl
        have x75_0_29 : σ75 0 29 = σ 0 29 := kf75 0 29 rfl
        have x75_0_30 : σ75 0 30 = σ 0 30 := kf75 0 30 rfl
        have x75_0_31 : σ75 0 31 = σ 0 31 := kf75 0 31 rfl
        have x75_0_32 : σ75 0 32 = σ 0 32 := kf75 0 32 rfl
        have x75_0_41 : σ75 0 41 = σ 0 41 := kf75 0 41 rfl
        have k75 := k75.2.2
        show hs_Wd _ _ _ _ _ _ _ _ _ _ _ _ _ _ _ _ _ 78 _ [vI z75] σ75
        refine s_zret (pc := 78) C (by omega) dX12_actRead_78 ?_
        refine ⟨_, rfl, ?_⟩
        exact ⟨g75, f75, p75_TY, by omega, fun q => by exfalso; omega⟩
    · skip
      refine s_aload_n (pc := 58) C dX12_actRead_58 0 rfl ?_
      refine s_iconst (pc := 59) C dX12_actRead_59 ?_
      refine s_callVi (pc := 60) C (c_X12_wrong l 1 (by first | omega | assumption | (constructor <;> omega) | (refine ⟨⟨?_, ?_⟩, ?_⟩ <;> omega) | (simp [hs_ss, hs_up]; omega) | (simp [hs_ss, hs_up]; done))) [vI 1] [] rfl rfl dX12_actRead_60 wlX12_254 wiX12_wrong weX12_wrong wcX12_wrong wnX12 noX12_wrong (by decide) (by decide) (Nat.le_of_ble_eq_true rfl) (gy_self g0) rfl rfl ?_
      rintro z60 σ60 k60
      have g60 := gy_trans g0 k60.1
      have f60 := frm_tr f0 (frm_mono (Q := PAr) k60.2.1 (fun c j h => by simp [PWr, PAr] at h ⊢ <;> omega))
      have p60_TY := TY_cg (frm_mono (Q := okTY) k60.2.1 (fun c j h => by simp [PWr, okTY] at h ⊢ <;> omega)) p0_TY
      have kf60 := k60.2.1
      have x60_0_27 : σ60 0 27 = σ 0 27 := kf60 0 27 rfl
      have x60_0_28 : σ60 0 28 = σ 0 28 := kf60 0 28 rfl
      have x60_0_29 : σ60 0 29 = σ 0 29 := kf60 0 29 rfl
      have x60_0_30 : σ60 0 30 = σ 0 30 := kf60 0 30 rfl
      have x60_0_31 : σ60 0 31 = σ 0 31 := kf60 0 31 rfl
      have x60_0_32 : σ60 0 32 = σ 0 32 := kf60 0 32 rfl
      have x60_0_41 : σ60 0 41 = σ 0 41 := kf60 0 41 rfl
      have k60 := k60.2.2
      show hs_Wd _ _ _ _ _ _ _ _ _ _ _ _ _ _ _ _ _ 63 _ [vI z60] σ60
      refine s_zret (pc := 63) C (by omega) dX12_actRead_63 ?_
      refine ⟨_, rfl, ?_⟩
      exact ⟨g60, f60, p60_TY, by omega, fun q => by exfalso; omega⟩
  · skip
    refine s_aload_n (pc := 9) C dX12_actRead_9 0 rfl ?_
    refine s_geti (q := 0) (ci := 12) (N := 68) (CN := RX12) (T := TX12) (pc := 10) C 41 dX12_actRead_10 wlX12_260 rfl rfl rfl wfX12 (by decide) rfl (σ 0 41) rfl ?_
    have b10 : (0 : Int) ≤ σ 0 41 ∧ σ 0 41 ≤ 5 := g0.1 0 41
    refine s_if_le (pc := 13) C (tgt := 50) dX12_actRead_13 (by decide) ⟨by omega, by omega⟩ (fun h13 => ?_) (fun h13 => ?_)
    · skip
      refine s_aload_n (pc := 50) C dX12_actRead_50 0 rfl ?_
      refine s_geti (q := 0) (ci := 12) (N := 68) (CN := RX12) (T := TX12) (pc := 51) C 29 dX12_actRead_51 wlX12_236 rfl rfl rfl wfX12 (by decide) rfl (σ 0 29) rfl ?_
      have b51 : (0 : Int) ≤ σ 0 29 ∧ σ 0 29 ≤ 5 := g0.1 0 29
      refine s_iconst (pc := 54) C dX12_actRead_54 ?_
      refine s_icmp_eq (pc := 55) C (tgt := 64) dX12_actRead_55 (by decide) ⟨by omega, by omega⟩ ⟨by decide, by decide⟩ (fun h55 => ?_) (fun h55 => ?_)
      · skip
        refine s_aload_n (pc := 64) C dX12_actRead_64 0 rfl ?_
        refine s_geti (q := 0) (ci := 12) (N := 68) (CN := RX12) (T := TX12) (pc := 65) C 32 dX12_actRead_65 wlX12_282 rfl rfl rfl wfX12 (by decide) rfl (σ 0 32) rfl ?_
        have b65 : (0 : Int) ≤ σ 0 32 ∧ σ 0 32 ≤ 60 := g0.1 0 32
        refine s_bipush (pc := 68) C dX12_actRead_68 (by decide) ?_
        refine s_icmp_ne (pc := 70) C (tgt := 79) dX12_actRead_70 (by decide) ⟨by omega, by omega⟩ ⟨by decide, by decide⟩ (fun h70 => ?_) (fun h70 => ?_)
        · skip
          refine s_aload_n (pc := 79) C dX12_actRead_79 0 rfl ?_
          refine s_geti (q := 0) (ci := 12) (N := 68) (CN := RX12) (T := TX12) (pc := 80) C 30 dX12_actRead_80 wlX12_245 rfl rfl rfl wfX12 (by decide) rfl (σ 0 30) rfl ?_
          have b80 : (-1 : Int) ≤ σ 0 30 ∧ σ 0 30 ≤ 10000 := g0.1 0 30
          refine s_istore_n (pc := 83) C [(1, vI (σ 0 30)), (0, .ref (ad 0))] dX12_actRead_83 (by decide) rfl ?_
          refine s_aload_n (pc := 84) C dX12_actRead_84 1 rfl ?_
          refine s_geti (q := 0) (ci := 12) (N := 68) (CN := RX12) (T := TX12) (pc := 85) C 32 dX12_actRead_85 wlX12_282 rfl rfl rfl wfX12 (by decide) rfl (σ 0 32) rfl ?_
          have b85 : (0 : Int) ≤ σ 0 32 ∧ σ 0 32 ≤ 60 := g0.1 0 32
          refine s_istore_n (pc := 88) C [(2, vI (σ 0 32)), (1, vI (σ 0 30)), (0, .ref (ad 0))] dX12_actRead_88 (by decide) rfl ?_
          refine s_aload_n (pc := 89) C dX12_actRead_89 2 rfl ?_
          refine s_getr (q := 0) (ci := 12) (N := 68) (CN := RX12) (T := TX12) (pc := 90) C 33 dX12_actRead_90 wlX12_59 rfl rfl rfl wfX12 (by decide) rfl ?_
          refine s_iload_n (pc := 93) C dX12_actRead_93 0 rfl ?_
          refine s_iload_n (pc := 94) C dX12_actRead_94 1 rfl ?_
          refine s_iast (q := 15) (n := 60) (pc := 95) C dX12_actRead_95 rfl (by omega) (by omega) (by decide) ?_
          have g95 := gy_set (z := (σ 0 30)) g0 15 ((σ 0 32).toNat) rfl (0) (6) rfl ⟨by omega, by omega⟩
          have f95 := frm_set (P := PAr) (z := (σ 0 30)) f0 15 ((σ 0 32).toNat) rfl
          have p95_TY := TY_cg (frm_one (P := okTY) (z := (σ 0 30)) 15 ((σ 0 32).toNat) rfl) p0_TY
          refine s_aload_n (pc := 96) C dX12_actRead_96 2 rfl ?_
          refine s_getr (q := 0) (ci := 12) (N := 68) (CN := RX12) (T := TX12) (pc := 97) C 35 dX12_actRead_97 wlX12_65 rfl rfl rfl wfX12 (by decide) rfl ?_
          refine s_iload_n (pc := 100) C dX12_actRead_100 0 rfl ?_
          refine s_iconst (pc := 101) C dX12_actRead_101 ?_
          refine s_iast (q := 17) (n := 60) (pc := 102) C dX12_actRead_102 rfl (by omega) (by omega) (by decide) ?_
          have g102 := gy_set (z := ((-1))) g95 17 ((σ 0 32).toNat) rfl (-1) (7) rfl ⟨by omega, by omega⟩
          have f102 := frm_set (P := PAr) (z := ((-1))) f95 17 ((σ 0 32).toNat) rfl
          have p102_TY := TY_cg (frm_one (P := okTY) (z := ((-1))) 17 ((σ 0 32).toNat) rfl) p95_TY
          refine s_aload_n (pc := 103) C dX12_actRead_103 2 rfl ?_
          refine s_dup (pc := 104) C dX12_actRead_104 rfl ?_
          refine s_geti (q := 0) (ci := 12) (N := 68) (CN := RX12) (T := TX12) (pc := 105) C 32 dX12_actRead_105 wlX12_282 rfl rfl rfl wfX12 (by decide) rfl (σ 0 32) rfl ?_
          have b105 : (0 : Int) ≤ σ 0 32 ∧ σ 0 32 ≤ 60 := g102.1 0 32
          refine s_iconst (pc := 108) C dX12_actRead_108 ?_
          refine s_iadd (pc := 109) C dX12_actRead_109 ?_
          refine s_puti (q := 0) (ci := 12) (N := 68) (CN := RX12) (T := TX12) (ty0 := tyX12) (ty := .int) (pc := 110) C 32 dX12_actRead_110 wlX12_282 rfl rfl rfl wfX12 tyX12_ok nmX12 (by decide) rfl rfl rfl (vp_nar_int _) rfl ?_
          have g110 := gy_set (z := ((σ 0 32) + 1)) g102 0 32 rfl (0) (60) rfl ⟨by omega, by omega⟩
          have f110 := frm_set (P := PAr) (z := ((σ 0 32) + 1)) f102 0 32 rfl
          have p110_TY := TY_cg (frm_one (P := okTY) (z := ((σ 0 32) + 1)) 0 32 rfl) p102_TY
          refine s_aload_n (pc := 113) C dX12_actRead_113 2 rfl ?_
          have r114_0_27 : (hs_ss (hs_ss (hs_ss σ 15 ((σ 0 32).toNat) (σ 0 30)) 17 ((σ 0 32).toNat) ((-1))) 0 32 ((σ 0 32) + 1)) 0 27 = σ 0 27 := rfl
          have r114_0_28 : (hs_ss (hs_ss (hs_ss σ 15 ((σ 0 32).toNat) (σ 0 30)) 17 ((σ 0 32).toNat) ((-1))) 0 32 ((σ 0 32) + 1)) 0 28 = σ 0 28 := rfl
          refine s_callVv (pc := 114) C (c_X12_take l) [] [] rfl rfl dX12_actRead_114 wlX12_257 wiX12_take weX12_take wcX12_take wnX12 noX12_take (by decide) (by decide) (Nat.le_of_ble_eq_true rfl) ⟨(gy_self g110), by first | omega | assumption | (constructor <;> omega) | (refine ⟨⟨?_, ?_⟩, ?_⟩ <;> omega) | (simp [hs_ss, hs_up]; omega) | (simp [hs_ss, hs_up]; done)⟩ rfl rfl ?_
          rintro σ114 k114
          have g114 := gy_trans g110 k114.1
          have f114 := frm_tr f110 (frm_mono (Q := PAr) k114.2.1 (fun c j h => by simp [PTa, PAr] at h ⊢ <;> omega))
          have kf114 := k114.2.1
          have x114_0_27 : σ114 0 27 = σ 0 27 := kf114 0 27 rfl
          have x114_0_32 : σ114 0 32 = (σ 0 32) + 1 := kf114 0 32 rfl
          have x114_0_41 : σ114 0 41 = σ 0 41 := kf114 0 41 rfl
          have k114 := k114.2.2
          have ut114 := k114.1
          unfold TY at ut114
          show hs_Wd _ _ _ _ _ _ _ _ _ _ _ _ _ _ _ _ _ 117 _ [] σ114
          refine s_iload_n (pc := 117) C dX12_actRead_117 1 rfl ?_
          refine s_iconst (pc := 118) C dX12_actRead_118 ?_
          refine s_icmp_gt (pc := 119) C (tgt := 129) dX12_actRead_119 (by decide) ⟨by omega, by omega⟩ ⟨by decide, by decide⟩ (fun h119 => ?_) (fun h119 => ?_)
          · skip
            refine s_iload_n (pc := 129) C dX12_actRead_129 1 rfl ?_
            refine s_iconst (pc := 130) C dX12_actRead_130 ?_
            refine s_icmp_ge (pc := 131) C (tgt := 143) dX12_actRead_131 (by decide) ⟨by omega, by omega⟩ ⟨by decide, by decide⟩ (fun h131 => ?_) (fun h131 => ?_)
            · skip
              refine s_aload_n (pc := 143) C dX12_actRead_143 2 rfl ?_
              refine s_iload_n (pc := 144) C dX12_actRead_144 0 rfl ?_
              refine s_iload_n (pc := 145) C dX12_actRead_145 1 rfl ?_
              refine s_callVi (pc := 146) C (c_X12_loopRead l (σ 0 32) (by first | omega | assumption | (constructor <;> omega) | (refine ⟨⟨?_, ?_⟩, ?_⟩ <;> omega) | (simp [hs_ss, hs_up]; omega) | (simp [hs_ss, hs_up]; done)) (σ 0 30) (by first | omega | assumption | (constructor <;> omega) | (refine ⟨⟨?_, ?_⟩, ?_⟩ <;> omega) | (simp [hs_ss, hs_up]; omega) | (simp [hs_ss, hs_up]; done))) [vI (σ 0 32), vI (σ 0 30)] [] rfl rfl dX12_actRead_146 wlX12_288 wiX12_loopRead weX12_loopRead wcX12_loopRead wnX12 noX12_loopRead (by decide) (by decide) (Nat.le_of_ble_eq_true rfl) ⟨(gy_self g114), k114.1⟩ rfl rfl ?_
              rintro z146 σ146 k146
              have g146 := gy_trans g114 k146.1
              have f146 := frm_tr f114 (frm_mono (Q := PAr) k146.2.1 (fun c j h => by simp [PLr, PAr] at h ⊢ <;> omega))
              have p146_TY := k146.2.2.1
              have up146_TY := p146_TY
              unfold TY at up146_TY
              have kf146 := k146.2.1
              have x146_0_27 : σ146 0 27 = σ114 0 27 := kf146 0 27 rfl
              have x146_0_32 : σ146 0 32 = σ114 0 32 := kf146 0 32 rfl
              have k146 := k146.2.2.2
              show hs_Wd _ _ _ _ _ _ _ _ _ _ _ _ _ _ _ _ _ 149 _ [vI z146] σ146
              refine s_zret (pc := 149) C (by omega) dX12_actRead_149 ?_
              refine ⟨_, rfl, ?_⟩
              have e15 : σ146 15 (σ 0 32).toNat = σ 0 30 := by rw [kf146 15 _ rfl, kf114 15 _ rfl]; simp [hs_ss, hs_up]
              have hN : z146 = 1 → NI σ146 := fun q => ni_add hpre (n := (σ 0 32).toNat) (by omega) (by omega) (fun i hi => by rw [kf146 15 i rfl, kf114 15 i rfl]; simp [hs_ss, hs_up, (show i ≠ (σ 0 32).toNat by omega)]) (fun i hi => by rw [kf146 16 i (by simp [PLr]; omega), kf114 16 i rfl]; rfl) (fun i hi => by rw [kf146 17 i (by simp [PLr]; omega), kf114 17 i rfl]; simp [hs_ss, hs_up, (show i ≠ (σ 0 32).toNat by omega)]) (fun i hi => by rw [kf146 22 i rfl, kf114 22 i rfl]; rfl) (by unfold OKA; rw [e15]; exact ⟨fun q6 => (k146.2.2.1 q).2.2.2 (by omega), fun q => by exfalso; omega⟩) (Or.inr ⟨by omega, by omega, by omega, (k146.2.2.1 q).2.2.1.trans (by omega), fun k hk => by rw [k146.2.2.2 k (by omega), kf114 23 k rfl]; rfl⟩)
              exact ⟨g146, f146, p146_TY, by omega, fun q => ⟨hN q, by omega⟩⟩
            · skip
              refine s_aload_n (pc := 134) C dX12_actRead_134 2 rfl ?_
              refine s_bipush (pc := 135) C dX12_actRead_135 (by decide) ?_
              refine s_callVi (pc := 137) C (c_X12_comesSign l 59 ⟨by omega, by omega⟩) [vI 59] [] rfl rfl dX12_actRead_137 wlX12_279 wiX12_comesSign weX12_comesSign wcX12_comesSign wnX12 noX12_comesSign (by decide) (by decide) (Nat.le_of_ble_eq_true rfl) ⟨(gy_self g114), k114.1⟩ rfl rfl ?_
              rintro z137 σ137 k137
              have g137 := gy_trans g114 k137.1
              have f137 := frm_tr f114 (frm_mono (Q := PAr) k137.2.1 (fun c j h => by simp [PTw, PAr] at h ⊢ <;> omega))
              have p137_TY := k137.2.2.1
              have up137_TY := p137_TY
              unfold TY at up137_TY
              have kf137 := k137.2.1
              have x137_0_27 : σ137 0 27 = σ114 0 27 := kf137 0 27 rfl
              have x137_0_32 : σ137 0 32 = σ114 0 32 := kf137 0 32 rfl
              have x137_0_41 : σ137 0 41 = σ114 0 41 := kf137 0 41 rfl
              have k137 := k137.2.2.2
              show hs_Wd _ _ _ _ _ _ _ _ _ _ _ _ _ _ _ _ _ 140 _ [vI z137] σ137
              refine s_goto (pc := 140) C (tgt := 149) dX12_actRead_140 (by decide) ?_
              refine s_zret (pc := 149) C (by omega) dX12_actRead_149 ?_
              refine ⟨_, rfl, ?_⟩
              have e15 : σ137 15 (σ 0 32).toNat = σ 0 30 := by rw [kf137 15 _ rfl, kf114 15 _ rfl]; simp [hs_ss, hs_up]
              have hN : z137 = 1 → NI σ137 := fun q => ni_add hpre (n := (σ 0 32).toNat) (by omega) (by omega) (fun i hi => by rw [kf137 15 i rfl, kf114 15 i rfl]; simp [hs_ss, hs_up, (show i ≠ (σ 0 32).toNat by omega)]) (fun i hi => by rw [kf137 16 i rfl, kf114 16 i rfl]; rfl) (fun i hi => by rw [kf137 17 i rfl, kf114 17 i rfl]; simp [hs_ss, hs_up, (show i ≠ (σ 0 32).toNat by omega)]) (fun i hi => by rw [kf137 22 i rfl, kf114 22 i rfl]; rfl) (by unfold OKA; rw [e15]; exact ⟨fun q => by exfalso; omega, fun q => by exfalso; omega⟩) (Or.inl ⟨by omega, by omega, fun k hk => by rw [kf137 23 k rfl, kf114 23 k rfl]; rfl⟩)
              exact ⟨g137, f137, p137_TY, by omega, fun q => ⟨hN q, by omega⟩⟩
          · skip
            refine s_aload_n (pc := 122) C dX12_actRead_122 2 rfl ?_
            refine s_iload_n (pc := 123) C dX12_actRead_123 0 rfl ?_
            refine s_iload_n (pc := 124) C dX12_actRead_124 1 rfl ?_
            refine s_callVi (pc := 125) C (c_X12_turnRead l (σ 0 32) (by first | omega | assumption | (constructor <;> omega) | (refine ⟨⟨?_, ?_⟩, ?_⟩ <;> omega) | (simp [hs_ss, hs_up]; omega) | (simp [hs_ss, hs_up]; done)) (σ 0 30) (by first | omega | assumption | (constructor <;> omega) | (refine ⟨⟨?_, ?_⟩, ?_⟩ <;> omega) | (simp [hs_ss, hs_up]; omega) | (simp [hs_ss, hs_up]; done))) [vI (σ 0 32), vI (σ 0 30)] [] rfl rfl dX12_actRead_125 wlX12_285 wiX12_turnRead weX12_turnRead wcX12_turnRead wnX12 noX12_turnRead (by decide) (by decide) (Nat.le_of_ble_eq_true rfl) ⟨(gy_self g114), k114.1⟩ rfl rfl ?_
            rintro z125 σ125 k125
            have g125 := gy_trans g114 k125.1
            have f125 := frm_tr f114 (frm_mono (Q := PAr) k125.2.1 (fun c j h => by simp [PTr, PAr] at h ⊢ <;> omega))
            have p125_TY := k125.2.2.1
            have up125_TY := p125_TY
            unfold TY at up125_TY
            have kf125 := k125.2.1
            have x125_0_27 : σ125 0 27 = σ114 0 27 := kf125 0 27 rfl
            have x125_0_32 : σ125 0 32 = σ114 0 32 := kf125 0 32 rfl
            have x125_0_41 : σ125 0 41 = σ114 0 41 := kf125 0 41 rfl
            have k125 := k125.2.2.2
            show hs_Wd _ _ _ _ _ _ _ _ _ _ _ _ _ _ _ _ _ 128 _ [vI z125] σ125
            refine s_zret (pc := 128) C (by omega) dX12_actRead_128 ?_
            refine ⟨_, rfl, ?_⟩
            have e15 : σ125 15 (σ 0 32).toNat = σ 0 30 := by rw [kf125 15 _ rfl, kf114 15 _ rfl]; simp [hs_ss, hs_up]
            have hN : z125 = 1 → NI σ125 := fun q => ni_add hpre (n := (σ 0 32).toNat) (by omega) (by omega) (fun i hi => by rw [kf125 15 i rfl, kf114 15 i rfl]; simp [hs_ss, hs_up, (show i ≠ (σ 0 32).toNat by omega)]) (fun i hi => by rw [kf125 16 i (by simp [PTr]; omega), kf114 16 i rfl]; rfl) (fun i hi => by rw [kf125 17 i (by simp [PTr]; omega), kf114 17 i rfl]; simp [hs_ss, hs_up, (show i ≠ (σ 0 32).toNat by omega)]) (fun i hi => by rw [kf125 22 i rfl, kf114 22 i rfl]; rfl) (by unfold OKA; rw [e15]; exact ⟨fun q => by exfalso; omega, fun _ => k125.2.2⟩) (Or.inl ⟨by omega, by omega, fun k hk => by rw [kf125 23 k rfl, kf114 23 k rfl]; rfl⟩)
            exact ⟨g125, f125, p125_TY, by omega, fun q => ⟨hN q, by omega⟩⟩
        · skip
          refine s_aload_n (pc := 73) C dX12_actRead_73 0 rfl ?_
          refine s_iconst (pc := 74) C dX12_actRead_74 ?_
          refine s_callVi (pc := 75) C (c_X12_wrong l 2 (by first | omega | assumption | (constructor <;> omega) | (refine ⟨⟨?_, ?_⟩, ?_⟩ <;> omega) | (simp [hs_ss, hs_up]; omega) | (simp [hs_ss, hs_up]; done))) [vI 2] [] rfl rfl dX12_actRead_75 wlX12_254 wiX12_wrong weX12_wrong wcX12_wrong wnX12 noX12_wrong (by decide) (by decide) (Nat.le_of_ble_eq_true rfl) (gy_self g0) rfl rfl ?_
          rintro z75 σ75 k75
          have g75 := gy_trans g0 k75.1
          have f75 := frm_tr f0 (frm_mono (Q := PAr) k75.2.1 (fun c j h => by simp [PWr, PAr] at h ⊢ <;> omega))
          have p75_TY := TY_cg (frm_mono (Q := okTY) k75.2.1 (fun c j h => by simp [PWr, okTY] at h ⊢ <;> omega)) p0_TY
          have kf75 := k75.2.1
          have x75_0_27 : σ75 0 27 = σ 0 27 := kf75 0 27 rfl
          have x75_0_28 : σ75 0 28 = σ 0 28 := kf75 0 28 rfl
          have x75_0_29 : σ75 0 29 = σ 0 29 := kf75 0 29 rfl
          have x75_0_30 : σ75 0 30 = σ 0 30 := kf75 0 30 rfl
          have x75_0_31 : σ75 0 31 = σ 0 31 := kf75 0 31 rfl
          have x75_0_32 : σ75 0 32 = σ 0 32 := kf75 0 32 rfl
          have x75_0_41 : σ75 0 41 = σ 0 41 := kf75 0 41 rfl
          have k75 := k75.2.2
          show hs_Wd _ _ _ _ _ _ _ _ _ _ _ _ _ _ _ _ _ 78 _ [vI z75] σ75
          refine s_zret (pc := 78) C (by omega) dX12_actRead_78 ?_
          refine ⟨_, rfl, ?_⟩
          exact ⟨g75, f75, p75_TY, by omega, fun q => by exfalso; omega⟩
      · skip
        refine s_aload_n (pc := 58) C dX12_actRead_58 0 rfl ?_
        refine s_iconst (pc := 59) C dX12_actRead_59 ?_
        refine s_callVi (pc := 60) C (c_X12_wrong l 1 (by first | omega | assumption | (constructor <;> omega) | (refine ⟨⟨?_, ?_⟩, ?_⟩ <;> omega) | (simp [hs_ss, hs_up]; omega) | (simp [hs_ss, hs_up]; done))) [vI 1] [] rfl rfl dX12_actRead_60 wlX12_254 wiX12_wrong weX12_wrong wcX12_wrong wnX12 noX12_wrong (by decide) (by decide) (Nat.le_of_ble_eq_true rfl) (gy_self g0) rfl rfl ?_
        rintro z60 σ60 k60
        have g60 := gy_trans g0 k60.1
        have f60 := frm_tr f0 (frm_mono (Q := PAr) k60.2.1 (fun c j h => by simp [PWr, PAr] at h ⊢ <;> omega))
        have p60_TY := TY_cg (frm_mono (Q := okTY) k60.2.1 (fun c j h => by simp [PWr, okTY] at h ⊢ <;> omega)) p0_TY
        have kf60 := k60.2.1
        have x60_0_27 : σ60 0 27 = σ 0 27 := kf60 0 27 rfl
        have x60_0_28 : σ60 0 28 = σ 0 28 := kf60 0 28 rfl
        have x60_0_29 : σ60 0 29 = σ 0 29 := kf60 0 29 rfl
        have x60_0_30 : σ60 0 30 = σ 0 30 := kf60 0 30 rfl
        have x60_0_31 : σ60 0 31 = σ 0 31 := kf60 0 31 rfl
        have x60_0_32 : σ60 0 32 = σ 0 32 := kf60 0 32 rfl
        have x60_0_41 : σ60 0 41 = σ 0 41 := kf60 0 41 rfl
        have k60 := k60.2.2
        show hs_Wd _ _ _ _ _ _ _ _ _ _ _ _ _ _ _ _ _ 63 _ [vI z60] σ60
        refine s_zret (pc := 63) C (by omega) dX12_actRead_63 ?_
        refine ⟨_, rfl, ?_⟩
        exact ⟨g60, f60, p60_TY, by omega, fun q => by exfalso; omega⟩
    · skip
      refine s_aload_n (pc := 16) C dX12_actRead_16 0 rfl ?_
      refine s_dup (pc := 17) C dX12_actRead_17 rfl ?_
      refine s_geti (q := 0) (ci := 12) (N := 68) (CN := RX12) (T := TX12) (pc := 18) C 41 dX12_actRead_18 wlX12_260 rfl rfl rfl wfX12 (by decide) rfl (σ 0 41) rfl ?_
      have b18 : (0 : Int) ≤ σ 0 41 ∧ σ 0 41 ≤ 5 := g0.1 0 41
      refine s_iconst (pc := 21) C dX12_actRead_21 ?_
      refine s_isub (pc := 22) C dX12_actRead_22 ?_
      refine s_puti (q := 0) (ci := 12) (N := 68) (CN := RX12) (T := TX12) (ty0 := tyX12) (ty := .int) (pc := 23) C 41 dX12_actRead_23 wlX12_260 rfl rfl rfl wfX12 tyX12_ok nmX12 (by decide) rfl rfl rfl (vp_nar_int _) rfl ?_
      have g23 := gy_set (z := ((σ 0 41) - 1)) g0 0 41 rfl (0) (5) rfl ⟨by omega, by omega⟩
      have f23 := frm_set (P := PAr) (z := ((σ 0 41) - 1)) f0 0 41 rfl
      have p23_TY := TY_cg (frm_one (P := okTY) (z := ((σ 0 41) - 1)) 0 41 rfl) p0_TY
      refine s_aload_n (pc := 26) C dX12_actRead_26 0 rfl ?_
      refine s_getr (q := 0) (ci := 12) (N := 68) (CN := RX12) (T := TX12) (pc := 27) C 40 dX12_actRead_27 wlX12_80 rfl rfl rfl wfX12 (by decide) rfl ?_
      refine s_aload_n (pc := 30) C dX12_actRead_30 0 rfl ?_
      refine s_getr (q := 0) (ci := 12) (N := 68) (CN := RX12) (T := TX12) (pc := 31) C 42 dX12_actRead_31 wlX12_83 rfl rfl rfl wfX12 (by decide) rfl ?_
      refine s_aload_n (pc := 34) C dX12_actRead_34 0 rfl ?_
      refine s_geti (q := 0) (ci := 12) (N := 68) (CN := RX12) (T := TX12) (pc := 35) C 41 dX12_actRead_35 wlX12_260 rfl rfl rfl wfX12 (by decide) rfl ((σ 0 41) - 1) rfl ?_
      have b35 : (0 : Int) ≤ (σ 0 41) - 1 ∧ (σ 0 41) - 1 ≤ 5 := g23.1 0 41
      refine s_iald (q := 23) (n := 5) (pc := 38) C (σ 23 (((σ 0 41) - 1).toNat)) rfl dX12_actRead_38 rfl (by omega) (by omega) (by decide) ?_
      have b38 : (0 : Int) ≤ σ 23 (((σ 0 41) - 1).toNat) ∧ σ 23 (((σ 0 41) - 1).toNat) ≤ 59 := g23.1 23 (((σ 0 41) - 1).toNat)
      refine s_aload_n (pc := 39) C dX12_actRead_39 0 rfl ?_
      refine s_geti (q := 0) (ci := 12) (N := 68) (CN := RX12) (T := TX12) (pc := 40) C 32 dX12_actRead_40 wlX12_282 rfl rfl rfl wfX12 (by decide) rfl (σ 0 32) rfl ?_
      have b40 : (0 : Int) ≤ σ 0 32 ∧ σ 0 32 ≤ 60 := g23.1 0 32
      refine s_iast (q := 22) (n := 60) (pc := 43) C dX12_actRead_43 rfl (by omega) (by omega) (by decide) ?_
      have g43 := gy_set (z := (σ 0 32)) g23 22 ((σ 23 (((σ 0 41) - 1).toNat)).toNat) rfl (0) (60) rfl ⟨by omega, by omega⟩
      have f43 := frm_set (P := PAr) (z := (σ 0 32)) f23 22 ((σ 23 (((σ 0 41) - 1).toNat)).toNat) rfl
      have p43_TY := TY_cg (frm_one (P := okTY) (z := (σ 0 32)) 22 ((σ 23 (((σ 0 41) - 1).toNat)).toNat) rfl) p23_TY
      refine s_aload_n (pc := 44) C dX12_actRead_44 0 rfl ?_
      have r45_0_27 : (hs_ss (hs_ss σ 0 41 ((σ 0 41) - 1)) 22 ((σ 23 (((σ 0 41) - 1).toNat)).toNat) (σ 0 32)) 0 27 = σ 0 27 := rfl
      have r45_0_28 : (hs_ss (hs_ss σ 0 41 ((σ 0 41) - 1)) 22 ((σ 23 (((σ 0 41) - 1).toNat)).toNat) (σ 0 32)) 0 28 = σ 0 28 := rfl
      refine s_callVv (pc := 45) C (c_X12_take l) [] [] rfl rfl dX12_actRead_45 wlX12_257 wiX12_take weX12_take wcX12_take wnX12 noX12_take (by decide) (by decide) (Nat.le_of_ble_eq_true rfl) ⟨(gy_self g43), by first | omega | assumption | (constructor <;> omega) | (refine ⟨⟨?_, ?_⟩, ?_⟩ <;> omega) | (simp [hs_ss, hs_up]; omega) | (simp [hs_ss, hs_up]; done)⟩ rfl rfl ?_
      rintro σ45 k45
      have g45 := gy_trans g43 k45.1
      have f45 := frm_tr f43 (frm_mono (Q := PAr) k45.2.1 (fun c j h => by simp [PTa, PAr] at h ⊢ <;> omega))
      have kf45 := k45.2.1
      have x45_0_27 : σ45 0 27 = σ 0 27 := kf45 0 27 rfl
      have x45_0_32 : σ45 0 32 = σ 0 32 := kf45 0 32 rfl
      have x45_0_41 : σ45 0 41 = (σ 0 41) - 1 := kf45 0 41 rfl
      have k45 := k45.2.2
      have ut45 := k45.1
      unfold TY at ut45
      show hs_Wd _ _ _ _ _ _ _ _ _ _ _ _ _ _ _ _ _ 48 _ [] σ45
      refine s_iconst (pc := 48) C dX12_actRead_48 ?_
      refine s_zret (pc := 49) C (by omega) dX12_actRead_49 ?_
      refine ⟨_, rfl, ?_⟩
      have hN : NI σ45 := NI_cg (frm_mono (Q := okNI) kf45 (fun c j h => by simp [PTa, okNI] at h ⊢ <;> omega)) (ni_close hpre (o := (σ 0 41 - 1).toNat) (by omega) (by omega) (by show σ 0 41 - 1 = _; omega) rfl (fun _ => rfl) (fun _ => rfl) (fun _ => rfl) (fun _ => rfl) (by simp [hs_ss, hs_up]) (fun i hi => by simp [hs_ss, hs_up, hi]))
      exact ⟨g45, f45, k45.1, by omega, fun _ => ⟨hN, by omega⟩⟩
set_option maxHeartbeats 4000000 in
set_option maxRecDepth 100000 in
theorem c_X12_textRead (l : Launch)  : hs_Met l yX12_textRead cX12_textRead 1 (some .boolean) 6 SHY (fun ad => [.ref (ad 0)]) (fun σ => GY σ σ) (hs_PI (fun σ z σ1 => GY σ σ1 ∧ FRM PAr σ σ1 ∧ (z = 0 ∨ z = 1) ∧ (z = 1 → PG σ1))) := by
  refine hs_from pfX12_textRead (fun _ => Nat.le_of_ble_eq_true rfl) ?_
  intro p e s m args below meth c D dA ad A σ C hpre
  have C : hs_C p s m args meth c D dA SHY ad A 1 cX12_textRead RX12 (some .boolean) := C
  have g0 := hpre
  have f0 : FRM PAr σ σ := frm_rf
  show hs_Wd p l e 6 s m args below meth c D dA SHY ad A 1 (hs_PI (fun σ z σ1 => GY σ σ1 ∧ FRM PAr σ σ1 ∧ (z = 0 ∨ z = 1) ∧ (z = 1 → PG σ1)) σ) 0 [(0, .ref (ad 0))] [] σ
  refine s_aload_n (pc := 0) C dX12_textRead_0 0 rfl ?_
  refine s_iconst (pc := 1) C dX12_textRead_1 ?_
  refine s_puti (q := 0) (ci := 12) (N := 68) (CN := RX12) (T := TX12) (ty0 := tyX12) (ty := .int) (pc := 2) C 32 dX12_textRead_2 wlX12_282 rfl rfl rfl wfX12 tyX12_ok nmX12 (by decide) rfl rfl rfl (vp_nar_int _) rfl ?_
  have g2 := gy_set (z := 0) g0 0 32 rfl (0) (60) rfl ⟨by omega, by omega⟩
  have f2 := frm_set (P := PAr) (z := 0) f0 0 32 rfl
  refine s_aload_n (pc := 5) C dX12_textRead_5 0 rfl ?_
  refine s_iconst (pc := 6) C dX12_textRead_6 ?_
  refine s_puti (q := 0) (ci := 12) (N := 68) (CN := RX12) (T := TX12) (ty0 := tyX12) (ty := .int) (pc := 7) C 41 dX12_textRead_7 wlX12_260 rfl rfl rfl wfX12 tyX12_ok nmX12 (by decide) rfl rfl rfl (vp_nar_int _) rfl ?_
  have g7 := gy_set (z := 0) g2 0 41 rfl (0) (5) rfl ⟨by omega, by omega⟩
  have f7 := frm_set (P := PAr) (z := 0) f2 0 41 rfl
  refine s_aload_n (pc := 10) C dX12_textRead_10 0 rfl ?_
  refine s_iconst (pc := 11) C dX12_textRead_11 ?_
  refine s_puti (q := 0) (ci := 12) (N := 68) (CN := RX12) (T := TX12) (ty0 := tyX12) (ty := .int) (pc := 12) C 28 dX12_textRead_12 wlX12_233 rfl rfl rfl wfX12 tyX12_ok nmX12 (by decide) rfl rfl rfl (vp_nar_int _) rfl ?_
  have g12 := gy_set (z := 0) g7 0 28 rfl (0) (500) rfl ⟨by omega, by omega⟩
  have f12 := frm_set (P := PAr) (z := 0) f7 0 28 rfl
  refine s_aload_n (pc := 15) C dX12_textRead_15 0 rfl ?_
  have r16_0_27 : (hs_ss (hs_ss (hs_ss σ 0 32 0) 0 41 0) 0 28 0) 0 27 = σ 0 27 := rfl
  have r16_0_28 : (hs_ss (hs_ss (hs_ss σ 0 32 0) 0 41 0) 0 28 0) 0 28 = 0 := rfl
  refine s_callVv (pc := 16) C (c_X12_take l) [] [] rfl rfl dX12_textRead_16 wlX12_257 wiX12_take weX12_take wcX12_take wnX12 noX12_take (by decide) (by decide) (Nat.le_of_ble_eq_true rfl) ⟨(gy_self g12), by show (0 : Int) ≤ σ 0 27; have b := g0.1 0 27; have b : (0 : Int) ≤ σ 0 27 ∧ σ 0 27 ≤ 500 := b; omega⟩ rfl rfl ?_
  rintro σ16 k16
  have g16 := gy_trans g12 k16.1
  have f16 := frm_tr f12 (frm_mono (Q := PAr) k16.2.1 (fun c j h => by simp [PTa, PAr] at h ⊢ <;> omega))
  have kf16 := k16.2.1
  have k16 := k16.2.2
  show hs_Wd _ _ _ _ _ _ _ _ _ _ _ _ _ _ _ _ _ 19 _ [] σ16
  refine s_sub C [0] [(0, .ref (ad 0))] rfl ?_
  have hi19 : GY σ σ16 ∧ FRM PAr σ σ16 ∧ TY σ16 ∧ NI σ16 := ⟨g16, f16, ⟨k16.1, NI_cg (frm_mono (Q := okNI) kf16 (fun c j h => by simp [PTa, okNI] at h ⊢ <;> omega)) (ni_0 rfl rfl)⟩⟩
  refine hs_loop (α := hs_S) (fun x_ => (GY σ x_ ∧ FRM PAr σ x_ ∧ TY x_ ∧ NI x_) → hs_Wd p l e 6 s m args below meth c D dA SHY ad A 1 (hs_PI (fun σ z σ1 => GY σ σ1 ∧ FRM PAr σ σ1 ∧ (z = 0 ∨ z = 1) ∧ (z = 1 → PG σ1)) σ) 19 [(0, .ref (ad 0))] [] x_) (fun x_ => (502 - x_ 0 31).toNat) ?_ (σ16) hi19
  rintro σ1 ih19 hinv
  have hinv : GY σ σ1 ∧ FRM PAr σ σ1 ∧ TY σ1 ∧ NI σ1 := hinv
  obtain ⟨hg19, hf19, hv19⟩ := hinv
  show hs_Wd p l e 6 s m args below meth c D dA SHY ad A 1 (hs_PI (fun σ z σ1 => GY σ σ1 ∧ FRM PAr σ σ1 ∧ (z = 0 ∨ z = 1) ∧ (z = 1 → PG σ1)) σ) 19 [(0, .ref (ad 0))] [] σ1
  refine s_aload_n (pc := 19) C dX12_textRead_19 0 rfl ?_
  refine s_geti (q := 0) (ci := 12) (N := 68) (CN := RX12) (T := TX12) (pc := 20) C 29 dX12_textRead_20 wlX12_236 rfl rfl rfl wfX12 (by decide) rfl (σ1 0 29) rfl ?_
  have b20 : (0 : Int) ≤ σ1 0 29 ∧ σ1 0 29 ≤ 5 := hg19.1 0 29
  refine s_if_ne (pc := 23) C (tgt := 33) dX12_textRead_23 (by decide) ⟨by omega, by omega⟩ (fun h23 => ?_) (fun h23 => ?_)
  · skip
    refine s_aload_n (pc := 33) C dX12_textRead_33 0 rfl ?_
    refine s_callVi (pc := 34) C (c_X12_actRead l) [] [] rfl rfl dX12_textRead_34 wlX12_291 wiX12_actRead weX12_actRead wcX12_actRead wnX12 noX12_actRead (by decide) (by decide) (Nat.le_of_ble_eq_true rfl) ⟨(gy_self hg19), hv19.1, hv19.2⟩ rfl rfl ?_
    rintro z34 σ34 k34
    have g34 := gy_trans hg19 k34.1
    have f34 := frm_tr hf19 (frm_mono (Q := PAr) k34.2.1 (fun _ _ h => h))
    have p34_TY := k34.2.2.1
    have up34_TY := p34_TY
    unfold TY at up34_TY
    have kf34 := k34.2.1
    have k34 := k34.2.2.2
    show hs_Wd _ _ _ _ _ _ _ _ _ _ _ _ _ _ _ _ _ 37 _ [vI z34] σ34
    refine s_if_ne (pc := 37) C (tgt := 19) dX12_textRead_37 (by decide) ⟨by omega, by omega⟩ (fun h37 => ?_) (fun h37 => ?_)
    · skip
      refine s_sub C [0] [(0, .ref (ad 0))] rfl ?_
      have hi19 : GY σ σ34 ∧ FRM PAr σ σ34 ∧ TY σ34 ∧ NI σ34 := ⟨g34, f34, ⟨p34_TY, (k34.2 (by omega)).1⟩⟩
      exact ih19 (σ34) (by have q := (k34.2 (by omega)).2; have b : (0 : Int) ≤ σ34 0 31 ∧ σ34 0 31 ≤ 500 := g34.1 0 31; show (502 - σ34 0 31).toNat < (502 - σ1 0 31).toNat; omega) hi19
    · skip
      refine s_iconst (pc := 40) C dX12_textRead_40 ?_
      refine s_zret (pc := 41) C (by omega) dX12_textRead_41 ?_
      refine ⟨_, rfl, ?_⟩
      exact ⟨g34, f34, ⟨by omega, fun q => by exfalso; omega⟩⟩
  · skip
    refine s_aload_n (pc := 26) C dX12_textRead_26 0 rfl ?_
    refine s_geti (q := 0) (ci := 12) (N := 68) (CN := RX12) (T := TX12) (pc := 27) C 41 dX12_textRead_27 wlX12_260 rfl rfl rfl wfX12 (by decide) rfl (σ1 0 41) rfl ?_
    have b27 : (0 : Int) ≤ σ1 0 41 ∧ σ1 0 41 ≤ 5 := hg19.1 0 41
    refine s_if_le (pc := 30) C (tgt := 42) dX12_textRead_30 (by decide) ⟨by omega, by omega⟩ (fun h30 => ?_) (fun h30 => ?_)
    · skip
      refine s_iconst (pc := 42) C dX12_textRead_42 ?_
      refine s_zret (pc := 43) C (by omega) dX12_textRead_43 ?_
      refine ⟨_, rfl, ?_⟩
      exact ⟨hg19, hf19, ⟨by omega, fun _ => ni_pg hv19.2 h30⟩⟩
    · skip
      refine s_aload_n (pc := 33) C dX12_textRead_33 0 rfl ?_
      refine s_callVi (pc := 34) C (c_X12_actRead l) [] [] rfl rfl dX12_textRead_34 wlX12_291 wiX12_actRead weX12_actRead wcX12_actRead wnX12 noX12_actRead (by decide) (by decide) (Nat.le_of_ble_eq_true rfl) ⟨(gy_self hg19), hv19.1, hv19.2⟩ rfl rfl ?_
      rintro z34 σ34 k34
      have g34 := gy_trans hg19 k34.1
      have f34 := frm_tr hf19 (frm_mono (Q := PAr) k34.2.1 (fun _ _ h => h))
      have p34_TY := k34.2.2.1
      have up34_TY := p34_TY
      unfold TY at up34_TY
      have kf34 := k34.2.1
      have k34 := k34.2.2.2
      show hs_Wd _ _ _ _ _ _ _ _ _ _ _ _ _ _ _ _ _ 37 _ [vI z34] σ34
      refine s_if_ne (pc := 37) C (tgt := 19) dX12_textRead_37 (by decide) ⟨by omega, by omega⟩ (fun h37 => ?_) (fun h37 => ?_)
      · skip
        refine s_sub C [0] [(0, .ref (ad 0))] rfl ?_
        have hi19 : GY σ σ34 ∧ FRM PAr σ σ34 ∧ TY σ34 ∧ NI σ34 := ⟨g34, f34, ⟨p34_TY, (k34.2 (by omega)).1⟩⟩
        exact ih19 (σ34) (by have q := (k34.2 (by omega)).2; have b : (0 : Int) ≤ σ34 0 31 ∧ σ34 0 31 ≤ 500 := g34.1 0 31; show (502 - σ34 0 31).toNat < (502 - σ1 0 31).toNat; omega) hi19
      · skip
        refine s_iconst (pc := 40) C dX12_textRead_40 ?_
        refine s_zret (pc := 41) C (by omega) dX12_textRead_41 ?_
        refine ⟨_, rfl, ?_⟩
        exact ⟨g34, f34, ⟨by omega, fun q => by exfalso; omega⟩⟩
