/-! covers: what the reference's needed works out -/
def covY (N s : Int) (c : Nat → Int) (m : Nat) (g : Int) : Prop := ∃ k : Nat, k < m ∧ farY N g (c k) ≤ s
def OPN (N s : Int) (my c : Nat → Int) (m : Nat) (x : Int) : Prop := my ((c 0 + x) % N).toNat ≠ 0 ∧ ¬ covY N s c m ((c 0 + x) % N)
def FO (N s : Int) (my c : Nat → Int) (m : Nat) (x : Int) : Prop := ∀ y : Int, 0 ≤ y → y < x → ¬ OPN N s my c m y
def Gr (N s : Int) (my : Nat → Int) : Nat → (Nat → Int) → Nat → Prop
  | 0, c, m => FO N s my c m N
  | k + 1, c, m => ∃ x : Int, 0 ≤ x ∧ x < N ∧ FO N s my c m x ∧ OPN N s my c m x ∧ c (m - 1) < min (c 0 + x + s) (N - 1) ∧ c 0 + x - s ≤ min (c 0 + x + s) (N - 1) ∧ (m : Int) < N ∧ Gr N s my k (hs_up c m (min (c 0 + x + s) (N - 1))) (m + 1)
theorem covY_cg {N s : Int} {c d : Nat → Int} {m : Nat} (h : ∀ j : Nat, j < m → c j = d j) {g : Int} (k : covY N s c m g) : covY N s d m g := by
  obtain ⟨i, hi, hf⟩ := k
  exact ⟨i, hi, by rw [← h i hi]; exact hf⟩
theorem OPN_cg {N s : Int} {my c d : Nat → Int} {m : Nat} (hm : 1 ≤ m) (h : ∀ j : Nat, j < m → c j = d j) {x : Int} (k : OPN N s my c m x) : OPN N s my d m x := by
  unfold OPN at *
  rw [← h 0 (by omega)]
  exact ⟨k.1, fun q => k.2 (covY_cg (fun j hj => (h j hj).symm) q)⟩
theorem FO_cg {N s : Int} {my c d : Nat → Int} {m : Nat} (hm : 1 ≤ m) (h : ∀ j : Nat, j < m → c j = d j) {x : Int} (k : FO N s my c m x) : FO N s my d m x := fun y h0 h1 q => k y h0 h1 (OPN_cg hm (fun j hj => (h j hj).symm) q)
theorem Gr_cg {N s : Int} {my : Nat → Int} : ∀ (k : Nat) {c d : Nat → Int} {m : Nat}, 1 ≤ m → (∀ j : Nat, j < m → c j = d j) → Gr N s my k c m → Gr N s my k d m := by
  intro k
  induction k with
  | zero => intro c d m hm h q; exact FO_cg hm h q
  | succ k ih =>
    intro c d m hm h q
    obtain ⟨x, h0, h1, h2, h3, h4, h5, h6, h7⟩ := q
    have e0 := h 0 (by omega)
    have e1 := h (m - 1) (by omega)
    refine ⟨x, h0, h1, FO_cg hm h h2, OPN_cg hm h h3, by rw [← e0, ← e1]; exact h4, by rw [← e0]; exact h5, h6, ?_⟩
    rw [← e0]
    refine ih (by omega) (fun j hj => ?_) h7
    by_cases e : j = m
    · rw [e, hs_up_same, hs_up_same]
    · rw [hs_up_ne e, hs_up_ne e]; exact h j (by omega)
theorem FO_succ {N s : Int} {my c : Nat → Int} {m : Nat} {x : Int} (h : FO N s my c m x) (hx : ¬ OPN N s my c m x) : FO N s my c m (x + 1) := by
  intro y h0 h1
  by_cases e : y = x
  · rw [e]; exact hx
  · exact h y h0 (by omega)
theorem FO_uni {N s : Int} {my c : Nat → Int} {m : Nat} {x y : Int} (hx0 : 0 ≤ x) (hy0 : 0 ≤ y) (fx : FO N s my c m x) (ox : OPN N s my c m x) (fy : FO N s my c m y) (oy : OPN N s my c m y) : x = y := by
  rcases Int.lt_trichotomy x y with h | h | h
  · exact absurd ox (fy x hx0 h)
  · exact h
  · exact absurd oy (fx y hy0 h)
theorem Gr_step {N s : Int} {my c : Nat → Int} {m : Nat} {x p : Int} (h0 : 0 ≤ x) (h1 : x < N) (fx : FO N s my c m x) (ox : OPN N s my c m x) (hp : min (c 0 + x + s) (N - 1) = p) (h4 : c (m - 1) < p) (h5 : c 0 + x - s ≤ p) (h6 : (m : Int) < N) : (∀ k, Gr N s my (k + 1) c m ↔ Gr N s my k (hs_up c m p) (m + 1)) ∧ ¬ Gr N s my 0 c m := by
  refine ⟨fun k => ⟨fun q => ?_, fun q => ?_⟩, fun q => q x h0 h1 ox⟩
  · obtain ⟨y, a0, a1, a2, a3, a4, a5, a6, a7⟩ := q
    have e := FO_uni a0 h0 a2 a3 fx ox
    rw [e, hp] at a7
    exact a7
  · exact ⟨x, h0, h1, fx, ox, by rw [hp]; exact h4, by rw [hp]; exact h5, h6, by rw [hp]; exact q⟩
theorem Gr_fail {N s : Int} {my c : Nat → Int} {m : Nat} {x p : Int} (h0 : 0 ≤ x) (h1 : x < N) (fx : FO N s my c m x) (ox : OPN N s my c m x) (hp : min (c 0 + x + s) (N - 1) = p) (h4 : p ≤ c (m - 1) ∨ p < c 0 + x - s ∨ N ≤ (m : Int)) : ∀ k, ¬ Gr N s my k c m := by
  intro k q
  cases k with
  | zero => exact q x h0 h1 ox
  | succ k =>
    obtain ⟨y, a0, a1, a2, a3, a4, a5, a6, a7⟩ := q
    have e := FO_uni a0 h0 a2 a3 fx ox
    rw [e, hp] at a4 a5
    omega
theorem Gr_det {N s : Int} {my : Nat → Int} : ∀ (k l : Nat) {c : Nat → Int} {m : Nat}, Gr N s my k c m → Gr N s my l c m → k = l := by
  intro k
  induction k with
  | zero =>
    intro l c m hk hl
    cases l with
    | zero => rfl
    | succ l =>
      obtain ⟨y, a0, a1, a2, a3, -⟩ := hl
      exact absurd a3 (hk y a0 a1)
  | succ k ih =>
    intro l c m hk hl
    cases l with
    | zero =>
      obtain ⟨y, a0, a1, a2, a3, -⟩ := hk
      exact absurd a3 (hl y a0 a1)
    | succ l =>
      obtain ⟨x, b0, b1, b2, b3, b4, b5, b6, b7⟩ := hk
      obtain ⟨y, a0, a1, a2, a3, a4, a5, a6, a7⟩ := hl
      have e := FO_uni a0 b0 a2 a3 b2 b3
      rw [e] at a7
      rw [ih l b7 a7]
theorem covY_mono {N s : Int} {c : Nat → Int} {m : Nat} {p g : Int} (h : covY N s c m g) : covY N s (hs_up c m p) (m + 1) g := by
  obtain ⟨i, hi, hf⟩ := h
  exact ⟨i, by omega, by rw [hs_up_ne (by omega)]; exact hf⟩
theorem FO_mono {N s : Int} {my c : Nat → Int} {m : Nat} {p x : Int} (hm : 1 ≤ m) (h : FO N s my c m x) : FO N s my (hs_up c m p) (m + 1) x := by
  intro y h0 h1 q
  unfold OPN at q
  rw [hs_up_ne (by omega : (0 : Nat) ≠ m)] at q
  exact h y h0 h1 ⟨q.1, fun r => q.2 (covY_mono r)⟩
/-- one place more: a place from the last one's next on, up to some pst, with which fewer are needed -/
theorem Gr_next {N s : Int} {my c : Nat → Int} {m : Nat} {ls : Int} (hm : 1 ≤ m) (hl : 1 ≤ ls) (h : ∃ k : Nat, (k : Int) ≤ ls ∧ Gr N s my k c m) : ∃ pst : Int, c (m - 1) + 1 ≤ pst ∧ (pst ≤ N - 1 ∨ pst = c (m - 1) + 1) ∧ ∃ k : Nat, (k : Int) ≤ ls - 1 ∧ Gr N s my k (hs_up c m pst) (m + 1) := by
  obtain ⟨k, hk, hg⟩ := h
  cases k with
  | zero => exact ⟨c (m - 1) + 1, by omega, Or.inr rfl, 0, by omega, FO_mono hm hg⟩
  | succ k =>
    obtain ⟨x, b0, b1, b2, b3, b4, b5, b6, b7⟩ := hg
    exact ⟨_, by omega, Or.inl (by omega), k, by omega, b7⟩
theorem FO_or {N s : Int} {my c : Nat → Int} {m : Nat} : ∀ n : Nat, FO N s my c m n ∨ ∃ x : Int, 0 ≤ x ∧ x < n ∧ FO N s my c m x ∧ OPN N s my c m x := by
  intro n
  induction n with
  | zero => exact Or.inl (fun y h0 h1 => by exfalso; omega)
  | succ n ih =>
    rcases ih with h | ⟨x, h0, h1, h2, h3⟩
    · by_cases q : OPN N s my c m n
      · exact Or.inr ⟨n, by omega, by omega, h, q⟩
      · left
        have := FO_succ h q
        rw [show ((n + 1 : Nat) : Int) = (n : Int) + 1 by omega]
        exact this
    · exact Or.inr ⟨x, h0, by omega, h2, h3⟩
theorem farY_near {N s g p : Int} (hN : 10 ≤ N) (hs : 0 ≤ s ∧ s ≤ 3) (h1 : g - p ≤ s) (h2 : p - g ≤ s) : farY N g p ≤ s := by
  unfold farY
  rcases Int.lt_or_le g p with q | q
  · have e : (g - p) % N = g - p + N := by
      rw [← Int.add_emod_right]
      exact Int.emod_eq_of_lt (by omega) (by omega)
    rw [e]
    split <;> omega
  · have e : (g - p) % N = g - p := Int.emod_eq_of_lt (by omega) (by omega)
    rw [e]
    split <;> omega
theorem Gr_ex {N s : Int} {my : Nat → Int} (hN : 10 ≤ N) (hs : 0 ≤ s ∧ s ≤ 3) : ∀ (n : Nat) (c : Nat → Int) (m : Nat), 1 ≤ m → c 0 = 0 → (m : Int) - 1 ≤ c (m - 1) → c (m - 1) ≤ N - 1 → (∀ g : Int, 0 ≤ g → g < N → g ≤ c (m - 1) + s → my g.toNat ≠ 0 → covY N s c m g) → (N - 1 - c (m - 1)).toNat ≤ n → ∃ k, Gr N s my k c m := by
  intro n
  induction n with
  | zero =>
    intro c m hm h0 h1 h2 hc hn
    refine ⟨0, fun y y0 y1 q => ?_⟩
    have e : (c 0 + y) % N = y := by rw [h0, Int.zero_add]; exact Int.emod_eq_of_lt y0 y1
    unfold OPN at q
    rw [e] at q
    exact q.2 (hc y y0 y1 (by omega) q.1)
  | succ n ih =>
    intro c m hm h0 h1 h2 hc hn
    rcases FO_or (N := N) (s := s) (my := my) (c := c) (m := m) N.toNat with h | ⟨x, x0, x1, x2, x3⟩
    · refine ⟨0, ?_⟩
      rw [show ((N.toNat : Nat) : Int) = N by omega] at h
      exact h
    · have xN : x < N := by omega
      have e : (c 0 + x) % N = x := by rw [h0, Int.zero_add]; exact Int.emod_eq_of_lt x0 xN
      have x4 := x3
      unfold OPN at x4
      rw [e] at x4
      have hx : c (m - 1) + s < x := by
        rcases Int.lt_or_le (c (m - 1) + s) x with q | q
        · exact q
        · exact absurd (hc x x0 xN q x4.1) x4.2
      obtain ⟨p, hp⟩ : ∃ p, min (c 0 + x + s) (N - 1) = p := ⟨_, rfl⟩
      have hup : hs_up c m p (m + 1 - 1) = p := by rw [Nat.add_sub_cancel]; exact hs_up_same
      obtain ⟨k, hk⟩ := ih (hs_up c m p) (m + 1) (by omega) (by rw [hs_up_ne (by omega)]; exact h0) (by rw [hup]; omega) (by rw [hup]; omega) (fun g g0 g1 g2 g3 => by
        rw [hup] at g2
        by_cases q : g < x
        · have f := x2 g g0 q
          unfold OPN at f
          have e2 : (c 0 + g) % N = g := by rw [h0, Int.zero_add]; exact Int.emod_eq_of_lt g0 g1
          rw [e2] at f
          have hcv : covY N s c m g := Classical.byContradiction (fun r => f ⟨g3, r⟩)
          exact covY_mono hcv
        · exact ⟨m, by omega, by rw [hs_up_same]; exact farY_near hN hs (by omega) (by omega)⟩) (by rw [hup]; omega)
      refine ⟨k + 1, x, x0, xN, x2, x3, by rw [hp]; omega, by rw [hp]; omega, by omega, ?_⟩
      rw [hp]
      exact hk
theorem Gr_ex0 {N s : Int} {my c : Nat → Int} (hN : 10 ≤ N) (hs : 0 ≤ s ∧ s ≤ 3) (h0 : c 0 = 0) : ∃ k, Gr N s my k c 1 := by
  refine Gr_ex hN hs (N - 1).toNat c 1 (by omega) h0 ?_ ?_ ?_ ?_
  · show ((1 : Nat) : Int) - 1 ≤ c 0
    rw [h0]; decide
  · show c 0 ≤ N - 1
    rw [h0]; omega
  · intro g g0 g1 g2 g3
    have g2 : g ≤ c 0 + s := g2
    exact ⟨0, by omega, by rw [h0]; exact farY_near hN hs (by omega) (by omega)⟩
  · show (N - 1 - c 0).toNat ≤ _
    rw [h0]; omega
/-- what needed's loop keeps -/
def NDI (N s : Int) (my c0 : Nat → Int) (la : Nat) (c1 : Nat → Int) (m : Nat) : Prop := (∀ k, Gr N s my (k + (m - la)) c0 la ↔ Gr N s my k c1 m) ∧ (∀ k, k < m - la → ¬ Gr N s my k c0 la)
theorem NDI_0 {N s : Int} {my c0 : Nat → Int} {la : Nat} : NDI N s my c0 la c0 la := by
  refine ⟨fun k => ?_, fun k hk => by exfalso; omega⟩
  rw [Nat.sub_self, Nat.add_zero]
theorem NDI_step {N s : Int} {my c0 c1 c2 : Nat → Int} {la m m2 : Nat} (hla : la ≤ m) (h : NDI N s my c0 la c1 m) {x p : Int} (h0 : 0 ≤ x) (h1 : x < N) (fx : FO N s my c1 m x) (ox : OPN N s my c1 m x) (hp : min (c1 0 + x + s) (N - 1) = p) (h4 : c1 (m - 1) < p) (h5 : c1 0 + x - s ≤ p) (h6 : (m : Int) < N) (h2 : c2 = hs_up c1 m p) (hm2 : m2 = m + 1) : NDI N s my c0 la c2 m2 := by
  subst h2
  subst hm2
  obtain ⟨g1, g2⟩ := Gr_step h0 h1 fx ox hp h4 h5 h6
  refine ⟨fun k => ?_, fun k hk => ?_⟩
  · rw [← g1 k, ← h.1 (k + 1), show k + (m + 1 - la) = k + 1 + (m - la) by omega]
  · by_cases e : k < m - la
    · exact h.2 k e
    · have h3 := h.1 0
      rw [show k = 0 + (m - la) by omega]
      exact fun q => g2 (h3.mp q)
theorem NDI_fin {N s : Int} {my c0 c1 : Nat → Int} {la m : Nat} (h : NDI N s my c0 la c1 m) (hf : FO N s my c1 m N) : Gr N s my (m - la) c0 la := by
  have := (h.1 0).mpr hf
  rwa [Nat.zero_add] at this
theorem NDI_fail {N s : Int} {my c0 c1 : Nat → Int} {la m : Nat} (h : NDI N s my c0 la c1 m) (hf : ∀ k, ¬ Gr N s my k c1 m) : ∀ k, ¬ Gr N s my k c0 la := by
  intro k
  by_cases e : k < m - la
  · exact h.2 k e
  · have h3 := h.1 (k - (m - la))
    rw [show k - (m - la) + (m - la) = k by omega] at h3
    exact fun q => hf _ (h3.mp q)
def PLm (c j : Nat) : Bool := c == 27
def PNd (a c j : Nat) : Bool := c == 28 && decide (a ≤ j)
def PLc (c j : Nat) : Bool := c == 27 || c == 28 || (c == 0 && j == 53)
def PLw (c j : Nat) : Bool := c == 27 || c == 28 || (c == 0 && (j == 53 || j == 58)) || c == 29 || c == 30
def PSo (c j : Nat) : Bool := (c == 0 && (j == 4 || j == 5 || j == 23)) || c == 10 || c == 11 || c == 32 || c == 33
def MNY (σ : hs_S) : Prop := (0 ≤ σ 0 58 ∧ σ 0 58 ≤ 400) ∧ (0 < σ 0 58 → ∀ j : Nat, (j : Int) < σ 0 6 → 1 ≤ σ 29 j)
def okMNY (c j : Nat) : Bool := !(c == 29 || (c == 0 && (j == 58 || j == 6)))
theorem MNY_cg {σ σ1 : hs_S} (h : FRM okMNY σ σ1) (k : MNY σ) : MNY σ1 := by
  unfold MNY at *
  rw [h 0 58 rfl]
  refine ⟨k.1, fun q j hj => ?_⟩
  rw [h 29 j rfl]
  rw [h 0 6 rfl] at hj
  exact k.2 q j hj
theorem lc_step {N u : Int} {my c1 c2 : Nat → Int} {pp bs ls z : Int} (hN : 10 ≤ N ∧ N ≤ 100) (hu : 0 ≤ u ∧ u ≤ 3) (hi : (ls = 1000 ∧ pp = 0) ∨ (0 ≤ ls ∧ ls + 1 ≤ N ∧ Gr N u my ls.toNat (hs_up c1 0 bs) 1)) (hk : (z = 1000 ∧ ∀ k, ¬ Gr N u my k (hs_up c1 0 pp) 1) ∨ (0 ≤ z ∧ z + 1 ≤ N ∧ Gr N u my z.toNat (hs_up c1 0 pp) 1)) : (z < ls → 0 ≤ z ∧ z + 1 ≤ N ∧ Gr N u my z.toNat (hs_up c2 0 pp) 1) ∧ (¬ z < ls → 0 ≤ ls ∧ ls + 1 ≤ N ∧ Gr N u my ls.toNat (hs_up c2 0 bs) 1) := by
  have cg : ∀ (b : Int) (j : Nat), j < 1 → hs_up c1 0 b j = hs_up c2 0 b j := fun b j hj => by
    have e : j = 0 := by omega
    rw [e, hs_up_same, hs_up_same]
  refine ⟨fun hz => ?_, fun hz => ?_⟩
  · rcases hk with ⟨q, -⟩ | ⟨q1, q2, q3⟩
    · exfalso
      rcases hi with ⟨r, -⟩ | ⟨r1, r2, -⟩ <;> omega
    · exact ⟨q1, q2, Gr_cg _ (by omega) (cg pp) q3⟩
  · rcases hi with ⟨r1, r2⟩ | ⟨r1, r2, r3⟩
    · exfalso
      rcases hk with ⟨-, q⟩ | ⟨q1, q2, -⟩
      · obtain ⟨k, hk⟩ := Gr_ex0 (N := N) (s := u) (my := my) (c := hs_up c1 0 pp) hN.1 hu (by rw [hs_up_same]; exact r2)
        exact q k hk
      · omega
    · exact ⟨r1, r2, Gr_cg _ (by omega) (cg bs) r3⟩
theorem lc_cont {N u : Int} {my c3 c4 : Nat → Int} {m kk : Nat} {pst qq lt z : Int} (hk : (z = 1000 ∧ ∀ k, ¬ Gr N u my k c4 (m + 1)) ∨ (0 ≤ z ∧ z + (m + 1 : Nat) ≤ N ∧ Gr N u my z.toNat c4 (m + 1))) (hG : Gr N u my kk (hs_up c3 m pst) (m + 1)) (hkk : (kk : Int) ≤ lt - 1) (hr : ∀ j : Nat, j < m → c4 j = c3 j) (hq : c4 m = qq) (hz : lt - 1 < z) (hle : qq ≤ pst) : qq < pst := by
  rcases Int.lt_or_le qq pst with h | h
  · exact h
  · exfalso
    have e : qq = pst := by omega
    have hG2 : Gr N u my kk c4 (m + 1) := Gr_cg kk (by omega) (fun j hj => by
      by_cases ej : j = m
      · rw [ej, hs_up_same, hq]; exact e.symm
      · rw [hs_up_ne ej]; exact (hr j (by omega)).symm) hG
    rcases hk with ⟨-, q⟩ | ⟨q1, -, q3⟩
    · exact q kk hG2
    · have := Gr_det _ _ q3 hG2
      omega
set_option maxHeartbeats 4000000 in
set_option maxRecDepth 100000 in
theorem c_X12_mayBe (l : Launch) (w : Int) (hw : 0 ≤ w ∧ w < 4) (g : Int) (hg : 0 ≤ g ∧ g ≤ 99) : hs_Met l yX12_mayBe cX12_mayBe 8 (some .boolean) 4 SHY (fun ad => [.ref (ad 0), vI w, vI g]) (fun σ => GY σ σ) (hs_PI (fun σ z σ1 => σ = σ1 ∧ (z = 0 ∨ z = 1))) := by
  refine hs_from pfX12_mayBe (fun _ => Nat.le_of_ble_eq_true rfl) ?_
  intro p e s m args below meth c D dA ad A σ C hpre
  have C : hs_C p s m args meth c D dA SHY ad A 8 cX12_mayBe RX12 (some .boolean) := C
  have g0 := hpre
  show hs_Wd p l e 4 s m args below meth c D dA SHY ad A 8 (hs_PI (fun σ z σ1 => σ = σ1 ∧ (z = 0 ∨ z = 1)) σ) 0 [(0, .ref (ad 0)), (1, vI w), (2, vI g)] [] σ
  refine s_iconst (pc := 0) C dX12_mayBe_0 ?_
  refine s_istore_n (pc := 1) C [(3, vI 0), (0, .ref (ad 0)), (1, vI w), (2, vI g)] dX12_mayBe_1 (by decide) rfl ?_
  refine s_iconst (pc := 2) C dX12_mayBe_2 ?_
  refine s_istore (pc := 3) C [(4, vI 0), (3, vI 0), (0, .ref (ad 0)), (1, vI w), (2, vI g)] dX12_mayBe_3 (by decide) rfl ?_
  refine s_sub C [2, 3, 4, 1, 0] [(0, .ref (ad 0)), (1, vI w), (2, vI g), (3, vI 0), (4, vI 0)] rfl ?_
  have hi5 : 0 ≤ (0 : Int) ∧ (0 : Int) ≤ 4 ∧ 0 ≤ (0 : Int) ∧ (0 : Int) ≤ 900 := (by first | omega | assumption | (constructor <;> omega) | (refine ⟨⟨?_, ?_⟩, ?_⟩ <;> omega) | (simp [hs_ss, hs_up]; omega) | (simp [hs_ss, hs_up]; done))
  refine hs_loop (α := Int × Int) (fun x_ => (0 ≤ x_.1 ∧ x_.1 ≤ 4 ∧ 0 ≤ x_.2 ∧ x_.2 ≤ 900) → hs_Wd p l e 4 s m args below meth c D dA SHY ad A 8 (hs_PI (fun σ z σ1 => σ = σ1 ∧ (z = 0 ∨ z = 1)) σ) 5 [(0, .ref (ad 0)), (1, vI w), (2, vI g), (3, vI x_.2), (4, vI x_.1)] [] σ) (fun x_ => (5 - x_.1).toNat) ?_ (0, 0) hi5
  rintro ⟨o, mo⟩ ih5 hinv
  replace hinv : 0 ≤ o ∧ o ≤ 4 ∧ 0 ≤ mo ∧ mo ≤ 900 := hinv
  show hs_Wd p l e 4 s m args below meth c D dA SHY ad A 8 (hs_PI (fun σ z σ1 => σ = σ1 ∧ (z = 0 ∨ z = 1)) σ) 5 [(0, .ref (ad 0)), (1, vI w), (2, vI g), (3, vI mo), (4, vI o)] [] σ
  refine s_iload (pc := 5) C dX12_mayBe_5 4 rfl ?_
  refine s_aload_n (pc := 7) C dX12_mayBe_7 0 rfl ?_
  refine s_geti (q := 0) (ci := 12) (N := 68) (CN := RX12) (T := TX12) (pc := 8) C 6 dX12_mayBe_8 wlX12_141 rfl rfl rfl wfX12 (by decide) rfl (σ 0 6) rfl ?_
  have b8 : (0 : Int) ≤ σ 0 6 ∧ σ 0 6 ≤ 4 := g0.1 0 6
  refine s_icmp_ge (pc := 11) C (tgt := 49) dX12_mayBe_11 (by decide) ⟨by omega, by omega⟩ ⟨by omega, by omega⟩ (fun h11 => ?_) (fun h11 => ?_)
  · skip
    refine s_iconst (pc := 49) C dX12_mayBe_49 ?_
    refine s_istore (pc := 50) C [(4, vI 0), (0, .ref (ad 0)), (1, vI w), (2, vI g), (3, vI mo)] dX12_mayBe_50 (by decide) rfl ?_
    refine s_sub C [1, 2, 3, 4, 0] [(0, .ref (ad 0)), (1, vI w), (2, vI g), (3, vI mo), (4, vI 0)] rfl ?_
    have hi52 : 0 ≤ (0 : Int) ∧ (0 : Int) ≤ 100 := (by first | omega | assumption | (constructor <;> omega) | (refine ⟨⟨?_, ?_⟩, ?_⟩ <;> omega) | (simp [hs_ss, hs_up]; omega) | (simp [hs_ss, hs_up]; done))
    refine hs_loop (α := Int) (fun x_ => (0 ≤ x_ ∧ x_ ≤ 100) → hs_Wd p l e 4 s m args below meth c D dA SHY ad A 8 (hs_PI (fun σ z σ1 => σ = σ1 ∧ (z = 0 ∨ z = 1)) σ) 52 [(0, .ref (ad 0)), (1, vI w), (2, vI g), (3, vI mo), (4, vI x_)] [] σ) (fun x_ => (101 - x_).toNat) ?_ (0) hi52
    rintro k ih52 hinv
    replace hinv : 0 ≤ k ∧ k ≤ 100 := hinv
    show hs_Wd p l e 4 s m args below meth c D dA SHY ad A 8 (hs_PI (fun σ z σ1 => σ = σ1 ∧ (z = 0 ∨ z = 1)) σ) 52 [(0, .ref (ad 0)), (1, vI w), (2, vI g), (3, vI mo), (4, vI k)] [] σ
    refine s_iload (pc := 52) C dX12_mayBe_52 4 rfl ?_
    refine s_aload_n (pc := 54) C dX12_mayBe_54 0 rfl ?_
    refine s_geti (q := 0) (ci := 12) (N := 68) (CN := RX12) (T := TX12) (pc := 55) C 20 dX12_mayBe_55 wlX12_202 rfl rfl rfl wfX12 (by decide) rfl (σ 0 20) rfl ?_
    have b55 : (0 : Int) ≤ σ 0 20 ∧ σ 0 20 ≤ 100 := g0.1 0 20
    refine s_icmp_ge (pc := 58) C (tgt := 158) dX12_mayBe_58 (by decide) ⟨by omega, by omega⟩ ⟨by omega, by omega⟩ (fun h58 => ?_) (fun h58 => ?_)
    · skip
      refine s_iconst (pc := 158) C dX12_mayBe_158 ?_
      refine s_zret (pc := 159) C (by omega) dX12_mayBe_159 ?_
      refine ⟨_, rfl, ?_⟩
      exact ⟨rfl, by first | omega | assumption | (constructor <;> omega) | (refine ⟨⟨?_, ?_⟩, ?_⟩ <;> omega) | (simp [hs_ss, hs_up]; omega) | (simp [hs_ss, hs_up]; done)⟩
    · skip
      refine s_aload_n (pc := 61) C dX12_mayBe_61 0 rfl ?_
      refine s_getr (q := 0) (ci := 12) (N := 68) (CN := RX12) (T := TX12) (pc := 62) C 21 dX12_mayBe_62 wlX12_47 rfl rfl rfl wfX12 (by decide) rfl ?_
      refine s_iconst (pc := 65) C dX12_mayBe_65 ?_
      refine s_iload (pc := 66) C dX12_mayBe_66 4 rfl ?_
      refine s_imul (pc := 68) C dX12_mayBe_68 ?_
      refine s_iconst (pc := 69) C dX12_mayBe_69 ?_
      refine s_iadd (pc := 70) C dX12_mayBe_70 ?_
      refine s_iload_n (pc := 71) C dX12_mayBe_71 1 rfl ?_
      refine s_iadd (pc := 72) C dX12_mayBe_72 ?_
      refine s_iald (q := 12) (n := 500) (pc := 73) C (σ 12 ((((5 * k) + 1) + w).toNat)) rfl dX12_mayBe_73 rfl (by omega) (by omega) (by decide) ?_
      have b73 : (-10000 : Int) ≤ σ 12 ((((5 * k) + 1) + w).toNat) ∧ σ 12 ((((5 * k) + 1) + w).toNat) ≤ 10000 := g0.1 12 ((((5 * k) + 1) + w).toNat)
      refine s_istore (pc := 74) C [(5, vI (σ 12 ((((5 * k) + 1) + w).toNat))), (0, .ref (ad 0)), (1, vI w), (2, vI g), (3, vI mo), (4, vI k)] dX12_mayBe_74 (by decide) rfl ?_
      refine s_aload_n (pc := 76) C dX12_mayBe_76 1 rfl ?_
      refine s_getr (q := 0) (ci := 12) (N := 68) (CN := RX12) (T := TX12) (pc := 77) C 21 dX12_mayBe_77 wlX12_47 rfl rfl rfl wfX12 (by decide) rfl ?_
      refine s_iconst (pc := 80) C dX12_mayBe_80 ?_
      refine s_iload (pc := 81) C dX12_mayBe_81 5 rfl ?_
      refine s_imul (pc := 83) C dX12_mayBe_83 ?_
      refine s_iald (q := 12) (n := 500) (pc := 84) C (σ 12 ((5 * k).toNat)) rfl dX12_mayBe_84 rfl (by omega) (by omega) (by decide) ?_
      have b84 : (-10000 : Int) ≤ σ 12 ((5 * k).toNat) ∧ σ 12 ((5 * k).toNat) ≤ 10000 := g0.1 12 ((5 * k).toNat)
      refine s_istore (pc := 85) C [(6, vI (σ 12 ((5 * k).toNat))), (5, vI (σ 12 ((((5 * k) + 1) + w).toNat))), (0, .ref (ad 0)), (1, vI w), (2, vI g), (3, vI mo), (4, vI k)] dX12_mayBe_85 (by decide) rfl ?_
      refine s_aload_n (pc := 87) C dX12_mayBe_87 2 rfl ?_
      refine s_iload (pc := 88) C dX12_mayBe_88 1 rfl ?_
      refine s_iload_n (pc := 90) C dX12_mayBe_90 4 rfl ?_
      refine s_callVi (pc := 91) C (c_X12_far l (σ 12 ((((5 * k) + 1) + w).toNat)) g (by first | omega | assumption | (constructor <;> omega) | (refine ⟨⟨?_, ?_⟩, ?_⟩ <;> omega) | (simp [hs_ss, hs_up]; omega) | (simp [hs_ss, hs_up]; done)) (by first | omega | assumption | (constructor <;> omega) | (refine ⟨⟨?_, ?_⟩, ?_⟩ <;> omega) | (simp [hs_ss, hs_up]; omega) | (simp [hs_ss, hs_up]; done))) [vI (σ 12 ((((5 * k) + 1) + w).toNat)), vI g] [] rfl rfl dX12_mayBe_91 wlX12_158 wiX12_far weX12_far wcX12_far wnX12 noX12_far (by decide) (by decide) (Nat.le_of_ble_eq_true rfl) (gy_self g0) rfl rfl ?_
      rintro z91 _ ⟨rfl, k91⟩
      show hs_Wd _ _ _ _ _ _ _ _ _ _ _ _ _ _ _ _ _ 94 _ [vI z91] σ
      refine s_istore (pc := 94) C [(7, vI z91), (6, vI (σ 12 ((5 * k).toNat))), (5, vI (σ 12 ((((5 * k) + 1) + w).toNat))), (0, .ref (ad 0)), (1, vI w), (2, vI g), (3, vI mo), (4, vI k)] dX12_mayBe_94 (by decide) rfl ?_
      refine s_iload (pc := 96) C dX12_mayBe_96 0 rfl ?_
      refine s_aload_n (pc := 98) C dX12_mayBe_98 3 rfl ?_
      refine s_getr (q := 0) (ci := 12) (N := 68) (CN := RX12) (T := TX12) (pc := 99) C 10 dX12_mayBe_99 wlX12_26 rfl rfl rfl wfX12 (by decide) rfl ?_
      refine s_iload_n (pc := 102) C dX12_mayBe_102 4 rfl ?_
      refine s_iald (q := 5) (n := 4) (pc := 103) C (σ 5 w.toNat) rfl dX12_mayBe_103 rfl (by omega) (by omega) (by decide) ?_
      have b103 : (0 : Int) ≤ σ 5 w.toNat ∧ σ 5 w.toNat ≤ 3 := g0.1 5 w.toNat
      refine s_icmp_gt (pc := 104) C (tgt := 120) dX12_mayBe_104 (by decide) ⟨by omega, by omega⟩ ⟨by omega, by omega⟩ (fun h104 => ?_) (fun h104 => ?_)
      · skip
        refine s_iload (pc := 120) C dX12_mayBe_120 0 rfl ?_
        refine s_aload_n (pc := 122) C dX12_mayBe_122 3 rfl ?_
        refine s_getr (q := 0) (ci := 12) (N := 68) (CN := RX12) (T := TX12) (pc := 123) C 10 dX12_mayBe_123 wlX12_26 rfl rfl rfl wfX12 (by decide) rfl ?_
        refine s_iload_n (pc := 126) C dX12_mayBe_126 4 rfl ?_
        refine s_iald (q := 5) (n := 4) (pc := 127) C (σ 5 w.toNat) rfl dX12_mayBe_127 rfl (by omega) (by omega) (by decide) ?_
        have b127 : (0 : Int) ≤ σ 5 w.toNat ∧ σ 5 w.toNat ≤ 3 := g0.1 5 w.toNat
        refine s_iconst (pc := 128) C dX12_mayBe_128 ?_
        refine s_iadd (pc := 129) C dX12_mayBe_129 ?_
        refine s_icmp_le (pc := 130) C (tgt := 152) dX12_mayBe_130 (by decide) ⟨by omega, by omega⟩ ⟨by omega, by omega⟩ (fun h130 => ?_) (fun h130 => ?_)
        · skip
          refine s_iinc (pc := 152) C [(4, vI (k + 1)), (7, vI z91), (6, vI (σ 12 ((5 * k).toNat))), (5, vI (σ 12 ((((5 * k) + 1) + w).toNat))), (0, .ref (ad 0)), (1, vI w), (2, vI g), (3, vI mo)] dX12_mayBe_152 7 rfl (by decide) rfl ?_
          refine s_goto (pc := 155) C (tgt := 52) dX12_mayBe_155 (by decide) ?_
          refine s_sub C [4, 5, 6, 7, 0] [(0, .ref (ad 0)), (1, vI w), (2, vI g), (3, vI mo), (4, vI (k + 1))] rfl ?_
          have hi52 : 0 ≤ (k + 1) ∧ (k + 1) ≤ 100 := (by first | omega | assumption | (constructor <;> omega) | (refine ⟨⟨?_, ?_⟩, ?_⟩ <;> omega) | (simp [hs_ss, hs_up]; omega) | (simp [hs_ss, hs_up]; done))
          exact ih52 (k + 1) (by first | omega | (simp only []; omega)) hi52
        · skip
          refine s_iload (pc := 133) C dX12_mayBe_133 1 rfl ?_
          refine s_aload_n (pc := 135) C dX12_mayBe_135 3 rfl ?_
          refine s_geti (q := 0) (ci := 12) (N := 68) (CN := RX12) (T := TX12) (pc := 136) C 19 dX12_mayBe_136 wlX12_327 rfl rfl rfl wfX12 (by decide) rfl (σ 0 19) rfl ?_
          have b136 : (0 : Int) ≤ σ 0 19 ∧ σ 0 19 ≤ 99 := g0.1 0 19
          refine s_iadd (pc := 139) C dX12_mayBe_139 ?_
          refine s_aload_n (pc := 140) C dX12_mayBe_140 3 rfl ?_
          refine s_iload_n (pc := 141) C dX12_mayBe_141 4 rfl ?_
          refine s_iload (pc := 142) C dX12_mayBe_142 2 rfl ?_
          refine s_callVi (pc := 144) C (c_X12_plain l w (σ 12 ((((5 * k) + 1) + w).toNat)) (by first | omega | assumption | (constructor <;> omega) | (refine ⟨⟨?_, ?_⟩, ?_⟩ <;> omega) | (simp [hs_ss, hs_up]; omega) | (simp [hs_ss, hs_up]; done)) (by first | omega | assumption | (constructor <;> omega) | (refine ⟨⟨?_, ?_⟩, ?_⟩ <;> omega) | (simp [hs_ss, hs_up]; omega) | (simp [hs_ss, hs_up]; done))) [vI w, vI (σ 12 ((((5 * k) + 1) + w).toNat))] [vI ((σ 12 ((5 * k).toNat)) + (σ 0 19))] rfl rfl dX12_mayBe_144 wlX12_170 wiX12_plain weX12_plain wcX12_plain wnX12 noX12_plain (by decide) (by decide) (Nat.le_of_ble_eq_true rfl) (gy_self g0) rfl rfl ?_
          rintro z144 _ ⟨rfl, k144⟩
          show hs_Wd _ _ _ _ _ _ _ _ _ _ _ _ _ _ _ _ _ 147 _ [vI z144, vI ((σ 12 ((5 * k).toNat)) + (σ 0 19))] σ
          refine s_icmp_ge (pc := 147) C (tgt := 152) dX12_mayBe_147 (by decide) ⟨by omega, by omega⟩ ⟨by omega, by omega⟩ (fun h147 => ?_) (fun h147 => ?_)
          · skip
            refine s_iinc (pc := 152) C [(4, vI (k + 1)), (7, vI z91), (6, vI (σ 12 ((5 * k).toNat))), (5, vI (σ 12 ((((5 * k) + 1) + w).toNat))), (0, .ref (ad 0)), (1, vI w), (2, vI g), (3, vI mo)] dX12_mayBe_152 7 rfl (by decide) rfl ?_
            refine s_goto (pc := 155) C (tgt := 52) dX12_mayBe_155 (by decide) ?_
            refine s_sub C [4, 5, 6, 7, 0] [(0, .ref (ad 0)), (1, vI w), (2, vI g), (3, vI mo), (4, vI (k + 1))] rfl ?_
            have hi52 : 0 ≤ (k + 1) ∧ (k + 1) ≤ 100 := (by first | omega | assumption | (constructor <;> omega) | (refine ⟨⟨?_, ?_⟩, ?_⟩ <;> omega) | (simp [hs_ss, hs_up]; omega) | (simp [hs_ss, hs_up]; done))
            exact ih52 (k + 1) (by first | omega | (simp only []; omega)) hi52
          · skip
            refine s_iconst (pc := 150) C dX12_mayBe_150 ?_
            refine s_zret (pc := 151) C (by omega) dX12_mayBe_151 ?_
            refine ⟨_, rfl, ?_⟩
            exact ⟨rfl, by first | omega | assumption | (constructor <;> omega) | (refine ⟨⟨?_, ?_⟩, ?_⟩ <;> omega) | (simp [hs_ss, hs_up]; omega) | (simp [hs_ss, hs_up]; done)⟩
      · skip
        refine s_iload (pc := 107) C dX12_mayBe_107 1 rfl ?_
        refine s_aload_n (pc := 109) C dX12_mayBe_109 3 rfl ?_
        refine s_geti (q := 0) (ci := 12) (N := 68) (CN := RX12) (T := TX12) (pc := 110) C 19 dX12_mayBe_110 wlX12_327 rfl rfl rfl wfX12 (by decide) rfl (σ 0 19) rfl ?_
        have b110 : (0 : Int) ≤ σ 0 19 ∧ σ 0 19 ≤ 99 := g0.1 0 19
        refine s_isub (pc := 113) C dX12_mayBe_113 ?_
        refine s_iload_n (pc := 114) C dX12_mayBe_114 6 rfl ?_
        refine s_icmp_le (pc := 115) C (tgt := 120) dX12_mayBe_115 (by decide) ⟨by omega, by omega⟩ ⟨by omega, by omega⟩ (fun h115 => ?_) (fun h115 => ?_)
        · skip
          refine s_iload (pc := 120) C dX12_mayBe_120 0 rfl ?_
          refine s_aload_n (pc := 122) C dX12_mayBe_122 3 rfl ?_
          refine s_getr (q := 0) (ci := 12) (N := 68) (CN := RX12) (T := TX12) (pc := 123) C 10 dX12_mayBe_123 wlX12_26 rfl rfl rfl wfX12 (by decide) rfl ?_
          refine s_iload_n (pc := 126) C dX12_mayBe_126 4 rfl ?_
          refine s_iald (q := 5) (n := 4) (pc := 127) C (σ 5 w.toNat) rfl dX12_mayBe_127 rfl (by omega) (by omega) (by decide) ?_
          have b127 : (0 : Int) ≤ σ 5 w.toNat ∧ σ 5 w.toNat ≤ 3 := g0.1 5 w.toNat
          refine s_iconst (pc := 128) C dX12_mayBe_128 ?_
          refine s_iadd (pc := 129) C dX12_mayBe_129 ?_
          refine s_icmp_le (pc := 130) C (tgt := 152) dX12_mayBe_130 (by decide) ⟨by omega, by omega⟩ ⟨by omega, by omega⟩ (fun h130 => ?_) (fun h130 => ?_)
          · skip
            refine s_iinc (pc := 152) C [(4, vI (k + 1)), (7, vI z91), (6, vI (σ 12 ((5 * k).toNat))), (5, vI (σ 12 ((((5 * k) + 1) + w).toNat))), (0, .ref (ad 0)), (1, vI w), (2, vI g), (3, vI mo)] dX12_mayBe_152 7 rfl (by decide) rfl ?_
            refine s_goto (pc := 155) C (tgt := 52) dX12_mayBe_155 (by decide) ?_
            refine s_sub C [4, 5, 6, 7, 0] [(0, .ref (ad 0)), (1, vI w), (2, vI g), (3, vI mo), (4, vI (k + 1))] rfl ?_
            have hi52 : 0 ≤ (k + 1) ∧ (k + 1) ≤ 100 := (by first | omega | assumption | (constructor <;> omega) | (refine ⟨⟨?_, ?_⟩, ?_⟩ <;> omega) | (simp [hs_ss, hs_up]; omega) | (simp [hs_ss, hs_up]; done))
            exact ih52 (k + 1) (by first | omega | (simp only []; omega)) hi52
          · skip
            refine s_iload (pc := 133) C dX12_mayBe_133 1 rfl ?_
            refine s_aload_n (pc := 135) C dX12_mayBe_135 3 rfl ?_
            refine s_geti (q := 0) (ci := 12) (N := 68) (CN := RX12) (T := TX12) (pc := 136) C 19 dX12_mayBe_136 wlX12_327 rfl rfl rfl wfX12 (by decide) rfl (σ 0 19) rfl ?_
            have b136 : (0 : Int) ≤ σ 0 19 ∧ σ 0 19 ≤ 99 := g0.1 0 19
            refine s_iadd (pc := 139) C dX12_mayBe_139 ?_
            refine s_aload_n (pc := 140) C dX12_mayBe_140 3 rfl ?_
            refine s_iload_n (pc := 141) C dX12_mayBe_141 4 rfl ?_
            refine s_iload (pc := 142) C dX12_mayBe_142 2 rfl ?_
            refine s_callVi (pc := 144) C (c_X12_plain l w (σ 12 ((((5 * k) + 1) + w).toNat)) (by first | omega | assumption | (constructor <;> omega) | (refine ⟨⟨?_, ?_⟩, ?_⟩ <;> omega) | (simp [hs_ss, hs_up]; omega) | (simp [hs_ss, hs_up]; done)) (by first | omega | assumption | (constructor <;> omega) | (refine ⟨⟨?_, ?_⟩, ?_⟩ <;> omega) | (simp [hs_ss, hs_up]; omega) | (simp [hs_ss, hs_up]; done))) [vI w, vI (σ 12 ((((5 * k) + 1) + w).toNat))] [vI ((σ 12 ((5 * k).toNat)) + (σ 0 19))] rfl rfl dX12_mayBe_144 wlX12_170 wiX12_plain weX12_plain wcX12_plain wnX12 noX12_plain (by decide) (by decide) (Nat.le_of_ble_eq_true rfl) (gy_self g0) rfl rfl ?_
            rintro z144 _ ⟨rfl, k144⟩
            show hs_Wd _ _ _ _ _ _ _ _ _ _ _ _ _ _ _ _ _ 147 _ [vI z144, vI ((σ 12 ((5 * k).toNat)) + (σ 0 19))] σ
            refine s_icmp_ge (pc := 147) C (tgt := 152) dX12_mayBe_147 (by decide) ⟨by omega, by omega⟩ ⟨by omega, by omega⟩ (fun h147 => ?_) (fun h147 => ?_)
            · skip
              refine s_iinc (pc := 152) C [(4, vI (k + 1)), (7, vI z91), (6, vI (σ 12 ((5 * k).toNat))), (5, vI (σ 12 ((((5 * k) + 1) + w).toNat))), (0, .ref (ad 0)), (1, vI w), (2, vI g), (3, vI mo)] dX12_mayBe_152 7 rfl (by decide) rfl ?_
              refine s_goto (pc := 155) C (tgt := 52) dX12_mayBe_155 (by decide) ?_
              refine s_sub C [4, 5, 6, 7, 0] [(0, .ref (ad 0)), (1, vI w), (2, vI g), (3, vI mo), (4, vI (k + 1))] rfl ?_
              have hi52 : 0 ≤ (k + 1) ∧ (k + 1) ≤ 100 := (by first | omega | assumption | (constructor <;> omega) | (refine ⟨⟨?_, ?_⟩, ?_⟩ <;> omega) | (simp [hs_ss, hs_up]; omega) | (simp [hs_ss, hs_up]; done))
              exact ih52 (k + 1) (by first | omega | (simp only []; omega)) hi52
            · skip
              refine s_iconst (pc := 150) C dX12_mayBe_150 ?_
              refine s_zret (pc := 151) C (by omega) dX12_mayBe_151 ?_
              refine ⟨_, rfl, ?_⟩
              exact ⟨rfl, by first | omega | assumption | (constructor <;> omega) | (refine ⟨⟨?_, ?_⟩, ?_⟩ <;> omega) | (simp [hs_ss, hs_up]; omega) | (simp [hs_ss, hs_up]; done)⟩
        · skip
          refine s_iconst (pc := 118) C dX12_mayBe_118 ?_
          refine s_zret (pc := 119) C (by omega) dX12_mayBe_119 ?_
          refine ⟨_, rfl, ?_⟩
          exact ⟨rfl, by first | omega | assumption | (constructor <;> omega) | (refine ⟨⟨?_, ?_⟩, ?_⟩ <;> omega) | (simp [hs_ss, hs_up]; omega) | (simp [hs_ss, hs_up]; done)⟩
  · skip
    refine s_iload (pc := 14) C dX12_mayBe_14 4 rfl ?_
    refine s_iload_n (pc := 16) C dX12_mayBe_16 1 rfl ?_
    refine s_icmp_eq (pc := 17) C (tgt := 41) dX12_mayBe_17 (by decide) ⟨by omega, by omega⟩ ⟨by omega, by omega⟩ (fun h17 => ?_) (fun h17 => ?_)
    · skip
      refine s_iload_n (pc := 41) C dX12_mayBe_41 3 rfl ?_
      refine s_istore_n (pc := 42) C [(3, vI mo), (0, .ref (ad 0)), (1, vI w), (2, vI g), (4, vI o)] dX12_mayBe_42 (by decide) rfl ?_
      refine s_iinc (pc := 43) C [(4, vI (o + 1)), (3, vI mo), (0, .ref (ad 0)), (1, vI w), (2, vI g)] dX12_mayBe_43 4 rfl (by decide) rfl ?_
      refine s_goto (pc := 46) C (tgt := 5) dX12_mayBe_46 (by decide) ?_
      refine s_sub C [2, 3, 4, 1, 0] [(0, .ref (ad 0)), (1, vI w), (2, vI g), (3, vI mo), (4, vI (o + 1))] rfl ?_
      have hi5 : 0 ≤ (o + 1) ∧ (o + 1) ≤ 4 ∧ 0 ≤ mo ∧ mo ≤ 900 := (by first | omega | assumption | (constructor <;> omega) | (refine ⟨⟨?_, ?_⟩, ?_⟩ <;> omega) | (simp [hs_ss, hs_up]; omega) | (simp [hs_ss, hs_up]; done))
      exact ih5 (o + 1, mo) (by first | omega | (simp only []; omega)) hi5
    · skip
      refine s_aload_n (pc := 20) C dX12_mayBe_20 0 rfl ?_
      refine s_getr (q := 0) (ci := 12) (N := 68) (CN := RX12) (T := TX12) (pc := 21) C 11 dX12_mayBe_21 wlX12_29 rfl rfl rfl wfX12 (by decide) rfl ?_
      refine s_iload (pc := 24) C dX12_mayBe_24 4 rfl ?_
      refine s_iald (q := 6) (n := 4) (pc := 26) C (σ 6 o.toNat) rfl dX12_mayBe_26 rfl (by omega) (by omega) (by decide) ?_
      have b26 : (0 : Int) ≤ σ 6 o.toNat ∧ σ 6 o.toNat ≤ 900 := g0.1 6 o.toNat
      refine s_iload_n (pc := 27) C dX12_mayBe_27 3 rfl ?_
      refine s_icmp_le (pc := 28) C (tgt := 41) dX12_mayBe_28 (by decide) ⟨by omega, by omega⟩ ⟨by omega, by omega⟩ (fun h28 => ?_) (fun h28 => ?_)
      · skip
        refine s_iload_n (pc := 41) C dX12_mayBe_41 3 rfl ?_
        refine s_istore_n (pc := 42) C [(3, vI mo), (0, .ref (ad 0)), (1, vI w), (2, vI g), (4, vI o)] dX12_mayBe_42 (by decide) rfl ?_
        refine s_iinc (pc := 43) C [(4, vI (o + 1)), (3, vI mo), (0, .ref (ad 0)), (1, vI w), (2, vI g)] dX12_mayBe_43 4 rfl (by decide) rfl ?_
        refine s_goto (pc := 46) C (tgt := 5) dX12_mayBe_46 (by decide) ?_
        refine s_sub C [2, 3, 4, 1, 0] [(0, .ref (ad 0)), (1, vI w), (2, vI g), (3, vI mo), (4, vI (o + 1))] rfl ?_
        have hi5 : 0 ≤ (o + 1) ∧ (o + 1) ≤ 4 ∧ 0 ≤ mo ∧ mo ≤ 900 := (by first | omega | assumption | (constructor <;> omega) | (refine ⟨⟨?_, ?_⟩, ?_⟩ <;> omega) | (simp [hs_ss, hs_up]; omega) | (simp [hs_ss, hs_up]; done))
        exact ih5 (o + 1, mo) (by first | omega | (simp only []; omega)) hi5
      · skip
        refine s_aload_n (pc := 31) C dX12_mayBe_31 0 rfl ?_
        refine s_getr (q := 0) (ci := 12) (N := 68) (CN := RX12) (T := TX12) (pc := 32) C 11 dX12_mayBe_32 wlX12_29 rfl rfl rfl wfX12 (by decide) rfl ?_
        refine s_iload (pc := 35) C dX12_mayBe_35 4 rfl ?_
        refine s_iald (q := 6) (n := 4) (pc := 37) C (σ 6 o.toNat) rfl dX12_mayBe_37 rfl (by omega) (by omega) (by decide) ?_
        have b37 : (0 : Int) ≤ σ 6 o.toNat ∧ σ 6 o.toNat ≤ 900 := g0.1 6 o.toNat
        refine s_goto (pc := 38) C (tgt := 42) dX12_mayBe_38 (by decide) ?_
        refine s_istore_n (pc := 42) C [(3, vI (σ 6 o.toNat)), (0, .ref (ad 0)), (1, vI w), (2, vI g), (4, vI o)] dX12_mayBe_42 (by decide) rfl ?_
        refine s_iinc (pc := 43) C [(4, vI (o + 1)), (3, vI (σ 6 o.toNat)), (0, .ref (ad 0)), (1, vI w), (2, vI g)] dX12_mayBe_43 4 rfl (by decide) rfl ?_
        refine s_goto (pc := 46) C (tgt := 5) dX12_mayBe_46 (by decide) ?_
        refine s_sub C [2, 3, 4, 1, 0] [(0, .ref (ad 0)), (1, vI w), (2, vI g), (3, vI (σ 6 o.toNat)), (4, vI (o + 1))] rfl ?_
        have hi5 : 0 ≤ (o + 1) ∧ (o + 1) ≤ 4 ∧ 0 ≤ (σ 6 o.toNat) ∧ (σ 6 o.toNat) ≤ 900 := (by first | omega | assumption | (constructor <;> omega) | (refine ⟨⟨?_, ?_⟩, ?_⟩ <;> omega) | (simp [hs_ss, hs_up]; omega) | (simp [hs_ss, hs_up]; done))
        exact ih5 (o + 1, σ 6 o.toNat) (by first | omega | (simp only []; omega)) hi5
set_option maxHeartbeats 4000000 in
set_option maxRecDepth 100000 in
theorem c_X12_layMay (l : Launch) (w : Int) (hw : 0 ≤ w ∧ w < 4) : hs_Met l yX12_layMay cX12_layMay 3 none 5 SHY (fun ad => [.ref (ad 0), vI w]) (fun σ => GY σ σ) (hs_PV (fun σ σ1 => GY σ σ1 ∧ FRM PLm σ σ1)) := by
  refine hs_from pfX12_layMay (fun _ => Nat.le_of_ble_eq_true rfl) ?_
  intro p e s m args below meth c D dA ad A σ C hpre
  have C : hs_C p s m args meth c D dA SHY ad A 3 cX12_layMay RX12 none := C
  have g0 := hpre
  have f0 : FRM PLm σ σ := frm_rf
  show hs_Wd p l e 5 s m args below meth c D dA SHY ad A 3 (hs_PV (fun σ σ1 => GY σ σ1 ∧ FRM PLm σ σ1) σ) 0 [(0, .ref (ad 0)), (1, vI w)] [] σ
  refine s_iconst (pc := 0) C dX12_layMay_0 ?_
  refine s_istore_n (pc := 1) C [(2, vI 0), (0, .ref (ad 0)), (1, vI w)] dX12_layMay_1 (by decide) rfl ?_
  refine s_sub C [1, 2, 0] [(0, .ref (ad 0)), (1, vI w), (2, vI 0)] rfl ?_
  have hi2 : GY σ σ ∧ FRM PLm σ σ ∧ 0 ≤ (0 : Int) ∧ (0 : Int) ≤ 100 := ⟨g0, f0, by first | omega | assumption | (constructor <;> omega) | (refine ⟨⟨?_, ?_⟩, ?_⟩ <;> omega) | (simp [hs_ss, hs_up]; omega) | (simp [hs_ss, hs_up]; done)⟩
  refine hs_loop (α := Int × hs_S) (fun x_ => (GY σ x_.2 ∧ FRM PLm σ x_.2 ∧ 0 ≤ x_.1 ∧ x_.1 ≤ 100) → hs_Wd p l e 5 s m args below meth c D dA SHY ad A 3 (hs_PV (fun σ σ1 => GY σ σ1 ∧ FRM PLm σ σ1) σ) 2 [(0, .ref (ad 0)), (1, vI w), (2, vI x_.1)] [] x_.2) (fun x_ => (101 - x_.1).toNat) ?_ (0, σ) hi2
  rintro ⟨g, σ1⟩ ih2 hinv
  replace hinv : GY σ σ1 ∧ FRM PLm σ σ1 ∧ 0 ≤ g ∧ g ≤ 100 := hinv
  obtain ⟨hg2, hf2, hv2⟩ := hinv
  show hs_Wd p l e 5 s m args below meth c D dA SHY ad A 3 (hs_PV (fun σ σ1 => GY σ σ1 ∧ FRM PLm σ σ1) σ) 2 [(0, .ref (ad 0)), (1, vI w), (2, vI g)] [] σ1
  refine s_iload_n (pc := 2) C dX12_layMay_2 2 rfl ?_
  refine s_aload_n (pc := 3) C dX12_layMay_3 0 rfl ?_
  refine s_geti (q := 0) (ci := 12) (N := 68) (CN := RX12) (T := TX12) (pc := 4) C 3 dX12_layMay_4 wlX12_13 rfl rfl rfl wfX12 (by decide) rfl (σ1 0 3) rfl ?_
  have b4 : (10 : Int) ≤ σ1 0 3 ∧ σ1 0 3 ≤ 100 := hg2.1 0 3
  refine s_icmp_ge (pc := 7) C (tgt := 28) dX12_layMay_7 (by decide) ⟨by omega, by omega⟩ ⟨by omega, by omega⟩ (fun h7 => ?_) (fun h7 => ?_)
  · skip
    refine s_vret (pc := 28) C dX12_layMay_28 ?_
    refine ⟨rfl, ?_⟩
    exact ⟨hg2, hf2⟩
  · skip
    refine s_aload_n (pc := 10) C dX12_layMay_10 0 rfl ?_
    refine s_getr (q := 0) (ci := 12) (N := 68) (CN := RX12) (T := TX12) (pc := 11) C 52 dX12_layMay_11 wlX12_95 rfl rfl rfl wfX12 (by decide) rfl ?_
    refine s_iload_n (pc := 14) C dX12_layMay_14 2 rfl ?_
    refine s_aload_n (pc := 15) C dX12_layMay_15 0 rfl ?_
    refine s_iload_n (pc := 16) C dX12_layMay_16 1 rfl ?_
    refine s_iload_n (pc := 17) C dX12_layMay_17 2 rfl ?_
    refine s_callVi (pc := 18) C (c_X12_mayBe l w (by first | omega | assumption | (constructor <;> omega) | (refine ⟨⟨?_, ?_⟩, ?_⟩ <;> omega) | (simp [hs_ss, hs_up]; omega) | (simp [hs_ss, hs_up]; done)) g (by first | omega | assumption | (constructor <;> omega) | (refine ⟨⟨?_, ?_⟩, ?_⟩ <;> omega) | (simp [hs_ss, hs_up]; omega) | (simp [hs_ss, hs_up]; done))) [vI w, vI g] [vI g, .ref (ad 27)] rfl rfl dX12_layMay_18 wlX12_330 wiX12_mayBe weX12_mayBe wcX12_mayBe wnX12 noX12_mayBe (by decide) (by decide) (Nat.le_of_ble_eq_true rfl) (gy_self hg2) rfl rfl ?_
    rintro z18 _ ⟨rfl, k18⟩
    show hs_Wd _ _ _ _ _ _ _ _ _ _ _ _ _ _ _ _ _ 21 _ [vI z18, vI g, .ref (ad 27)] σ1
    refine s_zast (q := 27) (n := 100) (pc := 21) C dX12_layMay_21 rfl (by omega) (by omega) (by decide) (by omega) ?_
    have g21 := gy_set (z := z18) hg2 27 g.toNat rfl (0) (1) rfl ⟨by omega, by omega⟩
    have f21 := frm_set (P := PLm) (z := z18) hf2 27 g.toNat rfl
    refine s_iinc (pc := 22) C [(2, vI (g + 1)), (0, .ref (ad 0)), (1, vI w)] dX12_layMay_22 2 rfl (by decide) rfl ?_
    refine s_goto (pc := 25) C (tgt := 2) dX12_layMay_25 (by decide) ?_
    refine s_sub C [1, 2, 0] [(0, .ref (ad 0)), (1, vI w), (2, vI (g + 1))] rfl ?_
    have hi2 : GY σ ((hs_ss σ1 27 g.toNat z18)) ∧ FRM PLm σ ((hs_ss σ1 27 g.toNat z18)) ∧ 0 ≤ (g + 1) ∧ (g + 1) ≤ 100 := ⟨g21, f21, by first | omega | assumption | (constructor <;> omega) | (refine ⟨⟨?_, ?_⟩, ?_⟩ <;> omega) | (simp [hs_ss, hs_up]; omega) | (simp [hs_ss, hs_up]; done)⟩
    exact ih2 (g + 1, (hs_ss σ1 27 g.toNat z18)) (by first | omega | (simp only []; omega)) hi2
set_option maxHeartbeats 4000000 in
set_option maxRecDepth 100000 in
theorem c_X12_may (l : Launch) (w : Int) (hw : hs_R w) (k : Int) (hk : hs_R k) : hs_Met l yX12_may cX12_may 5 (some .int) 6 SHY (fun ad => [.ref (ad 0), vI w, vI k]) (fun σ => GY σ σ) (hs_PI (fun σ z σ1 => GY σ σ1 ∧ -1 ≤ z ∧ z ≤ 100)) := by
  refine hs_from pfX12_may (fun _ => Nat.le_of_ble_eq_true rfl) ?_
  intro p e s m args below meth c D dA ad A σ C hpre
  have C : hs_C p s m args meth c D dA SHY ad A 5 cX12_may RX12 (some .int) := C
  have g0 := hpre
  have b06 : (0 : Int) ≤ σ 0 6 ∧ σ 0 6 ≤ 4 := g0.1 0 6
  show hs_Wd p l e 6 s m args below meth c D dA SHY ad A 5 (hs_PI (fun σ z σ1 => GY σ σ1 ∧ -1 ≤ z ∧ z ≤ 100) σ) 0 [(0, .ref (ad 0)), (1, vI w), (2, vI k)] [] σ
  refine s_aload_n (pc := 0) C dX12_may_0 0 rfl ?_
  refine s_iconst (pc := 1) C dX12_may_1 ?_
  refine s_puti (q := 0) (ci := 12) (N := 68) (CN := RX12) (T := TX12) (ty0 := tyX12) (ty := .int) (pc := 2) C 2 dX12_may_2 wlX12_135 rfl rfl rfl wfX12 tyX12_ok nmX12 (by decide) rfl rfl rfl (vp_nar_int _) rfl ?_
  have g2 := gy_set (z := 0) g0 0 2 rfl (0) (2) rfl ⟨by omega, by omega⟩
  refine s_aload_n (pc := 5) C dX12_may_5 0 rfl ?_
  refine s_iload_n (pc := 6) C dX12_may_6 1 rfl ?_
  have r7_0_6 : (hs_ss σ 0 2 0) 0 6 = σ 0 6 := rfl
  refine s_callVi (pc := 7) C (c_X12_isWheel l w ⟨by omega, by omega⟩) [vI w] [] rfl rfl dX12_may_7 wlX12_208 wiX12_isWheel weX12_isWheel wcX12_isWheel wnX12 noX12_isWheel (by decide) (by decide) (Nat.le_of_ble_eq_true rfl) (gy_self g2) rfl rfl ?_
  rintro z7 _ ⟨rfl, k7⟩
  show hs_Wd _ _ _ _ _ _ _ _ _ _ _ _ _ _ _ _ _ 10 _ [vI z7] (hs_ss σ 0 2 0)
  refine s_if_eq (pc := 10) C (tgt := 18) dX12_may_10 (by decide) ⟨by omega, by omega⟩ (fun h10 => ?_) (fun h10 => ?_)
  · skip
    refine s_iconst (pc := 18) C dX12_may_18 ?_
    refine s_iret (pc := 19) C dX12_may_19 ?_
    refine ⟨_, rfl, ?_⟩
    exact ⟨g2, by first | omega | assumption | (constructor <;> omega) | (refine ⟨⟨?_, ?_⟩, ?_⟩ <;> omega) | (simp [hs_ss, hs_up]; omega) | (simp [hs_ss, hs_up]; done)⟩
  · skip
    refine s_iload_n (pc := 13) C dX12_may_13 2 rfl ?_
    refine s_iconst (pc := 14) C dX12_may_14 ?_
    refine s_icmp_ge (pc := 15) C (tgt := 20) dX12_may_15 (by decide) ⟨by omega, by omega⟩ ⟨by decide, by decide⟩ (fun h15 => ?_) (fun h15 => ?_)
    · skip
      refine s_aload_n (pc := 20) C dX12_may_20 0 rfl ?_
      refine s_iload_n (pc := 21) C dX12_may_21 1 rfl ?_
      refine s_callVv (pc := 22) C (c_X12_layMay l w (by first | omega | assumption | (constructor <;> omega) | (refine ⟨⟨?_, ?_⟩, ?_⟩ <;> omega) | (simp [hs_ss, hs_up]; omega) | (simp [hs_ss, hs_up]; done))) [vI w] [] rfl rfl dX12_may_22 wlX12_333 wiX12_layMay weX12_layMay wcX12_layMay wnX12 noX12_layMay (by decide) (by decide) (Nat.le_of_ble_eq_true rfl) (gy_self g2) rfl rfl ?_
      rintro σ22 k22
      obtain ⟨kg22, kf22⟩ := k22
      have g22 := gy_trans g2 kg22
      show hs_Wd _ _ _ _ _ _ _ _ _ _ _ _ _ _ _ _ _ 25 _ [] σ22
      refine s_iconst (pc := 25) C dX12_may_25 ?_
      refine s_istore_n (pc := 26) C [(3, vI 0), (0, .ref (ad 0)), (1, vI w), (2, vI k)] dX12_may_26 (by decide) rfl ?_
      refine s_iconst (pc := 27) C dX12_may_27 ?_
      refine s_istore (pc := 28) C [(4, vI 0), (3, vI 0), (0, .ref (ad 0)), (1, vI w), (2, vI k)] dX12_may_28 (by decide) rfl ?_
      refine s_sub C [2, 3, 4, 1, 0] [(0, .ref (ad 0)), (1, vI w), (2, vI k), (3, vI 0), (4, vI 0)] rfl ?_
      have hi30 : 0 ≤ (0 : Int) ∧ (0 : Int) ≤ 100 ∧ 0 ≤ (0 : Int) ∧ (0 : Int) ≤ (0 : Int) := (by first | omega | assumption | (constructor <;> omega) | (refine ⟨⟨?_, ?_⟩, ?_⟩ <;> omega) | (simp [hs_ss, hs_up]; omega) | (simp [hs_ss, hs_up]; done))
      refine hs_loop (α := Int × Int) (fun x_ => (0 ≤ x_.1 ∧ x_.1 ≤ 100 ∧ 0 ≤ x_.2 ∧ x_.2 ≤ x_.1) → hs_Wd p l e 6 s m args below meth c D dA SHY ad A 5 (hs_PI (fun σ z σ1 => GY σ σ1 ∧ -1 ≤ z ∧ z ≤ 100) σ) 30 [(0, .ref (ad 0)), (1, vI w), (2, vI k), (3, vI x_.2), (4, vI x_.1)] [] σ22) (fun x_ => (101 - x_.1).toNat) ?_ (0, 0) hi30
      rintro ⟨g, n⟩ ih30 hinv
      replace hinv : 0 ≤ g ∧ g ≤ 100 ∧ 0 ≤ n ∧ n ≤ g := hinv
      show hs_Wd p l e 6 s m args below meth c D dA SHY ad A 5 (hs_PI (fun σ z σ1 => GY σ σ1 ∧ -1 ≤ z ∧ z ≤ 100) σ) 30 [(0, .ref (ad 0)), (1, vI w), (2, vI k), (3, vI n), (4, vI g)] [] σ22
      refine s_iload (pc := 30) C dX12_may_30 4 rfl ?_
      refine s_aload_n (pc := 32) C dX12_may_32 0 rfl ?_
      refine s_geti (q := 0) (ci := 12) (N := 68) (CN := RX12) (T := TX12) (pc := 33) C 3 dX12_may_33 wlX12_13 rfl rfl rfl wfX12 (by decide) rfl (σ22 0 3) rfl ?_
      have b33 : (10 : Int) ≤ σ22 0 3 ∧ σ22 0 3 ≤ 100 := g22.1 0 3
      refine s_icmp_ge (pc := 36) C (tgt := 69) dX12_may_36 (by decide) ⟨by omega, by omega⟩ ⟨by omega, by omega⟩ (fun h36 => ?_) (fun h36 => ?_)
      · skip
        refine s_iload_n (pc := 69) C dX12_may_69 2 rfl ?_
        refine s_iconst (pc := 70) C dX12_may_70 ?_
        refine s_icmp_ne (pc := 71) C (tgt := 78) dX12_may_71 (by decide) ⟨by omega, by omega⟩ ⟨by decide, by decide⟩ (fun h71 => ?_) (fun h71 => ?_)
        · skip
          refine s_iconst (pc := 78) C dX12_may_78 ?_
          refine s_iret (pc := 79) C dX12_may_79 ?_
          refine ⟨_, rfl, ?_⟩
          exact ⟨g22, by first | omega | assumption | (constructor <;> omega) | (refine ⟨⟨?_, ?_⟩, ?_⟩ <;> omega) | (simp [hs_ss, hs_up]; omega) | (simp [hs_ss, hs_up]; done)⟩
        · skip
          refine s_iload_n (pc := 74) C dX12_may_74 3 rfl ?_
          refine s_goto (pc := 75) C (tgt := 79) dX12_may_75 (by decide) ?_
          refine s_iret (pc := 79) C dX12_may_79 ?_
          refine ⟨_, rfl, ?_⟩
          exact ⟨g22, by first | omega | assumption | (constructor <;> omega) | (refine ⟨⟨?_, ?_⟩, ?_⟩ <;> omega) | (simp [hs_ss, hs_up]; omega) | (simp [hs_ss, hs_up]; done)⟩
      · skip
        refine s_aload_n (pc := 39) C dX12_may_39 0 rfl ?_
        refine s_getr (q := 0) (ci := 12) (N := 68) (CN := RX12) (T := TX12) (pc := 40) C 52 dX12_may_40 wlX12_95 rfl rfl rfl wfX12 (by decide) rfl ?_
        refine s_iload (pc := 43) C dX12_may_43 4 rfl ?_
        refine s_zald (q := 27) (n := 100) (pc := 45) C (σ22 27 g.toNat) rfl dX12_may_45 rfl (by omega) (by omega) (by decide) ?_
        have b45 : (0 : Int) ≤ σ22 27 g.toNat ∧ σ22 27 g.toNat ≤ 1 := g22.1 27 g.toNat
        refine s_if_ne (pc := 46) C (tgt := 52) dX12_may_46 (by decide) ⟨by omega, by omega⟩ (fun h46 => ?_) (fun h46 => ?_)
        · skip
          refine s_iload_n (pc := 52) C dX12_may_52 3 rfl ?_
          refine s_iload_n (pc := 53) C dX12_may_53 2 rfl ?_
          refine s_icmp_ne (pc := 54) C (tgt := 60) dX12_may_54 (by decide) ⟨by omega, by omega⟩ ⟨by omega, by omega⟩ (fun h54 => ?_) (fun h54 => ?_)
          · skip
            refine s_iinc (pc := 60) C [(3, vI (n + 1)), (0, .ref (ad 0)), (1, vI w), (2, vI k), (4, vI g)] dX12_may_60 3 rfl (by decide) rfl ?_
            refine s_iinc (pc := 63) C [(4, vI (g + 1)), (3, vI (n + 1)), (0, .ref (ad 0)), (1, vI w), (2, vI k)] dX12_may_63 4 rfl (by decide) rfl ?_
            refine s_goto (pc := 66) C (tgt := 30) dX12_may_66 (by decide) ?_
            refine s_sub C [2, 3, 4, 1, 0] [(0, .ref (ad 0)), (1, vI w), (2, vI k), (3, vI (n + 1)), (4, vI (g + 1))] rfl ?_
            have hi30 : 0 ≤ (g + 1) ∧ (g + 1) ≤ 100 ∧ 0 ≤ (n + 1) ∧ (n + 1) ≤ (g + 1) := (by first | omega | assumption | (constructor <;> omega) | (refine ⟨⟨?_, ?_⟩, ?_⟩ <;> omega) | (simp [hs_ss, hs_up]; omega) | (simp [hs_ss, hs_up]; done))
            exact ih30 (g + 1, n + 1) (by first | omega | (simp only []; omega)) hi30
          · skip
            refine s_iload (pc := 57) C dX12_may_57 4 rfl ?_
            refine s_iret (pc := 59) C dX12_may_59 ?_
            refine ⟨_, rfl, ?_⟩
            exact ⟨g22, by first | omega | assumption | (constructor <;> omega) | (refine ⟨⟨?_, ?_⟩, ?_⟩ <;> omega) | (simp [hs_ss, hs_up]; omega) | (simp [hs_ss, hs_up]; done)⟩
        · skip
          refine s_goto (pc := 49) C (tgt := 63) dX12_may_49 (by decide) ?_
          refine s_iinc (pc := 63) C [(4, vI (g + 1)), (0, .ref (ad 0)), (1, vI w), (2, vI k), (3, vI n)] dX12_may_63 4 rfl (by decide) rfl ?_
          refine s_goto (pc := 66) C (tgt := 30) dX12_may_66 (by decide) ?_
          refine s_sub C [1, 2, 3, 4, 0] [(0, .ref (ad 0)), (1, vI w), (2, vI k), (3, vI n), (4, vI (g + 1))] rfl ?_
          have hi30 : 0 ≤ (g + 1) ∧ (g + 1) ≤ 100 ∧ 0 ≤ n ∧ n ≤ (g + 1) := (by first | omega | assumption | (constructor <;> omega) | (refine ⟨⟨?_, ?_⟩, ?_⟩ <;> omega) | (simp [hs_ss, hs_up]; omega) | (simp [hs_ss, hs_up]; done))
          exact ih30 (g + 1, n) (by first | omega | (simp only []; omega)) hi30
    · skip
      refine s_iconst (pc := 18) C dX12_may_18 ?_
      refine s_iret (pc := 19) C dX12_may_19 ?_
      refine ⟨_, rfl, ?_⟩
      exact ⟨g2, by first | omega | assumption | (constructor <;> omega) | (refine ⟨⟨?_, ?_⟩, ?_⟩ <;> omega) | (simp [hs_ss, hs_up]; omega) | (simp [hs_ss, hs_up]; done)⟩
set_option maxHeartbeats 4000000 in
set_option maxRecDepth 100000 in
theorem c_X12_isCovered (l : Launch) (g u n : Int) (hg : -10000 ≤ g ∧ g ≤ 10000) (hu : 0 ≤ u ∧ u ≤ 3) (hn : 0 ≤ n ∧ n ≤ 100) : hs_Met l yX12_isCovered cX12_isCovered 5 (some .boolean) 3 SHY (fun ad => [.ref (ad 0), vI g, vI u, vI n]) (fun σ => GY σ σ) (hs_PI (fun σ z σ1 => σ = σ1 ∧ (z = 0 ∨ z = 1) ∧ (z = 1 ↔ covY (σ 0 3) u (σ 28) n.toNat g))) := by
  refine hs_from pfX12_isCovered (fun _ => Nat.le_of_ble_eq_true rfl) ?_
  intro p e s m args below meth c D dA ad A σ C hpre
  have C : hs_C p s m args meth c D dA SHY ad A 5 cX12_isCovered RX12 (some .boolean) := C
  have g0 := hpre
  show hs_Wd p l e 3 s m args below meth c D dA SHY ad A 5 (hs_PI (fun σ z σ1 => σ = σ1 ∧ (z = 0 ∨ z = 1) ∧ (z = 1 ↔ covY (σ 0 3) u (σ 28) n.toNat g)) σ) 0 [(0, .ref (ad 0)), (1, vI g), (2, vI u), (3, vI n)] [] σ
  refine s_iconst (pc := 0) C dX12_isCovered_0 ?_
  refine s_istore (pc := 1) C [(4, vI 0), (0, .ref (ad 0)), (1, vI g), (2, vI u), (3, vI n)] dX12_isCovered_1 (by decide) rfl ?_
  refine s_sub C [1, 2, 3, 4, 0] [(0, .ref (ad 0)), (1, vI g), (2, vI u), (3, vI n), (4, vI 0)] rfl ?_
  have hi3 : 0 ≤ (0 : Int) ∧ (0 : Int) ≤ n ∧ (∀ i : Nat, (i : Int) < (0 : Int) → ¬ farY (σ 0 3) g (σ 28 i) ≤ u) := ⟨by omega, by omega, fun i hi => by exfalso; omega⟩
  refine hs_loop (α := Int) (fun x_ => (0 ≤ x_ ∧ x_ ≤ n ∧ (∀ i : Nat, (i : Int) < x_ → ¬ farY (σ 0 3) g (σ 28 i) ≤ u)) → hs_Wd p l e 3 s m args below meth c D dA SHY ad A 5 (hs_PI (fun σ z σ1 => σ = σ1 ∧ (z = 0 ∨ z = 1) ∧ (z = 1 ↔ covY (σ 0 3) u (σ 28) n.toNat g)) σ) 3 [(0, .ref (ad 0)), (1, vI g), (2, vI u), (3, vI n), (4, vI x_)] [] σ) (fun x_ => (101 - x_).toNat) ?_ (0) hi3
  rintro k ih3 hinv
  replace hinv : 0 ≤ k ∧ k ≤ n ∧ (∀ i : Nat, (i : Int) < k → ¬ farY (σ 0 3) g (σ 28 i) ≤ u) := hinv
  show hs_Wd p l e 3 s m args below meth c D dA SHY ad A 5 (hs_PI (fun σ z σ1 => σ = σ1 ∧ (z = 0 ∨ z = 1) ∧ (z = 1 ↔ covY (σ 0 3) u (σ 28) n.toNat g)) σ) 3 [(0, .ref (ad 0)), (1, vI g), (2, vI u), (3, vI n), (4, vI k)] [] σ
  refine s_iload (pc := 3) C dX12_isCovered_3 4 rfl ?_
  refine s_iload_n (pc := 5) C dX12_isCovered_5 3 rfl ?_
  refine s_icmp_ge (pc := 6) C (tgt := 33) dX12_isCovered_6 (by decide) ⟨by omega, by omega⟩ ⟨by omega, by omega⟩ (fun h6 => ?_) (fun h6 => ?_)
  · skip
    refine s_iconst (pc := 33) C dX12_isCovered_33 ?_
    refine s_zret (pc := 34) C (by omega) dX12_isCovered_34 ?_
    refine ⟨_, rfl, ?_⟩
    exact ⟨rfl, ⟨Or.inl rfl, ⟨fun q => absurd q (by decide), fun q => by obtain ⟨i, hi, hf⟩ := q; exact absurd hf (hinv.2.2 i (by omega))⟩⟩⟩
  · skip
    refine s_aload_n (pc := 9) C dX12_isCovered_9 0 rfl ?_
    refine s_iload_n (pc := 10) C dX12_isCovered_10 1 rfl ?_
    refine s_aload_n (pc := 11) C dX12_isCovered_11 0 rfl ?_
    refine s_getr (q := 0) (ci := 12) (N := 68) (CN := RX12) (T := TX12) (pc := 12) C 54 dX12_isCovered_12 wlX12_99 rfl rfl rfl wfX12 (by decide) rfl ?_
    refine s_iload (pc := 15) C dX12_isCovered_15 4 rfl ?_
    refine s_iald (q := 28) (n := 100) (pc := 17) C (σ 28 k.toNat) rfl dX12_isCovered_17 rfl (by omega) (by omega) (by decide) ?_
    have b17 : (0 : Int) ≤ σ 28 k.toNat ∧ σ 28 k.toNat ≤ 1000 := g0.1 28 k.toNat
    refine s_callVi (pc := 18) C (c_X12_far l g (σ 28 k.toNat) (by first | omega | assumption | (constructor <;> omega) | (refine ⟨⟨?_, ?_⟩, ?_⟩ <;> omega) | (simp [hs_ss, hs_up]; omega) | (simp [hs_ss, hs_up]; done)) (by first | omega | assumption | (constructor <;> omega) | (refine ⟨⟨?_, ?_⟩, ?_⟩ <;> omega) | (simp [hs_ss, hs_up]; omega) | (simp [hs_ss, hs_up]; done))) [vI g, vI (σ 28 k.toNat)] [] rfl rfl dX12_isCovered_18 wlX12_158 wiX12_far weX12_far wcX12_far wnX12 noX12_far (by decide) (by decide) (Nat.le_of_ble_eq_true rfl) (gy_self g0) rfl rfl ?_
    rintro z18 _ ⟨rfl, k18⟩
    show hs_Wd _ _ _ _ _ _ _ _ _ _ _ _ _ _ _ _ _ 21 _ [vI z18] σ
    refine s_iload_n (pc := 21) C dX12_isCovered_21 2 rfl ?_
    refine s_icmp_gt (pc := 22) C (tgt := 27) dX12_isCovered_22 (by decide) ⟨by omega, by omega⟩ ⟨by omega, by omega⟩ (fun h22 => ?_) (fun h22 => ?_)
    · skip
      refine s_iinc (pc := 27) C [(4, vI (k + 1)), (0, .ref (ad 0)), (1, vI g), (2, vI u), (3, vI n)] dX12_isCovered_27 4 rfl (by decide) rfl ?_
      refine s_goto (pc := 30) C (tgt := 3) dX12_isCovered_30 (by decide) ?_
      refine s_sub C [1, 2, 3, 4, 0] [(0, .ref (ad 0)), (1, vI g), (2, vI u), (3, vI n), (4, vI (k + 1))] rfl ?_
      have hi3 : 0 ≤ (k + 1) ∧ (k + 1) ≤ n ∧ (∀ i : Nat, (i : Int) < (k + 1) → ¬ farY (σ 0 3) g (σ 28 i) ≤ u) := ⟨by omega, by omega, fun i hi => by by_cases e : (i : Int) < k; (exact hinv.2.2 i e); have e2 : i = k.toNat := (by omega); rw [e2]; omega⟩
      exact ih3 (k + 1) (by first | omega | (simp only []; omega)) hi3
    · skip
      refine s_iconst (pc := 25) C dX12_isCovered_25 ?_
      refine s_zret (pc := 26) C (by omega) dX12_isCovered_26 ?_
      refine ⟨_, rfl, ?_⟩
      exact ⟨rfl, ⟨Or.inr rfl, ⟨fun _ => ⟨k.toNat, by omega, by omega⟩, fun _ => rfl⟩⟩⟩
set_option maxHeartbeats 4000000 in
set_option maxRecDepth 100000 in
theorem c_X12_needed (l : Launch) (u la : Int) (hu : 0 ≤ u ∧ u ≤ 3) (hla : 1 ≤ la ∧ la ≤ 100) : hs_Met l yX12_needed cX12_needed 7 (some .int) 4 SHY (fun ad => [.ref (ad 0), vI u, vI la]) (fun σ => GY σ σ ∧ la ≤ σ 0 3) (hs_PI (fun σ z σ1 => GY σ σ1 ∧ FRM (PNd la.toNat) σ σ1 ∧ ((z = 1000 ∧ ∀ k, ¬ Gr (σ 0 3) u (σ 27) k (σ 28) la.toNat) ∨ (0 ≤ z ∧ z + la ≤ σ 0 3 ∧ Gr (σ 0 3) u (σ 27) z.toNat (σ 28) la.toNat)))) := by
  refine hs_from pfX12_needed (fun _ => Nat.le_of_ble_eq_true rfl) ?_
  intro p e s m args below meth c D dA ad A σ C hpre
  have C : hs_C p s m args meth c D dA SHY ad A 7 cX12_needed RX12 (some .int) := C
  obtain ⟨g0, hpre⟩ := hpre
  have f0 : FRM (PNd la.toNat) σ σ := frm_rf
  show hs_Wd p l e 4 s m args below meth c D dA SHY ad A 7 (hs_PI (fun σ z σ1 => GY σ σ1 ∧ FRM (PNd la.toNat) σ σ1 ∧ ((z = 1000 ∧ ∀ k, ¬ Gr (σ 0 3) u (σ 27) k (σ 28) la.toNat) ∨ (0 ≤ z ∧ z + la ≤ σ 0 3 ∧ Gr (σ 0 3) u (σ 27) z.toNat (σ 28) la.toNat))) σ) 0 [(0, .ref (ad 0)), (1, vI u), (2, vI la)] [] σ
  refine s_iload_n (pc := 0) C dX12_needed_0 2 rfl ?_
  refine s_istore_n (pc := 1) C [(3, vI la), (0, .ref (ad 0)), (1, vI u), (2, vI la)] dX12_needed_1 (by decide) rfl ?_
  refine s_sub C [1, 2, 3, 0] [(0, .ref (ad 0)), (1, vI u), (2, vI la), (3, vI la)] rfl ?_
  have hi2 : GY σ σ ∧ FRM (PNd la.toNat) σ σ ∧ la ≤ la ∧ la ≤ σ 0 3 ∧ NDI (σ 0 3) u (σ 27) (σ 28) la.toNat (σ 28) la.toNat := ⟨g0, f0, ⟨by omega, by omega, NDI_0⟩⟩
  refine hs_loop (α := Int × hs_S) (fun x_ => (GY σ x_.2 ∧ FRM (PNd la.toNat) σ x_.2 ∧ la ≤ x_.1 ∧ x_.1 ≤ σ 0 3 ∧ NDI (σ 0 3) u (σ 27) (σ 28) la.toNat (x_.2 28) x_.1.toNat) → hs_Wd p l e 4 s m args below meth c D dA SHY ad A 7 (hs_PI (fun σ z σ1 => GY σ σ1 ∧ FRM (PNd la.toNat) σ σ1 ∧ ((z = 1000 ∧ ∀ k, ¬ Gr (σ 0 3) u (σ 27) k (σ 28) la.toNat) ∨ (0 ≤ z ∧ z + la ≤ σ 0 3 ∧ Gr (σ 0 3) u (σ 27) z.toNat (σ 28) la.toNat))) σ) 2 [(0, .ref (ad 0)), (1, vI u), (2, vI la), (3, vI x_.1)] [] x_.2) (fun x_ => (101 - x_.1).toNat) ?_ (la, σ) hi2
  rintro ⟨mm, σ1⟩ ih2 hinv
  replace hinv : GY σ σ1 ∧ FRM (PNd la.toNat) σ σ1 ∧ la ≤ mm ∧ mm ≤ σ 0 3 ∧ NDI (σ 0 3) u (σ 27) (σ 28) la.toNat (σ1 28) mm.toNat := hinv
  obtain ⟨hg2, hf2, hv2⟩ := hinv
  show hs_Wd p l e 4 s m args below meth c D dA SHY ad A 7 (hs_PI (fun σ z σ1 => GY σ σ1 ∧ FRM (PNd la.toNat) σ σ1 ∧ ((z = 1000 ∧ ∀ k, ¬ Gr (σ 0 3) u (σ 27) k (σ 28) la.toNat) ∨ (0 ≤ z ∧ z + la ≤ σ 0 3 ∧ Gr (σ 0 3) u (σ 27) z.toNat (σ 28) la.toNat))) σ) 2 [(0, .ref (ad 0)), (1, vI u), (2, vI la), (3, vI mm)] [] σ1
  obtain ⟨hm0, hm1, hnd⟩ := hv2
  have e3 : σ1 0 3 = σ 0 3 := hf2 0 3 rfl
  have e27 : σ1 27 = σ 27 := funext fun j => hf2 27 j rfl
  have b03 : (10 : Int) ≤ σ1 0 3 ∧ σ1 0 3 ≤ 100 := hg2.1 0 3
  have b280 : (0 : Int) ≤ σ1 28 0 ∧ σ1 28 0 ≤ 1000 := hg2.1 28 0
  refine s_iconst (pc := 2) C dX12_needed_2 ?_
  refine s_istore (pc := 3) C [(4, vI 0), (0, .ref (ad 0)), (1, vI u), (2, vI la), (3, vI mm)] dX12_needed_3 (by decide) rfl ?_
  refine s_sub C [1, 2, 3, 4, 0] [(0, .ref (ad 0)), (1, vI u), (2, vI la), (3, vI mm), (4, vI 0)] rfl ?_
  have hi5 : 0 ≤ (0 : Int) ∧ (0 : Int) ≤ σ 0 3 ∧ FO (σ 0 3) u (σ 27) (σ1 28) mm.toNat (0 : Int) := ⟨by omega, by omega, fun y h0 h1 => by exfalso; omega⟩
  refine hs_loop (α := Int) (fun x_ => (0 ≤ x_ ∧ x_ ≤ σ 0 3 ∧ FO (σ 0 3) u (σ 27) (σ1 28) mm.toNat x_) → hs_Wd p l e 4 s m args below meth c D dA SHY ad A 7 (hs_PI (fun σ z σ1 => GY σ σ1 ∧ FRM (PNd la.toNat) σ σ1 ∧ ((z = 1000 ∧ ∀ k, ¬ Gr (σ 0 3) u (σ 27) k (σ 28) la.toNat) ∨ (0 ≤ z ∧ z + la ≤ σ 0 3 ∧ Gr (σ 0 3) u (σ 27) z.toNat (σ 28) la.toNat))) σ) 5 [(0, .ref (ad 0)), (1, vI u), (2, vI la), (3, vI mm), (4, vI x_)] [] σ1) (fun x_ => (101 - x_).toNat) ?_ (0) hi5
  rintro x ih5 hinv
  replace hinv : 0 ≤ x ∧ x ≤ σ 0 3 ∧ FO (σ 0 3) u (σ 27) (σ1 28) mm.toNat x := hinv
  show hs_Wd p l e 4 s m args below meth c D dA SHY ad A 7 (hs_PI (fun σ z σ1 => GY σ σ1 ∧ FRM (PNd la.toNat) σ σ1 ∧ ((z = 1000 ∧ ∀ k, ¬ Gr (σ 0 3) u (σ 27) k (σ 28) la.toNat) ∨ (0 ≤ z ∧ z + la ≤ σ 0 3 ∧ Gr (σ 0 3) u (σ 27) z.toNat (σ 28) la.toNat))) σ) 5 [(0, .ref (ad 0)), (1, vI u), (2, vI la), (3, vI mm), (4, vI x)] [] σ1
  refine s_iload (pc := 5) C dX12_needed_5 4 rfl ?_
  refine s_aload_n (pc := 7) C dX12_needed_7 0 rfl ?_
  refine s_geti (q := 0) (ci := 12) (N := 68) (CN := RX12) (T := TX12) (pc := 8) C 3 dX12_needed_8 wlX12_13 rfl rfl rfl wfX12 (by decide) rfl (σ1 0 3) rfl ?_
  have b8 : (10 : Int) ≤ σ1 0 3 ∧ σ1 0 3 ≤ 100 := hg2.1 0 3
  refine s_icmp_ge (pc := 11) C (tgt := 65) dX12_needed_11 (by decide) ⟨by omega, by omega⟩ ⟨by omega, by omega⟩ (fun h11 => ?_) (fun h11 => ?_)
  · skip
    refine s_iload (pc := 65) C dX12_needed_65 4 rfl ?_
    refine s_aload_n (pc := 67) C dX12_needed_67 0 rfl ?_
    refine s_geti (q := 0) (ci := 12) (N := 68) (CN := RX12) (T := TX12) (pc := 68) C 3 dX12_needed_68 wlX12_13 rfl rfl rfl wfX12 (by decide) rfl (σ1 0 3) rfl ?_
    have b68 : (10 : Int) ≤ σ1 0 3 ∧ σ1 0 3 ≤ 100 := hg2.1 0 3
    refine s_icmp_ne (pc := 71) C (tgt := 78) dX12_needed_71 (by decide) ⟨by omega, by omega⟩ ⟨by omega, by omega⟩ (fun h71 => ?_) (fun h71 => ?_)
    · skip
      refine s_aload_n (pc := 78) C dX12_needed_78 0 rfl ?_
      refine s_getr (q := 0) (ci := 12) (N := 68) (CN := RX12) (T := TX12) (pc := 79) C 54 dX12_needed_79 wlX12_99 rfl rfl rfl wfX12 (by decide) rfl ?_
      refine s_iconst (pc := 82) C dX12_needed_82 ?_
      refine s_iald (q := 28) (n := 100) (pc := 83) C (σ1 28 0) rfl dX12_needed_83 rfl (by omega) (by omega) (by decide) ?_
      have b83 : (0 : Int) ≤ σ1 28 0 ∧ σ1 28 0 ≤ 1000 := hg2.1 28 0
      refine s_iload (pc := 84) C dX12_needed_84 4 rfl ?_
      refine s_iadd (pc := 86) C dX12_needed_86 ?_
      refine s_istore (pc := 87) C [(5, vI ((σ1 28 0) + x)), (0, .ref (ad 0)), (1, vI u), (2, vI la), (3, vI mm), (4, vI x)] dX12_needed_87 (by decide) rfl ?_
      refine s_iload (pc := 89) C dX12_needed_89 0 rfl ?_
      refine s_iload_n (pc := 91) C dX12_needed_91 2 rfl ?_
      refine s_iadd (pc := 92) C dX12_needed_92 ?_
      refine s_aload_n (pc := 93) C dX12_needed_93 1 rfl ?_
      refine s_geti (q := 0) (ci := 12) (N := 68) (CN := RX12) (T := TX12) (pc := 94) C 3 dX12_needed_94 wlX12_13 rfl rfl rfl wfX12 (by decide) rfl (σ1 0 3) rfl ?_
      have b94 : (10 : Int) ≤ σ1 0 3 ∧ σ1 0 3 ≤ 100 := hg2.1 0 3
      refine s_iconst (pc := 97) C dX12_needed_97 ?_
      refine s_isub (pc := 98) C dX12_needed_98 ?_
      refine s_icmp_le (pc := 99) C (tgt := 111) dX12_needed_99 (by decide) ⟨by omega, by omega⟩ ⟨by omega, by omega⟩ (fun h99 => ?_) (fun h99 => ?_)
      · skip
        refine s_iload (pc := 111) C dX12_needed_111 0 rfl ?_
        refine s_iload_n (pc := 113) C dX12_needed_113 2 rfl ?_
        refine s_iadd (pc := 114) C dX12_needed_114 ?_
        refine s_istore (pc := 115) C [(6, vI (((σ1 28 0) + x) + u)), (5, vI ((σ1 28 0) + x)), (0, .ref (ad 0)), (1, vI u), (2, vI la), (3, vI mm), (4, vI x)] dX12_needed_115 (by decide) rfl ?_
        have em : σ1 28 (mm - 1).toNat = σ1 28 (mm.toNat - 1) := by rw [show (mm - 1).toNat = mm.toNat - 1 by omega]
        refine s_iload (pc := 117) C dX12_needed_117 0 rfl ?_
        refine s_aload_n (pc := 119) C dX12_needed_119 2 rfl ?_
        refine s_getr (q := 0) (ci := 12) (N := 68) (CN := RX12) (T := TX12) (pc := 120) C 54 dX12_needed_120 wlX12_99 rfl rfl rfl wfX12 (by decide) rfl ?_
        refine s_iload_n (pc := 123) C dX12_needed_123 5 rfl ?_
        refine s_iconst (pc := 124) C dX12_needed_124 ?_
        refine s_isub (pc := 125) C dX12_needed_125 ?_
        refine s_iald (q := 28) (n := 100) (pc := 126) C (σ1 28 ((mm - 1).toNat)) rfl dX12_needed_126 rfl (by omega) (by omega) (by decide) ?_
        have b126 : (0 : Int) ≤ σ1 28 ((mm - 1).toNat) ∧ σ1 28 ((mm - 1).toNat) ≤ 1000 := hg2.1 28 ((mm - 1).toNat)
        refine s_icmp_le (pc := 127) C (tgt := 147) dX12_needed_127 (by decide) ⟨by omega, by omega⟩ ⟨by omega, by omega⟩ (fun h127 => ?_) (fun h127 => ?_)
        · skip
          refine s_sipush (pc := 147) C dX12_needed_147 (by decide) ?_
          refine s_iret (pc := 150) C dX12_needed_150 ?_
          refine ⟨_, rfl, ?_⟩
          exact ⟨hg2, hf2, by first | (exfalso; omega) | exact Or.inl ⟨rfl, NDI_fail hnd (Gr_fail (x := x) (p := min (σ1 28 0 + x + u) (σ 0 3 - 1)) hinv.1 (by omega) hinv.2.2 hop rfl (by omega))⟩⟩
        · skip
          refine s_iload (pc := 130) C dX12_needed_130 0 rfl ?_
          refine s_iload (pc := 132) C dX12_needed_132 1 rfl ?_
          refine s_iload_n (pc := 134) C dX12_needed_134 3 rfl ?_
          refine s_isub (pc := 135) C dX12_needed_135 ?_
          refine s_icmp_lt (pc := 136) C (tgt := 147) dX12_needed_136 (by decide) ⟨by omega, by omega⟩ ⟨by omega, by omega⟩ (fun h136 => ?_) (fun h136 => ?_)
          · skip
            refine s_sipush (pc := 147) C dX12_needed_147 (by decide) ?_
            refine s_iret (pc := 150) C dX12_needed_150 ?_
            refine ⟨_, rfl, ?_⟩
            exact ⟨hg2, hf2, by first | (exfalso; omega) | exact Or.inl ⟨rfl, NDI_fail hnd (Gr_fail (x := x) (p := min (σ1 28 0 + x + u) (σ 0 3 - 1)) hinv.1 (by omega) hinv.2.2 hop rfl (by omega))⟩⟩
          · skip
            refine s_iload_n (pc := 139) C dX12_needed_139 5 rfl ?_
            refine s_aload_n (pc := 140) C dX12_needed_140 2 rfl ?_
            refine s_geti (q := 0) (ci := 12) (N := 68) (CN := RX12) (T := TX12) (pc := 141) C 3 dX12_needed_141 wlX12_13 rfl rfl rfl wfX12 (by decide) rfl (σ1 0 3) rfl ?_
            have b141 : (10 : Int) ≤ σ1 0 3 ∧ σ1 0 3 ≤ 100 := hg2.1 0 3
            refine s_icmp_ne (pc := 144) C (tgt := 151) dX12_needed_144 (by decide) ⟨by omega, by omega⟩ ⟨by omega, by omega⟩ (fun h144 => ?_) (fun h144 => ?_)
            · skip
              refine s_aload_n (pc := 151) C dX12_needed_151 2 rfl ?_
              refine s_getr (q := 0) (ci := 12) (N := 68) (CN := RX12) (T := TX12) (pc := 152) C 54 dX12_needed_152 wlX12_99 rfl rfl rfl wfX12 (by decide) rfl ?_
              refine s_iload_n (pc := 155) C dX12_needed_155 5 rfl ?_
              refine s_iload (pc := 156) C dX12_needed_156 0 rfl ?_
              refine s_iast (q := 28) (n := 100) (pc := 158) C dX12_needed_158 rfl (by omega) (by omega) (by decide) ?_
              have g158 := gy_set (z := (((σ1 28 0) + x) + u)) hg2 28 mm.toNat rfl (0) (1000) rfl ⟨by omega, by omega⟩
              have f158 := frm_set (P := (PNd la.toNat)) (z := (((σ1 28 0) + x) + u)) hf2 28 mm.toNat (by simp [PNd] <;> omega)
              refine s_iinc (pc := 159) C [(3, vI (mm + 1)), (6, vI (((σ1 28 0) + x) + u)), (5, vI ((σ1 28 0) + x)), (0, .ref (ad 0)), (1, vI u), (2, vI la), (4, vI x)] dX12_needed_159 5 rfl (by decide) rfl ?_
              refine s_goto (pc := 162) C (tgt := 2) dX12_needed_162 (by decide) ?_
              refine s_sub C [3, 4, 5, 0] [(0, .ref (ad 0)), (1, vI u), (2, vI la), (3, vI (mm + 1))] rfl ?_
              have hi2 : GY σ ((hs_ss σ1 28 mm.toNat (((σ1 28 0) + x) + u))) ∧ FRM (PNd la.toNat) σ ((hs_ss σ1 28 mm.toNat (((σ1 28 0) + x) + u))) ∧ la ≤ (mm + 1) ∧ (mm + 1) ≤ σ 0 3 ∧ NDI (σ 0 3) u (σ 27) (σ 28) la.toNat (((hs_ss σ1 28 mm.toNat (((σ1 28 0) + x) + u))) 28) (mm + 1).toNat := ⟨g158, f158, by first | (exfalso; omega) | exact ⟨by omega, by omega, NDI_step (by omega) hnd hinv.1 (by omega) hinv.2.2 hop (by omega) (by omega) (by omega) (by omega) hs_ss_row (by omega)⟩⟩
              exact ih2 (mm + 1, (hs_ss σ1 28 mm.toNat (((σ1 28 0) + x) + u))) (by first | omega | (simp only []; omega)) hi2
            · skip
              refine s_sipush (pc := 147) C dX12_needed_147 (by decide) ?_
              refine s_iret (pc := 150) C dX12_needed_150 ?_
              refine ⟨_, rfl, ?_⟩
              exact ⟨hg2, hf2, by first | (exfalso; omega) | exact Or.inl ⟨rfl, NDI_fail hnd (Gr_fail (x := x) (p := min (σ1 28 0 + x + u) (σ 0 3 - 1)) hinv.1 (by omega) hinv.2.2 hop rfl (by omega))⟩⟩
      · skip
        refine s_aload_n (pc := 102) C dX12_needed_102 1 rfl ?_
        refine s_geti (q := 0) (ci := 12) (N := 68) (CN := RX12) (T := TX12) (pc := 103) C 3 dX12_needed_103 wlX12_13 rfl rfl rfl wfX12 (by decide) rfl (σ1 0 3) rfl ?_
        have b103 : (10 : Int) ≤ σ1 0 3 ∧ σ1 0 3 ≤ 100 := hg2.1 0 3
        refine s_iconst (pc := 106) C dX12_needed_106 ?_
        refine s_isub (pc := 107) C dX12_needed_107 ?_
        refine s_goto (pc := 108) C (tgt := 115) dX12_needed_108 (by decide) ?_
        refine s_istore (pc := 115) C [(6, vI ((σ1 0 3) - 1)), (5, vI ((σ1 28 0) + x)), (0, .ref (ad 0)), (1, vI u), (2, vI la), (3, vI mm), (4, vI x)] dX12_needed_115 (by decide) rfl ?_
        have em : σ1 28 (mm - 1).toNat = σ1 28 (mm.toNat - 1) := by rw [show (mm - 1).toNat = mm.toNat - 1 by omega]
        refine s_iload (pc := 117) C dX12_needed_117 0 rfl ?_
        refine s_aload_n (pc := 119) C dX12_needed_119 2 rfl ?_
        refine s_getr (q := 0) (ci := 12) (N := 68) (CN := RX12) (T := TX12) (pc := 120) C 54 dX12_needed_120 wlX12_99 rfl rfl rfl wfX12 (by decide) rfl ?_
        refine s_iload_n (pc := 123) C dX12_needed_123 5 rfl ?_
        refine s_iconst (pc := 124) C dX12_needed_124 ?_
        refine s_isub (pc := 125) C dX12_needed_125 ?_
        refine s_iald (q := 28) (n := 100) (pc := 126) C (σ1 28 ((mm - 1).toNat)) rfl dX12_needed_126 rfl (by omega) (by omega) (by decide) ?_
        have b126 : (0 : Int) ≤ σ1 28 ((mm - 1).toNat) ∧ σ1 28 ((mm - 1).toNat) ≤ 1000 := hg2.1 28 ((mm - 1).toNat)
        refine s_icmp_le (pc := 127) C (tgt := 147) dX12_needed_127 (by decide) ⟨by omega, by omega⟩ ⟨by omega, by omega⟩ (fun h127 => ?_) (fun h127 => ?_)
        · skip
          refine s_sipush (pc := 147) C dX12_needed_147 (by decide) ?_
          refine s_iret (pc := 150) C dX12_needed_150 ?_
          refine ⟨_, rfl, ?_⟩
          exact ⟨hg2, hf2, by first | (exfalso; omega) | exact Or.inl ⟨rfl, NDI_fail hnd (Gr_fail (x := x) (p := min (σ1 28 0 + x + u) (σ 0 3 - 1)) hinv.1 (by omega) hinv.2.2 hop rfl (by omega))⟩⟩
        · skip
          refine s_iload (pc := 130) C dX12_needed_130 0 rfl ?_
          refine s_iload (pc := 132) C dX12_needed_132 1 rfl ?_
          refine s_iload_n (pc := 134) C dX12_needed_134 3 rfl ?_
          refine s_isub (pc := 135) C dX12_needed_135 ?_
          refine s_icmp_lt (pc := 136) C (tgt := 147) dX12_needed_136 (by decide) ⟨by omega, by omega⟩ ⟨by omega, by omega⟩ (fun h136 => ?_) (fun h136 => ?_)
          · skip
            refine s_sipush (pc := 147) C dX12_needed_147 (by decide) ?_
            refine s_iret (pc := 150) C dX12_needed_150 ?_
            refine ⟨_, rfl, ?_⟩
            exact ⟨hg2, hf2, by first | (exfalso; omega) | exact Or.inl ⟨rfl, NDI_fail hnd (Gr_fail (x := x) (p := min (σ1 28 0 + x + u) (σ 0 3 - 1)) hinv.1 (by omega) hinv.2.2 hop rfl (by omega))⟩⟩
          · skip
            refine s_iload_n (pc := 139) C dX12_needed_139 5 rfl ?_
            refine s_aload_n (pc := 140) C dX12_needed_140 2 rfl ?_
            refine s_geti (q := 0) (ci := 12) (N := 68) (CN := RX12) (T := TX12) (pc := 141) C 3 dX12_needed_141 wlX12_13 rfl rfl rfl wfX12 (by decide) rfl (σ1 0 3) rfl ?_
            have b141 : (10 : Int) ≤ σ1 0 3 ∧ σ1 0 3 ≤ 100 := hg2.1 0 3
            refine s_icmp_ne (pc := 144) C (tgt := 151) dX12_needed_144 (by decide) ⟨by omega, by omega⟩ ⟨by omega, by omega⟩ (fun h144 => ?_) (fun h144 => ?_)
            · skip
              refine s_aload_n (pc := 151) C dX12_needed_151 2 rfl ?_
              refine s_getr (q := 0) (ci := 12) (N := 68) (CN := RX12) (T := TX12) (pc := 152) C 54 dX12_needed_152 wlX12_99 rfl rfl rfl wfX12 (by decide) rfl ?_
              refine s_iload_n (pc := 155) C dX12_needed_155 5 rfl ?_
              refine s_iload (pc := 156) C dX12_needed_156 0 rfl ?_
              refine s_iast (q := 28) (n := 100) (pc := 158) C dX12_needed_158 rfl (by omega) (by omega) (by decide) ?_
              have g158 := gy_set (z := ((σ1 0 3) - 1)) hg2 28 mm.toNat rfl (0) (1000) rfl ⟨by omega, by omega⟩
              have f158 := frm_set (P := (PNd la.toNat)) (z := ((σ1 0 3) - 1)) hf2 28 mm.toNat (by simp [PNd] <;> omega)
              refine s_iinc (pc := 159) C [(3, vI (mm + 1)), (6, vI ((σ1 0 3) - 1)), (5, vI ((σ1 28 0) + x)), (0, .ref (ad 0)), (1, vI u), (2, vI la), (4, vI x)] dX12_needed_159 5 rfl (by decide) rfl ?_
              refine s_goto (pc := 162) C (tgt := 2) dX12_needed_162 (by decide) ?_
              refine s_sub C [3, 4, 5, 0] [(0, .ref (ad 0)), (1, vI u), (2, vI la), (3, vI (mm + 1))] rfl ?_
              have hi2 : GY σ ((hs_ss σ1 28 mm.toNat ((σ1 0 3) - 1))) ∧ FRM (PNd la.toNat) σ ((hs_ss σ1 28 mm.toNat ((σ1 0 3) - 1))) ∧ la ≤ (mm + 1) ∧ (mm + 1) ≤ σ 0 3 ∧ NDI (σ 0 3) u (σ 27) (σ 28) la.toNat (((hs_ss σ1 28 mm.toNat ((σ1 0 3) - 1))) 28) (mm + 1).toNat := ⟨g158, f158, by first | (exfalso; omega) | exact ⟨by omega, by omega, NDI_step (by omega) hnd hinv.1 (by omega) hinv.2.2 hop (by omega) (by omega) (by omega) (by omega) hs_ss_row (by omega)⟩⟩
              exact ih2 (mm + 1, (hs_ss σ1 28 mm.toNat ((σ1 0 3) - 1))) (by first | omega | (simp only []; omega)) hi2
            · skip
              refine s_sipush (pc := 147) C dX12_needed_147 (by decide) ?_
              refine s_iret (pc := 150) C dX12_needed_150 ?_
              refine ⟨_, rfl, ?_⟩
              exact ⟨hg2, hf2, by first | (exfalso; omega) | exact Or.inl ⟨rfl, NDI_fail hnd (Gr_fail (x := x) (p := min (σ1 28 0 + x + u) (σ 0 3 - 1)) hinv.1 (by omega) hinv.2.2 hop rfl (by omega))⟩⟩
    · skip
      refine s_iload_n (pc := 74) C dX12_needed_74 3 rfl ?_
      refine s_iload_n (pc := 75) C dX12_needed_75 2 rfl ?_
      refine s_isub (pc := 76) C dX12_needed_76 ?_
      refine s_iret (pc := 77) C dX12_needed_77 ?_
      refine ⟨_, rfl, ?_⟩
      exact ⟨hg2, hf2, by first | (exfalso; omega) | exact Or.inr ⟨by omega, by omega, by rw [show (mm - la).toNat = mm.toNat - la.toNat by omega]; exact NDI_fin hnd (fun y h0 h1 => hinv.2.2 y h0 (by omega))⟩⟩
  · skip
    refine s_aload_n (pc := 14) C dX12_needed_14 0 rfl ?_
    refine s_getr (q := 0) (ci := 12) (N := 68) (CN := RX12) (T := TX12) (pc := 15) C 52 dX12_needed_15 wlX12_95 rfl rfl rfl wfX12 (by decide) rfl ?_
    refine s_aload_n (pc := 18) C dX12_needed_18 0 rfl ?_
    refine s_getr (q := 0) (ci := 12) (N := 68) (CN := RX12) (T := TX12) (pc := 19) C 54 dX12_needed_19 wlX12_99 rfl rfl rfl wfX12 (by decide) rfl ?_
    refine s_iconst (pc := 22) C dX12_needed_22 ?_
    refine s_iald (q := 28) (n := 100) (pc := 23) C (σ1 28 0) rfl dX12_needed_23 rfl (by omega) (by omega) (by decide) ?_
    have b23 : (0 : Int) ≤ σ1 28 0 ∧ σ1 28 0 ≤ 1000 := hg2.1 28 0
    refine s_iload (pc := 24) C dX12_needed_24 4 rfl ?_
    refine s_iadd (pc := 26) C dX12_needed_26 ?_
    refine s_aload_n (pc := 27) C dX12_needed_27 0 rfl ?_
    refine s_geti (q := 0) (ci := 12) (N := 68) (CN := RX12) (T := TX12) (pc := 28) C 3 dX12_needed_28 wlX12_13 rfl rfl rfl wfX12 (by decide) rfl (σ1 0 3) rfl ?_
    have b28 : (10 : Int) ≤ σ1 0 3 ∧ σ1 0 3 ≤ 100 := hg2.1 0 3
    refine s_irem (pc := 31) C dX12_needed_31 ⟨by omega, by omega⟩ ⟨by omega, by omega⟩ (by omega) ?_
    have tl31 := hs_tm_lo ((σ1 28 0) + x) (show (0 : Int) < σ1 0 3 by omega)
    have th31 := hs_tm_hi ((σ1 28 0) + x) (show (0 : Int) < σ1 0 3 by omega)
    rw [show (σ1 28 0 + x).tmod (σ1 0 3) = (σ1 28 0 + x) % σ1 0 3 from Int.tmod_eq_emod_of_nonneg (by omega)]
    have hx0 := Int.emod_nonneg (σ1 28 0 + x) (show σ1 0 3 ≠ 0 by omega)
    have hx1 := Int.emod_lt_of_pos (σ1 28 0 + x) (show 0 < σ1 0 3 by omega)
    refine s_zald (q := 27) (n := 100) (pc := 32) C (σ1 27 (((σ1 28 0 + x) % σ1 0 3).toNat)) rfl dX12_needed_32 rfl (by omega) (by omega) (by decide) ?_
    have b32 : (0 : Int) ≤ σ1 27 (((σ1 28 0 + x) % σ1 0 3).toNat) ∧ σ1 27 (((σ1 28 0 + x) % σ1 0 3).toNat) ≤ 1 := hg2.1 27 (((σ1 28 0 + x) % σ1 0 3).toNat)
    refine s_if_eq (pc := 33) C (tgt := 59) dX12_needed_33 (by decide) ⟨by omega, by omega⟩ (fun h33 => ?_) (fun h33 => ?_)
    · skip
      refine s_iinc (pc := 59) C [(4, vI (x + 1)), (0, .ref (ad 0)), (1, vI u), (2, vI la), (3, vI mm)] dX12_needed_59 4 rfl (by decide) rfl ?_
      refine s_goto (pc := 62) C (tgt := 5) dX12_needed_62 (by decide) ?_
      refine s_sub C [1, 2, 3, 4, 0] [(0, .ref (ad 0)), (1, vI u), (2, vI la), (3, vI mm), (4, vI (x + 1))] rfl ?_
      have hi5 : 0 ≤ (x + 1) ∧ (x + 1) ≤ σ 0 3 ∧ FO (σ 0 3) u (σ 27) (σ1 28) mm.toNat (x + 1) := ⟨by omega, by omega, FO_succ hinv.2.2 (fun q => by first | exact q.1 (by rw [← e27, ← e3]; exact h33) | exact q.2 (by rw [← e3]; exact k53.2.mp (by omega)))⟩
      exact ih5 (x + 1) (by first | omega | (simp only []; omega)) hi5
    · skip
      refine s_aload_n (pc := 36) C dX12_needed_36 0 rfl ?_
      refine s_aload_n (pc := 37) C dX12_needed_37 0 rfl ?_
      refine s_getr (q := 0) (ci := 12) (N := 68) (CN := RX12) (T := TX12) (pc := 38) C 54 dX12_needed_38 wlX12_99 rfl rfl rfl wfX12 (by decide) rfl ?_
      refine s_iconst (pc := 41) C dX12_needed_41 ?_
      refine s_iald (q := 28) (n := 100) (pc := 42) C (σ1 28 0) rfl dX12_needed_42 rfl (by omega) (by omega) (by decide) ?_
      have b42 : (0 : Int) ≤ σ1 28 0 ∧ σ1 28 0 ≤ 1000 := hg2.1 28 0
      refine s_iload (pc := 43) C dX12_needed_43 4 rfl ?_
      refine s_iadd (pc := 45) C dX12_needed_45 ?_
      refine s_aload_n (pc := 46) C dX12_needed_46 0 rfl ?_
      refine s_geti (q := 0) (ci := 12) (N := 68) (CN := RX12) (T := TX12) (pc := 47) C 3 dX12_needed_47 wlX12_13 rfl rfl rfl wfX12 (by decide) rfl (σ1 0 3) rfl ?_
      have b47 : (10 : Int) ≤ σ1 0 3 ∧ σ1 0 3 ≤ 100 := hg2.1 0 3
      refine s_irem (pc := 50) C dX12_needed_50 ⟨by omega, by omega⟩ ⟨by omega, by omega⟩ (by omega) ?_
      have tl50 := hs_tm_lo ((σ1 28 0) + x) (show (0 : Int) < σ1 0 3 by omega)
      have th50 := hs_tm_hi ((σ1 28 0) + x) (show (0 : Int) < σ1 0 3 by omega)
      rw [show (σ1 28 0 + x).tmod (σ1 0 3) = (σ1 28 0 + x) % σ1 0 3 from Int.tmod_eq_emod_of_nonneg (by omega)]
      have hx0 := Int.emod_nonneg (σ1 28 0 + x) (show σ1 0 3 ≠ 0 by omega)
      have hx1 := Int.emod_lt_of_pos (σ1 28 0 + x) (show 0 < σ1 0 3 by omega)
      refine s_iload_n (pc := 51) C dX12_needed_51 1 rfl ?_
      refine s_iload_n (pc := 52) C dX12_needed_52 3 rfl ?_
      refine s_callVi (pc := 53) C (c_X12_isCovered l ((σ1 28 0 + x) % σ1 0 3) u mm (by first | omega | assumption | (constructor <;> omega) | (refine ⟨⟨?_, ?_⟩, ?_⟩ <;> omega) | (simp [hs_ss, hs_up]; omega) | (simp [hs_ss, hs_up]; done)) (by first | omega | assumption | (constructor <;> omega) | (refine ⟨⟨?_, ?_⟩, ?_⟩ <;> omega) | (simp [hs_ss, hs_up]; omega) | (simp [hs_ss, hs_up]; done)) (by first | omega | assumption | (constructor <;> omega) | (refine ⟨⟨?_, ?_⟩, ?_⟩ <;> omega) | (simp [hs_ss, hs_up]; omega) | (simp [hs_ss, hs_up]; done))) [vI ((σ1 28 0 + x) % σ1 0 3), vI u, vI mm] [] rfl rfl dX12_needed_53 wlX12_337 wiX12_isCovered weX12_isCovered wcX12_isCovered wnX12 noX12_isCovered (by decide) (by decide) (Nat.le_of_ble_eq_true rfl) (gy_self hg2) rfl rfl ?_
      rintro z53 _ ⟨rfl, k53⟩
      show hs_Wd _ _ _ _ _ _ _ _ _ _ _ _ _ _ _ _ _ 56 _ [vI z53] σ1
      refine s_if_eq (pc := 56) C (tgt := 65) dX12_needed_56 (by decide) ⟨by omega, by omega⟩ (fun h56 => ?_) (fun h56 => ?_)
      · skip
        have hop : OPN (σ 0 3) u (σ 27) (σ1 28) mm.toNat x := ⟨by rw [← e27, ← e3]; exact h33, by rw [← e3]; exact fun q => by have q2 := k53.2.mpr q; omega⟩
        refine s_iload (pc := 65) C dX12_needed_65 4 rfl ?_
        refine s_aload_n (pc := 67) C dX12_needed_67 0 rfl ?_
        refine s_geti (q := 0) (ci := 12) (N := 68) (CN := RX12) (T := TX12) (pc := 68) C 3 dX12_needed_68 wlX12_13 rfl rfl rfl wfX12 (by decide) rfl (σ1 0 3) rfl ?_
        have b68 : (10 : Int) ≤ σ1 0 3 ∧ σ1 0 3 ≤ 100 := hg2.1 0 3
        refine s_icmp_ne (pc := 71) C (tgt := 78) dX12_needed_71 (by decide) ⟨by omega, by omega⟩ ⟨by omega, by omega⟩ (fun h71 => ?_) (fun h71 => ?_)
        · skip
          refine s_aload_n (pc := 78) C dX12_needed_78 0 rfl ?_
          refine s_getr (q := 0) (ci := 12) (N := 68) (CN := RX12) (T := TX12) (pc := 79) C 54 dX12_needed_79 wlX12_99 rfl rfl rfl wfX12 (by decide) rfl ?_
          refine s_iconst (pc := 82) C dX12_needed_82 ?_
          refine s_iald (q := 28) (n := 100) (pc := 83) C (σ1 28 0) rfl dX12_needed_83 rfl (by omega) (by omega) (by decide) ?_
          have b83 : (0 : Int) ≤ σ1 28 0 ∧ σ1 28 0 ≤ 1000 := hg2.1 28 0
          refine s_iload (pc := 84) C dX12_needed_84 4 rfl ?_
          refine s_iadd (pc := 86) C dX12_needed_86 ?_
          refine s_istore (pc := 87) C [(5, vI ((σ1 28 0) + x)), (0, .ref (ad 0)), (1, vI u), (2, vI la), (3, vI mm), (4, vI x)] dX12_needed_87 (by decide) rfl ?_
          refine s_iload (pc := 89) C dX12_needed_89 0 rfl ?_
          refine s_iload_n (pc := 91) C dX12_needed_91 2 rfl ?_
          refine s_iadd (pc := 92) C dX12_needed_92 ?_
          refine s_aload_n (pc := 93) C dX12_needed_93 1 rfl ?_
          refine s_geti (q := 0) (ci := 12) (N := 68) (CN := RX12) (T := TX12) (pc := 94) C 3 dX12_needed_94 wlX12_13 rfl rfl rfl wfX12 (by decide) rfl (σ1 0 3) rfl ?_
          have b94 : (10 : Int) ≤ σ1 0 3 ∧ σ1 0 3 ≤ 100 := hg2.1 0 3
          refine s_iconst (pc := 97) C dX12_needed_97 ?_
          refine s_isub (pc := 98) C dX12_needed_98 ?_
          refine s_icmp_le (pc := 99) C (tgt := 111) dX12_needed_99 (by decide) ⟨by omega, by omega⟩ ⟨by omega, by omega⟩ (fun h99 => ?_) (fun h99 => ?_)
          · skip
            refine s_iload (pc := 111) C dX12_needed_111 0 rfl ?_
            refine s_iload_n (pc := 113) C dX12_needed_113 2 rfl ?_
            refine s_iadd (pc := 114) C dX12_needed_114 ?_
            refine s_istore (pc := 115) C [(6, vI (((σ1 28 0) + x) + u)), (5, vI ((σ1 28 0) + x)), (0, .ref (ad 0)), (1, vI u), (2, vI la), (3, vI mm), (4, vI x)] dX12_needed_115 (by decide) rfl ?_
            have em : σ1 28 (mm - 1).toNat = σ1 28 (mm.toNat - 1) := by rw [show (mm - 1).toNat = mm.toNat - 1 by omega]
            refine s_iload (pc := 117) C dX12_needed_117 0 rfl ?_
            refine s_aload_n (pc := 119) C dX12_needed_119 2 rfl ?_
            refine s_getr (q := 0) (ci := 12) (N := 68) (CN := RX12) (T := TX12) (pc := 120) C 54 dX12_needed_120 wlX12_99 rfl rfl rfl wfX12 (by decide) rfl ?_
            refine s_iload_n (pc := 123) C dX12_needed_123 5 rfl ?_
            refine s_iconst (pc := 124) C dX12_needed_124 ?_
            refine s_isub (pc := 125) C dX12_needed_125 ?_
            refine s_iald (q := 28) (n := 100) (pc := 126) C (σ1 28 ((mm - 1).toNat)) rfl dX12_needed_126 rfl (by omega) (by omega) (by decide) ?_
            have b126 : (0 : Int) ≤ σ1 28 ((mm - 1).toNat) ∧ σ1 28 ((mm - 1).toNat) ≤ 1000 := hg2.1 28 ((mm - 1).toNat)
            refine s_icmp_le (pc := 127) C (tgt := 147) dX12_needed_127 (by decide) ⟨by omega, by omega⟩ ⟨by omega, by omega⟩ (fun h127 => ?_) (fun h127 => ?_)
            · skip
              refine s_sipush (pc := 147) C dX12_needed_147 (by decide) ?_
              refine s_iret (pc := 150) C dX12_needed_150 ?_
              refine ⟨_, rfl, ?_⟩
              exact ⟨hg2, hf2, by first | (exfalso; omega) | exact Or.inl ⟨rfl, NDI_fail hnd (Gr_fail (x := x) (p := min (σ1 28 0 + x + u) (σ 0 3 - 1)) hinv.1 (by omega) hinv.2.2 hop rfl (by omega))⟩⟩
            · skip
              refine s_iload (pc := 130) C dX12_needed_130 0 rfl ?_
              refine s_iload (pc := 132) C dX12_needed_132 1 rfl ?_
              refine s_iload_n (pc := 134) C dX12_needed_134 3 rfl ?_
              refine s_isub (pc := 135) C dX12_needed_135 ?_
              refine s_icmp_lt (pc := 136) C (tgt := 147) dX12_needed_136 (by decide) ⟨by omega, by omega⟩ ⟨by omega, by omega⟩ (fun h136 => ?_) (fun h136 => ?_)
              · skip
                refine s_sipush (pc := 147) C dX12_needed_147 (by decide) ?_
                refine s_iret (pc := 150) C dX12_needed_150 ?_
                refine ⟨_, rfl, ?_⟩
                exact ⟨hg2, hf2, by first | (exfalso; omega) | exact Or.inl ⟨rfl, NDI_fail hnd (Gr_fail (x := x) (p := min (σ1 28 0 + x + u) (σ 0 3 - 1)) hinv.1 (by omega) hinv.2.2 hop rfl (by omega))⟩⟩
              · skip
                refine s_iload_n (pc := 139) C dX12_needed_139 5 rfl ?_
                refine s_aload_n (pc := 140) C dX12_needed_140 2 rfl ?_
                refine s_geti (q := 0) (ci := 12) (N := 68) (CN := RX12) (T := TX12) (pc := 141) C 3 dX12_needed_141 wlX12_13 rfl rfl rfl wfX12 (by decide) rfl (σ1 0 3) rfl ?_
                have b141 : (10 : Int) ≤ σ1 0 3 ∧ σ1 0 3 ≤ 100 := hg2.1 0 3
                refine s_icmp_ne (pc := 144) C (tgt := 151) dX12_needed_144 (by decide) ⟨by omega, by omega⟩ ⟨by omega, by omega⟩ (fun h144 => ?_) (fun h144 => ?_)
                · skip
                  refine s_aload_n (pc := 151) C dX12_needed_151 2 rfl ?_
                  refine s_getr (q := 0) (ci := 12) (N := 68) (CN := RX12) (T := TX12) (pc := 152) C 54 dX12_needed_152 wlX12_99 rfl rfl rfl wfX12 (by decide) rfl ?_
                  refine s_iload_n (pc := 155) C dX12_needed_155 5 rfl ?_
                  refine s_iload (pc := 156) C dX12_needed_156 0 rfl ?_
                  refine s_iast (q := 28) (n := 100) (pc := 158) C dX12_needed_158 rfl (by omega) (by omega) (by decide) ?_
                  have g158 := gy_set (z := (((σ1 28 0) + x) + u)) hg2 28 mm.toNat rfl (0) (1000) rfl ⟨by omega, by omega⟩
                  have f158 := frm_set (P := (PNd la.toNat)) (z := (((σ1 28 0) + x) + u)) hf2 28 mm.toNat (by simp [PNd] <;> omega)
                  refine s_iinc (pc := 159) C [(3, vI (mm + 1)), (6, vI (((σ1 28 0) + x) + u)), (5, vI ((σ1 28 0) + x)), (0, .ref (ad 0)), (1, vI u), (2, vI la), (4, vI x)] dX12_needed_159 5 rfl (by decide) rfl ?_
                  refine s_goto (pc := 162) C (tgt := 2) dX12_needed_162 (by decide) ?_
                  refine s_sub C [3, 4, 5, 0] [(0, .ref (ad 0)), (1, vI u), (2, vI la), (3, vI (mm + 1))] rfl ?_
                  have hi2 : GY σ ((hs_ss σ1 28 mm.toNat (((σ1 28 0) + x) + u))) ∧ FRM (PNd la.toNat) σ ((hs_ss σ1 28 mm.toNat (((σ1 28 0) + x) + u))) ∧ la ≤ (mm + 1) ∧ (mm + 1) ≤ σ 0 3 ∧ NDI (σ 0 3) u (σ 27) (σ 28) la.toNat (((hs_ss σ1 28 mm.toNat (((σ1 28 0) + x) + u))) 28) (mm + 1).toNat := ⟨g158, f158, by first | (exfalso; omega) | exact ⟨by omega, by omega, NDI_step (by omega) hnd hinv.1 (by omega) hinv.2.2 hop (by omega) (by omega) (by omega) (by omega) hs_ss_row (by omega)⟩⟩
                  exact ih2 (mm + 1, (hs_ss σ1 28 mm.toNat (((σ1 28 0) + x) + u))) (by first | omega | (simp only []; omega)) hi2
                · skip
                  refine s_sipush (pc := 147) C dX12_needed_147 (by decide) ?_
                  refine s_iret (pc := 150) C dX12_needed_150 ?_
                  refine ⟨_, rfl, ?_⟩
                  exact ⟨hg2, hf2, by first | (exfalso; omega) | exact Or.inl ⟨rfl, NDI_fail hnd (Gr_fail (x := x) (p := min (σ1 28 0 + x + u) (σ 0 3 - 1)) hinv.1 (by omega) hinv.2.2 hop rfl (by omega))⟩⟩
          · skip
            refine s_aload_n (pc := 102) C dX12_needed_102 1 rfl ?_
            refine s_geti (q := 0) (ci := 12) (N := 68) (CN := RX12) (T := TX12) (pc := 103) C 3 dX12_needed_103 wlX12_13 rfl rfl rfl wfX12 (by decide) rfl (σ1 0 3) rfl ?_
            have b103 : (10 : Int) ≤ σ1 0 3 ∧ σ1 0 3 ≤ 100 := hg2.1 0 3
            refine s_iconst (pc := 106) C dX12_needed_106 ?_
            refine s_isub (pc := 107) C dX12_needed_107 ?_
            refine s_goto (pc := 108) C (tgt := 115) dX12_needed_108 (by decide) ?_
            refine s_istore (pc := 115) C [(6, vI ((σ1 0 3) - 1)), (5, vI ((σ1 28 0) + x)), (0, .ref (ad 0)), (1, vI u), (2, vI la), (3, vI mm), (4, vI x)] dX12_needed_115 (by decide) rfl ?_
            have em : σ1 28 (mm - 1).toNat = σ1 28 (mm.toNat - 1) := by rw [show (mm - 1).toNat = mm.toNat - 1 by omega]
            refine s_iload (pc := 117) C dX12_needed_117 0 rfl ?_
            refine s_aload_n (pc := 119) C dX12_needed_119 2 rfl ?_
            refine s_getr (q := 0) (ci := 12) (N := 68) (CN := RX12) (T := TX12) (pc := 120) C 54 dX12_needed_120 wlX12_99 rfl rfl rfl wfX12 (by decide) rfl ?_
            refine s_iload_n (pc := 123) C dX12_needed_123 5 rfl ?_
            refine s_iconst (pc := 124) C dX12_needed_124 ?_
            refine s_isub (pc := 125) C dX12_needed_125 ?_
            refine s_iald (q := 28) (n := 100) (pc := 126) C (σ1 28 ((mm - 1).toNat)) rfl dX12_needed_126 rfl (by omega) (by omega) (by decide) ?_
            have b126 : (0 : Int) ≤ σ1 28 ((mm - 1).toNat) ∧ σ1 28 ((mm - 1).toNat) ≤ 1000 := hg2.1 28 ((mm - 1).toNat)
            refine s_icmp_le (pc := 127) C (tgt := 147) dX12_needed_127 (by decide) ⟨by omega, by omega⟩ ⟨by omega, by omega⟩ (fun h127 => ?_) (fun h127 => ?_)
            · skip
              refine s_sipush (pc := 147) C dX12_needed_147 (by decide) ?_
              refine s_iret (pc := 150) C dX12_needed_150 ?_
              refine ⟨_, rfl, ?_⟩
              exact ⟨hg2, hf2, by first | (exfalso; omega) | exact Or.inl ⟨rfl, NDI_fail hnd (Gr_fail (x := x) (p := min (σ1 28 0 + x + u) (σ 0 3 - 1)) hinv.1 (by omega) hinv.2.2 hop rfl (by omega))⟩⟩
            · skip
              refine s_iload (pc := 130) C dX12_needed_130 0 rfl ?_
              refine s_iload (pc := 132) C dX12_needed_132 1 rfl ?_
              refine s_iload_n (pc := 134) C dX12_needed_134 3 rfl ?_
              refine s_isub (pc := 135) C dX12_needed_135 ?_
              refine s_icmp_lt (pc := 136) C (tgt := 147) dX12_needed_136 (by decide) ⟨by omega, by omega⟩ ⟨by omega, by omega⟩ (fun h136 => ?_) (fun h136 => ?_)
              · skip
                refine s_sipush (pc := 147) C dX12_needed_147 (by decide) ?_
                refine s_iret (pc := 150) C dX12_needed_150 ?_
                refine ⟨_, rfl, ?_⟩
                exact ⟨hg2, hf2, by first | (exfalso; omega) | exact Or.inl ⟨rfl, NDI_fail hnd (Gr_fail (x := x) (p := min (σ1 28 0 + x + u) (σ 0 3 - 1)) hinv.1 (by omega) hinv.2.2 hop rfl (by omega))⟩⟩
              · skip
                refine s_iload_n (pc := 139) C dX12_needed_139 5 rfl ?_
                refine s_aload_n (pc := 140) C dX12_needed_140 2 rfl ?_
                refine s_geti (q := 0) (ci := 12) (N := 68) (CN := RX12) (T := TX12) (pc := 141) C 3 dX12_needed_141 wlX12_13 rfl rfl rfl wfX12 (by decide) rfl (σ1 0 3) rfl ?_
                have b141 : (10 : Int) ≤ σ1 0 3 ∧ σ1 0 3 ≤ 100 := hg2.1 0 3
                refine s_icmp_ne (pc := 144) C (tgt := 151) dX12_needed_144 (by decide) ⟨by omega, by omega⟩ ⟨by omega, by omega⟩ (fun h144 => ?_) (fun h144 => ?_)
                · skip
                  refine s_aload_n (pc := 151) C dX12_needed_151 2 rfl ?_
                  refine s_getr (q := 0) (ci := 12) (N := 68) (CN := RX12) (T := TX12) (pc := 152) C 54 dX12_needed_152 wlX12_99 rfl rfl rfl wfX12 (by decide) rfl ?_
                  refine s_iload_n (pc := 155) C dX12_needed_155 5 rfl ?_
                  refine s_iload (pc := 156) C dX12_needed_156 0 rfl ?_
                  refine s_iast (q := 28) (n := 100) (pc := 158) C dX12_needed_158 rfl (by omega) (by omega) (by decide) ?_
                  have g158 := gy_set (z := ((σ1 0 3) - 1)) hg2 28 mm.toNat rfl (0) (1000) rfl ⟨by omega, by omega⟩
                  have f158 := frm_set (P := (PNd la.toNat)) (z := ((σ1 0 3) - 1)) hf2 28 mm.toNat (by simp [PNd] <;> omega)
                  refine s_iinc (pc := 159) C [(3, vI (mm + 1)), (6, vI ((σ1 0 3) - 1)), (5, vI ((σ1 28 0) + x)), (0, .ref (ad 0)), (1, vI u), (2, vI la), (4, vI x)] dX12_needed_159 5 rfl (by decide) rfl ?_
                  refine s_goto (pc := 162) C (tgt := 2) dX12_needed_162 (by decide) ?_
                  refine s_sub C [3, 4, 5, 0] [(0, .ref (ad 0)), (1, vI u), (2, vI la), (3, vI (mm + 1))] rfl ?_
                  have hi2 : GY σ ((hs_ss σ1 28 mm.toNat ((σ1 0 3) - 1))) ∧ FRM (PNd la.toNat) σ ((hs_ss σ1 28 mm.toNat ((σ1 0 3) - 1))) ∧ la ≤ (mm + 1) ∧ (mm + 1) ≤ σ 0 3 ∧ NDI (σ 0 3) u (σ 27) (σ 28) la.toNat (((hs_ss σ1 28 mm.toNat ((σ1 0 3) - 1))) 28) (mm + 1).toNat := ⟨g158, f158, by first | (exfalso; omega) | exact ⟨by omega, by omega, NDI_step (by omega) hnd hinv.1 (by omega) hinv.2.2 hop (by omega) (by omega) (by omega) (by omega) hs_ss_row (by omega)⟩⟩
                  exact ih2 (mm + 1, (hs_ss σ1 28 mm.toNat ((σ1 0 3) - 1))) (by first | omega | (simp only []; omega)) hi2
                · skip
                  refine s_sipush (pc := 147) C dX12_needed_147 (by decide) ?_
                  refine s_iret (pc := 150) C dX12_needed_150 ?_
                  refine ⟨_, rfl, ?_⟩
                  exact ⟨hg2, hf2, by first | (exfalso; omega) | exact Or.inl ⟨rfl, NDI_fail hnd (Gr_fail (x := x) (p := min (σ1 28 0 + x + u) (σ 0 3 - 1)) hinv.1 (by omega) hinv.2.2 hop rfl (by omega))⟩⟩
        · skip
          refine s_iload_n (pc := 74) C dX12_needed_74 3 rfl ?_
          refine s_iload_n (pc := 75) C dX12_needed_75 2 rfl ?_
          refine s_isub (pc := 76) C dX12_needed_76 ?_
          refine s_iret (pc := 77) C dX12_needed_77 ?_
          refine ⟨_, rfl, ?_⟩
          exact ⟨hg2, hf2, by first | (exfalso; omega) | exact Or.inr ⟨by omega, by omega, by rw [show (mm - la).toNat = mm.toNat - la.toNat by omega]; exact NDI_fin hnd (fun y h0 h1 => hinv.2.2 y h0 (by omega))⟩⟩
      · skip
        refine s_iinc (pc := 59) C [(4, vI (x + 1)), (0, .ref (ad 0)), (1, vI u), (2, vI la), (3, vI mm)] dX12_needed_59 4 rfl (by decide) rfl ?_
        refine s_goto (pc := 62) C (tgt := 5) dX12_needed_62 (by decide) ?_
        refine s_sub C [1, 2, 3, 4, 0] [(0, .ref (ad 0)), (1, vI u), (2, vI la), (3, vI mm), (4, vI (x + 1))] rfl ?_
        have hi5 : 0 ≤ (x + 1) ∧ (x + 1) ≤ σ 0 3 ∧ FO (σ 0 3) u (σ 27) (σ1 28) mm.toNat (x + 1) := ⟨by omega, by omega, FO_succ hinv.2.2 (fun q => by first | exact q.1 (by rw [← e27, ← e3]; exact h33) | exact q.2 (by rw [← e3]; exact k53.2.mp (by omega)))⟩
        exact ih5 (x + 1) (by first | omega | (simp only []; omega)) hi5
set_option maxHeartbeats 4000000 in
set_option maxRecDepth 100000 in
theorem c_X12_layCover (l : Launch) (w : Int) (hw : 0 ≤ w ∧ w < 4) : hs_Met l yX12_layCover cX12_layCover 8 none 6 SHY (fun ad => [.ref (ad 0), vI w]) (fun σ => GY σ σ) (hs_PV (fun σ σ1 => GY σ σ1 ∧ FRM PLc σ σ1)) := by
  refine hs_from pfX12_layCover (fun _ => Nat.le_of_ble_eq_true rfl) ?_
  intro p e s m args below meth c D dA ad A σ C hpre
  have C : hs_C p s m args meth c D dA SHY ad A 8 cX12_layCover RX12 none := C
  have g0 := hpre
  have f0 : FRM PLc σ σ := frm_rf
  show hs_Wd p l e 6 s m args below meth c D dA SHY ad A 8 (hs_PV (fun σ σ1 => GY σ σ1 ∧ FRM PLc σ σ1) σ) 0 [(0, .ref (ad 0)), (1, vI w)] [] σ
  refine s_aload_n (pc := 0) C dX12_layCover_0 0 rfl ?_
  refine s_iload_n (pc := 1) C dX12_layCover_1 1 rfl ?_
  refine s_callVv (pc := 2) C (c_X12_layMay l w (by first | omega | assumption | (constructor <;> omega) | (refine ⟨⟨?_, ?_⟩, ?_⟩ <;> omega) | (simp [hs_ss, hs_up]; omega) | (simp [hs_ss, hs_up]; done))) [vI w] [] rfl rfl dX12_layCover_2 wlX12_333 wiX12_layMay weX12_layMay wcX12_layMay wnX12 noX12_layMay (by decide) (by decide) (Nat.le_of_ble_eq_true rfl) (gy_self g0) rfl rfl ?_
  rintro σ2 k2
  obtain ⟨kg2, kf2⟩ := k2
  have g2 := gy_trans g0 kg2
  have f2 := frm_tr f0 (frm_mono (Q := PLc) kf2 (fun c j h => by simp [PLm, PLc] at h ⊢ <;> omega))
  show hs_Wd _ _ _ _ _ _ _ _ _ _ _ _ _ _ _ _ _ 5 _ [] σ2
  refine s_aload_n (pc := 5) C dX12_layCover_5 0 rfl ?_
  refine s_iconst (pc := 6) C dX12_layCover_6 ?_
  refine s_puti (q := 0) (ci := 12) (N := 68) (CN := RX12) (T := TX12) (ty0 := tyX12) (ty := .int) (pc := 7) C 53 dX12_layCover_7 wlX12_340 rfl rfl rfl wfX12 tyX12_ok nmX12 (by decide) rfl rfl rfl (vp_nar_int _) rfl ?_
  have g7 := gy_set (z := 0) g2 0 53 rfl (0) (100) rfl ⟨by omega, by omega⟩
  have f7 := frm_set (P := PLc) (z := 0) f2 0 53 rfl
  refine s_iconst (pc := 10) C dX12_layCover_10 ?_
  refine s_istore_n (pc := 11) C [(2, vI 0), (0, .ref (ad 0)), (1, vI w)] dX12_layCover_11 (by decide) rfl ?_
  refine s_iconst (pc := 12) C dX12_layCover_12 ?_
  refine s_istore_n (pc := 13) C [(3, vI 0), (2, vI 0), (0, .ref (ad 0)), (1, vI w)] dX12_layCover_13 (by decide) rfl ?_
  refine s_sub C [2, 3, 1, 0] [(0, .ref (ad 0)), (1, vI w), (2, vI 0), (3, vI 0)] rfl ?_
  have hi14 : 0 ≤ (0 : Int) ∧ (0 : Int) ≤ 100 ∧ ((0 : Int) = 0 ∨ (0 : Int) = 1) := (by first | omega | assumption | (constructor <;> omega) | (refine ⟨⟨?_, ?_⟩, ?_⟩ <;> omega) | (simp [hs_ss, hs_up]; omega) | (simp [hs_ss, hs_up]; done))
  refine hs_loop (α := Int × Int) (fun x_ => (0 ≤ x_.1 ∧ x_.1 ≤ 100 ∧ (x_.2 = 0 ∨ x_.2 = 1)) → hs_Wd p l e 6 s m args below meth c D dA SHY ad A 8 (hs_PV (fun σ σ1 => GY σ σ1 ∧ FRM PLc σ σ1) σ) 14 [(0, .ref (ad 0)), (1, vI w), (2, vI x_.2), (3, vI x_.1)] [] (hs_ss σ2 0 53 0)) (fun x_ => (101 - x_.1).toNat) ?_ (0, 0) hi14
  rintro ⟨g, an⟩ ih14 hinv
  replace hinv : 0 ≤ g ∧ g ≤ 100 ∧ (an = 0 ∨ an = 1) := hinv
  show hs_Wd p l e 6 s m args below meth c D dA SHY ad A 8 (hs_PV (fun σ σ1 => GY σ σ1 ∧ FRM PLc σ σ1) σ) 14 [(0, .ref (ad 0)), (1, vI w), (2, vI an), (3, vI g)] [] (hs_ss σ2 0 53 0)
  refine s_iload_n (pc := 14) C dX12_layCover_14 3 rfl ?_
  refine s_aload_n (pc := 15) C dX12_layCover_15 0 rfl ?_
  refine s_geti (q := 0) (ci := 12) (N := 68) (CN := RX12) (T := TX12) (pc := 16) C 3 dX12_layCover_16 wlX12_13 rfl rfl rfl wfX12 (by decide) rfl (σ2 0 3) rfl ?_
  have b16 : (10 : Int) ≤ σ2 0 3 ∧ σ2 0 3 ≤ 100 := g7.1 0 3
  refine s_icmp_ge (pc := 19) C (tgt := 47) dX12_layCover_19 (by decide) ⟨by omega, by omega⟩ ⟨by omega, by omega⟩ (fun h19 => ?_) (fun h19 => ?_)
  · skip
    refine s_iload_n (pc := 47) C dX12_layCover_47 2 rfl ?_
    refine s_if_ne (pc := 48) C (tgt := 52) dX12_layCover_48 (by decide) ⟨by omega, by omega⟩ (fun h48 => ?_) (fun h48 => ?_)
    · skip
      refine s_aload_n (pc := 52) C dX12_layCover_52 0 rfl ?_
      refine s_getr (q := 0) (ci := 12) (N := 68) (CN := RX12) (T := TX12) (pc := 53) C 10 dX12_layCover_53 wlX12_26 rfl rfl rfl wfX12 (by decide) rfl ?_
      refine s_iload_n (pc := 56) C dX12_layCover_56 1 rfl ?_
      refine s_iald (q := 5) (n := 4) (pc := 57) C (σ2 5 w.toNat) rfl dX12_layCover_57 rfl (by omega) (by omega) (by decide) ?_
      have b57 : (0 : Int) ≤ σ2 5 w.toNat ∧ σ2 5 w.toNat ≤ 3 := g7.1 5 w.toNat
      refine s_istore_n (pc := 58) C [(3, vI (σ2 5 w.toNat)), (0, .ref (ad 0)), (1, vI w), (2, vI an)] dX12_layCover_58 (by decide) rfl ?_
      refine s_sipush (pc := 59) C dX12_layCover_59 (by decide) ?_
      refine s_istore (pc := 62) C [(4, vI 1000), (3, vI (σ2 5 w.toNat)), (0, .ref (ad 0)), (1, vI w), (2, vI an)] dX12_layCover_62 (by decide) rfl ?_
      refine s_iconst (pc := 64) C dX12_layCover_64 ?_
      refine s_istore (pc := 65) C [(5, vI 0), (4, vI 1000), (3, vI (σ2 5 w.toNat)), (0, .ref (ad 0)), (1, vI w), (2, vI an)] dX12_layCover_65 (by decide) rfl ?_
      refine s_iconst (pc := 67) C dX12_layCover_67 ?_
      refine s_istore (pc := 68) C [(6, vI 0), (5, vI 0), (4, vI 1000), (3, vI (σ2 5 w.toNat)), (0, .ref (ad 0)), (1, vI w), (2, vI an)] dX12_layCover_68 (by decide) rfl ?_
      refine s_sub C [4, 5, 3, 2, 1, 0] [(0, .ref (ad 0)), (1, vI w), (3, vI (σ2 5 w.toNat)), (4, vI 1000), (5, vI 0), (6, vI 0)] rfl ?_
      have hi70 : GY σ ((hs_ss σ2 0 53 0)) ∧ FRM PLc σ ((hs_ss σ2 0 53 0)) ∧ 0 ≤ (0 : Int) ∧ (0 : Int) ≤ σ2 0 3 ∧ 0 ≤ (0 : Int) ∧ (0 : Int) ≤ 99 ∧ ((hs_ss σ2 0 53 0)) 0 3 = σ2 0 3 ∧ ((hs_ss σ2 0 53 0)) 27 = σ2 27 ∧ (((1000 : Int) = 1000 ∧ (0 : Int) = 0) ∨ (0 ≤ (1000 : Int) ∧ (1000 : Int) + 1 ≤ σ2 0 3 ∧ Gr (σ2 0 3) (σ2 5 w.toNat) (σ2 27) (1000 : Int).toNat (hs_up (((hs_ss σ2 0 53 0)) 28) 0 (0 : Int)) 1)) := ⟨g7, f7, ⟨by omega, by omega, by omega, by omega, rfl, rfl, Or.inl ⟨rfl, rfl⟩⟩⟩
      refine hs_loop (α := Int × Int × Int × hs_S) (fun x_ => (GY σ x_.2.2.2 ∧ FRM PLc σ x_.2.2.2 ∧ 0 ≤ x_.1 ∧ x_.1 ≤ σ2 0 3 ∧ 0 ≤ x_.2.2.1 ∧ x_.2.2.1 ≤ 99 ∧ x_.2.2.2 0 3 = σ2 0 3 ∧ x_.2.2.2 27 = σ2 27 ∧ ((x_.2.1 = 1000 ∧ x_.1 = 0) ∨ (0 ≤ x_.2.1 ∧ x_.2.1 + 1 ≤ σ2 0 3 ∧ Gr (σ2 0 3) (σ2 5 w.toNat) (σ2 27) x_.2.1.toNat (hs_up (x_.2.2.2 28) 0 x_.2.2.1) 1))) → hs_Wd p l e 6 s m args below meth c D dA SHY ad A 8 (hs_PV (fun σ σ1 => GY σ σ1 ∧ FRM PLc σ σ1) σ) 70 [(0, .ref (ad 0)), (1, vI w), (3, vI (σ2 5 w.toNat)), (4, vI x_.2.1), (5, vI x_.2.2.1), (6, vI x_.1)] [] x_.2.2.2) (fun x_ => (101 - x_.1).toNat) ?_ (0, 1000, 0, (hs_ss σ2 0 53 0)) hi70
      rintro ⟨pp, ls, bs, σ1⟩ ih70 hinv
      replace hinv : GY σ σ1 ∧ FRM PLc σ σ1 ∧ 0 ≤ pp ∧ pp ≤ σ2 0 3 ∧ 0 ≤ bs ∧ bs ≤ 99 ∧ σ1 0 3 = σ2 0 3 ∧ σ1 27 = σ2 27 ∧ ((ls = 1000 ∧ pp = 0) ∨ (0 ≤ ls ∧ ls + 1 ≤ σ2 0 3 ∧ Gr (σ2 0 3) (σ2 5 w.toNat) (σ2 27) ls.toNat (hs_up (σ1 28) 0 bs) 1)) := hinv
      obtain ⟨hg70, hf70, hv70⟩ := hinv
      show hs_Wd p l e 6 s m args below meth c D dA SHY ad A 8 (hs_PV (fun σ σ1 => GY σ σ1 ∧ FRM PLc σ σ1) σ) 70 [(0, .ref (ad 0)), (1, vI w), (3, vI (σ2 5 w.toNat)), (4, vI ls), (5, vI bs), (6, vI pp)] [] σ1
      obtain ⟨hp0, hp1, hb0, hb1, h03, h27, hc⟩ := hv70
      have hls : 0 ≤ ls ∧ ls ≤ 1000 := by rcases hc with q | q <;> omega
      refine s_iload (pc := 70) C dX12_layCover_70 5 rfl ?_
      refine s_aload_n (pc := 72) C dX12_layCover_72 0 rfl ?_
      refine s_geti (q := 0) (ci := 12) (N := 68) (CN := RX12) (T := TX12) (pc := 73) C 3 dX12_layCover_73 wlX12_13 rfl rfl rfl wfX12 (by decide) rfl (σ1 0 3) rfl ?_
      have b73 : (10 : Int) ≤ σ1 0 3 ∧ σ1 0 3 ≤ 100 := hg70.1 0 3
      refine s_icmp_ge (pc := 76) C (tgt := 119) dX12_layCover_76 (by decide) ⟨by omega, by omega⟩ ⟨by omega, by omega⟩ (fun h76 => ?_) (fun h76 => ?_)
      · skip
        refine s_aload_n (pc := 119) C dX12_layCover_119 0 rfl ?_
        refine s_getr (q := 0) (ci := 12) (N := 68) (CN := RX12) (T := TX12) (pc := 120) C 54 dX12_layCover_120 wlX12_99 rfl rfl rfl wfX12 (by decide) rfl ?_
        refine s_iconst (pc := 123) C dX12_layCover_123 ?_
        refine s_iload (pc := 124) C dX12_layCover_124 4 rfl ?_
        refine s_iast (q := 28) (n := 100) (pc := 126) C dX12_layCover_126 rfl (by omega) (by omega) (by decide) ?_
        have g126 := gy_set (z := bs) hg70 28 0 rfl (0) (1000) rfl ⟨by omega, by omega⟩
        have f126 := frm_set (P := PLc) (z := bs) hf70 28 0 rfl
        refine s_aload_n (pc := 127) C dX12_layCover_127 0 rfl ?_
        refine s_iconst (pc := 128) C dX12_layCover_128 ?_
        refine s_puti (q := 0) (ci := 12) (N := 68) (CN := RX12) (T := TX12) (ty0 := tyX12) (ty := .int) (pc := 129) C 53 dX12_layCover_129 wlX12_340 rfl rfl rfl wfX12 tyX12_ok nmX12 (by decide) rfl rfl rfl (vp_nar_int _) rfl ?_
        have g129 := gy_set (z := 1) g126 0 53 rfl (0) (100) rfl ⟨by omega, by omega⟩
        have f129 := frm_set (P := PLc) (z := 1) f126 0 53 rfl
        refine s_sub C [0, 1, 2, 3] [(0, .ref (ad 0)), (1, vI w), (3, vI (σ2 5 w.toNat)), (4, vI ls)] rfl ?_
        have hG := hc.resolve_left (fun q => by omega)
        have hi132 : GY σ ((hs_ss (hs_ss σ1 28 0 bs) 0 53 1)) ∧ FRM PLc σ ((hs_ss (hs_ss σ1 28 0 bs) 0 53 1)) ∧ 0 ≤ ls ∧ 1 ≤ ((hs_ss (hs_ss σ1 28 0 bs) 0 53 1)) 0 53 ∧ ((hs_ss (hs_ss σ1 28 0 bs) 0 53 1)) 0 53 + ls ≤ σ2 0 3 ∧ ((hs_ss (hs_ss σ1 28 0 bs) 0 53 1)) 28 ((((hs_ss (hs_ss σ1 28 0 bs) 0 53 1)) 0 53).toNat - 1) ≤ 100 + ((hs_ss (hs_ss σ1 28 0 bs) 0 53 1)) 0 53 ∧ ((hs_ss (hs_ss σ1 28 0 bs) 0 53 1)) 0 3 = σ2 0 3 ∧ ((hs_ss (hs_ss σ1 28 0 bs) 0 53 1)) 27 = σ2 27 ∧ (∃ k : Nat, (k : Int) ≤ ls ∧ Gr (σ2 0 3) (σ2 5 w.toNat) (σ2 27) k (((hs_ss (hs_ss σ1 28 0 bs) 0 53 1)) 28) (((hs_ss (hs_ss σ1 28 0 bs) 0 53 1)) 0 53).toNat) := ⟨g129, f129, ⟨by omega, by show (1 : Int) ≤ 1; omega, by show (1 : Int) + ls ≤ _; omega, by show bs ≤ 100 + (1 : Int); omega, h03, h27, ⟨ls.toNat, by omega, hG.2.2⟩⟩⟩
        refine hs_loop (α := Int × hs_S) (fun x_ => (GY σ x_.2 ∧ FRM PLc σ x_.2 ∧ 0 ≤ x_.1 ∧ 1 ≤ x_.2 0 53 ∧ x_.2 0 53 + x_.1 ≤ σ2 0 3 ∧ x_.2 28 ((x_.2 0 53).toNat - 1) ≤ 100 + x_.2 0 53 ∧ x_.2 0 3 = σ2 0 3 ∧ x_.2 27 = σ2 27 ∧ (∃ k : Nat, (k : Int) ≤ x_.1 ∧ Gr (σ2 0 3) (σ2 5 w.toNat) (σ2 27) k (x_.2 28) (x_.2 0 53).toNat)) → hs_Wd p l e 6 s m args below meth c D dA SHY ad A 8 (hs_PV (fun σ σ1 => GY σ σ1 ∧ FRM PLc σ σ1) σ) 132 [(0, .ref (ad 0)), (1, vI w), (3, vI (σ2 5 w.toNat)), (4, vI x_.1)] [] x_.2) (fun x_ => x_.1.toNat) ?_ (ls, (hs_ss (hs_ss σ1 28 0 bs) 0 53 1)) hi132
        rintro ⟨lt, σ3⟩ ih132 hinv
        replace hinv : GY σ σ3 ∧ FRM PLc σ σ3 ∧ 0 ≤ lt ∧ 1 ≤ σ3 0 53 ∧ σ3 0 53 + lt ≤ σ2 0 3 ∧ σ3 28 ((σ3 0 53).toNat - 1) ≤ 100 + σ3 0 53 ∧ σ3 0 3 = σ2 0 3 ∧ σ3 27 = σ2 27 ∧ (∃ k : Nat, (k : Int) ≤ lt ∧ Gr (σ2 0 3) (σ2 5 w.toNat) (σ2 27) k (σ3 28) (σ3 0 53).toNat) := hinv
        obtain ⟨hg132, hf132, hv132⟩ := hinv
        show hs_Wd p l e 6 s m args below meth c D dA SHY ad A 8 (hs_PV (fun σ σ1 => GY σ σ1 ∧ FRM PLc σ σ1) σ) 132 [(0, .ref (ad 0)), (1, vI w), (3, vI (σ2 5 w.toNat)), (4, vI lt)] [] σ3
        obtain ⟨hl0, hpl, hpl2, hcb, h03c, h27c, hex⟩ := hv132
        refine s_iload (pc := 132) C dX12_layCover_132 3 rfl ?_
        refine s_if_le (pc := 134) C (tgt := 214) dX12_layCover_134 (by decide) ⟨by omega, by omega⟩ (fun h134 => ?_) (fun h134 => ?_)
        · skip
          refine s_vret (pc := 214) C dX12_layCover_214 ?_
          refine ⟨rfl, ?_⟩
          exact ⟨hg132, hf132⟩
        · skip
          have em : σ3 28 (σ3 0 53 - 1).toNat = σ3 28 ((σ3 0 53).toNat - 1) := by rw [show (σ3 0 53 - 1).toNat = (σ3 0 53).toNat - 1 by omega]
          obtain ⟨pst, hp1s, hp2s, kk, hkk, hGk⟩ := Gr_next (m := (σ3 0 53).toNat) (by omega) (show 1 ≤ lt by omega) hex
          refine s_aload_n (pc := 137) C dX12_layCover_137 0 rfl ?_
          refine s_getr (q := 0) (ci := 12) (N := 68) (CN := RX12) (T := TX12) (pc := 138) C 54 dX12_layCover_138 wlX12_99 rfl rfl rfl wfX12 (by decide) rfl ?_
          refine s_aload_n (pc := 141) C dX12_layCover_141 0 rfl ?_
          refine s_geti (q := 0) (ci := 12) (N := 68) (CN := RX12) (T := TX12) (pc := 142) C 53 dX12_layCover_142 wlX12_340 rfl rfl rfl wfX12 (by decide) rfl (σ3 0 53) rfl ?_
          have b142 : (0 : Int) ≤ σ3 0 53 ∧ σ3 0 53 ≤ 100 := hg132.1 0 53
          refine s_iconst (pc := 145) C dX12_layCover_145 ?_
          refine s_isub (pc := 146) C dX12_layCover_146 ?_
          refine s_iald (q := 28) (n := 100) (pc := 147) C (σ3 28 (((σ3 0 53) - 1).toNat)) rfl dX12_layCover_147 rfl (by omega) (by omega) (by decide) ?_
          have b147 : (0 : Int) ≤ σ3 28 (((σ3 0 53) - 1).toNat) ∧ σ3 28 (((σ3 0 53) - 1).toNat) ≤ 1000 := hg132.1 28 (((σ3 0 53) - 1).toNat)
          refine s_iconst (pc := 148) C dX12_layCover_148 ?_
          refine s_iadd (pc := 149) C dX12_layCover_149 ?_
          refine s_istore (pc := 150) C [(6, vI ((σ3 28 (((σ3 0 53) - 1).toNat)) + 1)), (0, .ref (ad 0)), (1, vI w), (3, vI (σ2 5 w.toNat)), (4, vI lt)] dX12_layCover_150 (by decide) rfl ?_
          refine s_aload_n (pc := 152) C dX12_layCover_152 1 rfl ?_
          refine s_getr (q := 0) (ci := 12) (N := 68) (CN := RX12) (T := TX12) (pc := 153) C 54 dX12_layCover_153 wlX12_99 rfl rfl rfl wfX12 (by decide) rfl ?_
          refine s_aload_n (pc := 156) C dX12_layCover_156 1 rfl ?_
          refine s_geti (q := 0) (ci := 12) (N := 68) (CN := RX12) (T := TX12) (pc := 157) C 53 dX12_layCover_157 wlX12_340 rfl rfl rfl wfX12 (by decide) rfl (σ3 0 53) rfl ?_
          have b157 : (0 : Int) ≤ σ3 0 53 ∧ σ3 0 53 ≤ 100 := hg132.1 0 53
          refine s_iload (pc := 160) C dX12_layCover_160 0 rfl ?_
          refine s_iast (q := 28) (n := 100) (pc := 162) C dX12_layCover_162 rfl (by omega) (by omega) (by decide) ?_
          have g162 := gy_set (z := ((σ3 28 (((σ3 0 53) - 1).toNat)) + 1)) hg132 28 ((σ3 0 53).toNat) rfl (0) (1000) rfl ⟨by omega, by omega⟩
          have f162 := frm_set (P := PLc) (z := ((σ3 28 (((σ3 0 53) - 1).toNat)) + 1)) hf132 28 ((σ3 0 53).toNat) rfl
          refine s_sub C [1, 2, 3, 4, 0] [(0, .ref (ad 0)), (1, vI w), (3, vI (σ2 5 w.toNat)), (4, vI lt), (6, vI ((σ3 28 (((σ3 0 53) - 1).toNat)) + 1))] rfl ?_
          have hi163 : GY σ ((hs_ss σ3 28 ((σ3 0 53).toNat) ((σ3 28 (((σ3 0 53) - 1).toNat)) + 1))) ∧ FRM PLc σ ((hs_ss σ3 28 ((σ3 0 53).toNat) ((σ3 28 (((σ3 0 53) - 1).toNat)) + 1))) ∧ σ3 28 ((σ3 0 53).toNat - 1) + 1 ≤ ((σ3 28 (((σ3 0 53) - 1).toNat)) + 1) ∧ ((σ3 28 (((σ3 0 53) - 1).toNat)) + 1) ≤ pst ∧ ((hs_ss σ3 28 ((σ3 0 53).toNat) ((σ3 28 (((σ3 0 53) - 1).toNat)) + 1))) 0 53 = σ3 0 53 ∧ ((hs_ss σ3 28 ((σ3 0 53).toNat) ((σ3 28 (((σ3 0 53) - 1).toNat)) + 1))) 0 3 = σ2 0 3 ∧ ((hs_ss σ3 28 ((σ3 0 53).toNat) ((σ3 28 (((σ3 0 53) - 1).toNat)) + 1))) 27 = σ2 27 ∧ (∀ j : Nat, j < (σ3 0 53).toNat → ((hs_ss σ3 28 ((σ3 0 53).toNat) ((σ3 28 (((σ3 0 53) - 1).toNat)) + 1))) 28 j = σ3 28 j) ∧ ((hs_ss σ3 28 ((σ3 0 53).toNat) ((σ3 28 (((σ3 0 53) - 1).toNat)) + 1))) 28 (σ3 0 53).toNat = ((σ3 28 (((σ3 0 53) - 1).toNat)) + 1) := ⟨g162, f162, ⟨by omega, by omega, rfl, h03c, h27c, fun j hj => by simp [hs_ss, hs_up]; intro e; omega, by simp [hs_ss, hs_up, em]⟩⟩
          refine hs_loop (α := Int × hs_S) (fun x_ => (GY σ x_.2 ∧ FRM PLc σ x_.2 ∧ σ3 28 ((σ3 0 53).toNat - 1) + 1 ≤ x_.1 ∧ x_.1 ≤ pst ∧ x_.2 0 53 = σ3 0 53 ∧ x_.2 0 3 = σ2 0 3 ∧ x_.2 27 = σ2 27 ∧ (∀ j : Nat, j < (σ3 0 53).toNat → x_.2 28 j = σ3 28 j) ∧ x_.2 28 (σ3 0 53).toNat = x_.1) → hs_Wd p l e 6 s m args below meth c D dA SHY ad A 8 (hs_PV (fun σ σ1 => GY σ σ1 ∧ FRM PLc σ σ1) σ) 163 [(0, .ref (ad 0)), (1, vI w), (3, vI (σ2 5 w.toNat)), (4, vI lt), (6, vI x_.1)] [] x_.2) (fun x_ => (pst - x_.1).toNat) ?_ ((σ3 28 (((σ3 0 53) - 1).toNat)) + 1, (hs_ss σ3 28 ((σ3 0 53).toNat) ((σ3 28 (((σ3 0 53) - 1).toNat)) + 1))) hi163
          rintro ⟨qq, σ4⟩ ih163 hinv
          replace hinv : GY σ σ4 ∧ FRM PLc σ σ4 ∧ σ3 28 ((σ3 0 53).toNat - 1) + 1 ≤ qq ∧ qq ≤ pst ∧ σ4 0 53 = σ3 0 53 ∧ σ4 0 3 = σ2 0 3 ∧ σ4 27 = σ2 27 ∧ (∀ j : Nat, j < (σ3 0 53).toNat → σ4 28 j = σ3 28 j) ∧ σ4 28 (σ3 0 53).toNat = qq := hinv
          obtain ⟨hg163, hf163, hv163⟩ := hinv
          show hs_Wd p l e 6 s m args below meth c D dA SHY ad A 8 (hs_PV (fun σ σ1 => GY σ σ1 ∧ FRM PLc σ σ1) σ) 163 [(0, .ref (ad 0)), (1, vI w), (3, vI (σ2 5 w.toNat)), (4, vI lt), (6, vI qq)] [] σ4
          obtain ⟨hq0, hq1, h53, h03d, h27d, hr4, hq5⟩ := hv163
          refine s_aload_n (pc := 163) C dX12_layCover_163 0 rfl ?_
          refine s_iload_n (pc := 164) C dX12_layCover_164 2 rfl ?_
          refine s_aload_n (pc := 165) C dX12_layCover_165 0 rfl ?_
          refine s_geti (q := 0) (ci := 12) (N := 68) (CN := RX12) (T := TX12) (pc := 166) C 53 dX12_layCover_166 wlX12_340 rfl rfl rfl wfX12 (by decide) rfl (σ4 0 53) rfl ?_
          have b166 : (0 : Int) ≤ σ4 0 53 ∧ σ4 0 53 ≤ 100 := hg163.1 0 53
          refine s_iconst (pc := 169) C dX12_layCover_169 ?_
          refine s_iadd (pc := 170) C dX12_layCover_170 ?_
          refine s_callVi (pc := 171) C (c_X12_needed l (σ2 5 w.toNat) ((σ4 0 53) + 1) (by first | omega | assumption | (constructor <;> omega) | (refine ⟨⟨?_, ?_⟩, ?_⟩ <;> omega) | (simp [hs_ss, hs_up]; omega) | (simp [hs_ss, hs_up]; done)) (by first | omega | assumption | (constructor <;> omega) | (refine ⟨⟨?_, ?_⟩, ?_⟩ <;> omega) | (simp [hs_ss, hs_up]; omega) | (simp [hs_ss, hs_up]; done))) [vI (σ2 5 w.toNat), vI ((σ4 0 53) + 1)] [] rfl rfl dX12_layCover_171 wlX12_343 wiX12_needed weX12_needed wcX12_needed wnX12 noX12_needed (by decide) (by decide) (Nat.le_of_ble_eq_true rfl) ⟨(gy_self hg163), by first | omega | assumption | (constructor <;> omega) | (refine ⟨⟨?_, ?_⟩, ?_⟩ <;> omega) | (simp [hs_ss, hs_up]; omega) | (simp [hs_ss, hs_up]; done)⟩ rfl rfl ?_
          rintro z171 σ171 k171
          obtain ⟨kg171, kf171, k171⟩ := k171
          have g171 := gy_trans hg163 kg171
          have f171 := frm_tr hf163 (frm_mono (Q := PLc) kf171 (fun c j h => by simp [PNd, PLc] at h ⊢ <;> omega))
          have em4 : (σ4 0 53 + 1).toNat = (σ3 0 53).toNat + 1 := by omega
          have k171c : (z171 = 1000 ∧ ∀ k, ¬ Gr (σ2 0 3) (σ2 5 w.toNat) (σ2 27) k (σ4 28) ((σ3 0 53).toNat + 1)) ∨ (0 ≤ z171 ∧ z171 + ((σ3 0 53).toNat + 1 : Nat) ≤ σ2 0 3 ∧ Gr (σ2 0 3) (σ2 5 w.toNat) (σ2 27) z171.toNat (σ4 28) ((σ3 0 53).toNat + 1)) := by rw [em4, h03d, h27d] at k171; rcases k171 with q | q; (exact Or.inl q); exact Or.inr ⟨q.1, by omega, q.2.2⟩
          have hz171 : 0 ≤ z171 ∧ z171 ≤ 1000 := by rcases k171c with q | q <;> omega
          have bN : (10 : Int) ≤ σ2 0 3 ∧ σ2 0 3 ≤ 100 := by have b := hg163.1 0 3; have b : (10 : Int) ≤ σ4 0 3 ∧ σ4 0 3 ≤ 100 := b; omega
          have hrow : ∀ j : Nat, j < (σ3 0 53).toNat + 1 → σ171 28 j = σ4 28 j := fun j hj => kf171 28 j (by simp [PNd]; omega)
          have h27e : σ171 27 = σ2 27 := (show σ171 27 = σ4 27 from funext fun j => kf171 27 j rfl).trans h27d
          have h53e : σ171 0 53 = σ4 0 53 := kf171 0 53 rfl
          have h03e : σ171 0 3 = σ4 0 3 := kf171 0 3 rfl
          show hs_Wd _ _ _ _ _ _ _ _ _ _ _ _ _ _ _ _ _ 174 _ [vI z171] σ171
          refine s_iload (pc := 174) C dX12_layCover_174 3 rfl ?_
          refine s_iconst (pc := 176) C dX12_layCover_176 ?_
          refine s_isub (pc := 177) C dX12_layCover_177 ?_
          refine s_icmp_le (pc := 178) C (tgt := 198) dX12_layCover_178 (by decide) ⟨by omega, by omega⟩ ⟨by omega, by omega⟩ (fun h178 => ?_) (fun h178 => ?_)
          · skip
            refine s_aload_n (pc := 198) C dX12_layCover_198 0 rfl ?_
            refine s_dup (pc := 199) C dX12_layCover_199 rfl ?_
            refine s_geti (q := 0) (ci := 12) (N := 68) (CN := RX12) (T := TX12) (pc := 200) C 53 dX12_layCover_200 wlX12_340 rfl rfl rfl wfX12 (by decide) rfl (σ171 0 53) rfl ?_
            have b200 : (0 : Int) ≤ σ171 0 53 ∧ σ171 0 53 ≤ 100 := g171.1 0 53
            refine s_iconst (pc := 203) C dX12_layCover_203 ?_
            refine s_iadd (pc := 204) C dX12_layCover_204 ?_
            refine s_puti (q := 0) (ci := 12) (N := 68) (CN := RX12) (T := TX12) (ty0 := tyX12) (ty := .int) (pc := 205) C 53 dX12_layCover_205 wlX12_340 rfl rfl rfl wfX12 tyX12_ok nmX12 (by decide) rfl rfl rfl (vp_nar_int _) rfl ?_
            have g205 := gy_set (z := ((σ171 0 53) + 1)) g171 0 53 rfl (0) (100) rfl ⟨by omega, by omega⟩
            have f205 := frm_set (P := PLc) (z := ((σ171 0 53) + 1)) f171 0 53 rfl
            refine s_iinc (pc := 208) C [(4, vI (lt + (-1))), (0, .ref (ad 0)), (1, vI w), (3, vI (σ2 5 w.toNat)), (6, vI qq)] dX12_layCover_208 3 rfl (by decide) rfl ?_
            refine s_goto (pc := 211) C (tgt := 132) dX12_layCover_211 (by decide) ?_
            refine s_sub C [1, 2, 3, 0] [(0, .ref (ad 0)), (1, vI w), (3, vI (σ2 5 w.toNat)), (4, vI (lt + (-1)))] rfl ?_
            have hi132 : GY σ ((hs_ss σ171 0 53 ((σ171 0 53) + 1))) ∧ FRM PLc σ ((hs_ss σ171 0 53 ((σ171 0 53) + 1))) ∧ 0 ≤ (lt + (-1)) ∧ 1 ≤ ((hs_ss σ171 0 53 ((σ171 0 53) + 1))) 0 53 ∧ ((hs_ss σ171 0 53 ((σ171 0 53) + 1))) 0 53 + (lt + (-1)) ≤ σ2 0 3 ∧ ((hs_ss σ171 0 53 ((σ171 0 53) + 1))) 28 ((((hs_ss σ171 0 53 ((σ171 0 53) + 1))) 0 53).toNat - 1) ≤ 100 + ((hs_ss σ171 0 53 ((σ171 0 53) + 1))) 0 53 ∧ ((hs_ss σ171 0 53 ((σ171 0 53) + 1))) 0 3 = σ2 0 3 ∧ ((hs_ss σ171 0 53 ((σ171 0 53) + 1))) 27 = σ2 27 ∧ (∃ k : Nat, (k : Int) ≤ (lt + (-1)) ∧ Gr (σ2 0 3) (σ2 5 w.toNat) (σ2 27) k (((hs_ss σ171 0 53 ((σ171 0 53) + 1))) 28) (((hs_ss σ171 0 53 ((σ171 0 53) + 1))) 0 53).toNat) := ⟨g205, f205, ⟨by omega, by show 1 ≤ σ171 0 53 + 1; omega, by show σ171 0 53 + 1 + (lt + (-1)) ≤ _; omega, by show σ171 28 ((σ171 0 53 + 1).toNat - 1) ≤ 100 + (σ171 0 53 + 1); rw [show (σ171 0 53 + 1).toNat - 1 = (σ3 0 53).toNat by omega, hrow _ (by omega), hq5]; omega, by show σ171 0 3 = _; omega, h27e, ⟨z171.toNat, by rcases k171c with q | q <;> omega, by show Gr (σ2 0 3) (σ2 5 w.toNat) (σ2 27) z171.toNat (σ171 28) (σ171 0 53 + 1).toNat; rw [show (σ171 0 53 + 1).toNat = (σ3 0 53).toNat + 1 by omega]; rcases k171c with q | q; (exfalso; omega); exact Gr_cg _ (by omega) (fun j hj => (hrow j hj).symm) q.2.2⟩⟩⟩
            exact ih132 (lt + (-1), (hs_ss σ171 0 53 ((σ171 0 53) + 1))) (by first | omega | (simp only []; omega)) hi132
          · skip
            have hlt := lc_cont k171c hGk hkk hr4 hq5 (by omega) hq1
            refine s_iinc (pc := 181) C [(6, vI (qq + 1)), (0, .ref (ad 0)), (1, vI w), (3, vI (σ2 5 w.toNat)), (4, vI lt)] dX12_layCover_181 4 rfl (by decide) rfl ?_
            refine s_aload_n (pc := 184) C dX12_layCover_184 1 rfl ?_
            refine s_getr (q := 0) (ci := 12) (N := 68) (CN := RX12) (T := TX12) (pc := 185) C 54 dX12_layCover_185 wlX12_99 rfl rfl rfl wfX12 (by decide) rfl ?_
            refine s_aload_n (pc := 188) C dX12_layCover_188 1 rfl ?_
            refine s_geti (q := 0) (ci := 12) (N := 68) (CN := RX12) (T := TX12) (pc := 189) C 53 dX12_layCover_189 wlX12_340 rfl rfl rfl wfX12 (by decide) rfl (σ171 0 53) rfl ?_
            have b189 : (0 : Int) ≤ σ171 0 53 ∧ σ171 0 53 ≤ 100 := g171.1 0 53
            refine s_iload (pc := 192) C dX12_layCover_192 0 rfl ?_
            refine s_iast (q := 28) (n := 100) (pc := 194) C dX12_layCover_194 rfl (by omega) (by omega) (by decide) ?_
            have g194 := gy_set (z := (qq + 1)) g171 28 ((σ171 0 53).toNat) rfl (0) (1000) rfl ⟨by omega, by omega⟩
            have f194 := frm_set (P := PLc) (z := (qq + 1)) f171 28 ((σ171 0 53).toNat) rfl
            refine s_goto (pc := 195) C (tgt := 163) dX12_layCover_195 (by decide) ?_
            refine s_sub C [1, 2, 3, 4, 0] [(0, .ref (ad 0)), (1, vI w), (3, vI (σ2 5 w.toNat)), (4, vI lt), (6, vI (qq + 1))] rfl ?_
            have hi163 : GY σ ((hs_ss σ171 28 ((σ171 0 53).toNat) (qq + 1))) ∧ FRM PLc σ ((hs_ss σ171 28 ((σ171 0 53).toNat) (qq + 1))) ∧ σ3 28 ((σ3 0 53).toNat - 1) + 1 ≤ (qq + 1) ∧ (qq + 1) ≤ pst ∧ ((hs_ss σ171 28 ((σ171 0 53).toNat) (qq + 1))) 0 53 = σ3 0 53 ∧ ((hs_ss σ171 28 ((σ171 0 53).toNat) (qq + 1))) 0 3 = σ2 0 3 ∧ ((hs_ss σ171 28 ((σ171 0 53).toNat) (qq + 1))) 27 = σ2 27 ∧ (∀ j : Nat, j < (σ3 0 53).toNat → ((hs_ss σ171 28 ((σ171 0 53).toNat) (qq + 1))) 28 j = σ3 28 j) ∧ ((hs_ss σ171 28 ((σ171 0 53).toNat) (qq + 1))) 28 (σ3 0 53).toNat = (qq + 1) := ⟨g194, f194, ⟨by omega, by omega, by show σ171 0 53 = _; omega, by show σ171 0 3 = _; omega, h27e, fun j hj => by rw [← hr4 j hj, ← hrow j (by omega)]; have e : j ≠ (σ171 0 53).toNat := (by omega); simp [hs_ss, hs_up, e], by rw [show (σ3 0 53).toNat = (σ171 0 53).toNat by omega]; simp [hs_ss, hs_up]⟩⟩
            exact ih163 (qq + 1, (hs_ss σ171 28 ((σ171 0 53).toNat) (qq + 1))) (by first | omega | (simp only []; omega)) hi163
      · skip
        refine s_aload_n (pc := 79) C dX12_layCover_79 0 rfl ?_
        refine s_getr (q := 0) (ci := 12) (N := 68) (CN := RX12) (T := TX12) (pc := 80) C 54 dX12_layCover_80 wlX12_99 rfl rfl rfl wfX12 (by decide) rfl ?_
        refine s_iconst (pc := 83) C dX12_layCover_83 ?_
        refine s_iload (pc := 84) C dX12_layCover_84 5 rfl ?_
        refine s_iast (q := 28) (n := 100) (pc := 86) C dX12_layCover_86 rfl (by omega) (by omega) (by decide) ?_
        have g86 := gy_set (z := pp) hg70 28 0 rfl (0) (1000) rfl ⟨by omega, by omega⟩
        have f86 := frm_set (P := PLc) (z := pp) hf70 28 0 rfl
        refine s_aload_n (pc := 87) C dX12_layCover_87 0 rfl ?_
        refine s_iload_n (pc := 88) C dX12_layCover_88 2 rfl ?_
        refine s_iconst (pc := 89) C dX12_layCover_89 ?_
        have r90_0_3 : (hs_ss σ1 28 0 pp) 0 3 = σ1 0 3 := rfl
        refine s_callVi (pc := 90) C (c_X12_needed l (σ2 5 w.toNat) 1 (by first | omega | assumption | (constructor <;> omega) | (refine ⟨⟨?_, ?_⟩, ?_⟩ <;> omega) | (simp [hs_ss, hs_up]; omega) | (simp [hs_ss, hs_up]; done)) (by first | omega | assumption | (constructor <;> omega) | (refine ⟨⟨?_, ?_⟩, ?_⟩ <;> omega) | (simp [hs_ss, hs_up]; omega) | (simp [hs_ss, hs_up]; done))) [vI (σ2 5 w.toNat), vI 1] [] rfl rfl dX12_layCover_90 wlX12_343 wiX12_needed weX12_needed wcX12_needed wnX12 noX12_needed (by decide) (by decide) (Nat.le_of_ble_eq_true rfl) ⟨(gy_self g86), by first | omega | assumption | (constructor <;> omega) | (refine ⟨⟨?_, ?_⟩, ?_⟩ <;> omega) | (simp [hs_ss, hs_up]; omega) | (simp [hs_ss, hs_up]; done)⟩ rfl rfl ?_
        rintro z90 σ90 k90
        obtain ⟨kg90, kf90, k90⟩ := k90
        have g90 := gy_trans g86 kg90
        have f90 := frm_tr f86 (frm_mono (Q := PLc) kf90 (fun c j h => by simp [PNd, PLc] at h ⊢ <;> omega))
        have k90b : (z90 = 1000 ∧ ∀ k, ¬ Gr (σ2 0 3) (σ2 5 w.toNat) (σ2 27) k (hs_up (σ1 28) 0 pp) 1) ∨ (0 ≤ z90 ∧ z90 + 1 ≤ σ2 0 3 ∧ Gr (σ2 0 3) (σ2 5 w.toNat) (σ2 27) z90.toNat (hs_up (σ1 28) 0 pp) 1) := by have e1 : (hs_ss σ1 28 (Int.toNat 0) pp) 28 = hs_up (σ1 28) 0 pp := hs_ss_row; have e2 : (hs_ss σ1 28 (Int.toNat 0) pp) 27 = σ2 27 := h27; have e3 : (hs_ss σ1 28 (Int.toNat 0) pp) 0 3 = σ2 0 3 := h03; rw [e1, e2, e3] at k90; exact k90
        have h27b : σ90 27 = σ2 27 := (show σ90 27 = (hs_ss σ1 28 0 pp) 27 from funext fun j => kf90 27 j rfl).trans h27
        have h03b : σ90 0 3 = σ1 0 3 := kf90 0 3 rfl
        have bN : (10 : Int) ≤ σ2 0 3 ∧ σ2 0 3 ≤ 100 := by have b := hg70.1 0 3; have b : (10 : Int) ≤ σ1 0 3 ∧ σ1 0 3 ≤ 100 := b; omega
        have hz90 : 0 ≤ z90 ∧ z90 ≤ 1000 := by rcases k90b with q | q <;> omega
        have hst := lc_step (c2 := σ90 28) bN (by omega) hc k90b
        show hs_Wd _ _ _ _ _ _ _ _ _ _ _ _ _ _ _ _ _ 93 _ [vI z90] σ90
        refine s_istore (pc := 93) C [(7, vI z90), (0, .ref (ad 0)), (1, vI w), (3, vI (σ2 5 w.toNat)), (4, vI ls), (5, vI bs), (6, vI pp)] dX12_layCover_93 (by decide) rfl ?_
        refine s_iload (pc := 95) C dX12_layCover_95 0 rfl ?_
        refine s_iload (pc := 97) C dX12_layCover_97 4 rfl ?_
        refine s_icmp_lt (pc := 99) C (tgt := 105) dX12_layCover_99 (by decide) ⟨by omega, by omega⟩ ⟨by omega, by omega⟩ (fun h99 => ?_) (fun h99 => ?_)
        · skip
          refine s_iload (pc := 105) C dX12_layCover_105 0 rfl ?_
          refine s_istore (pc := 107) C [(4, vI z90), (7, vI z90), (0, .ref (ad 0)), (1, vI w), (3, vI (σ2 5 w.toNat)), (5, vI bs), (6, vI pp)] dX12_layCover_107 (by decide) rfl ?_
          refine s_iload (pc := 109) C dX12_layCover_109 6 rfl ?_
          refine s_istore (pc := 111) C [(5, vI pp), (4, vI z90), (7, vI z90), (0, .ref (ad 0)), (1, vI w), (3, vI (σ2 5 w.toNat)), (6, vI pp)] dX12_layCover_111 (by decide) rfl ?_
          refine s_iinc (pc := 113) C [(6, vI (pp + 1)), (5, vI pp), (4, vI z90), (7, vI z90), (0, .ref (ad 0)), (1, vI w), (3, vI (σ2 5 w.toNat))] dX12_layCover_113 6 rfl (by decide) rfl ?_
          refine s_goto (pc := 116) C (tgt := 70) dX12_layCover_116 (by decide) ?_
          refine s_sub C [4, 5, 6, 2, 1, 0] [(0, .ref (ad 0)), (1, vI w), (3, vI (σ2 5 w.toNat)), (4, vI z90), (5, vI pp), (6, vI (pp + 1))] rfl ?_
          have hi70 : GY σ σ90 ∧ FRM PLc σ σ90 ∧ 0 ≤ (pp + 1) ∧ (pp + 1) ≤ σ2 0 3 ∧ 0 ≤ pp ∧ pp ≤ 99 ∧ σ90 0 3 = σ2 0 3 ∧ σ90 27 = σ2 27 ∧ ((z90 = 1000 ∧ (pp + 1) = 0) ∨ (0 ≤ z90 ∧ z90 + 1 ≤ σ2 0 3 ∧ Gr (σ2 0 3) (σ2 5 w.toNat) (σ2 27) z90.toNat (hs_up (σ90 28) 0 pp) 1)) := ⟨g90, f90, by first | exact ⟨by omega, by omega, by omega, by omega, by omega, h27b, Or.inr (hst.1 (by omega))⟩ | exact ⟨by omega, by omega, by omega, by omega, by omega, h27b, Or.inr (hst.2 (by omega))⟩⟩
          exact ih70 (pp + 1, z90, pp, σ90) (by first | omega | (simp only []; omega)) hi70
        · skip
          refine s_goto (pc := 102) C (tgt := 113) dX12_layCover_102 (by decide) ?_
          refine s_iinc (pc := 113) C [(6, vI (pp + 1)), (7, vI z90), (0, .ref (ad 0)), (1, vI w), (3, vI (σ2 5 w.toNat)), (4, vI ls), (5, vI bs)] dX12_layCover_113 6 rfl (by decide) rfl ?_
          refine s_goto (pc := 116) C (tgt := 70) dX12_layCover_116 (by decide) ?_
          refine s_sub C [2, 3, 4, 5, 6, 0] [(0, .ref (ad 0)), (1, vI w), (3, vI (σ2 5 w.toNat)), (4, vI ls), (5, vI bs), (6, vI (pp + 1))] rfl ?_
          have hi70 : GY σ σ90 ∧ FRM PLc σ σ90 ∧ 0 ≤ (pp + 1) ∧ (pp + 1) ≤ σ2 0 3 ∧ 0 ≤ bs ∧ bs ≤ 99 ∧ σ90 0 3 = σ2 0 3 ∧ σ90 27 = σ2 27 ∧ ((ls = 1000 ∧ (pp + 1) = 0) ∨ (0 ≤ ls ∧ ls + 1 ≤ σ2 0 3 ∧ Gr (σ2 0 3) (σ2 5 w.toNat) (σ2 27) ls.toNat (hs_up (σ90 28) 0 bs) 1)) := ⟨g90, f90, by first | exact ⟨by omega, by omega, by omega, by omega, by omega, h27b, Or.inr (hst.1 (by omega))⟩ | exact ⟨by omega, by omega, by omega, by omega, by omega, h27b, Or.inr (hst.2 (by omega))⟩⟩
          exact ih70 (pp + 1, ls, bs, σ90) (by first | omega | (simp only []; omega)) hi70
    · skip
      refine s_vret (pc := 51) C dX12_layCover_51 ?_
      refine ⟨rfl, ?_⟩
      exact ⟨g7, f7⟩
  · skip
    refine s_iload_n (pc := 22) C dX12_layCover_22 2 rfl ?_
    refine s_if_ne (pc := 23) C (tgt := 35) dX12_layCover_23 (by decide) ⟨by omega, by omega⟩ (fun h23 => ?_) (fun h23 => ?_)
    · skip
      refine s_iconst (pc := 35) C dX12_layCover_35 ?_
      refine s_goto (pc := 36) C (tgt := 40) dX12_layCover_36 (by decide) ?_
      refine s_istore_n (pc := 40) C [(2, vI 1), (0, .ref (ad 0)), (1, vI w), (3, vI g)] dX12_layCover_40 (by decide) rfl ?_
      refine s_iinc (pc := 41) C [(3, vI (g + 1)), (2, vI 1), (0, .ref (ad 0)), (1, vI w)] dX12_layCover_41 3 rfl (by decide) rfl ?_
      refine s_goto (pc := 44) C (tgt := 14) dX12_layCover_44 (by decide) ?_
      refine s_sub C [2, 3, 1, 0] [(0, .ref (ad 0)), (1, vI w), (2, vI 1), (3, vI (g + 1))] rfl ?_
      have hi14 : 0 ≤ (g + 1) ∧ (g + 1) ≤ 100 ∧ ((1 : Int) = 0 ∨ (1 : Int) = 1) := (by first | omega | assumption | (constructor <;> omega) | (refine ⟨⟨?_, ?_⟩, ?_⟩ <;> omega) | (simp [hs_ss, hs_up]; omega) | (simp [hs_ss, hs_up]; done))
      exact ih14 (g + 1, 1) (by first | omega | (simp only []; omega)) hi14
    · skip
      refine s_aload_n (pc := 26) C dX12_layCover_26 0 rfl ?_
      refine s_getr (q := 0) (ci := 12) (N := 68) (CN := RX12) (T := TX12) (pc := 27) C 52 dX12_layCover_27 wlX12_95 rfl rfl rfl wfX12 (by decide) rfl ?_
      refine s_iload_n (pc := 30) C dX12_layCover_30 3 rfl ?_
      refine s_zald (q := 27) (n := 100) (pc := 31) C (σ2 27 g.toNat) rfl dX12_layCover_31 rfl (by omega) (by omega) (by decide) ?_
      have b31 : (0 : Int) ≤ σ2 27 g.toNat ∧ σ2 27 g.toNat ≤ 1 := g7.1 27 g.toNat
      refine s_if_eq (pc := 32) C (tgt := 39) dX12_layCover_32 (by decide) ⟨by omega, by omega⟩ (fun h32 => ?_) (fun h32 => ?_)
      · skip
        refine s_iconst (pc := 39) C dX12_layCover_39 ?_
        refine s_istore_n (pc := 40) C [(2, vI 0), (0, .ref (ad 0)), (1, vI w), (3, vI g)] dX12_layCover_40 (by decide) rfl ?_
        refine s_iinc (pc := 41) C [(3, vI (g + 1)), (2, vI 0), (0, .ref (ad 0)), (1, vI w)] dX12_layCover_41 3 rfl (by decide) rfl ?_
        refine s_goto (pc := 44) C (tgt := 14) dX12_layCover_44 (by decide) ?_
        refine s_sub C [2, 3, 1, 0] [(0, .ref (ad 0)), (1, vI w), (2, vI 0), (3, vI (g + 1))] rfl ?_
        have hi14 : 0 ≤ (g + 1) ∧ (g + 1) ≤ 100 ∧ ((0 : Int) = 0 ∨ (0 : Int) = 1) := (by first | omega | assumption | (constructor <;> omega) | (refine ⟨⟨?_, ?_⟩, ?_⟩ <;> omega) | (simp [hs_ss, hs_up]; omega) | (simp [hs_ss, hs_up]; done))
        exact ih14 (g + 1, 0) (by first | omega | (simp only []; omega)) hi14
      · skip
        refine s_iconst (pc := 35) C dX12_layCover_35 ?_
        refine s_goto (pc := 36) C (tgt := 40) dX12_layCover_36 (by decide) ?_
        refine s_istore_n (pc := 40) C [(2, vI 1), (0, .ref (ad 0)), (1, vI w), (3, vI g)] dX12_layCover_40 (by decide) rfl ?_
        refine s_iinc (pc := 41) C [(3, vI (g + 1)), (2, vI 1), (0, .ref (ad 0)), (1, vI w)] dX12_layCover_41 3 rfl (by decide) rfl ?_
        refine s_goto (pc := 44) C (tgt := 14) dX12_layCover_44 (by decide) ?_
        refine s_sub C [2, 3, 1, 0] [(0, .ref (ad 0)), (1, vI w), (2, vI 1), (3, vI (g + 1))] rfl ?_
        have hi14 : 0 ≤ (g + 1) ∧ (g + 1) ≤ 100 ∧ ((1 : Int) = 0 ∨ (1 : Int) = 1) := (by first | omega | assumption | (constructor <;> omega) | (refine ⟨⟨?_, ?_⟩, ?_⟩ <;> omega) | (simp [hs_ss, hs_up]; omega) | (simp [hs_ss, hs_up]; done))
        exact ih14 (g + 1, 1) (by first | omega | (simp only []; omega)) hi14
set_option maxHeartbeats 4000000 in
set_option maxRecDepth 100000 in
theorem c_X12_cover (l : Launch) (w : Int) (hw : hs_R w) (k : Int) (hk : hs_R k) : hs_Met l yX12_cover cX12_cover 3 (some .int) 7 SHY (fun ad => [.ref (ad 0), vI w, vI k]) (fun σ => GY σ σ) (hs_PI (fun σ z σ1 => GY σ σ1 ∧ -1 ≤ z ∧ z ≤ 1000)) := by
  refine hs_from pfX12_cover (fun _ => Nat.le_of_ble_eq_true rfl) ?_
  intro p e s m args below meth c D dA ad A σ C hpre
  have C : hs_C p s m args meth c D dA SHY ad A 3 cX12_cover RX12 (some .int) := C
  have g0 := hpre
  have b06 : (0 : Int) ≤ σ 0 6 ∧ σ 0 6 ≤ 4 := g0.1 0 6
  show hs_Wd p l e 7 s m args below meth c D dA SHY ad A 3 (hs_PI (fun σ z σ1 => GY σ σ1 ∧ -1 ≤ z ∧ z ≤ 1000) σ) 0 [(0, .ref (ad 0)), (1, vI w), (2, vI k)] [] σ
  refine s_aload_n (pc := 0) C dX12_cover_0 0 rfl ?_
  refine s_iconst (pc := 1) C dX12_cover_1 ?_
  refine s_puti (q := 0) (ci := 12) (N := 68) (CN := RX12) (T := TX12) (ty0 := tyX12) (ty := .int) (pc := 2) C 2 dX12_cover_2 wlX12_135 rfl rfl rfl wfX12 tyX12_ok nmX12 (by decide) rfl rfl rfl (vp_nar_int _) rfl ?_
  have g2 := gy_set (z := 0) g0 0 2 rfl (0) (2) rfl ⟨by omega, by omega⟩
  refine s_aload_n (pc := 5) C dX12_cover_5 0 rfl ?_
  refine s_iload_n (pc := 6) C dX12_cover_6 1 rfl ?_
  have r7_0_6 : (hs_ss σ 0 2 0) 0 6 = σ 0 6 := rfl
  refine s_callVi (pc := 7) C (c_X12_isWheel l w ⟨by omega, by omega⟩) [vI w] [] rfl rfl dX12_cover_7 wlX12_208 wiX12_isWheel weX12_isWheel wcX12_isWheel wnX12 noX12_isWheel (by decide) (by decide) (Nat.le_of_ble_eq_true rfl) (gy_self g2) rfl rfl ?_
  rintro z7 _ ⟨rfl, k7⟩
  show hs_Wd _ _ _ _ _ _ _ _ _ _ _ _ _ _ _ _ _ 10 _ [vI z7] (hs_ss σ 0 2 0)
  refine s_if_eq (pc := 10) C (tgt := 18) dX12_cover_10 (by decide) ⟨by omega, by omega⟩ (fun h10 => ?_) (fun h10 => ?_)
  · skip
    refine s_iconst (pc := 18) C dX12_cover_18 ?_
    refine s_iret (pc := 19) C dX12_cover_19 ?_
    refine ⟨_, rfl, ?_⟩
    exact ⟨g2, by first | omega | assumption | (constructor <;> omega) | (refine ⟨⟨?_, ?_⟩, ?_⟩ <;> omega) | (simp [hs_ss, hs_up]; omega) | (simp [hs_ss, hs_up]; done)⟩
  · skip
    refine s_iload_n (pc := 13) C dX12_cover_13 2 rfl ?_
    refine s_iconst (pc := 14) C dX12_cover_14 ?_
    refine s_icmp_ge (pc := 15) C (tgt := 20) dX12_cover_15 (by decide) ⟨by omega, by omega⟩ ⟨by decide, by decide⟩ (fun h15 => ?_) (fun h15 => ?_)
    · skip
      refine s_aload_n (pc := 20) C dX12_cover_20 0 rfl ?_
      refine s_iload_n (pc := 21) C dX12_cover_21 1 rfl ?_
      refine s_callVv (pc := 22) C (c_X12_layCover l w (by first | omega | assumption | (constructor <;> omega) | (refine ⟨⟨?_, ?_⟩, ?_⟩ <;> omega) | (simp [hs_ss, hs_up]; omega) | (simp [hs_ss, hs_up]; done))) [vI w] [] rfl rfl dX12_cover_22 wlX12_346 wiX12_layCover weX12_layCover wcX12_layCover wnX12 noX12_layCover (by decide) (by decide) (Nat.le_of_ble_eq_true rfl) (gy_self g2) rfl rfl ?_
      rintro σ22 k22
      obtain ⟨kg22, kf22⟩ := k22
      have g22 := gy_trans g2 kg22
      show hs_Wd _ _ _ _ _ _ _ _ _ _ _ _ _ _ _ _ _ 25 _ [] σ22
      refine s_iload_n (pc := 25) C dX12_cover_25 2 rfl ?_
      refine s_iconst (pc := 26) C dX12_cover_26 ?_
      refine s_icmp_ne (pc := 27) C (tgt := 37) dX12_cover_27 (by decide) ⟨by omega, by omega⟩ ⟨by decide, by decide⟩ (fun h27 => ?_) (fun h27 => ?_)
      · skip
        refine s_iload_n (pc := 37) C dX12_cover_37 2 rfl ?_
        refine s_aload_n (pc := 38) C dX12_cover_38 0 rfl ?_
        refine s_geti (q := 0) (ci := 12) (N := 68) (CN := RX12) (T := TX12) (pc := 39) C 53 dX12_cover_39 wlX12_340 rfl rfl rfl wfX12 (by decide) rfl (σ22 0 53) rfl ?_
        have b39 : (0 : Int) ≤ σ22 0 53 ∧ σ22 0 53 ≤ 100 := g22.1 0 53
        refine s_icmp_ge (pc := 42) C (tgt := 54) dX12_cover_42 (by decide) ⟨by omega, by omega⟩ ⟨by omega, by omega⟩ (fun h42 => ?_) (fun h42 => ?_)
        · skip
          refine s_iconst (pc := 54) C dX12_cover_54 ?_
          refine s_iret (pc := 55) C dX12_cover_55 ?_
          refine ⟨_, rfl, ?_⟩
          exact ⟨g22, by first | omega | assumption | (constructor <;> omega) | (refine ⟨⟨?_, ?_⟩, ?_⟩ <;> omega) | (simp [hs_ss, hs_up]; omega) | (simp [hs_ss, hs_up]; done)⟩
        · skip
          refine s_aload_n (pc := 45) C dX12_cover_45 0 rfl ?_
          refine s_getr (q := 0) (ci := 12) (N := 68) (CN := RX12) (T := TX12) (pc := 46) C 54 dX12_cover_46 wlX12_99 rfl rfl rfl wfX12 (by decide) rfl ?_
          refine s_iload_n (pc := 49) C dX12_cover_49 2 rfl ?_
          refine s_iald (q := 28) (n := 100) (pc := 50) C (σ22 28 k.toNat) rfl dX12_cover_50 rfl (by omega) (by omega) (by decide) ?_
          have b50 : (0 : Int) ≤ σ22 28 k.toNat ∧ σ22 28 k.toNat ≤ 1000 := g22.1 28 k.toNat
          refine s_goto (pc := 51) C (tgt := 55) dX12_cover_51 (by decide) ?_
          refine s_iret (pc := 55) C dX12_cover_55 ?_
          refine ⟨_, rfl, ?_⟩
          exact ⟨g22, by first | omega | assumption | (constructor <;> omega) | (refine ⟨⟨?_, ?_⟩, ?_⟩ <;> omega) | (simp [hs_ss, hs_up]; omega) | (simp [hs_ss, hs_up]; done)⟩
      · skip
        refine s_aload_n (pc := 30) C dX12_cover_30 0 rfl ?_
        refine s_geti (q := 0) (ci := 12) (N := 68) (CN := RX12) (T := TX12) (pc := 31) C 53 dX12_cover_31 wlX12_340 rfl rfl rfl wfX12 (by decide) rfl (σ22 0 53) rfl ?_
        have b31 : (0 : Int) ≤ σ22 0 53 ∧ σ22 0 53 ≤ 100 := g22.1 0 53
        refine s_goto (pc := 34) C (tgt := 55) dX12_cover_34 (by decide) ?_
        refine s_iret (pc := 55) C dX12_cover_55 ?_
        refine ⟨_, rfl, ?_⟩
        exact ⟨g22, by first | omega | assumption | (constructor <;> omega) | (refine ⟨⟨?_, ?_⟩, ?_⟩ <;> omega) | (simp [hs_ss, hs_up]; omega) | (simp [hs_ss, hs_up]; done)⟩
    · skip
      refine s_iconst (pc := 18) C dX12_cover_18 ?_
      refine s_iret (pc := 19) C dX12_cover_19 ?_
      refine ⟨_, rfl, ?_⟩
      exact ⟨g2, by first | omega | assumption | (constructor <;> omega) | (refine ⟨⟨?_, ?_⟩, ?_⟩ <;> omega) | (simp [hs_ss, hs_up]; omega) | (simp [hs_ss, hs_up]; done)⟩
set_option maxHeartbeats 4000000 in
set_option maxRecDepth 100000 in
theorem c_X12_layRows (l : Launch)  : hs_Met l yX12_layRows cX12_layRows 3 (some .boolean) 7 SHY (fun ad => [.ref (ad 0)]) (fun σ => GY σ σ) (hs_PI (fun σ z σ1 => GY σ σ1 ∧ FRM PLw σ σ1 ∧ (z = 0 ∨ z = 1) ∧ (z = 1 → MNY σ1))) := by
  refine hs_from pfX12_layRows (fun _ => Nat.le_of_ble_eq_true rfl) ?_
  intro p e s m args below meth c D dA ad A σ C hpre
  have C : hs_C p s m args meth c D dA SHY ad A 3 cX12_layRows RX12 (some .boolean) := C
  have g0 := hpre
  have f0 : FRM PLw σ σ := frm_rf
  show hs_Wd p l e 7 s m args below meth c D dA SHY ad A 3 (hs_PI (fun σ z σ1 => GY σ σ1 ∧ FRM PLw σ σ1 ∧ (z = 0 ∨ z = 1) ∧ (z = 1 → MNY σ1)) σ) 0 [(0, .ref (ad 0))] [] σ
  refine s_aload_n (pc := 0) C dX12_layRows_0 0 rfl ?_
  refine s_lconst (z := 1) (pc := 1) C dX12_layRows_1 (by decide) ?_
  refine s_putl (q := 0) (ci := 12) (N := 68) (CN := RX12) (T := TX12) (ty0 := tyX12) (ty := .long) (pc := 2) C 58 dX12_layRows_2 wlX12_349 rfl rfl rfl wfX12 tyX12_ok nmX12 (by decide) rfl rfl rfl rfl rfl ?_
  have g2 := gy_set (z := 1) g0 0 58 rfl (-9223372036854775808) (9223372036854775807) rfl ⟨by omega, by omega⟩
  have f2 := frm_set (P := PLw) (z := 1) f0 0 58 rfl
  refine s_iconst (pc := 5) C dX12_layRows_5 ?_
  refine s_istore_n (pc := 6) C [(1, vI 0), (0, .ref (ad 0))] dX12_layRows_6 (by decide) rfl ?_
  refine s_sub C [1, 0] [(0, .ref (ad 0)), (1, vI 0)] rfl ?_
  have hi7 : GY σ ((hs_ss σ 0 58 1)) ∧ FRM PLw σ ((hs_ss σ 0 58 1)) ∧ (0 ≤ (0 : Int) ∧ (0 : Int) ≤ 4 ∧ 0 ≤ ((hs_ss σ 0 58 1)) 0 58 ∧ ((0 : Int) = 0 → ((hs_ss σ 0 58 1)) 0 58 ≤ 1) ∧ ((0 : Int) = 1 → ((hs_ss σ 0 58 1)) 0 58 ≤ 100) ∧ ((0 : Int) = 2 → ((hs_ss σ 0 58 1)) 0 58 ≤ 10000) ∧ ((0 : Int) = 3 → ((hs_ss σ 0 58 1)) 0 58 ≤ 1000000) ∧ ((hs_ss σ 0 58 1)) 0 58 ≤ 100000000) ∧ (0 < ((hs_ss σ 0 58 1)) 0 58 → ∀ j : Nat, (j : Int) < (0 : Int) → 1 ≤ ((hs_ss σ 0 58 1)) 29 j) := ⟨g2, f2, ⟨by simp [hs_ss, hs_up], fun _ j hj => by exfalso; omega⟩⟩
  refine hs_loop (α := Int × hs_S) (fun x_ => (GY σ x_.2 ∧ FRM PLw σ x_.2 ∧ (0 ≤ x_.1 ∧ x_.1 ≤ 4 ∧ 0 ≤ x_.2 0 58 ∧ (x_.1 = 0 → x_.2 0 58 ≤ 1) ∧ (x_.1 = 1 → x_.2 0 58 ≤ 100) ∧ (x_.1 = 2 → x_.2 0 58 ≤ 10000) ∧ (x_.1 = 3 → x_.2 0 58 ≤ 1000000) ∧ x_.2 0 58 ≤ 100000000) ∧ (0 < x_.2 0 58 → ∀ j : Nat, (j : Int) < x_.1 → 1 ≤ x_.2 29 j)) → hs_Wd p l e 7 s m args below meth c D dA SHY ad A 3 (hs_PI (fun σ z σ1 => GY σ σ1 ∧ FRM PLw σ σ1 ∧ (z = 0 ∨ z = 1) ∧ (z = 1 → MNY σ1)) σ) 7 [(0, .ref (ad 0)), (1, vI x_.1)] [] x_.2) (fun x_ => (5 - x_.1).toNat) ?_ (0, (hs_ss σ 0 58 1)) hi7
  rintro ⟨w, σ1⟩ ih7 hinv
  replace hinv : GY σ σ1 ∧ FRM PLw σ σ1 ∧ (0 ≤ w ∧ w ≤ 4 ∧ 0 ≤ σ1 0 58 ∧ (w = 0 → σ1 0 58 ≤ 1) ∧ (w = 1 → σ1 0 58 ≤ 100) ∧ (w = 2 → σ1 0 58 ≤ 10000) ∧ (w = 3 → σ1 0 58 ≤ 1000000) ∧ σ1 0 58 ≤ 100000000) ∧ (0 < σ1 0 58 → ∀ j : Nat, (j : Int) < w → 1 ≤ σ1 29 j) := hinv
  obtain ⟨hg7, hf7, hv7⟩ := hinv
  show hs_Wd p l e 7 s m args below meth c D dA SHY ad A 3 (hs_PI (fun σ z σ1 => GY σ σ1 ∧ FRM PLw σ σ1 ∧ (z = 0 ∨ z = 1) ∧ (z = 1 → MNY σ1)) σ) 7 [(0, .ref (ad 0)), (1, vI w)] [] σ1
  obtain ⟨hw, hz⟩ := hv7
  refine s_iload_n (pc := 7) C dX12_layRows_7 1 rfl ?_
  refine s_aload_n (pc := 8) C dX12_layRows_8 0 rfl ?_
  refine s_geti (q := 0) (ci := 12) (N := 68) (CN := RX12) (T := TX12) (pc := 9) C 6 dX12_layRows_9 wlX12_141 rfl rfl rfl wfX12 (by decide) rfl (σ1 0 6) rfl ?_
  have b9 : (0 : Int) ≤ σ1 0 6 ∧ σ1 0 6 ≤ 4 := hg7.1 0 6
  refine s_icmp_ge (pc := 12) C (tgt := 83) dX12_layRows_12 (by decide) ⟨by omega, by omega⟩ ⟨by omega, by omega⟩ (fun h12 => ?_) (fun h12 => ?_)
  · skip
    refine s_aload_n (pc := 83) C dX12_layRows_83 0 rfl ?_
    refine s_getl (q := 0) (ci := 12) (N := 68) (CN := RX12) (T := TX12) (pc := 84) C 58 dX12_layRows_84 wlX12_349 rfl rfl rfl wfX12 (by decide) rfl (σ1 0 58) rfl ?_
    have b84 : (-9223372036854775808 : Int) ≤ σ1 0 58 ∧ σ1 0 58 ≤ 9223372036854775807 := hg7.1 0 58
    refine s_ldc2 (z := 400) (pc := 87) C dX12_layRows_87 wlX12_353 (by decide) ?_
    refine s_lcmp (pc := 90) C dX12_layRows_90 ⟨by omega, by omega⟩ ⟨by omega, by omega⟩ (fun z90 hz90 n90 e90 p90 => ?_)
    refine s_if_gt (pc := 91) C (tgt := 98) dX12_layRows_91 (by decide) ⟨by omega, by omega⟩ (fun h91 => ?_) (fun h91 => ?_)
    · skip
      refine s_iconst (pc := 98) C dX12_layRows_98 ?_
      refine s_zret (pc := 99) C (by omega) dX12_layRows_99 ?_
      refine ⟨_, rfl, ?_⟩
      exact ⟨hg7, hf7, ⟨by omega, fun q => by first | (exfalso; omega) | exact ⟨by omega, fun q2 j hj => hz q2 j (by have e06 : σ1 0 6 = σ 0 6 := hg7.2.2.2.1; omega)⟩⟩⟩
    · skip
      refine s_iconst (pc := 94) C dX12_layRows_94 ?_
      refine s_goto (pc := 95) C (tgt := 99) dX12_layRows_95 (by decide) ?_
      refine s_zret (pc := 99) C (by omega) dX12_layRows_99 ?_
      refine ⟨_, rfl, ?_⟩
      exact ⟨hg7, hf7, ⟨by omega, fun q => by first | (exfalso; omega) | exact ⟨by omega, fun q2 j hj => hz q2 j (by have e06 : σ1 0 6 = σ 0 6 := hg7.2.2.2.1; omega)⟩⟩⟩
  · skip
    refine s_aload_n (pc := 15) C dX12_layRows_15 0 rfl ?_
    refine s_iload_n (pc := 16) C dX12_layRows_16 1 rfl ?_
    refine s_callVv (pc := 17) C (c_X12_layCover l w (by first | omega | assumption | (constructor <;> omega) | (refine ⟨⟨?_, ?_⟩, ?_⟩ <;> omega) | (simp [hs_ss, hs_up]; omega) | (simp [hs_ss, hs_up]; done))) [vI w] [] rfl rfl dX12_layRows_17 wlX12_346 wiX12_layCover weX12_layCover wcX12_layCover wnX12 noX12_layCover (by decide) (by decide) (Nat.le_of_ble_eq_true rfl) (gy_self hg7) rfl rfl ?_
    rintro σ17 k17
    obtain ⟨kg17, kf17⟩ := k17
    have g17 := gy_trans hg7 kg17
    have f17 := frm_tr hf7 (frm_mono (Q := PLw) kf17 (fun c j h => by simp [PLc, PLw] at h ⊢ <;> omega))
    have e58 : σ17 0 58 = σ1 0 58 := kf17 0 58 rfl
    show hs_Wd _ _ _ _ _ _ _ _ _ _ _ _ _ _ _ _ _ 20 _ [] σ17
    refine s_aload_n (pc := 20) C dX12_layRows_20 0 rfl ?_
    refine s_getr (q := 0) (ci := 12) (N := 68) (CN := RX12) (T := TX12) (pc := 21) C 55 dX12_layRows_21 wlX12_102 rfl rfl rfl wfX12 (by decide) rfl ?_
    refine s_iload_n (pc := 24) C dX12_layRows_24 1 rfl ?_
    refine s_aload_n (pc := 25) C dX12_layRows_25 0 rfl ?_
    refine s_geti (q := 0) (ci := 12) (N := 68) (CN := RX12) (T := TX12) (pc := 26) C 53 dX12_layRows_26 wlX12_340 rfl rfl rfl wfX12 (by decide) rfl (σ17 0 53) rfl ?_
    have b26 : (0 : Int) ≤ σ17 0 53 ∧ σ17 0 53 ≤ 100 := g17.1 0 53
    refine s_iast (q := 29) (n := 4) (pc := 29) C dX12_layRows_29 rfl (by omega) (by omega) (by decide) ?_
    have g29 := gy_set (z := (σ17 0 53)) g17 29 w.toNat rfl (0) (100) rfl ⟨by omega, by omega⟩
    have f29 := frm_set (P := PLw) (z := (σ17 0 53)) f17 29 w.toNat rfl
    refine s_aload_n (pc := 30) C dX12_layRows_30 0 rfl ?_
    refine s_dup (pc := 31) C dX12_layRows_31 rfl ?_
    refine s_getl (q := 0) (ci := 12) (N := 68) (CN := RX12) (T := TX12) (pc := 32) C 58 dX12_layRows_32 wlX12_349 rfl rfl rfl wfX12 (by decide) rfl (σ17 0 58) rfl ?_
    have b32 : (-9223372036854775808 : Int) ≤ σ17 0 58 ∧ σ17 0 58 ≤ 9223372036854775807 := g29.1 0 58
    refine s_aload_n (pc := 35) C dX12_layRows_35 0 rfl ?_
    refine s_geti (q := 0) (ci := 12) (N := 68) (CN := RX12) (T := TX12) (pc := 36) C 53 dX12_layRows_36 wlX12_340 rfl rfl rfl wfX12 (by decide) rfl (σ17 0 53) rfl ?_
    have b36 : (0 : Int) ≤ σ17 0 53 ∧ σ17 0 53 ≤ 100 := g29.1 0 53
    refine s_i2l (pc := 39) C dX12_layRows_39 ⟨by omega, by omega⟩ ?_
    have hpr := hs_prod (r := σ17 0 58) (s := σ17 0 53) (by omega) (by omega) (by omega)
    refine s_lmul (pc := 40) C dX12_layRows_40 ?_
    refine s_putl (q := 0) (ci := 12) (N := 68) (CN := RX12) (T := TX12) (ty0 := tyX12) (ty := .long) (pc := 41) C 58 dX12_layRows_41 wlX12_349 rfl rfl rfl wfX12 tyX12_ok nmX12 (by decide) rfl rfl rfl rfl rfl ?_
    have g41 := gy_set (z := ((σ17 0 58) * (σ17 0 53))) g29 0 58 rfl (-9223372036854775808) (9223372036854775807) rfl ⟨by omega, by omega⟩
    have f41 := frm_set (P := PLw) (z := ((σ17 0 58) * (σ17 0 53))) f29 0 58 rfl
    refine s_iconst (pc := 44) C dX12_layRows_44 ?_
    refine s_istore_n (pc := 45) C [(2, vI 0), (0, .ref (ad 0)), (1, vI w)] dX12_layRows_45 (by decide) rfl ?_
    refine s_sub C [1, 2, 0] [(0, .ref (ad 0)), (1, vI w), (2, vI 0)] rfl ?_
    obtain ⟨τ, hτ⟩ : ∃ τ : hs_S, τ = (hs_ss (hs_ss σ17 29 w.toNat (σ17 0 53)) 0 58 ((σ17 0 58) * (σ17 0 53))) := ⟨_, rfl⟩
    have t58 : τ 0 58 = σ17 0 58 * σ17 0 53 := by rw [hτ]; rfl
    have hi46 : GY σ ((hs_ss (hs_ss σ17 29 w.toNat (σ17 0 53)) 0 58 ((σ17 0 58) * (σ17 0 53)))) ∧ FRM PLw σ ((hs_ss (hs_ss σ17 29 w.toNat (σ17 0 53)) 0 58 ((σ17 0 58) * (σ17 0 53)))) ∧ 0 ≤ (0 : Int) ∧ (0 : Int) ≤ 100 ∧ (∀ j : Nat, ((hs_ss (hs_ss σ17 29 w.toNat (σ17 0 53)) 0 58 ((σ17 0 58) * (σ17 0 53)))) 29 j = τ 29 j) ∧ ((hs_ss (hs_ss σ17 29 w.toNat (σ17 0 53)) 0 58 ((σ17 0 58) * (σ17 0 53)))) 0 58 = τ 0 58 := ⟨g41, f41, ⟨by omega, by omega, fun j => by rw [hτ], by rw [hτ]⟩⟩
    refine hs_loop (α := Int × hs_S) (fun x_ => (GY σ x_.2 ∧ FRM PLw σ x_.2 ∧ 0 ≤ x_.1 ∧ x_.1 ≤ 100 ∧ (∀ j : Nat, x_.2 29 j = τ 29 j) ∧ x_.2 0 58 = τ 0 58) → hs_Wd p l e 7 s m args below meth c D dA SHY ad A 3 (hs_PI (fun σ z σ1 => GY σ σ1 ∧ FRM PLw σ σ1 ∧ (z = 0 ∨ z = 1) ∧ (z = 1 → MNY σ1)) σ) 46 [(0, .ref (ad 0)), (1, vI w), (2, vI x_.1)] [] x_.2) (fun x_ => (101 - x_.1).toNat) ?_ (0, (hs_ss (hs_ss σ17 29 w.toNat (σ17 0 53)) 0 58 ((σ17 0 58) * (σ17 0 53)))) hi46
    rintro ⟨k, σ2⟩ ih46 hinv
    replace hinv : GY σ σ2 ∧ FRM PLw σ σ2 ∧ 0 ≤ k ∧ k ≤ 100 ∧ (∀ j : Nat, σ2 29 j = τ 29 j) ∧ σ2 0 58 = τ 0 58 := hinv
    obtain ⟨hg46, hf46, hv46⟩ := hinv
    show hs_Wd p l e 7 s m args below meth c D dA SHY ad A 3 (hs_PI (fun σ z σ1 => GY σ σ1 ∧ FRM PLw σ σ1 ∧ (z = 0 ∨ z = 1) ∧ (z = 1 → MNY σ1)) σ) 46 [(0, .ref (ad 0)), (1, vI w), (2, vI k)] [] σ2
    refine s_iload_n (pc := 46) C dX12_layRows_46 2 rfl ?_
    refine s_aload_n (pc := 47) C dX12_layRows_47 0 rfl ?_
    refine s_geti (q := 0) (ci := 12) (N := 68) (CN := RX12) (T := TX12) (pc := 48) C 53 dX12_layRows_48 wlX12_340 rfl rfl rfl wfX12 (by decide) rfl (σ2 0 53) rfl ?_
    have b48 : (0 : Int) ≤ σ2 0 53 ∧ σ2 0 53 ≤ 100 := hg46.1 0 53
    refine s_icmp_ge (pc := 51) C (tgt := 77) dX12_layRows_51 (by decide) ⟨by omega, by omega⟩ ⟨by omega, by omega⟩ (fun h51 => ?_) (fun h51 => ?_)
    · skip
      refine s_iinc (pc := 77) C [(1, vI (w + 1)), (0, .ref (ad 0)), (2, vI k)] dX12_layRows_77 1 rfl (by decide) rfl ?_
      refine s_goto (pc := 80) C (tgt := 7) dX12_layRows_80 (by decide) ?_
      refine s_sub C [1, 0] [(0, .ref (ad 0)), (1, vI (w + 1))] rfl ?_
      have hi7 : GY σ σ2 ∧ FRM PLw σ σ2 ∧ (0 ≤ (w + 1) ∧ (w + 1) ≤ 4 ∧ 0 ≤ σ2 0 58 ∧ ((w + 1) = 0 → σ2 0 58 ≤ 1) ∧ ((w + 1) = 1 → σ2 0 58 ≤ 100) ∧ ((w + 1) = 2 → σ2 0 58 ≤ 10000) ∧ ((w + 1) = 3 → σ2 0 58 ≤ 1000000) ∧ σ2 0 58 ≤ 100000000) ∧ (0 < σ2 0 58 → ∀ j : Nat, (j : Int) < (w + 1) → 1 ≤ σ2 29 j) := ⟨hg46, hf46, ⟨by omega, fun q j hj => by have q2 := hpr.2.2 (by omega); rw [hv46.2.2.1 j, hτ]; by_cases e : j = w.toNat; (simp [hs_ss, hs_up, e]; omega); simp [hs_ss, hs_up, e]; rw [kf17 29 j rfl]; exact hz (by omega) j (by omega)⟩⟩
      exact ih7 (w + 1, σ2) (by first | omega | (simp only []; omega)) hi7
    · skip
      refine s_aload_n (pc := 54) C dX12_layRows_54 0 rfl ?_
      refine s_getr (q := 0) (ci := 12) (N := 68) (CN := RX12) (T := TX12) (pc := 55) C 56 dX12_layRows_55 wlX12_105 rfl rfl rfl wfX12 (by decide) rfl ?_
      refine s_bipush (pc := 58) C dX12_layRows_58 (by decide) ?_
      refine s_iload_n (pc := 60) C dX12_layRows_60 1 rfl ?_
      refine s_imul (pc := 61) C dX12_layRows_61 ?_
      refine s_iload_n (pc := 62) C dX12_layRows_62 2 rfl ?_
      refine s_iadd (pc := 63) C dX12_layRows_63 ?_
      refine s_aload_n (pc := 64) C dX12_layRows_64 0 rfl ?_
      refine s_getr (q := 0) (ci := 12) (N := 68) (CN := RX12) (T := TX12) (pc := 65) C 54 dX12_layRows_65 wlX12_99 rfl rfl rfl wfX12 (by decide) rfl ?_
      refine s_iload_n (pc := 68) C dX12_layRows_68 2 rfl ?_
      refine s_iald (q := 28) (n := 100) (pc := 69) C (σ2 28 k.toNat) rfl dX12_layRows_69 rfl (by omega) (by omega) (by decide) ?_
      have b69 : (0 : Int) ≤ σ2 28 k.toNat ∧ σ2 28 k.toNat ≤ 1000 := hg46.1 28 k.toNat
      refine s_iast (q := 30) (n := 400) (pc := 70) C dX12_layRows_70 rfl (by omega) (by omega) (by decide) ?_
      have g70 := gy_set (z := (σ2 28 k.toNat)) hg46 30 (((100 * w) + k).toNat) rfl (0) (1000) rfl ⟨by omega, by omega⟩
      have f70 := frm_set (P := PLw) (z := (σ2 28 k.toNat)) hf46 30 (((100 * w) + k).toNat) rfl
      refine s_iinc (pc := 71) C [(2, vI (k + 1)), (0, .ref (ad 0)), (1, vI w)] dX12_layRows_71 2 rfl (by decide) rfl ?_
      refine s_goto (pc := 74) C (tgt := 46) dX12_layRows_74 (by decide) ?_
      refine s_sub C [1, 2, 0] [(0, .ref (ad 0)), (1, vI w), (2, vI (k + 1))] rfl ?_
      have hi46 : GY σ ((hs_ss σ2 30 (((100 * w) + k).toNat) (σ2 28 k.toNat))) ∧ FRM PLw σ ((hs_ss σ2 30 (((100 * w) + k).toNat) (σ2 28 k.toNat))) ∧ 0 ≤ (k + 1) ∧ (k + 1) ≤ 100 ∧ (∀ j : Nat, ((hs_ss σ2 30 (((100 * w) + k).toNat) (σ2 28 k.toNat))) 29 j = τ 29 j) ∧ ((hs_ss σ2 30 (((100 * w) + k).toNat) (σ2 28 k.toNat))) 0 58 = τ 0 58 := ⟨g70, f70, ⟨by omega, by omega, hv46.2.2.1, hv46.2.2.2⟩⟩
      exact ih46 (k + 1, (hs_ss σ2 30 (((100 * w) + k).toNat) (σ2 28 k.toNat))) (by first | omega | (simp only []; omega)) hi46
