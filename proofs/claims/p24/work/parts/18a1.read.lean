def WFo (k f : Int) : Prop := (k = 0 ∧ f = 0) ∨ (k = 1 ∧ f = 5) ∨ (k = 2 ∧ f = 11) ∨ (k = 3 ∧ f = 16) ∨ (k = 4 ∧ f = 21) ∨ (k = 5 ∧ f = 25) ∨ (k = 6 ∧ f = 31) ∨ (k = 7 ∧ f = 36)
def WLf (j : Nat) : Int := ([108, 101, 102, 116, 32, 114, 105, 103, 104, 116, 32, 98, 97, 99, 107, 32, 102, 101, 101, 108, 32, 116, 114, 121, 32, 97, 103, 97, 105, 110, 32, 101, 97, 99, 104, 32] : List Int).getD j 0
theorem bY14 : ∀ j : Nat, j < 36 → bY 14 j = (WLf j, WLf j) := by decide +kernel
theorem wo_eq {σ : hs_S} (h : IBY σ) (j : Nat) (hj : j < 36) : σ 14 j = WLf j := by
  have q := h 14 j
  rw [bY14 j hj] at q
  exact Int.le_antisymm q.2 q.1
theorem wo_bb : ∀ j : Nat, j < 36 → 0 ≤ WLf j ∧ WLf j ≤ 127 := by decide +kernel
theorem wo_b {σ : hs_S} (h : IBY σ) (j : Nat) (hj : j < 36) : 0 ≤ σ 14 j ∧ σ 14 j ≤ 127 := by
  rw [wo_eq h j hj]
  exact wo_bb j hj
theorem wo_seg {σ : hs_S} (h : IBY σ) {f E : Int} (a b : Nat) (hf : f = (a : Int)) (hE : E = (b : Int)) (hb : b < 36) (hd : ∀ j : Nat, j < 36 → a ≤ j → j ≤ b → (WLf j = 32 ↔ j = b)) : ∀ n : Int, 0 ≤ n → f + n ≤ E → (σ 14 (f + n).toNat = 32 ↔ f + n = E) := by
  intro n h0 h1
  have hq := hd (f + n).toNat (by omega) (by omega) (by omega)
  rw [wo_eq h _ (by omega), hq]
  omega
theorem wo_d0 : ∀ j : Nat, j < 36 → 0 ≤ j → j ≤ 4 → (WLf j = 32 ↔ j = 4) := by decide +kernel
theorem wo_d1 : ∀ j : Nat, j < 36 → 5 ≤ j → j ≤ 10 → (WLf j = 32 ↔ j = 10) := by decide +kernel
theorem wo_d2 : ∀ j : Nat, j < 36 → 11 ≤ j → j ≤ 15 → (WLf j = 32 ↔ j = 15) := by decide +kernel
theorem wo_d3 : ∀ j : Nat, j < 36 → 16 ≤ j → j ≤ 20 → (WLf j = 32 ↔ j = 20) := by decide +kernel
theorem wo_d4 : ∀ j : Nat, j < 36 → 21 ≤ j → j ≤ 24 → (WLf j = 32 ↔ j = 24) := by decide +kernel
theorem wo_d5 : ∀ j : Nat, j < 36 → 25 ≤ j → j ≤ 30 → (WLf j = 32 ↔ j = 30) := by decide +kernel
theorem wo_d6 : ∀ j : Nat, j < 36 → 31 ≤ j → j ≤ 35 → (WLf j = 32 ↔ j = 35) := by decide +kernel
def hs_upN (f : Nat → Nat) (k z : Nat) : Nat → Nat := fun j => if j = k then z else f j
theorem hs_upN_same {f : Nat → Nat} {k z : Nat} : hs_upN f k z k = z := by simp [hs_upN]
theorem hs_upN_ne {f : Nat → Nat} {k z j : Nat} (h : j ≠ k) : hs_upN f k z j = f j := by simp [hs_upN, h]
/-! the acts of a text as they lie in one another -/
def OKA (σ : hs_S) (i : Nat) : Prop := (σ 15 i = 6 → 0 ≤ σ 17 i ∧ 1 ≤ σ 16 i) ∧ (σ 15 i ≤ 1 → 1 ≤ σ 16 i)
def CLD (σ : hs_S) (dep : Nat → Nat) (i : Nat) : Prop := dep i ≤ 4 ∧ (i : Int) < σ 22 i ∧ σ 22 i ≤ σ 0 32 ∧ (∀ j : Nat, i < j → (j : Int) < σ 22 i → dep i < dep j ∧ (5 ≤ σ 15 j → σ 22 j ≤ σ 22 i))
def NI (σ : hs_S) : Prop := ∃ dep : Nat → Nat,
  (∀ i : Nat, (i : Int) < σ 0 32 → OKA σ i ∧ (5 ≤ σ 15 i → (CLD σ dep i ∧ ∀ k : Nat, (k : Int) < σ 0 41 → σ 23 k < (i : Int) ∨ σ 22 i ≤ σ 23 k) ∨ ∃ k : Nat, (k : Int) < σ 0 41 ∧ σ 23 k = (i : Int))) ∧
  (∀ k : Nat, (k : Int) < σ 0 41 → 0 ≤ σ 23 k ∧ σ 23 k < σ 0 32 ∧ dep (σ 23 k).toNat = k ∧ (∀ j : Nat, σ 23 k < (j : Int) → (j : Int) < σ 0 32 → k < dep j) ∧ (∀ k2 : Nat, k < k2 → (k2 : Int) < σ 0 41 → σ 23 k < σ 23 k2))
def PG (σ : hs_S) : Prop := ∃ dep : Nat → Nat, ∀ i : Nat, (i : Int) < σ 0 32 → OKA σ i ∧ (5 ≤ σ 15 i → CLD σ dep i)
theorem ni_0 {σ : hs_S} (h1 : σ 0 32 = 0) (h2 : σ 0 41 = 0) : NI σ := ⟨fun _ => 0, fun i hi => by exfalso; omega, fun k hk => by exfalso; omega⟩
theorem ni_pg {σ : hs_S} (h : NI σ) (h0 : σ 0 41 ≤ 0) : PG σ := by
  obtain ⟨dep, hA, -⟩ := h
  refine ⟨dep, fun i hi => ⟨(hA i hi).1, fun h5 => ?_⟩⟩
  rcases (hA i hi).2 h5 with q | ⟨k, hk, -⟩
  · exact q.1
  · exfalso; omega
def okNI (c j : Nat) : Bool := !(c == 15 || c == 16 || c == 17 || c == 22 || c == 23 || (c == 0 && (j == 32 || j == 41)))
theorem OKA_eq {σ σ1 : hs_S} {i : Nat} (h15 : σ1 15 i = σ 15 i) (h16 : σ1 16 i = σ 16 i) (h17 : σ1 17 i = σ 17 i) (h : OKA σ i) : OKA σ1 i := by
  unfold OKA at *
  rw [h15, h16, h17]
  exact h
theorem NI_cg {σ σ1 : hs_S} (h : FRM okNI σ σ1) (k : NI σ) : NI σ1 := by
  obtain ⟨dep, hA, hB⟩ := k
  have e32 : σ1 0 32 = σ 0 32 := h 0 32 rfl
  have e41 : σ1 0 41 = σ 0 41 := h 0 41 rfl
  have e15 : ∀ i, σ1 15 i = σ 15 i := fun i => h 15 i rfl
  have e16 : ∀ i, σ1 16 i = σ 16 i := fun i => h 16 i rfl
  have e17 : ∀ i, σ1 17 i = σ 17 i := fun i => h 17 i rfl
  have e22 : ∀ i, σ1 22 i = σ 22 i := fun i => h 22 i rfl
  have e23 : ∀ i, σ1 23 i = σ 23 i := fun i => h 23 i rfl
  refine ⟨dep, fun i hi => ?_, fun k hk => ?_⟩
  · rw [e32] at hi
    refine ⟨OKA_eq (e15 i) (e16 i) (e17 i) (hA i hi).1, fun h5 => ?_⟩
    rw [e15] at h5
    rcases (hA i hi).2 h5 with ⟨⟨c1, c2, c3, c4⟩, q2⟩ | ⟨k, hk, q⟩
    · left
      refine ⟨⟨c1, by rw [e22]; exact c2, by rw [e22, e32]; exact c3, fun j hj hj2 => ?_⟩, fun k hk => by rw [e23, e22]; exact q2 k (by omega)⟩
      rw [e22] at hj2
      rw [e15, e22, e22]
      exact c4 j hj hj2
    · exact Or.inr ⟨k, by omega, by rw [e23]; exact q⟩
  · rw [e41] at hk
    obtain ⟨b1, b2, b3, b4, b5⟩ := hB k hk
    rw [e23, e32]
    exact ⟨b1, b2, b3, b4, fun k2 h1 h2 => by rw [e23]; exact b5 k2 h1 (by omega)⟩
/-- a loop is closed -/
theorem ni_close {σ σ1 : hs_S} (h : NI σ) {o : Nat} (ho : σ 0 41 = (o : Int) + 1) (ho5 : o ≤ 4) (e41 : σ1 0 41 = (o : Int)) (e32 : σ1 0 32 = σ 0 32) (e15 : ∀ i, σ1 15 i = σ 15 i) (e16 : ∀ i, σ1 16 i = σ 16 i) (e17 : ∀ i, σ1 17 i = σ 17 i) (e23 : ∀ i, σ1 23 i = σ 23 i) (e22a : σ1 22 (σ 23 o).toNat = σ 0 32) (e22 : ∀ i, i ≠ (σ 23 o).toNat → σ1 22 i = σ 22 i) : NI σ1 := by
  obtain ⟨dep, hA, hB⟩ := h
  obtain ⟨t1, t2, t3, t4, -⟩ := hB o (by omega)
  have below : ∀ k : Nat, k < o → σ 23 k < σ 23 o := fun k hk => (hB k (by omega)).2.2.2.2 o hk (by omega)
  refine ⟨dep, fun i hi => ?_, fun k hk => ?_⟩
  · rw [e32] at hi
    refine ⟨OKA_eq (e15 i) (e16 i) (e17 i) (hA i hi).1, fun h5 => ?_⟩
    rw [e15] at h5
    by_cases ei : i = (σ 23 o).toNat
    · left
      subst ei
      refine ⟨⟨by rw [t3]; exact ho5, by rw [e22a]; omega, by rw [e22a, e32]; omega, fun j hj hj2 => ?_⟩, fun k hk => ?_⟩
      · rw [e22a] at hj2
        refine ⟨by rw [t3]; exact t4 j (by omega) hj2, fun hj5 => ?_⟩
        rw [e15] at hj5
        rw [e22a, e22 j (by omega)]
        rcases (hA j hj2).2 hj5 with q | ⟨k, hk, q⟩
        · exact q.1.2.2.1
        · exfalso
          by_cases ek : k = o
          · subst ek; omega
          · have := below k (by omega)
            omega
      · left
        rw [e23]
        have := below k (by omega)
        omega
    · rcases (hA i hi).2 h5 with ⟨⟨c1, c2, c3, c4⟩, q2⟩ | ⟨k, hk, q⟩
      · left
        refine ⟨⟨c1, by rw [e22 i ei]; exact c2, by rw [e22 i ei, e32]; exact c3, fun j hj hj2 => ?_⟩, fun k hk => by rw [e23, e22 i ei]; exact q2 k (by omega)⟩
        rw [e22 i ei] at hj2
        have ej : j ≠ (σ 23 o).toNat := by
          have := q2 o (by omega)
          omega
        rw [e15, e22 i ei, e22 j ej]
        exact c4 j hj hj2
      · right
        refine ⟨k, ?_, by rw [e23]; exact q⟩
        have : k ≠ o := fun e => by subst e; omega
        omega
  · have hk2 : k < o := by omega
    obtain ⟨b1, b2, b3, b4, b5⟩ := hB k (by omega)
    rw [e23, e32]
    exact ⟨b1, b2, b3, b4, fun k2 h1 h2 => by rw [e23]; exact b5 k2 h1 (by omega)⟩
/-- an act more, at the end; bo: it is a loop, opened now -/
theorem ni_add {σ σ1 : hs_S} (h : NI σ) {n : Nat} (hn : σ 0 32 = (n : Int)) (e32 : σ1 0 32 = (n : Int) + 1) (e15 : ∀ i, i < n → σ1 15 i = σ 15 i) (e16 : ∀ i, i < n → σ1 16 i = σ 16 i) (e17 : ∀ i, i < n → σ1 17 i = σ 17 i) (e22 : ∀ i, i < n → σ1 22 i = σ 22 i) (hok : OKA σ1 n)
    (hc : (σ1 15 n < 5 ∧ σ1 0 41 = σ 0 41 ∧ ∀ k : Nat, (k : Int) < σ 0 41 → σ1 23 k = σ 23 k) ∨ (σ 0 41 ≤ 4 ∧ 0 ≤ σ 0 41 ∧ σ1 0 41 = σ 0 41 + 1 ∧ σ1 23 (σ 0 41).toNat = (n : Int) ∧ ∀ k : Nat, (k : Int) < σ 0 41 → σ1 23 k = σ 23 k)) : NI σ1 := by
  obtain ⟨dep, hA, hB⟩ := h
  have e23 : ∀ k : Nat, (k : Int) < σ 0 41 → σ1 23 k = σ 23 k := by rcases hc with q | q; exact q.2.2; exact q.2.2.2.2
  refine ⟨hs_upN dep n (σ 0 41).toNat, fun i hi => ?_, fun k hk => ?_⟩
  · by_cases ei : i = n
    · subst ei
      refine ⟨hok, fun h5 => ?_⟩
      rcases hc with q | q
      · exfalso; omega
      · exact Or.inr ⟨(σ 0 41).toNat, by omega, q.2.2.2.1⟩
    · have hi2 : (i : Int) < σ 0 32 := by omega
      refine ⟨OKA_eq (e15 i (by omega)) (e16 i (by omega)) (e17 i (by omega)) (hA i hi2).1, fun h5 => ?_⟩
      rw [e15 i (by omega)] at h5
      rcases (hA i hi2).2 h5 with ⟨⟨c1, c2, c3, c4⟩, q2⟩ | ⟨k, hk, q⟩
      · left
        refine ⟨⟨by rw [hs_upN_ne ei]; exact c1, by rw [e22 i (by omega)]; exact c2, by rw [e22 i (by omega)]; omega, fun j hj hj2 => ?_⟩, fun k hk => ?_⟩
        · rw [e22 i (by omega)] at hj2
          rw [hs_upN_ne ei, hs_upN_ne (by omega : j ≠ n), e15 j (by omega), e22 i (by omega), e22 j (by omega)]
          exact c4 j hj hj2
        · rw [e22 i (by omega)]
          by_cases ek : (k : Int) < σ 0 41
          · rw [e23 k ek]; exact q2 k ek
          · rcases hc with q | q
            · exfalso; omega
            · right
              have : k = (σ 0 41).toNat := by omega
              rw [this, q.2.2.2.1]
              omega
      · exact Or.inr ⟨k, by rcases hc with r | r <;> omega, by rw [e23 k hk]; exact q⟩
  · by_cases ek : (k : Int) < σ 0 41
    · obtain ⟨b1, b2, b3, b4, b5⟩ := hB k ek
      rw [e23 k ek]
      refine ⟨b1, by omega, by rw [hs_upN_ne (by omega)]; exact b3, fun j hj hj2 => ?_, fun k2 h1 h2 => ?_⟩
      · by_cases ej : j = n
        · rw [ej, hs_upN_same]; omega
        · rw [hs_upN_ne ej]; exact b4 j hj (by omega)
      · by_cases ek2 : (k2 : Int) < σ 0 41
        · rw [e23 k2 ek2]; exact b5 k2 h1 ek2
        · rcases hc with q | q
          · exfalso; omega
          · have : k2 = (σ 0 41).toNat := by omega
            rw [this, q.2.2.2.1]
            omega
    · rcases hc with q | q
      · exfalso; omega
      · have e : k = (σ 0 41).toNat := by omega
        rw [e, q.2.2.2.1]
        refine ⟨by omega, by omega, by rw [show ((n : Int)).toNat = n from Int.toNat_natCast n, hs_upN_same], fun j hj hj2 => by exfalso; omega, fun k2 h1 h2 => by exfalso; omega⟩
def PWr (c j : Nat) : Bool := c == 0 && (j == 25 || j == 26)
def PTa (c j : Nat) : Bool := c == 0 && (j == 28 || j == 29 || j == 30 || j == 31)
def PTw (c j : Nat) : Bool := c == 0 && (j == 25 || j == 26 || j == 28 || j == 29 || j == 30 || j == 31)
def PPl (c j : Nat) : Bool := c == 0 && (j == 25 || j == 26 || j == 28 || j == 29 || j == 30 || j == 31 || j == 43 || j == 44)
def PTr (a c j : Nat) : Bool := (c == 0 && (j == 25 || j == 26 || j == 28 || j == 29 || j == 30 || j == 31 || j == 43 || j == 44)) || (c == 16 && j == a) || c == 18 || c == 19
def PLr (a c j : Nat) : Bool := (c == 0 && (j == 25 || j == 26 || j == 28 || j == 29 || j == 30 || j == 31 || j == 43 || j == 44 || j == 41)) || (c == 16 && j == a) || (c == 17 && j == a) || c == 18 || c == 19 || c == 20 || c == 21 || c == 23
def PAr (c j : Nat) : Bool := (c == 0 && (j == 25 || j == 26 || j == 28 || j == 29 || j == 30 || j == 31 || j == 43 || j == 44 || j == 41 || j == 32)) || c == 15 || c == 16 || c == 17 || c == 18 || c == 19 || c == 20 || c == 21 || c == 22 || c == 23
/-- the token that was taken -/
def TY (σ : hs_S) : Prop := (σ 0 28 ≤ σ 0 27 ∧ σ 0 31 ≤ σ 0 28) ∧ (σ 0 29 = 1 → 0 ≤ σ 0 30 ∧ σ 0 30 ≤ 6) ∧ (σ 0 29 = 2 → 0 ≤ σ 0 30 ∧ σ 0 30 ≤ 7) ∧ (¬ σ 0 29 = 0 → σ 0 31 < σ 0 28)
def okTY (c j : Nat) : Bool := !(c == 0 && (j == 27 || j == 28 || j == 29 || j == 30 || j == 31))
theorem TY_cg {σ σ1 : hs_S} (h : FRM okTY σ σ1) (k : TY σ) : TY σ1 := by
  unfold TY at *
  rw [h 0 27 rfl, h 0 28 rfl, h 0 29 rfl, h 0 30 rfl, h 0 31 rfl]
  exact k
set_option maxHeartbeats 4000000 in
set_option maxRecDepth 100000 in
theorem c_X12_wrong (l : Launch) (k : Int) (hk : 1 ≤ k ∧ k ≤ 3) : hs_Met l yX12_wrong cX12_wrong 2 (some .boolean) 1 SHY (fun ad => [.ref (ad 0), vI k]) (fun σ => GY σ σ) (hs_PI (fun σ z σ1 => GY σ σ1 ∧ FRM PWr σ σ1 ∧ z = 0)) := by
  refine hs_from pfX12_wrong (fun _ => Nat.le_of_ble_eq_true rfl) ?_
  intro p e s m args below meth c D dA ad A σ C hpre
  have C : hs_C p s m args meth c D dA SHY ad A 2 cX12_wrong RX12 (some .boolean) := C
  have g0 := hpre
  have f0 : FRM PWr σ σ := frm_rf
  show hs_Wd p l e 1 s m args below meth c D dA SHY ad A 2 (hs_PI (fun σ z σ1 => GY σ σ1 ∧ FRM PWr σ σ1 ∧ z = 0) σ) 0 [(0, .ref (ad 0)), (1, vI k)] [] σ
  refine s_aload_n (pc := 0) C dX12_wrong_0 0 rfl ?_
  refine s_iload_n (pc := 1) C dX12_wrong_1 1 rfl ?_
  refine s_puti (q := 0) (ci := 12) (N := 68) (CN := RX12) (T := TX12) (ty0 := tyX12) (ty := .int) (pc := 2) C 25 dX12_wrong_2 wlX12_224 rfl rfl rfl wfX12 tyX12_ok nmX12 (by decide) rfl rfl rfl (vp_nar_int _) rfl ?_
  have g2 := gy_set (z := k) g0 0 25 rfl (0) (3) rfl ⟨by omega, by omega⟩
  have f2 := frm_set (P := PWr) (z := k) f0 0 25 rfl
  refine s_aload_n (pc := 5) C dX12_wrong_5 0 rfl ?_
  refine s_aload_n (pc := 6) C dX12_wrong_6 0 rfl ?_
  refine s_geti (q := 0) (ci := 12) (N := 68) (CN := RX12) (T := TX12) (pc := 7) C 31 dX12_wrong_7 wlX12_227 rfl rfl rfl wfX12 (by decide) rfl (σ 0 31) rfl ?_
  have b7 : (0 : Int) ≤ σ 0 31 ∧ σ 0 31 ≤ 500 := g2.1 0 31
  refine s_puti (q := 0) (ci := 12) (N := 68) (CN := RX12) (T := TX12) (ty0 := tyX12) (ty := .int) (pc := 10) C 26 dX12_wrong_10 wlX12_56 rfl rfl rfl wfX12 tyX12_ok nmX12 (by decide) rfl rfl rfl (vp_nar_int _) rfl ?_
  have g10 := gy_set (z := (σ 0 31)) g2 0 26 rfl (-1) (500) rfl ⟨by omega, by omega⟩
  have f10 := frm_set (P := PWr) (z := (σ 0 31)) f2 0 26 rfl
  refine s_iconst (pc := 13) C dX12_wrong_13 ?_
  refine s_zret (pc := 14) C (by omega) dX12_wrong_14 ?_
  refine ⟨_, rfl, ?_⟩
  exact ⟨g10, f10, by first | omega | assumption | (constructor <;> omega) | (refine ⟨⟨?_, ?_⟩, ?_⟩ <;> omega) | (simp [hs_ss, hs_up]; omega) | (simp [hs_ss, hs_up]; done)⟩
set_option maxHeartbeats 4000000 in
set_option maxRecDepth 100000 in
theorem c_X12_isSign (l : Launch) (a : Int) (ha : hs_R a) : hs_Met l yX12_isSign cX12_isSign 2 (some .boolean) 1 SHY (fun ad => [.ref (ad 0), vI a]) (fun σ => GY σ σ) (hs_PI (fun σ z σ1 => σ = σ1 ∧ (z = 0 ∨ z = 1) ∧ (z = 1 ↔ σ 0 29 = 4 ∧ σ 0 30 = a))) := by
  refine hs_from pfX12_isSign (fun _ => Nat.le_of_ble_eq_true rfl) ?_
  intro p e s m args below meth c D dA ad A σ C hpre
  have C : hs_C p s m args meth c D dA SHY ad A 2 cX12_isSign RX12 (some .boolean) := C
  have g0 := hpre
  show hs_Wd p l e 1 s m args below meth c D dA SHY ad A 2 (hs_PI (fun σ z σ1 => σ = σ1 ∧ (z = 0 ∨ z = 1) ∧ (z = 1 ↔ σ 0 29 = 4 ∧ σ 0 30 = a)) σ) 0 [(0, .ref (ad 0)), (1, vI a)] [] σ
  refine s_aload_n (pc := 0) C dX12_isSign_0 0 rfl ?_
  refine s_geti (q := 0) (ci := 12) (N := 68) (CN := RX12) (T := TX12) (pc := 1) C 29 dX12_isSign_1 wlX12_236 rfl rfl rfl wfX12 (by decide) rfl (σ 0 29) rfl ?_
  have b1 : (0 : Int) ≤ σ 0 29 ∧ σ 0 29 ≤ 5 := g0.1 0 29
  refine s_iconst (pc := 4) C dX12_isSign_4 ?_
  refine s_icmp_ne (pc := 5) C (tgt := 20) dX12_isSign_5 (by decide) ⟨by omega, by omega⟩ ⟨by decide, by decide⟩ (fun h5 => ?_) (fun h5 => ?_)
  · skip
    refine s_iconst (pc := 20) C dX12_isSign_20 ?_
    refine s_zret (pc := 21) C (by omega) dX12_isSign_21 ?_
    refine ⟨_, rfl, ?_⟩
    exact ⟨rfl, by first | omega | assumption | (constructor <;> omega) | (refine ⟨⟨?_, ?_⟩, ?_⟩ <;> omega) | (simp [hs_ss, hs_up]; omega) | (simp [hs_ss, hs_up]; done)⟩
  · skip
    refine s_aload_n (pc := 8) C dX12_isSign_8 0 rfl ?_
    refine s_geti (q := 0) (ci := 12) (N := 68) (CN := RX12) (T := TX12) (pc := 9) C 30 dX12_isSign_9 wlX12_245 rfl rfl rfl wfX12 (by decide) rfl (σ 0 30) rfl ?_
    have b9 : (-1 : Int) ≤ σ 0 30 ∧ σ 0 30 ≤ 10000 := g0.1 0 30
    refine s_iload_n (pc := 12) C dX12_isSign_12 1 rfl ?_
    refine s_icmp_ne (pc := 13) C (tgt := 20) dX12_isSign_13 (by decide) ⟨by omega, by omega⟩ ⟨by omega, by omega⟩ (fun h13 => ?_) (fun h13 => ?_)
    · skip
      refine s_iconst (pc := 20) C dX12_isSign_20 ?_
      refine s_zret (pc := 21) C (by omega) dX12_isSign_21 ?_
      refine ⟨_, rfl, ?_⟩
      exact ⟨rfl, by first | omega | assumption | (constructor <;> omega) | (refine ⟨⟨?_, ?_⟩, ?_⟩ <;> omega) | (simp [hs_ss, hs_up]; omega) | (simp [hs_ss, hs_up]; done)⟩
    · skip
      refine s_iconst (pc := 16) C dX12_isSign_16 ?_
      refine s_goto (pc := 17) C (tgt := 21) dX12_isSign_17 (by decide) ?_
      refine s_zret (pc := 21) C (by omega) dX12_isSign_21 ?_
      refine ⟨_, rfl, ?_⟩
      exact ⟨rfl, by first | omega | assumption | (constructor <;> omega) | (refine ⟨⟨?_, ?_⟩, ?_⟩ <;> omega) | (simp [hs_ss, hs_up]; omega) | (simp [hs_ss, hs_up]; done)⟩
set_option maxHeartbeats 4000000 in
set_option maxRecDepth 100000 in
theorem c_X12_isSmall (l : Launch) (k : Int) (hk : 0 ≤ k ∧ k ≤ 500) : hs_Met l yX12_isSmall cX12_isSmall 2 (some .boolean) 1 SHY (fun ad => [.ref (ad 0), vI k]) (fun σ => GY σ σ) (hs_PI (fun σ z σ1 => σ = σ1 ∧ (z = 0 ∨ z = 1) ∧ (z = 1 ↔ k < σ 0 27 ∧ 97 ≤ σ 1 k.toNat ∧ σ 1 k.toNat ≤ 122))) := by
  refine hs_from pfX12_isSmall (fun _ => Nat.le_of_ble_eq_true rfl) ?_
  intro p e s m args below meth c D dA ad A σ C hpre
  have C : hs_C p s m args meth c D dA SHY ad A 2 cX12_isSmall RX12 (some .boolean) := C
  have g0 := hpre
  show hs_Wd p l e 1 s m args below meth c D dA SHY ad A 2 (hs_PI (fun σ z σ1 => σ = σ1 ∧ (z = 0 ∨ z = 1) ∧ (z = 1 ↔ k < σ 0 27 ∧ 97 ≤ σ 1 k.toNat ∧ σ 1 k.toNat ≤ 122)) σ) 0 [(0, .ref (ad 0)), (1, vI k)] [] σ
  refine s_iload_n (pc := 0) C dX12_isSmall_0 1 rfl ?_
  refine s_aload_n (pc := 1) C dX12_isSmall_1 0 rfl ?_
  refine s_geti (q := 0) (ci := 12) (N := 68) (CN := RX12) (T := TX12) (pc := 2) C 27 dX12_isSmall_2 wlX12_230 rfl rfl rfl wfX12 (by decide) rfl (σ 0 27) rfl ?_
  have b2 : (0 : Int) ≤ σ 0 27 ∧ σ 0 27 ≤ 500 := g0.1 0 27
  refine s_icmp_ge (pc := 5) C (tgt := 34) dX12_isSmall_5 (by decide) ⟨by omega, by omega⟩ ⟨by omega, by omega⟩ (fun h5 => ?_) (fun h5 => ?_)
  · skip
    refine s_iconst (pc := 34) C dX12_isSmall_34 ?_
    refine s_zret (pc := 35) C (by omega) dX12_isSmall_35 ?_
    refine ⟨_, rfl, ?_⟩
    exact ⟨rfl, by first | omega | assumption | (constructor <;> omega) | (refine ⟨⟨?_, ?_⟩, ?_⟩ <;> omega) | (simp [hs_ss, hs_up]; omega) | (simp [hs_ss, hs_up]; done)⟩
  · skip
    refine s_aload_n (pc := 8) C dX12_isSmall_8 0 rfl ?_
    refine s_getr (q := 0) (ci := 12) (N := 68) (CN := RX12) (T := TX12) (pc := 9) C 0 dX12_isSmall_9 wlX12_7 rfl rfl rfl wfX12 (by decide) rfl ?_
    refine s_iload_n (pc := 12) C dX12_isSmall_12 1 rfl ?_
    refine s_iald (q := 1) (n := 500) (pc := 13) C (σ 1 k.toNat) rfl dX12_isSmall_13 rfl (by omega) (by omega) (by decide) ?_
    have b13 : (0 : Int) ≤ σ 1 k.toNat ∧ σ 1 k.toNat ≤ 255 := g0.1 1 k.toNat
    refine s_bipush (pc := 14) C dX12_isSmall_14 (by decide) ?_
    refine s_icmp_lt (pc := 16) C (tgt := 34) dX12_isSmall_16 (by decide) ⟨by omega, by omega⟩ ⟨by decide, by decide⟩ (fun h16 => ?_) (fun h16 => ?_)
    · skip
      refine s_iconst (pc := 34) C dX12_isSmall_34 ?_
      refine s_zret (pc := 35) C (by omega) dX12_isSmall_35 ?_
      refine ⟨_, rfl, ?_⟩
      exact ⟨rfl, by first | omega | assumption | (constructor <;> omega) | (refine ⟨⟨?_, ?_⟩, ?_⟩ <;> omega) | (simp [hs_ss, hs_up]; omega) | (simp [hs_ss, hs_up]; done)⟩
    · skip
      refine s_aload_n (pc := 19) C dX12_isSmall_19 0 rfl ?_
      refine s_getr (q := 0) (ci := 12) (N := 68) (CN := RX12) (T := TX12) (pc := 20) C 0 dX12_isSmall_20 wlX12_7 rfl rfl rfl wfX12 (by decide) rfl ?_
      refine s_iload_n (pc := 23) C dX12_isSmall_23 1 rfl ?_
      refine s_iald (q := 1) (n := 500) (pc := 24) C (σ 1 k.toNat) rfl dX12_isSmall_24 rfl (by omega) (by omega) (by decide) ?_
      have b24 : (0 : Int) ≤ σ 1 k.toNat ∧ σ 1 k.toNat ≤ 255 := g0.1 1 k.toNat
      refine s_bipush (pc := 25) C dX12_isSmall_25 (by decide) ?_
      refine s_icmp_gt (pc := 27) C (tgt := 34) dX12_isSmall_27 (by decide) ⟨by omega, by omega⟩ ⟨by decide, by decide⟩ (fun h27 => ?_) (fun h27 => ?_)
      · skip
        refine s_iconst (pc := 34) C dX12_isSmall_34 ?_
        refine s_zret (pc := 35) C (by omega) dX12_isSmall_35 ?_
        refine ⟨_, rfl, ?_⟩
        exact ⟨rfl, by first | omega | assumption | (constructor <;> omega) | (refine ⟨⟨?_, ?_⟩, ?_⟩ <;> omega) | (simp [hs_ss, hs_up]; omega) | (simp [hs_ss, hs_up]; done)⟩
      · skip
        refine s_iconst (pc := 30) C dX12_isSmall_30 ?_
        refine s_goto (pc := 31) C (tgt := 35) dX12_isSmall_31 (by decide) ?_
        refine s_zret (pc := 35) C (by omega) dX12_isSmall_35 ?_
        refine ⟨_, rfl, ?_⟩
        exact ⟨rfl, by first | omega | assumption | (constructor <;> omega) | (refine ⟨⟨?_, ?_⟩, ?_⟩ <;> omega) | (simp [hs_ss, hs_up]; omega) | (simp [hs_ss, hs_up]; done)⟩
set_option maxHeartbeats 4000000 in
set_option maxRecDepth 100000 in
theorem c_X12_isDigit (l : Launch) (k : Int) (hk : 0 ≤ k ∧ k ≤ 500) : hs_Met l yX12_isDigit cX12_isDigit 2 (some .boolean) 1 SHY (fun ad => [.ref (ad 0), vI k]) (fun σ => GY σ σ) (hs_PI (fun σ z σ1 => σ = σ1 ∧ (z = 0 ∨ z = 1) ∧ (z = 1 ↔ k < σ 0 27 ∧ 48 ≤ σ 1 k.toNat ∧ σ 1 k.toNat ≤ 57))) := by
  refine hs_from pfX12_isDigit (fun _ => Nat.le_of_ble_eq_true rfl) ?_
  intro p e s m args below meth c D dA ad A σ C hpre
  have C : hs_C p s m args meth c D dA SHY ad A 2 cX12_isDigit RX12 (some .boolean) := C
  have g0 := hpre
  show hs_Wd p l e 1 s m args below meth c D dA SHY ad A 2 (hs_PI (fun σ z σ1 => σ = σ1 ∧ (z = 0 ∨ z = 1) ∧ (z = 1 ↔ k < σ 0 27 ∧ 48 ≤ σ 1 k.toNat ∧ σ 1 k.toNat ≤ 57)) σ) 0 [(0, .ref (ad 0)), (1, vI k)] [] σ
  refine s_iload_n (pc := 0) C dX12_isDigit_0 1 rfl ?_
  refine s_aload_n (pc := 1) C dX12_isDigit_1 0 rfl ?_
  refine s_geti (q := 0) (ci := 12) (N := 68) (CN := RX12) (T := TX12) (pc := 2) C 27 dX12_isDigit_2 wlX12_230 rfl rfl rfl wfX12 (by decide) rfl (σ 0 27) rfl ?_
  have b2 : (0 : Int) ≤ σ 0 27 ∧ σ 0 27 ≤ 500 := g0.1 0 27
  refine s_icmp_ge (pc := 5) C (tgt := 34) dX12_isDigit_5 (by decide) ⟨by omega, by omega⟩ ⟨by omega, by omega⟩ (fun h5 => ?_) (fun h5 => ?_)
  · skip
    refine s_iconst (pc := 34) C dX12_isDigit_34 ?_
    refine s_zret (pc := 35) C (by omega) dX12_isDigit_35 ?_
    refine ⟨_, rfl, ?_⟩
    exact ⟨rfl, by first | omega | assumption | (constructor <;> omega) | (refine ⟨⟨?_, ?_⟩, ?_⟩ <;> omega) | (simp [hs_ss, hs_up]; omega) | (simp [hs_ss, hs_up]; done)⟩
  · skip
    refine s_aload_n (pc := 8) C dX12_isDigit_8 0 rfl ?_
    refine s_getr (q := 0) (ci := 12) (N := 68) (CN := RX12) (T := TX12) (pc := 9) C 0 dX12_isDigit_9 wlX12_7 rfl rfl rfl wfX12 (by decide) rfl ?_
    refine s_iload_n (pc := 12) C dX12_isDigit_12 1 rfl ?_
    refine s_iald (q := 1) (n := 500) (pc := 13) C (σ 1 k.toNat) rfl dX12_isDigit_13 rfl (by omega) (by omega) (by decide) ?_
    have b13 : (0 : Int) ≤ σ 1 k.toNat ∧ σ 1 k.toNat ≤ 255 := g0.1 1 k.toNat
    refine s_bipush (pc := 14) C dX12_isDigit_14 (by decide) ?_
    refine s_icmp_lt (pc := 16) C (tgt := 34) dX12_isDigit_16 (by decide) ⟨by omega, by omega⟩ ⟨by decide, by decide⟩ (fun h16 => ?_) (fun h16 => ?_)
    · skip
      refine s_iconst (pc := 34) C dX12_isDigit_34 ?_
      refine s_zret (pc := 35) C (by omega) dX12_isDigit_35 ?_
      refine ⟨_, rfl, ?_⟩
      exact ⟨rfl, by first | omega | assumption | (constructor <;> omega) | (refine ⟨⟨?_, ?_⟩, ?_⟩ <;> omega) | (simp [hs_ss, hs_up]; omega) | (simp [hs_ss, hs_up]; done)⟩
    · skip
      refine s_aload_n (pc := 19) C dX12_isDigit_19 0 rfl ?_
      refine s_getr (q := 0) (ci := 12) (N := 68) (CN := RX12) (T := TX12) (pc := 20) C 0 dX12_isDigit_20 wlX12_7 rfl rfl rfl wfX12 (by decide) rfl ?_
      refine s_iload_n (pc := 23) C dX12_isDigit_23 1 rfl ?_
      refine s_iald (q := 1) (n := 500) (pc := 24) C (σ 1 k.toNat) rfl dX12_isDigit_24 rfl (by omega) (by omega) (by decide) ?_
      have b24 : (0 : Int) ≤ σ 1 k.toNat ∧ σ 1 k.toNat ≤ 255 := g0.1 1 k.toNat
      refine s_bipush (pc := 25) C dX12_isDigit_25 (by decide) ?_
      refine s_icmp_gt (pc := 27) C (tgt := 34) dX12_isDigit_27 (by decide) ⟨by omega, by omega⟩ ⟨by decide, by decide⟩ (fun h27 => ?_) (fun h27 => ?_)
      · skip
        refine s_iconst (pc := 34) C dX12_isDigit_34 ?_
        refine s_zret (pc := 35) C (by omega) dX12_isDigit_35 ?_
        refine ⟨_, rfl, ?_⟩
        exact ⟨rfl, by first | omega | assumption | (constructor <;> omega) | (refine ⟨⟨?_, ?_⟩, ?_⟩ <;> omega) | (simp [hs_ss, hs_up]; omega) | (simp [hs_ss, hs_up]; done)⟩
      · skip
        refine s_iconst (pc := 30) C dX12_isDigit_30 ?_
        refine s_goto (pc := 31) C (tgt := 35) dX12_isDigit_31 (by decide) ?_
        refine s_zret (pc := 35) C (by omega) dX12_isDigit_35 ?_
        refine ⟨_, rfl, ?_⟩
        exact ⟨rfl, by first | omega | assumption | (constructor <;> omega) | (refine ⟨⟨?_, ?_⟩, ?_⟩ <;> omega) | (simp [hs_ss, hs_up]; omega) | (simp [hs_ss, hs_up]; done)⟩
