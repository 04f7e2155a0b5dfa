def PTk (c j : Nat) : Bool := c == 17 || c == 18 || c == 19 || (c == 16 && (j == 3 || j == 4))
def PT1 (c j : Nat) : Bool := c == 17 || c == 18 || c == 19 || (c == 16 && j == 4)
/-- the letters of the tokens are letters -/
def TKs (σ : hs_S) : Prop := ∀ k : Nat, (k : Int) < σ 16 3 → σ 17 k = 3 → σ 19 k ≤ 7
def okTKs (c j : Nat) : Bool := !(c == 17 || c == 19 || (c == 16 && j == 3))
theorem TKs_cg {σ σ1 : hs_S} (h : FRM okTKs σ σ1) (k : TKs σ) : TKs σ1 := by
  intro i hi hj
  rw [h 19 i rfl]
  rw [h 16 3 rfl] at hi
  rw [h 17 i rfl] at hj
  exact k i hi hj
/-- the token that the reader stands at -/
def RD (σ : hs_S) : Prop := σ 15 12 = σ 17 (σ 15 11).toNat ∧ σ 15 11 < σ 16 3
def okRD (c j : Nat) : Bool := !(c == 17 || (c == 15 && (j == 11 || j == 12)) || (c == 16 && j == 3))
theorem RD_cg {σ σ1 : hs_S} (h : FRM okRD σ σ1) (k : RD σ) : RD σ1 := by
  unfold RD at *
  rw [h 15 12 rfl, h 15 11 rfl, h 16 3 rfl, h 17 _ rfl]
  exact k
/-- one token more, at the end -/
def OT (σ σ1 : hs_S) : Prop := (∀ k : Nat, k ≠ (σ 16 3).toNat → σ1 17 k = σ 17 k ∧ σ1 19 k = σ 19 k) ∧ (σ1 17 (σ 16 3).toNat = 3 → σ1 19 (σ 16 3).toNat ≤ 7)
theorem tks_step {σ σ1 : hs_S} (h : TKs σ) (he : σ1 16 3 = σ 16 3) (h0 : 0 ≤ σ 16 3) (ho : OT σ σ1) : TKs (hs_ss σ1 16 3 (σ1 16 3 + 1)) := by
  intro k hk h3
  have hk : (k : Int) < σ1 16 3 + 1 := hk
  have h3 : σ1 17 k = 3 := h3
  show σ1 19 k ≤ 7
  by_cases e : k = (σ 16 3).toNat
  · rw [e] at h3 ⊢
    exact ho.2 h3
  · have h1 := ho.1 k e
    rw [h1.2]
    rw [h1.1] at h3
    exact h k (by omega) h3
theorem tks_end {σ : hs_S} {e : Int} (h : TKs σ) (h0 : 0 ≤ σ 16 3) : TKs (hs_ss (hs_ss (hs_ss σ 17 (σ 16 3).toNat 0) 18 (σ 16 3).toNat e) 16 3 (σ 16 3 + 1)) := by
  intro k hk h3
  have hk : (k : Int) < σ 16 3 + 1 := hk
  show σ 19 k ≤ 7
  have h3 : hs_up (σ 17) (σ 16 3).toNat 0 k = 3 := h3
  by_cases q : k = (σ 16 3).toNat
  · rw [q, hs_up_same] at h3
    exact absurd h3 (by decide)
  · rw [hs_up_ne q] at h3
    exact h k (by omega) h3
theorem ot_num {σ σ1 : hs_S} {v : Int} (hk : ∀ c j : Nat, c ≠ 16 → σ1 c j = σ c j) (he : σ1 16 3 = σ 16 3) : OT σ (hs_ss (hs_ss σ1 17 (σ1 16 3).toNat 2) 19 (σ1 16 3).toNat v) := by
  rw [he]
  refine ⟨fun k hne => ?_, fun h => ?_⟩
  · simp [hs_ss, hs_up, hne, hk 17 k (by decide), hk 19 k (by decide)]
  · simp [hs_ss, hs_up] at h
theorem ot_let {σ σ1 : hs_S} {v : Int} (hk : ∀ c j : Nat, c ≠ 16 → σ1 c j = σ c j) (he : σ1 16 3 = σ 16 3) (hv : v ≤ 7) : OT σ (hs_ss (hs_ss σ1 17 (σ1 16 3).toNat 3) 19 (σ1 16 3).toNat v) := by
  rw [he]
  refine ⟨fun k hne => ?_, fun h => ?_⟩
  · simp [hs_ss, hs_up, hne, hk 17 k (by decide), hk 19 k (by decide)]
  · simp [hs_ss, hs_up]; exact hv
theorem ot_knd {σ σ1 : hs_S} {v : Int} (hk : ∀ c j : Nat, c ≠ 16 → σ1 c j = σ c j) (he : σ1 16 3 = σ 16 3) (hv : v ≠ 3) : OT σ (hs_ss σ1 17 (σ1 16 3).toNat v) := by
  rw [he]
  refine ⟨fun k hne => ?_, fun h => ?_⟩
  · simp [hs_ss, hs_up, hne, hk 17 k (by decide), hk 19 k (by decide)]
  · simp [hs_ss, hs_up] at h; exact absurd h hv
theorem ot_st {σ σ1 : hs_S} {k : Nat} {v : Int} (h : OT (hs_ss σ 18 k v) σ1) : OT σ σ1 := h
theorem ot_sg {σ : hs_S} {k : Nat} {v w x : Int} (hv : w ≠ 3) : OT σ (hs_ss (hs_ss (hs_ss σ 18 k v) 17 (σ 16 3).toNat w) 16 4 x) := by
  refine ⟨fun i hne => ?_, fun h => ?_⟩
  · simp [hs_ss, hs_up, hne]
  · simp [hs_ss, hs_up] at h; exact absurd h hv
set_option maxHeartbeats 4000000 in
set_option maxRecDepth 100000 in
theorem c_X7_isSmallLetter (l : Launch) (a : Int) (ha : hs_R a) : hs_Met l yX7_isSmallLetter cX7_isSmallLetter 1 (some .boolean) 1 SHX (fun ad => [vI a]) (fun σ => GX σ σ) (hs_PI (fun σ z σ1 => σ = σ1 ∧ (z = 0 ∨ z = 1) ∧ (z = 1 ↔ 97 ≤ a ∧ a ≤ 122))) := by
  refine hs_from pfX7_isSmallLetter (fun _ => Nat.le_of_ble_eq_true rfl) ?_
  intro p e s m args below meth c D dA ad A σ C hpre
  have C : hs_C p s m args meth c D dA SHX ad A 1 cX7_isSmallLetter RX7 (some .boolean) := C
  have g0 := hpre
  show hs_Wd p l e 1 s m args below meth c D dA SHX ad A 1 (hs_PI (fun σ z σ1 => σ = σ1 ∧ (z = 0 ∨ z = 1) ∧ (z = 1 ↔ 97 ≤ a ∧ a ≤ 122)) σ) 0 [(0, vI a)] [] σ
  refine s_iload_n (pc := 0) C dX7_isSmallLetter_0 0 rfl ?_
  refine s_bipush (pc := 1) C dX7_isSmallLetter_1 (by decide) ?_
  refine s_icmp_lt (pc := 3) C (tgt := 16) dX7_isSmallLetter_3 (by decide) ⟨by omega, by omega⟩ ⟨by decide, by decide⟩ (fun h3 => ?_) (fun h3 => ?_)
  · skip
    refine s_iconst (pc := 16) C dX7_isSmallLetter_16 ?_
    refine s_zret (pc := 17) C (by omega) dX7_isSmallLetter_17 ?_
    refine ⟨_, rfl, ?_⟩
    exact ⟨rfl, by first | omega | assumption | (constructor <;> omega) | (refine ⟨⟨?_, ?_⟩, ?_⟩ <;> omega) | (simp [hs_ss, hs_up]; omega) | (simp [hs_ss, hs_up]; done)⟩
  · skip
    refine s_iload_n (pc := 6) C dX7_isSmallLetter_6 0 rfl ?_
    refine s_bipush (pc := 7) C dX7_isSmallLetter_7 (by decide) ?_
    refine s_icmp_gt (pc := 9) C (tgt := 16) dX7_isSmallLetter_9 (by decide) ⟨by omega, by omega⟩ ⟨by decide, by decide⟩ (fun h9 => ?_) (fun h9 => ?_)
    · skip
      refine s_iconst (pc := 16) C dX7_isSmallLetter_16 ?_
      refine s_zret (pc := 17) C (by omega) dX7_isSmallLetter_17 ?_
      refine ⟨_, rfl, ?_⟩
      exact ⟨rfl, by first | omega | assumption | (constructor <;> omega) | (refine ⟨⟨?_, ?_⟩, ?_⟩ <;> omega) | (simp [hs_ss, hs_up]; omega) | (simp [hs_ss, hs_up]; done)⟩
    · skip
      refine s_iconst (pc := 12) C dX7_isSmallLetter_12 ?_
      refine s_goto (pc := 13) C (tgt := 17) dX7_isSmallLetter_13 (by decide) ?_
      refine s_zret (pc := 17) C (by omega) dX7_isSmallLetter_17 ?_
      refine ⟨_, rfl, ?_⟩
      exact ⟨rfl, by first | omega | assumption | (constructor <;> omega) | (refine ⟨⟨?_, ?_⟩, ?_⟩ <;> omega) | (simp [hs_ss, hs_up]; omega) | (simp [hs_ss, hs_up]; done)⟩
set_option maxHeartbeats 4000000 in
set_option maxRecDepth 100000 in
theorem c_X7_isDigit (l : Launch) (a : Int) (ha : hs_R a) : hs_Met l yX7_isDigit cX7_isDigit 1 (some .boolean) 1 SHX (fun ad => [vI a]) (fun σ => GX σ σ) (hs_PI (fun σ z σ1 => σ = σ1 ∧ (z = 0 ∨ z = 1) ∧ (z = 1 ↔ 48 ≤ a ∧ a ≤ 57))) := by
  refine hs_from pfX7_isDigit (fun _ => Nat.le_of_ble_eq_true rfl) ?_
  intro p e s m args below meth c D dA ad A σ C hpre
  have C : hs_C p s m args meth c D dA SHX ad A 1 cX7_isDigit RX7 (some .boolean) := C
  have g0 := hpre
  show hs_Wd p l e 1 s m args below meth c D dA SHX ad A 1 (hs_PI (fun σ z σ1 => σ = σ1 ∧ (z = 0 ∨ z = 1) ∧ (z = 1 ↔ 48 ≤ a ∧ a ≤ 57)) σ) 0 [(0, vI a)] [] σ
  refine s_iload_n (pc := 0) C dX7_isDigit_0 0 rfl ?_
  refine s_bipush (pc := 1) C dX7_isDigit_1 (by decide) ?_
  refine s_icmp_lt (pc := 3) C (tgt := 16) dX7_isDigit_3 (by decide) ⟨by omega, by omega⟩ ⟨by decide, by decide⟩ (fun h3 => ?_) (fun h3 => ?_)
  · skip
    refine s_iconst (pc := 16) C dX7_isDigit_16 ?_
    refine s_zret (pc := 17) C (by omega) dX7_isDigit_17 ?_
    refine ⟨_, rfl, ?_⟩
    exact ⟨rfl, by first | omega | assumption | (constructor <;> omega) | (refine ⟨⟨?_, ?_⟩, ?_⟩ <;> omega) | (simp [hs_ss, hs_up]; omega) | (simp [hs_ss, hs_up]; done)⟩
  · skip
    refine s_iload_n (pc := 6) C dX7_isDigit_6 0 rfl ?_
    refine s_bipush (pc := 7) C dX7_isDigit_7 (by decide) ?_
    refine s_icmp_gt (pc := 9) C (tgt := 16) dX7_isDigit_9 (by decide) ⟨by omega, by omega⟩ ⟨by decide, by decide⟩ (fun h9 => ?_) (fun h9 => ?_)
    · skip
      refine s_iconst (pc := 16) C dX7_isDigit_16 ?_
      refine s_zret (pc := 17) C (by omega) dX7_isDigit_17 ?_
      refine ⟨_, rfl, ?_⟩
      exact ⟨rfl, by first | omega | assumption | (constructor <;> omega) | (refine ⟨⟨?_, ?_⟩, ?_⟩ <;> omega) | (simp [hs_ss, hs_up]; omega) | (simp [hs_ss, hs_up]; done)⟩
    · skip
      refine s_iconst (pc := 12) C dX7_isDigit_12 ?_
      refine s_goto (pc := 13) C (tgt := 17) dX7_isDigit_13 (by decide) ?_
      refine s_zret (pc := 17) C (by omega) dX7_isDigit_17 ?_
      refine ⟨_, rfl, ?_⟩
      exact ⟨rfl, by first | omega | assumption | (constructor <;> omega) | (refine ⟨⟨?_, ?_⟩, ?_⟩ <;> omega) | (simp [hs_ss, hs_up]; omega) | (simp [hs_ss, hs_up]; done)⟩
set_option maxHeartbeats 4000000 in
set_option maxRecDepth 100000 in
theorem c_X7_isWord (l : Launch) (j : Nat) (hj : j < 7) (u : Int) (hu : 0 ≤ u ∧ u ≤ 500) : hs_Met l yX7_isWord cX7_isWord 5 (some .boolean) 5 SHX (fun ad => [.ref (ad 16), .ref (ad (1000 + j)), .ref (ad 1), vI u]) (fun σ => GX σ σ) (hs_PI (fun σ z σ1 => σ = σ1 ∧ (z = 0 ∨ z = 1))) := by
  refine hs_from pfX7_isWord (fun _ => Nat.le_of_ble_eq_true rfl) ?_
  intro p e s m args below meth c D dA ad A σ C hpre
  have C : hs_C p s m args meth c D dA SHX ad A 5 cX7_isWord RX7 (some .boolean) := C
  have g0 := hpre
  have hn := hs_SLb hj
  have bn : (0 : Int) ≤ σ 16 4 ∧ σ 16 4 ≤ 500 := g0.1 16 4
  show hs_Wd p l e 5 s m args below meth c D dA SHX ad A 5 (hs_PI (fun σ z σ1 => σ = σ1 ∧ (z = 0 ∨ z = 1)) σ) 0 [(0, .ref (ad 16)), (1, .ref (ad (1000 + j))), (2, .ref (ad 1)), (3, vI u)] [] σ
  refine s_aload_n (pc := 0) C dX7_isWord_0 0 rfl ?_
  refine s_geti (q := 16) (ci := 7) (N := 5) (CN := RX7) (T := TX7) (pc := 1) C 4 dX7_isWord_1 wlX7_31 rfl rfl rfl wfX7 (by decide) rfl (σ 16 4) rfl ?_
  have b1 : (0 : Int) ≤ σ 16 4 ∧ σ 16 4 ≤ 500 := g0.1 16 4
  refine s_iload_n (pc := 4) C dX7_isWord_4 3 rfl ?_
  refine s_isub (pc := 5) C dX7_isWord_5 ?_
  refine s_aload_n (pc := 6) C dX7_isWord_6 1 rfl ?_
  refine s_callVSi (pc := 7) C (c_J0_length_8abf5 l j hj) hj rfl [] [vI ((σ 16 4) - u)] rfl rfl dX7_isWord_7 wlX7_73 wiJ0_length_8abf5 weJ0_length_8abf5 wcJ0_length_8abf5 wnJ0 noJ0_length_8abf5 (by decide) (by decide) (Nat.le_of_ble_eq_true rfl) (by first | omega | assumption | (constructor <;> omega) | (refine ⟨⟨?_, ?_⟩, ?_⟩ <;> omega) | (simp [hs_ss, hs_up]; omega) | (simp [hs_ss, hs_up]; done)) ?_
  rintro _ _ ⟨rfl, rfl⟩
  show hs_Wd _ _ _ _ _ _ _ _ _ _ _ _ _ _ _ _ _ 10 _ [vI (hs_sl j), vI ((σ 16 4) - u)] σ
  refine s_icmp_eq (pc := 10) C (tgt := 15) dX7_isWord_10 (by decide) ⟨by omega, by omega⟩ ⟨by omega, by omega⟩ (fun h10 => ?_) (fun h10 => ?_)
  · skip
    refine s_iconst (pc := 15) C dX7_isWord_15 ?_
    refine s_istore (pc := 16) C [(4, vI 0), (0, .ref (ad 16)), (1, .ref (ad (1000 + j))), (2, .ref (ad 1)), (3, vI u)] dX7_isWord_16 (by decide) rfl ?_
    refine s_sub C [1, 2, 3, 4, 0] [(0, .ref (ad 16)), (1, .ref (ad (1000 + j))), (2, .ref (ad 1)), (3, vI u), (4, vI 0)] rfl ?_
    have hi18 : 0 ≤ (0 : Int) ∧ (0 : Int) ≤ 5 := (by first | omega | assumption | (constructor <;> omega) | (refine ⟨⟨?_, ?_⟩, ?_⟩ <;> omega) | (simp [hs_ss, hs_up]; omega) | (simp [hs_ss, hs_up]; done))
    refine hs_loop (α := Int) (fun x_ => (0 ≤ x_ ∧ x_ ≤ 5) → hs_Wd p l e 5 s m args below meth c D dA SHX ad A 5 (hs_PI (fun σ z σ1 => σ = σ1 ∧ (z = 0 ∨ z = 1)) σ) 18 [(0, .ref (ad 16)), (1, .ref (ad (1000 + j))), (2, .ref (ad 1)), (3, vI u), (4, vI x_)] [] σ) (fun x_ => (6 - x_).toNat) ?_ (0) hi18
    rintro k ih18 hinv
    replace hinv : 0 ≤ k ∧ k ≤ 5 := hinv
    show hs_Wd p l e 5 s m args below meth c D dA SHX ad A 5 (hs_PI (fun σ z σ1 => σ = σ1 ∧ (z = 0 ∨ z = 1)) σ) 18 [(0, .ref (ad 16)), (1, .ref (ad (1000 + j))), (2, .ref (ad 1)), (3, vI u), (4, vI k)] [] σ
    refine s_iload (pc := 18) C dX7_isWord_18 4 rfl ?_
    refine s_aload_n (pc := 20) C dX7_isWord_20 1 rfl ?_
    refine s_callVSi (pc := 21) C (c_J0_length_8abf5 l j hj) hj rfl [] [vI k] rfl rfl dX7_isWord_21 wlX7_73 wiJ0_length_8abf5 weJ0_length_8abf5 wcJ0_length_8abf5 wnJ0 noJ0_length_8abf5 (by decide) (by decide) (Nat.le_of_ble_eq_true rfl) (by first | omega | assumption | (constructor <;> omega) | (refine ⟨⟨?_, ?_⟩, ?_⟩ <;> omega) | (simp [hs_ss, hs_up]; omega) | (simp [hs_ss, hs_up]; done)) ?_
    rintro _ _ ⟨rfl, rfl⟩
    show hs_Wd _ _ _ _ _ _ _ _ _ _ _ _ _ _ _ _ _ 24 _ [vI (hs_sl j), vI k] σ
    refine s_icmp_ge (pc := 24) C (tgt := 50) dX7_isWord_24 (by decide) ⟨by omega, by omega⟩ ⟨by omega, by omega⟩ (fun h24 => ?_) (fun h24 => ?_)
    · skip
      refine s_iconst (pc := 50) C dX7_isWord_50 ?_
      refine s_zret (pc := 51) C (by omega) dX7_isWord_51 ?_
      refine ⟨_, rfl, ?_⟩
      exact ⟨rfl, by first | omega | assumption | (constructor <;> omega) | (refine ⟨⟨?_, ?_⟩, ?_⟩ <;> omega) | (simp [hs_ss, hs_up]; omega) | (simp [hs_ss, hs_up]; done)⟩
    · skip
      refine s_aload_n (pc := 27) C dX7_isWord_27 2 rfl ?_
      refine s_iload_n (pc := 28) C dX7_isWord_28 3 rfl ?_
      refine s_iload (pc := 29) C dX7_isWord_29 4 rfl ?_
      refine s_iadd (pc := 31) C dX7_isWord_31 ?_
      refine s_bald (q := 1) (n := 500) (pc := 32) C (σ 1 ((u + k).toNat)) rfl dX7_isWord_32 rfl (by omega) (by omega) (by decide) ?_
      have b32 : (-128 : Int) ≤ σ 1 ((u + k).toNat) ∧ σ 1 ((u + k).toNat) ≤ 127 := g0.1 1 ((u + k).toNat)
      refine s_aload_n (pc := 33) C dX7_isWord_33 1 rfl ?_
      refine s_iload (pc := 34) C dX7_isWord_34 4 rfl ?_
      refine s_callVSi (pc := 36) C (c_J0_charAt_5068e l j hj k (by first | omega | assumption | (constructor <;> omega) | (refine ⟨⟨?_, ?_⟩, ?_⟩ <;> omega) | (simp [hs_ss, hs_up]; omega) | (simp [hs_ss, hs_up]; done))) hj rfl [vI k] [vI (σ 1 ((u + k).toNat))] rfl rfl dX7_isWord_36 wlX7_79 wiJ0_charAt_5068e weJ0_charAt_5068e wcJ0_charAt_5068e wnJ0 noJ0_charAt_5068e (by decide) (by decide) (Nat.le_of_ble_eq_true rfl) (by first | omega | assumption | (constructor <;> omega) | (refine ⟨⟨?_, ?_⟩, ?_⟩ <;> omega) | (simp [hs_ss, hs_up]; omega) | (simp [hs_ss, hs_up]; done)) ?_
      rintro z36 _ ⟨hR36, rfl⟩
      show hs_Wd _ _ _ _ _ _ _ _ _ _ _ _ _ _ _ _ _ 39 _ [vI z36, vI (σ 1 ((u + k).toNat))] σ
      refine s_icmp_eq (pc := 39) C (tgt := 44) dX7_isWord_39 (by decide) ⟨by omega, by omega⟩ ⟨by omega, by omega⟩ (fun h39 => ?_) (fun h39 => ?_)
      · skip
        refine s_iinc (pc := 44) C [(4, vI (k + 1)), (0, .ref (ad 16)), (1, .ref (ad (1000 + j))), (2, .ref (ad 1)), (3, vI u)] dX7_isWord_44 4 rfl (by decide) rfl ?_
        refine s_goto (pc := 47) C (tgt := 18) dX7_isWord_47 (by decide) ?_
        refine s_sub C [1, 2, 3, 4, 0] [(0, .ref (ad 16)), (1, .ref (ad (1000 + j))), (2, .ref (ad 1)), (3, vI u), (4, vI (k + 1))] rfl ?_
        have hi18 : 0 ≤ (k + 1) ∧ (k + 1) ≤ 5 := (by first | omega | assumption | (constructor <;> omega) | (refine ⟨⟨?_, ?_⟩, ?_⟩ <;> omega) | (simp [hs_ss, hs_up]; omega) | (simp [hs_ss, hs_up]; done))
        exact ih18 (k + 1) (by first | omega | (simp only []; omega)) hi18
      · skip
        refine s_iconst (pc := 42) C dX7_isWord_42 ?_
        refine s_zret (pc := 43) C (by omega) dX7_isWord_43 ?_
        refine ⟨_, rfl, ?_⟩
        exact ⟨rfl, by first | omega | assumption | (constructor <;> omega) | (refine ⟨⟨?_, ?_⟩, ?_⟩ <;> omega) | (simp [hs_ss, hs_up]; omega) | (simp [hs_ss, hs_up]; done)⟩
  · skip
    refine s_iconst (pc := 13) C dX7_isWord_13 ?_
    refine s_zret (pc := 14) C (by omega) dX7_isWord_14 ?_
    refine ⟨_, rfl, ?_⟩
    exact ⟨rfl, by first | omega | assumption | (constructor <;> omega) | (refine ⟨⟨?_, ?_⟩, ?_⟩ <;> omega) | (simp [hs_ss, hs_up]; omega) | (simp [hs_ss, hs_up]; done)⟩
set_option maxHeartbeats 4000000 in
set_option maxRecDepth 100000 in
theorem c_X7_kindOfWord (l : Launch) (u : Int) (hu : 0 ≤ u ∧ u ≤ 500) : hs_Met l yX7_kindOfWord cX7_kindOfWord 3 (some .int) 6 SHX (fun ad => [.ref (ad 16), .ref (ad 1), vI u]) (fun σ => GX σ σ) (hs_PI (fun σ z σ1 => σ = σ1 ∧ 1 ≤ z ∧ z ≤ 10 ∧ z ≠ 3)) := by
  refine hs_from pfX7_kindOfWord (fun _ => Nat.le_of_ble_eq_true rfl) ?_
  intro p e s m args below meth c D dA ad A σ C hpre
  have C : hs_C p s m args meth c D dA SHX ad A 3 cX7_kindOfWord RX7 (some .int) := C
  have g0 := hpre
  show hs_Wd p l e 6 s m args below meth c D dA SHX ad A 3 (hs_PI (fun σ z σ1 => σ = σ1 ∧ 1 ≤ z ∧ z ≤ 10 ∧ z ≠ 3) σ) 0 [(0, .ref (ad 16)), (1, .ref (ad 1)), (2, vI u)] [] σ
  refine s_aload_n (pc := 0) C dX7_kindOfWord_0 0 rfl ?_
  refine s_ldcS (pc := 1) C 0 (by decide) rfl rfl dX7_kindOfWord_1 ?_
  refine s_aload_n (pc := 3) C dX7_kindOfWord_3 1 rfl ?_
  refine s_iload_n (pc := 4) C dX7_kindOfWord_4 2 rfl ?_
  refine s_callVi (pc := 5) C (c_X7_isWord l 0 (by decide) u (by first | omega | assumption | (constructor <;> omega) | (refine ⟨⟨?_, ?_⟩, ?_⟩ <;> omega) | (simp [hs_ss, hs_up]; omega) | (simp [hs_ss, hs_up]; done))) [.ref (ad (1000 + 0)), .ref (ad 1), vI u] [] rfl rfl dX7_kindOfWord_5 wlX7_57 wiX7_isWord weX7_isWord wcX7_isWord wnX7 noX7_isWord (by decide) (by decide) (Nat.le_of_ble_eq_true rfl) (gx_self g0) rfl rfl ?_
  rintro z5 _ ⟨rfl, k5⟩
  show hs_Wd _ _ _ _ _ _ _ _ _ _ _ _ _ _ _ _ _ 8 _ [vI z5] σ
  refine s_if_eq (pc := 8) C (tgt := 13) dX7_kindOfWord_8 (by decide) ⟨by omega, by omega⟩ (fun h8 => ?_) (fun h8 => ?_)
  · skip
    refine s_aload_n (pc := 13) C dX7_kindOfWord_13 0 rfl ?_
    refine s_ldcS (pc := 14) C 1 (by decide) rfl rfl dX7_kindOfWord_14 ?_
    refine s_aload_n (pc := 16) C dX7_kindOfWord_16 1 rfl ?_
    refine s_iload_n (pc := 17) C dX7_kindOfWord_17 2 rfl ?_
    refine s_callVi (pc := 18) C (c_X7_isWord l 1 (by decide) u (by first | omega | assumption | (constructor <;> omega) | (refine ⟨⟨?_, ?_⟩, ?_⟩ <;> omega) | (simp [hs_ss, hs_up]; omega) | (simp [hs_ss, hs_up]; done))) [.ref (ad (1000 + 1)), .ref (ad 1), vI u] [] rfl rfl dX7_kindOfWord_18 wlX7_57 wiX7_isWord weX7_isWord wcX7_isWord wnX7 noX7_isWord (by decide) (by decide) (Nat.le_of_ble_eq_true rfl) (gx_self g0) rfl rfl ?_
    rintro z18 _ ⟨rfl, k18⟩
    show hs_Wd _ _ _ _ _ _ _ _ _ _ _ _ _ _ _ _ _ 21 _ [vI z18] σ
    refine s_if_eq (pc := 21) C (tgt := 26) dX7_kindOfWord_21 (by decide) ⟨by omega, by omega⟩ (fun h21 => ?_) (fun h21 => ?_)
    · skip
      refine s_aload_n (pc := 26) C dX7_kindOfWord_26 0 rfl ?_
      refine s_ldcS (pc := 27) C 2 (by decide) rfl rfl dX7_kindOfWord_27 ?_
      refine s_aload_n (pc := 29) C dX7_kindOfWord_29 1 rfl ?_
      refine s_iload_n (pc := 30) C dX7_kindOfWord_30 2 rfl ?_
      refine s_callVi (pc := 31) C (c_X7_isWord l 2 (by decide) u (by first | omega | assumption | (constructor <;> omega) | (refine ⟨⟨?_, ?_⟩, ?_⟩ <;> omega) | (simp [hs_ss, hs_up]; omega) | (simp [hs_ss, hs_up]; done))) [.ref (ad (1000 + 2)), .ref (ad 1), vI u] [] rfl rfl dX7_kindOfWord_31 wlX7_57 wiX7_isWord weX7_isWord wcX7_isWord wnX7 noX7_isWord (by decide) (by decide) (Nat.le_of_ble_eq_true rfl) (gx_self g0) rfl rfl ?_
      rintro z31 _ ⟨rfl, k31⟩
      show hs_Wd _ _ _ _ _ _ _ _ _ _ _ _ _ _ _ _ _ 34 _ [vI z31] σ
      refine s_if_eq (pc := 34) C (tgt := 40) dX7_kindOfWord_34 (by decide) ⟨by omega, by omega⟩ (fun h34 => ?_) (fun h34 => ?_)
      · skip
        refine s_aload_n (pc := 40) C dX7_kindOfWord_40 0 rfl ?_
        refine s_ldcS (pc := 41) C 3 (by decide) rfl rfl dX7_kindOfWord_41 ?_
        refine s_aload_n (pc := 43) C dX7_kindOfWord_43 1 rfl ?_
        refine s_iload_n (pc := 44) C dX7_kindOfWord_44 2 rfl ?_
        refine s_callVi (pc := 45) C (c_X7_isWord l 3 (by decide) u (by first | omega | assumption | (constructor <;> omega) | (refine ⟨⟨?_, ?_⟩, ?_⟩ <;> omega) | (simp [hs_ss, hs_up]; omega) | (simp [hs_ss, hs_up]; done))) [.ref (ad (1000 + 3)), .ref (ad 1), vI u] [] rfl rfl dX7_kindOfWord_45 wlX7_57 wiX7_isWord weX7_isWord wcX7_isWord wnX7 noX7_isWord (by decide) (by decide) (Nat.le_of_ble_eq_true rfl) (gx_self g0) rfl rfl ?_
        rintro z45 _ ⟨rfl, k45⟩
        show hs_Wd _ _ _ _ _ _ _ _ _ _ _ _ _ _ _ _ _ 48 _ [vI z45] σ
        refine s_if_eq (pc := 48) C (tgt := 54) dX7_kindOfWord_48 (by decide) ⟨by omega, by omega⟩ (fun h48 => ?_) (fun h48 => ?_)
        · skip
          refine s_aload_n (pc := 54) C dX7_kindOfWord_54 0 rfl ?_
          refine s_ldcS (pc := 55) C 4 (by decide) rfl rfl dX7_kindOfWord_55 ?_
          refine s_aload_n (pc := 57) C dX7_kindOfWord_57 1 rfl ?_
          refine s_iload_n (pc := 58) C dX7_kindOfWord_58 2 rfl ?_
          refine s_callVi (pc := 59) C (c_X7_isWord l 4 (by decide) u (by first | omega | assumption | (constructor <;> omega) | (refine ⟨⟨?_, ?_⟩, ?_⟩ <;> omega) | (simp [hs_ss, hs_up]; omega) | (simp [hs_ss, hs_up]; done))) [.ref (ad (1000 + 4)), .ref (ad 1), vI u] [] rfl rfl dX7_kindOfWord_59 wlX7_57 wiX7_isWord weX7_isWord wcX7_isWord wnX7 noX7_isWord (by decide) (by decide) (Nat.le_of_ble_eq_true rfl) (gx_self g0) rfl rfl ?_
          rintro z59 _ ⟨rfl, k59⟩
          show hs_Wd _ _ _ _ _ _ _ _ _ _ _ _ _ _ _ _ _ 62 _ [vI z59] σ
          refine s_if_eq (pc := 62) C (tgt := 68) dX7_kindOfWord_62 (by decide) ⟨by omega, by omega⟩ (fun h62 => ?_) (fun h62 => ?_)
          · skip
            refine s_aload_n (pc := 68) C dX7_kindOfWord_68 0 rfl ?_
            refine s_ldcS (pc := 69) C 5 (by decide) rfl rfl dX7_kindOfWord_69 ?_
            refine s_aload_n (pc := 71) C dX7_kindOfWord_71 1 rfl ?_
            refine s_iload_n (pc := 72) C dX7_kindOfWord_72 2 rfl ?_
            refine s_callVi (pc := 73) C (c_X7_isWord l 5 (by decide) u (by first | omega | assumption | (constructor <;> omega) | (refine ⟨⟨?_, ?_⟩, ?_⟩ <;> omega) | (simp [hs_ss, hs_up]; omega) | (simp [hs_ss, hs_up]; done))) [.ref (ad (1000 + 5)), .ref (ad 1), vI u] [] rfl rfl dX7_kindOfWord_73 wlX7_57 wiX7_isWord weX7_isWord wcX7_isWord wnX7 noX7_isWord (by decide) (by decide) (Nat.le_of_ble_eq_true rfl) (gx_self g0) rfl rfl ?_
            rintro z73 _ ⟨rfl, k73⟩
            show hs_Wd _ _ _ _ _ _ _ _ _ _ _ _ _ _ _ _ _ 76 _ [vI z73] σ
            refine s_if_eq (pc := 76) C (tgt := 82) dX7_kindOfWord_76 (by decide) ⟨by omega, by omega⟩ (fun h76 => ?_) (fun h76 => ?_)
            · skip
              refine s_aload_n (pc := 82) C dX7_kindOfWord_82 0 rfl ?_
              refine s_ldcS (pc := 83) C 6 (by decide) rfl rfl dX7_kindOfWord_83 ?_
              refine s_aload_n (pc := 85) C dX7_kindOfWord_85 1 rfl ?_
              refine s_iload_n (pc := 86) C dX7_kindOfWord_86 2 rfl ?_
              refine s_callVi (pc := 87) C (c_X7_isWord l 6 (by decide) u (by first | omega | assumption | (constructor <;> omega) | (refine ⟨⟨?_, ?_⟩, ?_⟩ <;> omega) | (simp [hs_ss, hs_up]; omega) | (simp [hs_ss, hs_up]; done))) [.ref (ad (1000 + 6)), .ref (ad 1), vI u] [] rfl rfl dX7_kindOfWord_87 wlX7_57 wiX7_isWord weX7_isWord wcX7_isWord wnX7 noX7_isWord (by decide) (by decide) (Nat.le_of_ble_eq_true rfl) (gx_self g0) rfl rfl ?_
              rintro z87 _ ⟨rfl, k87⟩
              show hs_Wd _ _ _ _ _ _ _ _ _ _ _ _ _ _ _ _ _ 90 _ [vI z87] σ
              refine s_if_eq (pc := 90) C (tgt := 98) dX7_kindOfWord_90 (by decide) ⟨by omega, by omega⟩ (fun h90 => ?_) (fun h90 => ?_)
              · skip
                refine s_iconst (pc := 98) C dX7_kindOfWord_98 ?_
                refine s_iret (pc := 99) C dX7_kindOfWord_99 ?_
                refine ⟨_, rfl, ?_⟩
                exact ⟨rfl, by first | omega | assumption | (constructor <;> omega) | (refine ⟨⟨?_, ?_⟩, ?_⟩ <;> omega) | (simp [hs_ss, hs_up]; omega) | (simp [hs_ss, hs_up]; done)⟩
              · skip
                refine s_bipush (pc := 93) C dX7_kindOfWord_93 (by decide) ?_
                refine s_goto (pc := 95) C (tgt := 99) dX7_kindOfWord_95 (by decide) ?_
                refine s_iret (pc := 99) C dX7_kindOfWord_99 ?_
                refine ⟨_, rfl, ?_⟩
                exact ⟨rfl, by first | omega | assumption | (constructor <;> omega) | (refine ⟨⟨?_, ?_⟩, ?_⟩ <;> omega) | (simp [hs_ss, hs_up]; omega) | (simp [hs_ss, hs_up]; done)⟩
            · skip
              refine s_bipush (pc := 79) C dX7_kindOfWord_79 (by decide) ?_
              refine s_iret (pc := 81) C dX7_kindOfWord_81 ?_
              refine ⟨_, rfl, ?_⟩
              exact ⟨rfl, by first | omega | assumption | (constructor <;> omega) | (refine ⟨⟨?_, ?_⟩, ?_⟩ <;> omega) | (simp [hs_ss, hs_up]; omega) | (simp [hs_ss, hs_up]; done)⟩
          · skip
            refine s_bipush (pc := 65) C dX7_kindOfWord_65 (by decide) ?_
            refine s_iret (pc := 67) C dX7_kindOfWord_67 ?_
            refine ⟨_, rfl, ?_⟩
            exact ⟨rfl, by first | omega | assumption | (constructor <;> omega) | (refine ⟨⟨?_, ?_⟩, ?_⟩ <;> omega) | (simp [hs_ss, hs_up]; omega) | (simp [hs_ss, hs_up]; done)⟩
        · skip
          refine s_bipush (pc := 51) C dX7_kindOfWord_51 (by decide) ?_
          refine s_iret (pc := 53) C dX7_kindOfWord_53 ?_
          refine ⟨_, rfl, ?_⟩
          exact ⟨rfl, by first | omega | assumption | (constructor <;> omega) | (refine ⟨⟨?_, ?_⟩, ?_⟩ <;> omega) | (simp [hs_ss, hs_up]; omega) | (simp [hs_ss, hs_up]; done)⟩
      · skip
        refine s_bipush (pc := 37) C dX7_kindOfWord_37 (by decide) ?_
        refine s_iret (pc := 39) C dX7_kindOfWord_39 ?_
        refine ⟨_, rfl, ?_⟩
        exact ⟨rfl, by first | omega | assumption | (constructor <;> omega) | (refine ⟨⟨?_, ?_⟩, ?_⟩ <;> omega) | (simp [hs_ss, hs_up]; omega) | (simp [hs_ss, hs_up]; done)⟩
    · skip
      refine s_iconst (pc := 24) C dX7_kindOfWord_24 ?_
      refine s_iret (pc := 25) C dX7_kindOfWord_25 ?_
      refine ⟨_, rfl, ?_⟩
      exact ⟨rfl, by first | omega | assumption | (constructor <;> omega) | (refine ⟨⟨?_, ?_⟩, ?_⟩ <;> omega) | (simp [hs_ss, hs_up]; omega) | (simp [hs_ss, hs_up]; done)⟩
  · skip
    refine s_iconst (pc := 11) C dX7_kindOfWord_11 ?_
    refine s_iret (pc := 12) C dX7_kindOfWord_12 ?_
    refine ⟨_, rfl, ?_⟩
    exact ⟨rfl, by first | omega | assumption | (constructor <;> omega) | (refine ⟨⟨?_, ?_⟩, ?_⟩ <;> omega) | (simp [hs_ss, hs_up]; omega) | (simp [hs_ss, hs_up]; done)⟩
set_option maxHeartbeats 4000000 in
set_option maxRecDepth 100000 in
theorem c_X7_takeNumber (l : Launch) (q : Int) (hq : 0 ≤ q ∧ q ≤ 500) : hs_Met l yX7_takeNumber cX7_takeNumber 4 none 2 SHX (fun ad => [.ref (ad 16), .ref (ad 1), vI q]) (fun σ => GX σ σ ∧ σ 16 3 ≤ 500) (hs_PV (fun σ σ1 => GX σ σ1 ∧ FRM PT1 σ σ1 ∧ OT σ σ1)) := by
  refine hs_from pfX7_takeNumber (fun _ => Nat.le_of_ble_eq_true rfl) ?_
  intro p e s m args below meth c D dA ad A σ C hpre
  have C : hs_C p s m args meth c D dA SHX ad A 4 cX7_takeNumber RX7 none := C
  obtain ⟨g0, hpre⟩ := hpre
  have f0 : FRM PT1 σ σ := frm_rf
  show hs_Wd p l e 2 s m args below meth c D dA SHX ad A 4 (hs_PV (fun σ σ1 => GX σ σ1 ∧ FRM PT1 σ σ1 ∧ OT σ σ1) σ) 0 [(0, .ref (ad 16)), (1, .ref (ad 1)), (2, vI q)] [] σ
  refine s_iconst (pc := 0) C dX7_takeNumber_0 ?_
  refine s_istore_n (pc := 1) C [(3, vI 0), (0, .ref (ad 16)), (1, .ref (ad 1)), (2, vI q)] dX7_takeNumber_1 (by decide) rfl ?_
  refine s_sub C [1, 2, 3, 0] [(0, .ref (ad 16)), (1, .ref (ad 1)), (2, vI q), (3, vI 0)] rfl ?_
  have hi2 : GX σ σ ∧ FRM PT1 σ σ ∧ 0 ≤ (0 : Int) ∧ (0 : Int) ≤ 1000 ∧ (∀ c j : Nat, c ≠ 16 → σ c j = σ c j) := ⟨g0, f0, ⟨by omega, by omega, fun _ _ _ => rfl⟩⟩
  refine hs_loop (α := Int × hs_S) (fun x_ => (GX σ x_.2 ∧ FRM PT1 σ x_.2 ∧ 0 ≤ x_.1 ∧ x_.1 ≤ 1000 ∧ (∀ c j : Nat, c ≠ 16 → x_.2 c j = σ c j)) → hs_Wd p l e 2 s m args below meth c D dA SHX ad A 4 (hs_PV (fun σ σ1 => GX σ σ1 ∧ FRM PT1 σ σ1 ∧ OT σ σ1) σ) 2 [(0, .ref (ad 16)), (1, .ref (ad 1)), (2, vI q), (3, vI x_.1)] [] x_.2) (fun x_ => (501 - x_.2 16 4).toNat) ?_ (0, σ) hi2
  rintro ⟨v, σ1⟩ ih2 hinv
  replace hinv : GX σ σ1 ∧ FRM PT1 σ σ1 ∧ 0 ≤ v ∧ v ≤ 1000 ∧ (∀ c j : Nat, c ≠ 16 → σ1 c j = σ c j) := hinv
  obtain ⟨hg2, hf2, hv2⟩ := hinv
  show hs_Wd p l e 2 s m args below meth c D dA SHX ad A 4 (hs_PV (fun σ σ1 => GX σ σ1 ∧ FRM PT1 σ σ1 ∧ OT σ σ1) σ) 2 [(0, .ref (ad 16)), (1, .ref (ad 1)), (2, vI q), (3, vI v)] [] σ1
  have e163 : σ1 16 3 = σ 16 3 := hf2 16 3 rfl
  obtain ⟨hv0, hv1, hki⟩ := hv2
  refine s_aload_n (pc := 2) C dX7_takeNumber_2 0 rfl ?_
  refine s_geti (q := 16) (ci := 7) (N := 5) (CN := RX7) (T := TX7) (pc := 3) C 4 dX7_takeNumber_3 wlX7_31 rfl rfl rfl wfX7 (by decide) rfl (σ1 16 4) rfl ?_
  have b3 : (0 : Int) ≤ σ1 16 4 ∧ σ1 16 4 ≤ 500 := hg2.1 16 4
  refine s_iload_n (pc := 6) C dX7_takeNumber_6 2 rfl ?_
  refine s_icmp_ge (pc := 7) C (tgt := 56) dX7_takeNumber_7 (by decide) ⟨by omega, by omega⟩ ⟨by omega, by omega⟩ (fun h7 => ?_) (fun h7 => ?_)
  · skip
    refine s_aload_n (pc := 56) C dX7_takeNumber_56 0 rfl ?_
    refine s_getr (q := 16) (ci := 7) (N := 5) (CN := RX7) (T := TX7) (pc := 57) C 0 dX7_takeNumber_57 wlX7_9 rfl rfl rfl wfX7 (by decide) rfl ?_
    refine s_aload_n (pc := 60) C dX7_takeNumber_60 0 rfl ?_
    refine s_geti (q := 16) (ci := 7) (N := 5) (CN := RX7) (T := TX7) (pc := 61) C 3 dX7_takeNumber_61 wlX7_27 rfl rfl rfl wfX7 (by decide) rfl (σ1 16 3) rfl ?_
    have b61 : (0 : Int) ≤ σ1 16 3 ∧ σ1 16 3 ≤ 501 := hg2.1 16 3
    refine s_iconst (pc := 64) C dX7_takeNumber_64 ?_
    refine s_iast (q := 17) (n := 501) (pc := 65) C dX7_takeNumber_65 rfl (by omega) (by omega) (by decide) ?_
    have g65 := gx_set (z := 2) hg2 17 ((σ1 16 3).toNat) rfl (-2147483648) (2147483647) rfl ⟨by omega, by omega⟩
    have f65 := frm_set (P := PT1) (z := 2) hf2 17 ((σ1 16 3).toNat) rfl
    refine s_aload_n (pc := 66) C dX7_takeNumber_66 0 rfl ?_
    refine s_getr (q := 16) (ci := 7) (N := 5) (CN := RX7) (T := TX7) (pc := 67) C 2 dX7_takeNumber_67 wlX7_18 rfl rfl rfl wfX7 (by decide) rfl ?_
    refine s_aload_n (pc := 70) C dX7_takeNumber_70 0 rfl ?_
    refine s_geti (q := 16) (ci := 7) (N := 5) (CN := RX7) (T := TX7) (pc := 71) C 3 dX7_takeNumber_71 wlX7_27 rfl rfl rfl wfX7 (by decide) rfl (σ1 16 3) rfl ?_
    have b71 : (0 : Int) ≤ σ1 16 3 ∧ σ1 16 3 ≤ 501 := g65.1 16 3
    refine s_iload_n (pc := 74) C dX7_takeNumber_74 3 rfl ?_
    refine s_iast (q := 19) (n := 501) (pc := 75) C dX7_takeNumber_75 rfl (by omega) (by omega) (by decide) ?_
    have g75 := gx_set (z := v) g65 19 ((σ1 16 3).toNat) rfl (0) (1000) rfl ⟨by omega, by omega⟩
    have f75 := frm_set (P := PT1) (z := v) f65 19 ((σ1 16 3).toNat) rfl
    refine s_vret (pc := 76) C dX7_takeNumber_76 ?_
    refine ⟨rfl, ?_⟩
    exact ⟨g75, f75, ot_num hki e163⟩
  · skip
    refine s_aload_n (pc := 10) C dX7_takeNumber_10 1 rfl ?_
    refine s_aload_n (pc := 11) C dX7_takeNumber_11 0 rfl ?_
    refine s_geti (q := 16) (ci := 7) (N := 5) (CN := RX7) (T := TX7) (pc := 12) C 4 dX7_takeNumber_12 wlX7_31 rfl rfl rfl wfX7 (by decide) rfl (σ1 16 4) rfl ?_
    have b12 : (0 : Int) ≤ σ1 16 4 ∧ σ1 16 4 ≤ 500 := hg2.1 16 4
    refine s_bald (q := 1) (n := 500) (pc := 15) C (σ1 1 ((σ1 16 4).toNat)) rfl dX7_takeNumber_15 rfl (by omega) (by omega) (by decide) ?_
    have b15 : (-128 : Int) ≤ σ1 1 ((σ1 16 4).toNat) ∧ σ1 1 ((σ1 16 4).toNat) ≤ 127 := hg2.1 1 ((σ1 16 4).toNat)
    refine s_callSi (pc := 16) C (c_X7_isDigit l (σ1 1 ((σ1 16 4).toNat)) ⟨by omega, by omega⟩) [vI (σ1 1 ((σ1 16 4).toNat))] [] rfl rfl dX7_takeNumber_16 wlX7_45 wtX7_isDigit wcX7_isDigit wnX7 noX7_isDigit (by decide) (by decide) (Nat.le_of_ble_eq_true rfl) (gx_self hg2) ?_
    rintro z16 _ ⟨rfl, k16⟩
    show hs_Wd _ _ _ _ _ _ _ _ _ _ _ _ _ _ _ _ _ 19 _ [vI z16] σ1
    refine s_if_eq (pc := 19) C (tgt := 56) dX7_takeNumber_19 (by decide) ⟨by omega, by omega⟩ (fun h19 => ?_) (fun h19 => ?_)
    · skip
      refine s_aload_n (pc := 56) C dX7_takeNumber_56 0 rfl ?_
      refine s_getr (q := 16) (ci := 7) (N := 5) (CN := RX7) (T := TX7) (pc := 57) C 0 dX7_takeNumber_57 wlX7_9 rfl rfl rfl wfX7 (by decide) rfl ?_
      refine s_aload_n (pc := 60) C dX7_takeNumber_60 0 rfl ?_
      refine s_geti (q := 16) (ci := 7) (N := 5) (CN := RX7) (T := TX7) (pc := 61) C 3 dX7_takeNumber_61 wlX7_27 rfl rfl rfl wfX7 (by decide) rfl (σ1 16 3) rfl ?_
      have b61 : (0 : Int) ≤ σ1 16 3 ∧ σ1 16 3 ≤ 501 := hg2.1 16 3
      refine s_iconst (pc := 64) C dX7_takeNumber_64 ?_
      refine s_iast (q := 17) (n := 501) (pc := 65) C dX7_takeNumber_65 rfl (by omega) (by omega) (by decide) ?_
      have g65 := gx_set (z := 2) hg2 17 ((σ1 16 3).toNat) rfl (-2147483648) (2147483647) rfl ⟨by omega, by omega⟩
      have f65 := frm_set (P := PT1) (z := 2) hf2 17 ((σ1 16 3).toNat) rfl
      refine s_aload_n (pc := 66) C dX7_takeNumber_66 0 rfl ?_
      refine s_getr (q := 16) (ci := 7) (N := 5) (CN := RX7) (T := TX7) (pc := 67) C 2 dX7_takeNumber_67 wlX7_18 rfl rfl rfl wfX7 (by decide) rfl ?_
      refine s_aload_n (pc := 70) C dX7_takeNumber_70 0 rfl ?_
      refine s_geti (q := 16) (ci := 7) (N := 5) (CN := RX7) (T := TX7) (pc := 71) C 3 dX7_takeNumber_71 wlX7_27 rfl rfl rfl wfX7 (by decide) rfl (σ1 16 3) rfl ?_
      have b71 : (0 : Int) ≤ σ1 16 3 ∧ σ1 16 3 ≤ 501 := g65.1 16 3
      refine s_iload_n (pc := 74) C dX7_takeNumber_74 3 rfl ?_
      refine s_iast (q := 19) (n := 501) (pc := 75) C dX7_takeNumber_75 rfl (by omega) (by omega) (by decide) ?_
      have g75 := gx_set (z := v) g65 19 ((σ1 16 3).toNat) rfl (0) (1000) rfl ⟨by omega, by omega⟩
      have f75 := frm_set (P := PT1) (z := v) f65 19 ((σ1 16 3).toNat) rfl
      refine s_vret (pc := 76) C dX7_takeNumber_76 ?_
      refine ⟨rfl, ?_⟩
      exact ⟨g75, f75, ot_num hki e163⟩
    · skip
      refine s_iload_n (pc := 22) C dX7_takeNumber_22 3 rfl ?_
      refine s_bipush (pc := 23) C dX7_takeNumber_23 (by decide) ?_
      refine s_imul (pc := 25) C dX7_takeNumber_25 ?_
      refine s_aload_n (pc := 26) C dX7_takeNumber_26 1 rfl ?_
      refine s_aload_n (pc := 27) C dX7_takeNumber_27 0 rfl ?_
      refine s_geti (q := 16) (ci := 7) (N := 5) (CN := RX7) (T := TX7) (pc := 28) C 4 dX7_takeNumber_28 wlX7_31 rfl rfl rfl wfX7 (by decide) rfl (σ1 16 4) rfl ?_
      have b28 : (0 : Int) ≤ σ1 16 4 ∧ σ1 16 4 ≤ 500 := hg2.1 16 4
      refine s_bald (q := 1) (n := 500) (pc := 31) C (σ1 1 ((σ1 16 4).toNat)) rfl dX7_takeNumber_31 rfl (by omega) (by omega) (by decide) ?_
      have b31 : (-128 : Int) ≤ σ1 1 ((σ1 16 4).toNat) ∧ σ1 1 ((σ1 16 4).toNat) ≤ 127 := hg2.1 1 ((σ1 16 4).toNat)
      refine s_iadd (pc := 32) C dX7_takeNumber_32 ?_
      refine s_bipush (pc := 33) C dX7_takeNumber_33 (by decide) ?_
      refine s_isub (pc := 35) C dX7_takeNumber_35 ?_
      refine s_sipush (pc := 36) C dX7_takeNumber_36 (by decide) ?_
      refine s_callSi (pc := 39) C (c_J9_min_7cf53 l (((v * 10) + (σ1 1 ((σ1 16 4).toNat))) - 48) 1000 ⟨by omega, by omega⟩ ⟨by omega, by omega⟩) [vI (((v * 10) + (σ1 1 ((σ1 16 4).toNat))) - 48), vI 1000] [] rfl rfl dX7_takeNumber_39 wlX7_21 wtJ9_min_7cf53 wcJ9_min_7cf53 wnJ9 noJ9_min_7cf53 (by decide) (by decide) (Nat.le_of_ble_eq_true rfl) (by first | omega | assumption | (constructor <;> omega) | (refine ⟨⟨?_, ?_⟩, ?_⟩ <;> omega) | (simp [hs_ss, hs_up]; omega) | (simp [hs_ss, hs_up]; done)) ?_
      rintro _ _ ⟨rfl, rfl⟩
      show hs_Wd _ _ _ _ _ _ _ _ _ _ _ _ _ _ _ _ _ 42 _ [vI (min (((v * 10) + (σ1 1 ((σ1 16 4).toNat))) - 48) 1000)] σ1
      refine s_istore_n (pc := 42) C [(3, vI (min (((v * 10) + (σ1 1 ((σ1 16 4).toNat))) - 48) 1000)), (0, .ref (ad 16)), (1, .ref (ad 1)), (2, vI q)] dX7_takeNumber_42 (by decide) rfl ?_
      refine s_aload_n (pc := 43) C dX7_takeNumber_43 1 rfl ?_
      refine s_dup (pc := 44) C dX7_takeNumber_44 rfl ?_
      refine s_geti (q := 16) (ci := 7) (N := 5) (CN := RX7) (T := TX7) (pc := 45) C 4 dX7_takeNumber_45 wlX7_31 rfl rfl rfl wfX7 (by decide) rfl (σ1 16 4) rfl ?_
      have b45 : (0 : Int) ≤ σ1 16 4 ∧ σ1 16 4 ≤ 500 := hg2.1 16 4
      refine s_iconst (pc := 48) C dX7_takeNumber_48 ?_
      refine s_iadd (pc := 49) C dX7_takeNumber_49 ?_
      refine s_puti (q := 16) (ci := 7) (N := 5) (CN := RX7) (T := TX7) (ty0 := tyX7) (ty := .int) (pc := 50) C 4 dX7_takeNumber_50 wlX7_31 rfl rfl rfl wfX7 tyX7_ok nmX7 (by decide) rfl rfl rfl (vp_nar_int _) rfl ?_
      have g50 := gx_set (z := ((σ1 16 4) + 1)) hg2 16 4 rfl (0) (500) rfl ⟨by omega, by omega⟩
      have f50 := frm_set (P := PT1) (z := ((σ1 16 4) + 1)) hf2 16 4 rfl
      refine s_goto (pc := 53) C (tgt := 2) dX7_takeNumber_53 (by decide) ?_
      refine s_sub C [1, 2, 3, 0] [(0, .ref (ad 16)), (1, .ref (ad 1)), (2, vI q), (3, vI (min (((v * 10) + (σ1 1 ((σ1 16 4).toNat))) - 48) 1000))] rfl ?_
      have hi2 : GX σ ((hs_ss σ1 16 4 ((σ1 16 4) + 1))) ∧ FRM PT1 σ ((hs_ss σ1 16 4 ((σ1 16 4) + 1))) ∧ 0 ≤ (min (((v * 10) + (σ1 1 ((σ1 16 4).toNat))) - 48) 1000) ∧ (min (((v * 10) + (σ1 1 ((σ1 16 4).toNat))) - 48) 1000) ≤ 1000 ∧ (∀ c j : Nat, c ≠ 16 → ((hs_ss σ1 16 4 ((σ1 16 4) + 1))) c j = σ c j) := ⟨g50, f50, ⟨by omega, by omega, fun c j h => by rw [hs_ss_ne h]; exact hki c j h⟩⟩
      exact ih2 (min (((v * 10) + (σ1 1 ((σ1 16 4).toNat))) - 48) 1000, (hs_ss σ1 16 4 ((σ1 16 4) + 1))) (by simp [hs_ss, hs_up]; omega) hi2
set_option maxHeartbeats 4000000 in
set_option maxRecDepth 100000 in
theorem c_X7_takeWord (l : Launch) (q : Int) (hq : 0 ≤ q ∧ q ≤ 500) : hs_Met l yX7_takeWord cX7_takeWord 5 none 7 SHX (fun ad => [.ref (ad 16), .ref (ad 1), vI q]) (fun σ => GX σ σ ∧ σ 16 3 ≤ 500 ∧ σ 16 4 < q ∧ 97 ≤ σ 1 (σ 16 4).toNat) (hs_PV (fun σ σ1 => GX σ σ1 ∧ FRM PT1 σ σ1 ∧ OT σ σ1)) := by
  refine hs_from pfX7_takeWord (fun _ => Nat.le_of_ble_eq_true rfl) ?_
  intro p e s m args below meth c D dA ad A σ C hpre
  have C : hs_C p s m args meth c D dA SHX ad A 5 cX7_takeWord RX7 none := C
  obtain ⟨g0, hpre⟩ := hpre
  have f0 : FRM PT1 σ σ := frm_rf
  show hs_Wd p l e 7 s m args below meth c D dA SHX ad A 5 (hs_PV (fun σ σ1 => GX σ σ1 ∧ FRM PT1 σ σ1 ∧ OT σ σ1) σ) 0 [(0, .ref (ad 16)), (1, .ref (ad 1)), (2, vI q)] [] σ
  refine s_aload_n (pc := 0) C dX7_takeWord_0 0 rfl ?_
  refine s_geti (q := 16) (ci := 7) (N := 5) (CN := RX7) (T := TX7) (pc := 1) C 4 dX7_takeWord_1 wlX7_31 rfl rfl rfl wfX7 (by decide) rfl (σ 16 4) rfl ?_
  have b1 : (0 : Int) ≤ σ 16 4 ∧ σ 16 4 ≤ 500 := g0.1 16 4
  refine s_istore_n (pc := 4) C [(3, vI (σ 16 4)), (0, .ref (ad 16)), (1, .ref (ad 1)), (2, vI q)] dX7_takeWord_4 (by decide) rfl ?_
  refine s_sub C [1, 2, 3, 0] [(0, .ref (ad 16)), (1, .ref (ad 1)), (2, vI q), (3, vI (σ 16 4))] rfl ?_
  have hi5 : GX σ σ ∧ FRM PT1 σ σ ∧ σ 16 4 ≤ σ 16 4 ∧ (∀ c j : Nat, c ≠ 16 → σ c j = σ c j) := ⟨g0, f0, ⟨by omega, fun _ _ _ => rfl⟩⟩
  refine hs_loop (α := hs_S) (fun x_ => (GX σ x_ ∧ FRM PT1 σ x_ ∧ σ 16 4 ≤ x_ 16 4 ∧ (∀ c j : Nat, c ≠ 16 → x_ c j = σ c j)) → hs_Wd p l e 7 s m args below meth c D dA SHX ad A 5 (hs_PV (fun σ σ1 => GX σ σ1 ∧ FRM PT1 σ σ1 ∧ OT σ σ1) σ) 5 [(0, .ref (ad 16)), (1, .ref (ad 1)), (2, vI q), (3, vI (σ 16 4))] [] x_) (fun x_ => (501 - x_ 16 4).toNat) ?_ (σ) hi5
  rintro σ1 ih5 hinv
  replace hinv : GX σ σ1 ∧ FRM PT1 σ σ1 ∧ σ 16 4 ≤ σ1 16 4 ∧ (∀ c j : Nat, c ≠ 16 → σ1 c j = σ c j) := hinv
  obtain ⟨hg5, hf5, hv5⟩ := hinv
  show hs_Wd p l e 7 s m args below meth c D dA SHX ad A 5 (hs_PV (fun σ σ1 => GX σ σ1 ∧ FRM PT1 σ σ1 ∧ OT σ σ1) σ) 5 [(0, .ref (ad 16)), (1, .ref (ad 1)), (2, vI q), (3, vI (σ 16 4))] [] σ1
  have e163 : σ1 16 3 = σ 16 3 := hf5 16 3 rfl
  obtain ⟨hv0, hki⟩ := hv5
  refine s_aload_n (pc := 5) C dX7_takeWord_5 0 rfl ?_
  refine s_geti (q := 16) (ci := 7) (N := 5) (CN := RX7) (T := TX7) (pc := 6) C 4 dX7_takeWord_6 wlX7_31 rfl rfl rfl wfX7 (by decide) rfl (σ1 16 4) rfl ?_
  have b6 : (0 : Int) ≤ σ1 16 4 ∧ σ1 16 4 ≤ 500 := hg5.1 16 4
  refine s_iload_n (pc := 9) C dX7_takeWord_9 2 rfl ?_
  refine s_icmp_ge (pc := 10) C (tgt := 38) dX7_takeWord_10 (by decide) ⟨by omega, by omega⟩ ⟨by omega, by omega⟩ (fun h10 => ?_) (fun h10 => ?_)
  · skip
    refine s_aload_n (pc := 38) C dX7_takeWord_38 1 rfl ?_
    refine s_iload_n (pc := 39) C dX7_takeWord_39 3 rfl ?_
    refine s_bald (q := 1) (n := 500) (pc := 40) C (σ1 1 ((σ 16 4).toNat)) rfl dX7_takeWord_40 rfl (by omega) (by omega) (by decide) ?_
    have b40 : (-128 : Int) ≤ σ1 1 ((σ 16 4).toNat) ∧ σ1 1 ((σ 16 4).toNat) ≤ 127 := hg5.1 1 ((σ 16 4).toNat)
    have hv40 : 97 ≤ (σ1 1 ((σ 16 4).toNat)) := by rw [hki 1 _ (by decide)]; exact hpre.2.2
    refine s_bipush (pc := 41) C dX7_takeWord_41 (by decide) ?_
    refine s_isub (pc := 43) C dX7_takeWord_43 ?_
    refine s_istore (pc := 44) C [(4, vI ((σ1 1 ((σ 16 4).toNat)) - 97)), (0, .ref (ad 16)), (1, .ref (ad 1)), (2, vI q), (3, vI (σ 16 4))] dX7_takeWord_44 (by decide) rfl ?_
    refine s_aload_n (pc := 46) C dX7_takeWord_46 1 rfl ?_
    refine s_geti (q := 16) (ci := 7) (N := 5) (CN := RX7) (T := TX7) (pc := 47) C 4 dX7_takeWord_47 wlX7_31 rfl rfl rfl wfX7 (by decide) rfl (σ1 16 4) rfl ?_
    have b47 : (0 : Int) ≤ σ1 16 4 ∧ σ1 16 4 ≤ 500 := hg5.1 16 4
    refine s_iload_n (pc := 50) C dX7_takeWord_50 4 rfl ?_
    refine s_isub (pc := 51) C dX7_takeWord_51 ?_
    refine s_iconst (pc := 52) C dX7_takeWord_52 ?_
    refine s_icmp_ne (pc := 53) C (tgt := 87) dX7_takeWord_53 (by decide) ⟨by omega, by omega⟩ ⟨by decide, by decide⟩ (fun h53 => ?_) (fun h53 => ?_)
    · skip
      refine s_aload_n (pc := 87) C dX7_takeWord_87 1 rfl ?_
      refine s_getr (q := 16) (ci := 7) (N := 5) (CN := RX7) (T := TX7) (pc := 88) C 0 dX7_takeWord_88 wlX7_9 rfl rfl rfl wfX7 (by decide) rfl ?_
      refine s_aload_n (pc := 91) C dX7_takeWord_91 1 rfl ?_
      refine s_geti (q := 16) (ci := 7) (N := 5) (CN := RX7) (T := TX7) (pc := 92) C 3 dX7_takeWord_92 wlX7_27 rfl rfl rfl wfX7 (by decide) rfl (σ1 16 3) rfl ?_
      have b92 : (0 : Int) ≤ σ1 16 3 ∧ σ1 16 3 ≤ 501 := hg5.1 16 3
      refine s_aload_n (pc := 95) C dX7_takeWord_95 1 rfl ?_
      refine s_aload_n (pc := 96) C dX7_takeWord_96 2 rfl ?_
      refine s_iload_n (pc := 97) C dX7_takeWord_97 4 rfl ?_
      refine s_callVi (pc := 98) C (c_X7_kindOfWord l (σ 16 4) (by first | omega | assumption | (constructor <;> omega) | (refine ⟨⟨?_, ?_⟩, ?_⟩ <;> omega) | (simp [hs_ss, hs_up]; omega) | (simp [hs_ss, hs_up]; done))) [.ref (ad 1), vI (σ 16 4)] [vI (σ1 16 3), .ref (ad 17)] rfl rfl dX7_takeWord_98 wlX7_51 wiX7_kindOfWord weX7_kindOfWord wcX7_kindOfWord wnX7 noX7_kindOfWord (by decide) (by decide) (Nat.le_of_ble_eq_true rfl) (gx_self hg5) rfl rfl ?_
      rintro z98 _ ⟨rfl, k98⟩
      show hs_Wd _ _ _ _ _ _ _ _ _ _ _ _ _ _ _ _ _ 101 _ [vI z98, vI (σ1 16 3), .ref (ad 17)] σ1
      refine s_iast (q := 17) (n := 501) (pc := 101) C dX7_takeWord_101 rfl (by omega) (by omega) (by decide) ?_
      have g101 := gx_set (z := z98) hg5 17 ((σ1 16 3).toNat) rfl (-2147483648) (2147483647) rfl ⟨by omega, by omega⟩
      have f101 := frm_set (P := PT1) (z := z98) hf5 17 ((σ1 16 3).toNat) rfl
      refine s_vret (pc := 102) C dX7_takeWord_102 ?_
      refine ⟨rfl, ?_⟩
      exact ⟨g101, f101, by first | exact ot_let hki e163 (by omega) | exact ot_knd hki e163 (by omega)⟩
    · skip
      refine s_iload (pc := 56) C dX7_takeWord_56 0 rfl ?_
      refine s_bipush (pc := 58) C dX7_takeWord_58 (by decide) ?_
      refine s_icmp_ge (pc := 60) C (tgt := 87) dX7_takeWord_60 (by decide) ⟨by omega, by omega⟩ ⟨by decide, by decide⟩ (fun h60 => ?_) (fun h60 => ?_)
      · skip
        refine s_aload_n (pc := 87) C dX7_takeWord_87 1 rfl ?_
        refine s_getr (q := 16) (ci := 7) (N := 5) (CN := RX7) (T := TX7) (pc := 88) C 0 dX7_takeWord_88 wlX7_9 rfl rfl rfl wfX7 (by decide) rfl ?_
        refine s_aload_n (pc := 91) C dX7_takeWord_91 1 rfl ?_
        refine s_geti (q := 16) (ci := 7) (N := 5) (CN := RX7) (T := TX7) (pc := 92) C 3 dX7_takeWord_92 wlX7_27 rfl rfl rfl wfX7 (by decide) rfl (σ1 16 3) rfl ?_
        have b92 : (0 : Int) ≤ σ1 16 3 ∧ σ1 16 3 ≤ 501 := hg5.1 16 3
        refine s_aload_n (pc := 95) C dX7_takeWord_95 1 rfl ?_
        refine s_aload_n (pc := 96) C dX7_takeWord_96 2 rfl ?_
        refine s_iload_n (pc := 97) C dX7_takeWord_97 4 rfl ?_
        refine s_callVi (pc := 98) C (c_X7_kindOfWord l (σ 16 4) (by first | omega | assumption | (constructor <;> omega) | (refine ⟨⟨?_, ?_⟩, ?_⟩ <;> omega) | (simp [hs_ss, hs_up]; omega) | (simp [hs_ss, hs_up]; done))) [.ref (ad 1), vI (σ 16 4)] [vI (σ1 16 3), .ref (ad 17)] rfl rfl dX7_takeWord_98 wlX7_51 wiX7_kindOfWord weX7_kindOfWord wcX7_kindOfWord wnX7 noX7_kindOfWord (by decide) (by decide) (Nat.le_of_ble_eq_true rfl) (gx_self hg5) rfl rfl ?_
        rintro z98 _ ⟨rfl, k98⟩
        show hs_Wd _ _ _ _ _ _ _ _ _ _ _ _ _ _ _ _ _ 101 _ [vI z98, vI (σ1 16 3), .ref (ad 17)] σ1
        refine s_iast (q := 17) (n := 501) (pc := 101) C dX7_takeWord_101 rfl (by omega) (by omega) (by decide) ?_
        have g101 := gx_set (z := z98) hg5 17 ((σ1 16 3).toNat) rfl (-2147483648) (2147483647) rfl ⟨by omega, by omega⟩
        have f101 := frm_set (P := PT1) (z := z98) hf5 17 ((σ1 16 3).toNat) rfl
        refine s_vret (pc := 102) C dX7_takeWord_102 ?_
        refine ⟨rfl, ?_⟩
        exact ⟨g101, f101, by first | exact ot_let hki e163 (by omega) | exact ot_knd hki e163 (by omega)⟩
      · skip
        refine s_aload_n (pc := 63) C dX7_takeWord_63 1 rfl ?_
        refine s_getr (q := 16) (ci := 7) (N := 5) (CN := RX7) (T := TX7) (pc := 64) C 0 dX7_takeWord_64 wlX7_9 rfl rfl rfl wfX7 (by decide) rfl ?_
        refine s_aload_n (pc := 67) C dX7_takeWord_67 1 rfl ?_
        refine s_geti (q := 16) (ci := 7) (N := 5) (CN := RX7) (T := TX7) (pc := 68) C 3 dX7_takeWord_68 wlX7_27 rfl rfl rfl wfX7 (by decide) rfl (σ1 16 3) rfl ?_
        have b68 : (0 : Int) ≤ σ1 16 3 ∧ σ1 16 3 ≤ 501 := hg5.1 16 3
        refine s_iconst (pc := 71) C dX7_takeWord_71 ?_
        refine s_iast (q := 17) (n := 501) (pc := 72) C dX7_takeWord_72 rfl (by omega) (by omega) (by decide) ?_
        have g72 := gx_set (z := 3) hg5 17 ((σ1 16 3).toNat) rfl (-2147483648) (2147483647) rfl ⟨by omega, by omega⟩
        have f72 := frm_set (P := PT1) (z := 3) hf5 17 ((σ1 16 3).toNat) rfl
        refine s_aload_n (pc := 73) C dX7_takeWord_73 1 rfl ?_
        refine s_getr (q := 16) (ci := 7) (N := 5) (CN := RX7) (T := TX7) (pc := 74) C 2 dX7_takeWord_74 wlX7_18 rfl rfl rfl wfX7 (by decide) rfl ?_
        refine s_aload_n (pc := 77) C dX7_takeWord_77 1 rfl ?_
        refine s_geti (q := 16) (ci := 7) (N := 5) (CN := RX7) (T := TX7) (pc := 78) C 3 dX7_takeWord_78 wlX7_27 rfl rfl rfl wfX7 (by decide) rfl (σ1 16 3) rfl ?_
        have b78 : (0 : Int) ≤ σ1 16 3 ∧ σ1 16 3 ≤ 501 := g72.1 16 3
        refine s_iload (pc := 81) C dX7_takeWord_81 0 rfl ?_
        refine s_iast (q := 19) (n := 501) (pc := 83) C dX7_takeWord_83 rfl (by omega) (by omega) (by decide) ?_
        have g83 := gx_set (z := ((σ1 1 ((σ 16 4).toNat)) - 97)) g72 19 ((σ1 16 3).toNat) rfl (0) (1000) rfl ⟨by omega, by omega⟩
        have f83 := frm_set (P := PT1) (z := ((σ1 1 ((σ 16 4).toNat)) - 97)) f72 19 ((σ1 16 3).toNat) rfl
        refine s_goto (pc := 84) C (tgt := 102) dX7_takeWord_84 (by decide) ?_
        refine s_vret (pc := 102) C dX7_takeWord_102 ?_
        refine ⟨rfl, ?_⟩
        exact ⟨g83, f83, by first | exact ot_let hki e163 (by omega) | exact ot_knd hki e163 (by omega)⟩
  · skip
    refine s_aload_n (pc := 13) C dX7_takeWord_13 1 rfl ?_
    refine s_aload_n (pc := 14) C dX7_takeWord_14 0 rfl ?_
    refine s_geti (q := 16) (ci := 7) (N := 5) (CN := RX7) (T := TX7) (pc := 15) C 4 dX7_takeWord_15 wlX7_31 rfl rfl rfl wfX7 (by decide) rfl (σ1 16 4) rfl ?_
    have b15 : (0 : Int) ≤ σ1 16 4 ∧ σ1 16 4 ≤ 500 := hg5.1 16 4
    refine s_bald (q := 1) (n := 500) (pc := 18) C (σ1 1 ((σ1 16 4).toNat)) rfl dX7_takeWord_18 rfl (by omega) (by omega) (by decide) ?_
    have b18 : (-128 : Int) ≤ σ1 1 ((σ1 16 4).toNat) ∧ σ1 1 ((σ1 16 4).toNat) ≤ 127 := hg5.1 1 ((σ1 16 4).toNat)
    refine s_callSi (pc := 19) C (c_X7_isSmallLetter l (σ1 1 ((σ1 16 4).toNat)) ⟨by omega, by omega⟩) [vI (σ1 1 ((σ1 16 4).toNat))] [] rfl rfl dX7_takeWord_19 wlX7_38 wtX7_isSmallLetter wcX7_isSmallLetter wnX7 noX7_isSmallLetter (by decide) (by decide) (Nat.le_of_ble_eq_true rfl) (gx_self hg5) ?_
    rintro z19 _ ⟨rfl, k19⟩
    show hs_Wd _ _ _ _ _ _ _ _ _ _ _ _ _ _ _ _ _ 22 _ [vI z19] σ1
    refine s_if_eq (pc := 22) C (tgt := 38) dX7_takeWord_22 (by decide) ⟨by omega, by omega⟩ (fun h22 => ?_) (fun h22 => ?_)
    · skip
      refine s_aload_n (pc := 38) C dX7_takeWord_38 1 rfl ?_
      refine s_iload_n (pc := 39) C dX7_takeWord_39 3 rfl ?_
      refine s_bald (q := 1) (n := 500) (pc := 40) C (σ1 1 ((σ 16 4).toNat)) rfl dX7_takeWord_40 rfl (by omega) (by omega) (by decide) ?_
      have b40 : (-128 : Int) ≤ σ1 1 ((σ 16 4).toNat) ∧ σ1 1 ((σ 16 4).toNat) ≤ 127 := hg5.1 1 ((σ 16 4).toNat)
      have hv40 : 97 ≤ (σ1 1 ((σ 16 4).toNat)) := by rw [hki 1 _ (by decide)]; exact hpre.2.2
      refine s_bipush (pc := 41) C dX7_takeWord_41 (by decide) ?_
      refine s_isub (pc := 43) C dX7_takeWord_43 ?_
      refine s_istore (pc := 44) C [(4, vI ((σ1 1 ((σ 16 4).toNat)) - 97)), (0, .ref (ad 16)), (1, .ref (ad 1)), (2, vI q), (3, vI (σ 16 4))] dX7_takeWord_44 (by decide) rfl ?_
      refine s_aload_n (pc := 46) C dX7_takeWord_46 1 rfl ?_
      refine s_geti (q := 16) (ci := 7) (N := 5) (CN := RX7) (T := TX7) (pc := 47) C 4 dX7_takeWord_47 wlX7_31 rfl rfl rfl wfX7 (by decide) rfl (σ1 16 4) rfl ?_
      have b47 : (0 : Int) ≤ σ1 16 4 ∧ σ1 16 4 ≤ 500 := hg5.1 16 4
      refine s_iload_n (pc := 50) C dX7_takeWord_50 4 rfl ?_
      refine s_isub (pc := 51) C dX7_takeWord_51 ?_
      refine s_iconst (pc := 52) C dX7_takeWord_52 ?_
      refine s_icmp_ne (pc := 53) C (tgt := 87) dX7_takeWord_53 (by decide) ⟨by omega, by omega⟩ ⟨by decide, by decide⟩ (fun h53 => ?_) (fun h53 => ?_)
      · skip
        refine s_aload_n (pc := 87) C dX7_takeWord_87 1 rfl ?_
        refine s_getr (q := 16) (ci := 7) (N := 5) (CN := RX7) (T := TX7) (pc := 88) C 0 dX7_takeWord_88 wlX7_9 rfl rfl rfl wfX7 (by decide) rfl ?_
        refine s_aload_n (pc := 91) C dX7_takeWord_91 1 rfl ?_
        refine s_geti (q := 16) (ci := 7) (N := 5) (CN := RX7) (T := TX7) (pc := 92) C 3 dX7_takeWord_92 wlX7_27 rfl rfl rfl wfX7 (by decide) rfl (σ1 16 3) rfl ?_
        have b92 : (0 : Int) ≤ σ1 16 3 ∧ σ1 16 3 ≤ 501 := hg5.1 16 3
        refine s_aload_n (pc := 95) C dX7_takeWord_95 1 rfl ?_
        refine s_aload_n (pc := 96) C dX7_takeWord_96 2 rfl ?_
        refine s_iload_n (pc := 97) C dX7_takeWord_97 4 rfl ?_
        refine s_callVi (pc := 98) C (c_X7_kindOfWord l (σ 16 4) (by first | omega | assumption | (constructor <;> omega) | (refine ⟨⟨?_, ?_⟩, ?_⟩ <;> omega) | (simp [hs_ss, hs_up]; omega) | (simp [hs_ss, hs_up]; done))) [.ref (ad 1), vI (σ 16 4)] [vI (σ1 16 3), .ref (ad 17)] rfl rfl dX7_takeWord_98 wlX7_51 wiX7_kindOfWord weX7_kindOfWord wcX7_kindOfWord wnX7 noX7_kindOfWord (by decide) (by decide) (Nat.le_of_ble_eq_true rfl) (gx_self hg5) rfl rfl ?_
        rintro z98 _ ⟨rfl, k98⟩
        show hs_Wd _ _ _ _ _ _ _ _ _ _ _ _ _ _ _ _ _ 101 _ [vI z98, vI (σ1 16 3), .ref (ad 17)] σ1
        refine s_iast (q := 17) (n := 501) (pc := 101) C dX7_takeWord_101 rfl (by omega) (by omega) (by decide) ?_
        have g101 := gx_set (z := z98) hg5 17 ((σ1 16 3).toNat) rfl (-2147483648) (2147483647) rfl ⟨by omega, by omega⟩
        have f101 := frm_set (P := PT1) (z := z98) hf5 17 ((σ1 16 3).toNat) rfl
        refine s_vret (pc := 102) C dX7_takeWord_102 ?_
        refine ⟨rfl, ?_⟩
        exact ⟨g101, f101, by first | exact ot_let hki e163 (by omega) | exact ot_knd hki e163 (by omega)⟩
      · skip
        refine s_iload (pc := 56) C dX7_takeWord_56 0 rfl ?_
        refine s_bipush (pc := 58) C dX7_takeWord_58 (by decide) ?_
        refine s_icmp_ge (pc := 60) C (tgt := 87) dX7_takeWord_60 (by decide) ⟨by omega, by omega⟩ ⟨by decide, by decide⟩ (fun h60 => ?_) (fun h60 => ?_)
        · skip
          refine s_aload_n (pc := 87) C dX7_takeWord_87 1 rfl ?_
          refine s_getr (q := 16) (ci := 7) (N := 5) (CN := RX7) (T := TX7) (pc := 88) C 0 dX7_takeWord_88 wlX7_9 rfl rfl rfl wfX7 (by decide) rfl ?_
          refine s_aload_n (pc := 91) C dX7_takeWord_91 1 rfl ?_
          refine s_geti (q := 16) (ci := 7) (N := 5) (CN := RX7) (T := TX7) (pc := 92) C 3 dX7_takeWord_92 wlX7_27 rfl rfl rfl wfX7 (by decide) rfl (σ1 16 3) rfl ?_
          have b92 : (0 : Int) ≤ σ1 16 3 ∧ σ1 16 3 ≤ 501 := hg5.1 16 3
          refine s_aload_n (pc := 95) C dX7_takeWord_95 1 rfl ?_
          refine s_aload_n (pc := 96) C dX7_takeWord_96 2 rfl ?_
          refine s_iload_n (pc := 97) C dX7_takeWord_97 4 rfl ?_
          refine s_callVi (pc := 98) C (c_X7_kindOfWord l (σ 16 4) (by first | omega | assumption | (constructor <;> omega) | (refine ⟨⟨?_, ?_⟩, ?_⟩ <;> omega) | (simp [hs_ss, hs_up]; omega) | (simp [hs_ss, hs_up]; done))) [.ref (ad 1), vI (σ 16 4)] [vI (σ1 16 3), .ref (ad 17)] rfl rfl dX7_takeWord_98 wlX7_51 wiX7_kindOfWord weX7_kindOfWord wcX7_kindOfWord wnX7 noX7_kindOfWord (by decide) (by decide) (Nat.le_of_ble_eq_true rfl) (gx_self hg5) rfl rfl ?_
          rintro z98 _ ⟨rfl, k98⟩
          show hs_Wd _ _ _ _ _ _ _ _ _ _ _ _ _ _ _ _ _ 101 _ [vI z98, vI (σ1 16 3), .ref (ad 17)] σ1
          refine s_iast (q := 17) (n := 501) (pc := 101) C dX7_takeWord_101 rfl (by omega) (by omega) (by decide) ?_
          have g101 := gx_set (z := z98) hg5 17 ((σ1 16 3).toNat) rfl (-2147483648) (2147483647) rfl ⟨by omega, by omega⟩
          have f101 := frm_set (P := PT1) (z := z98) hf5 17 ((σ1 16 3).toNat) rfl
          refine s_vret (pc := 102) C dX7_takeWord_102 ?_
          refine ⟨rfl, ?_⟩
          exact ⟨g101, f101, by first | exact ot_let hki e163 (by omega) | exact ot_knd hki e163 (by omega)⟩
        · skip
          refine s_aload_n (pc := 63) C dX7_takeWord_63 1 rfl ?_
          refine s_getr (q := 16) (ci := 7) (N := 5) (CN := RX7) (T := TX7) (pc := 64) C 0 dX7_takeWord_64 wlX7_9 rfl rfl rfl wfX7 (by decide) rfl ?_
          refine s_aload_n (pc := 67) C dX7_takeWord_67 1 rfl ?_
          refine s_geti (q := 16) (ci := 7) (N := 5) (CN := RX7) (T := TX7) (pc := 68) C 3 dX7_takeWord_68 wlX7_27 rfl rfl rfl wfX7 (by decide) rfl (σ1 16 3) rfl ?_
          have b68 : (0 : Int) ≤ σ1 16 3 ∧ σ1 16 3 ≤ 501 := hg5.1 16 3
          refine s_iconst (pc := 71) C dX7_takeWord_71 ?_
          refine s_iast (q := 17) (n := 501) (pc := 72) C dX7_takeWord_72 rfl (by omega) (by omega) (by decide) ?_
          have g72 := gx_set (z := 3) hg5 17 ((σ1 16 3).toNat) rfl (-2147483648) (2147483647) rfl ⟨by omega, by omega⟩
          have f72 := frm_set (P := PT1) (z := 3) hf5 17 ((σ1 16 3).toNat) rfl
          refine s_aload_n (pc := 73) C dX7_takeWord_73 1 rfl ?_
          refine s_getr (q := 16) (ci := 7) (N := 5) (CN := RX7) (T := TX7) (pc := 74) C 2 dX7_takeWord_74 wlX7_18 rfl rfl rfl wfX7 (by decide) rfl ?_
          refine s_aload_n (pc := 77) C dX7_takeWord_77 1 rfl ?_
          refine s_geti (q := 16) (ci := 7) (N := 5) (CN := RX7) (T := TX7) (pc := 78) C 3 dX7_takeWord_78 wlX7_27 rfl rfl rfl wfX7 (by decide) rfl (σ1 16 3) rfl ?_
          have b78 : (0 : Int) ≤ σ1 16 3 ∧ σ1 16 3 ≤ 501 := g72.1 16 3
          refine s_iload (pc := 81) C dX7_takeWord_81 0 rfl ?_
          refine s_iast (q := 19) (n := 501) (pc := 83) C dX7_takeWord_83 rfl (by omega) (by omega) (by decide) ?_
          have g83 := gx_set (z := ((σ1 1 ((σ 16 4).toNat)) - 97)) g72 19 ((σ1 16 3).toNat) rfl (0) (1000) rfl ⟨by omega, by omega⟩
          have f83 := frm_set (P := PT1) (z := ((σ1 1 ((σ 16 4).toNat)) - 97)) f72 19 ((σ1 16 3).toNat) rfl
          refine s_goto (pc := 84) C (tgt := 102) dX7_takeWord_84 (by decide) ?_
          refine s_vret (pc := 102) C dX7_takeWord_102 ?_
          refine ⟨rfl, ?_⟩
          exact ⟨g83, f83, by first | exact ot_let hki e163 (by omega) | exact ot_knd hki e163 (by omega)⟩
    · skip
      refine s_aload_n (pc := 25) C dX7_takeWord_25 0 rfl ?_
      refine s_dup (pc := 26) C dX7_takeWord_26 rfl ?_
      refine s_geti (q := 16) (ci := 7) (N := 5) (CN := RX7) (T := TX7) (pc := 27) C 4 dX7_takeWord_27 wlX7_31 rfl rfl rfl wfX7 (by decide) rfl (σ1 16 4) rfl ?_
      have b27 : (0 : Int) ≤ σ1 16 4 ∧ σ1 16 4 ≤ 500 := hg5.1 16 4
      refine s_iconst (pc := 30) C dX7_takeWord_30 ?_
      refine s_iadd (pc := 31) C dX7_takeWord_31 ?_
      refine s_puti (q := 16) (ci := 7) (N := 5) (CN := RX7) (T := TX7) (ty0 := tyX7) (ty := .int) (pc := 32) C 4 dX7_takeWord_32 wlX7_31 rfl rfl rfl wfX7 tyX7_ok nmX7 (by decide) rfl rfl rfl (vp_nar_int _) rfl ?_
      have g32 := gx_set (z := ((σ1 16 4) + 1)) hg5 16 4 rfl (0) (500) rfl ⟨by omega, by omega⟩
      have f32 := frm_set (P := PT1) (z := ((σ1 16 4) + 1)) hf5 16 4 rfl
      refine s_goto (pc := 35) C (tgt := 5) dX7_takeWord_35 (by decide) ?_
      refine s_sub C [0, 1, 2, 3] [(0, .ref (ad 16)), (1, .ref (ad 1)), (2, vI q), (3, vI (σ 16 4))] rfl ?_
      have hi5 : GX σ ((hs_ss σ1 16 4 ((σ1 16 4) + 1))) ∧ FRM PT1 σ ((hs_ss σ1 16 4 ((σ1 16 4) + 1))) ∧ σ 16 4 ≤ ((hs_ss σ1 16 4 ((σ1 16 4) + 1))) 16 4 ∧ (∀ c j : Nat, c ≠ 16 → ((hs_ss σ1 16 4 ((σ1 16 4) + 1))) c j = σ c j) := ⟨g32, f32, ⟨by simp [hs_ss, hs_up]; omega, fun c j h => by rw [hs_ss_ne h]; exact hki c j h⟩⟩
      exact ih5 ((hs_ss σ1 16 4 ((σ1 16 4) + 1))) (by simp [hs_ss, hs_up]; omega) hi5
set_option maxHeartbeats 4000000 in
set_option maxRecDepth 100000 in
theorem c_X7_takeToken (l : Launch) (q : Int) (hq : 0 ≤ q ∧ q ≤ 500) : hs_Met l yX7_takeToken cX7_takeToken 5 none 8 SHX (fun ad => [.ref (ad 16), .ref (ad 1), vI q]) (fun σ => GX σ σ ∧ σ 16 3 ≤ 500 ∧ σ 16 4 < q) (hs_PV (fun σ σ1 => GX σ σ1 ∧ FRM PT1 σ σ1 ∧ OT σ σ1)) := by
  refine hs_from pfX7_takeToken (fun _ => Nat.le_of_ble_eq_true rfl) ?_
  intro p e s m args below meth c D dA ad A σ C hpre
  have C : hs_C p s m args meth c D dA SHX ad A 5 cX7_takeToken RX7 none := C
  obtain ⟨g0, hpre⟩ := hpre
  have f0 : FRM PT1 σ σ := frm_rf
  show hs_Wd p l e 8 s m args below meth c D dA SHX ad A 5 (hs_PV (fun σ σ1 => GX σ σ1 ∧ FRM PT1 σ σ1 ∧ OT σ σ1) σ) 0 [(0, .ref (ad 16)), (1, .ref (ad 1)), (2, vI q)] [] σ
  refine s_aload_n (pc := 0) C dX7_takeToken_0 0 rfl ?_
  refine s_getr (q := 16) (ci := 7) (N := 5) (CN := RX7) (T := TX7) (pc := 1) C 1 dX7_takeToken_1 wlX7_15 rfl rfl rfl wfX7 (by decide) rfl ?_
  refine s_aload_n (pc := 4) C dX7_takeToken_4 0 rfl ?_
  refine s_geti (q := 16) (ci := 7) (N := 5) (CN := RX7) (T := TX7) (pc := 5) C 3 dX7_takeToken_5 wlX7_27 rfl rfl rfl wfX7 (by decide) rfl (σ 16 3) rfl ?_
  have b5 : (0 : Int) ≤ σ 16 3 ∧ σ 16 3 ≤ 501 := g0.1 16 3
  refine s_aload_n (pc := 8) C dX7_takeToken_8 0 rfl ?_
  refine s_geti (q := 16) (ci := 7) (N := 5) (CN := RX7) (T := TX7) (pc := 9) C 4 dX7_takeToken_9 wlX7_31 rfl rfl rfl wfX7 (by decide) rfl (σ 16 4) rfl ?_
  have b9 : (0 : Int) ≤ σ 16 4 ∧ σ 16 4 ≤ 500 := g0.1 16 4
  refine s_iast (q := 18) (n := 501) (pc := 12) C dX7_takeToken_12 rfl (by omega) (by omega) (by decide) ?_
  have g12 := gx_set (z := (σ 16 4)) g0 18 ((σ 16 3).toNat) rfl (0) (500) rfl ⟨by omega, by omega⟩
  have f12 := frm_set (P := PT1) (z := (σ 16 4)) f0 18 ((σ 16 3).toNat) rfl
  refine s_aload_n (pc := 13) C dX7_takeToken_13 1 rfl ?_
  refine s_aload_n (pc := 14) C dX7_takeToken_14 0 rfl ?_
  refine s_geti (q := 16) (ci := 7) (N := 5) (CN := RX7) (T := TX7) (pc := 15) C 4 dX7_takeToken_15 wlX7_31 rfl rfl rfl wfX7 (by decide) rfl (σ 16 4) rfl ?_
  have b15 : (0 : Int) ≤ σ 16 4 ∧ σ 16 4 ≤ 500 := g12.1 16 4
  refine s_bald (q := 1) (n := 500) (pc := 18) C (σ 1 ((σ 16 4).toNat)) rfl dX7_takeToken_18 rfl (by omega) (by omega) (by decide) ?_
  have b18 : (-128 : Int) ≤ σ 1 ((σ 16 4).toNat) ∧ σ 1 ((σ 16 4).toNat) ≤ 127 := g12.1 1 ((σ 16 4).toNat)
  refine s_callSi (pc := 19) C (c_X7_isSmallLetter l (σ 1 ((σ 16 4).toNat)) ⟨by omega, by omega⟩) [vI (σ 1 ((σ 16 4).toNat))] [] rfl rfl dX7_takeToken_19 wlX7_38 wtX7_isSmallLetter wcX7_isSmallLetter wnX7 noX7_isSmallLetter (by decide) (by decide) (Nat.le_of_ble_eq_true rfl) (gx_self g12) ?_
  rintro z19 _ ⟨rfl, k19⟩
  show hs_Wd _ _ _ _ _ _ _ _ _ _ _ _ _ _ _ _ _ 22 _ [vI z19] (hs_ss σ 18 ((σ 16 3).toNat) (σ 16 4))
  refine s_if_eq (pc := 22) C (tgt := 34) dX7_takeToken_22 (by decide) ⟨by omega, by omega⟩ (fun h22 => ?_) (fun h22 => ?_)
  · skip
    refine s_aload_n (pc := 34) C dX7_takeToken_34 1 rfl ?_
    refine s_aload_n (pc := 35) C dX7_takeToken_35 0 rfl ?_
    refine s_geti (q := 16) (ci := 7) (N := 5) (CN := RX7) (T := TX7) (pc := 36) C 4 dX7_takeToken_36 wlX7_31 rfl rfl rfl wfX7 (by decide) rfl (σ 16 4) rfl ?_
    have b36 : (0 : Int) ≤ σ 16 4 ∧ σ 16 4 ≤ 500 := g12.1 16 4
    refine s_bald (q := 1) (n := 500) (pc := 39) C (σ 1 ((σ 16 4).toNat)) rfl dX7_takeToken_39 rfl (by omega) (by omega) (by decide) ?_
    have b39 : (-128 : Int) ≤ σ 1 ((σ 16 4).toNat) ∧ σ 1 ((σ 16 4).toNat) ≤ 127 := g12.1 1 ((σ 16 4).toNat)
    refine s_callSi (pc := 40) C (c_X7_isDigit l (σ 1 ((σ 16 4).toNat)) ⟨by omega, by omega⟩) [vI (σ 1 ((σ 16 4).toNat))] [] rfl rfl dX7_takeToken_40 wlX7_45 wtX7_isDigit wcX7_isDigit wnX7 noX7_isDigit (by decide) (by decide) (Nat.le_of_ble_eq_true rfl) (gx_self g12) ?_
    rintro z40 _ ⟨rfl, k40⟩
    show hs_Wd _ _ _ _ _ _ _ _ _ _ _ _ _ _ _ _ _ 43 _ [vI z40] (hs_ss σ 18 ((σ 16 3).toNat) (σ 16 4))
    refine s_if_eq (pc := 43) C (tgt := 55) dX7_takeToken_43 (by decide) ⟨by omega, by omega⟩ (fun h43 => ?_) (fun h43 => ?_)
    · skip
      refine s_aload_n (pc := 55) C dX7_takeToken_55 1 rfl ?_
      refine s_aload_n (pc := 56) C dX7_takeToken_56 0 rfl ?_
      refine s_geti (q := 16) (ci := 7) (N := 5) (CN := RX7) (T := TX7) (pc := 57) C 4 dX7_takeToken_57 wlX7_31 rfl rfl rfl wfX7 (by decide) rfl (σ 16 4) rfl ?_
      have b57 : (0 : Int) ≤ σ 16 4 ∧ σ 16 4 ≤ 500 := g12.1 16 4
      refine s_bald (q := 1) (n := 500) (pc := 60) C (σ 1 ((σ 16 4).toNat)) rfl dX7_takeToken_60 rfl (by omega) (by omega) (by decide) ?_
      have b60 : (-128 : Int) ≤ σ 1 ((σ 16 4).toNat) ∧ σ 1 ((σ 16 4).toNat) ≤ 127 := g12.1 1 ((σ 16 4).toNat)
      refine s_istore_n (pc := 61) C [(3, vI (σ 1 ((σ 16 4).toNat))), (0, .ref (ad 16)), (1, .ref (ad 1)), (2, vI q)] dX7_takeToken_61 (by decide) rfl ?_
      refine s_iload_n (pc := 62) C dX7_takeToken_62 0 rfl ?_
      refine s_bipush (pc := 63) C dX7_takeToken_63 (by decide) ?_
      refine s_icmp_eq (pc := 65) C (tgt := 92) dX7_takeToken_65 (by decide) ⟨by omega, by omega⟩ ⟨by decide, by decide⟩ (fun h65 => ?_) (fun h65 => ?_)
      · skip
        refine s_iconst (pc := 92) C dX7_takeToken_92 ?_
        refine s_goto (pc := 93) C (tgt := 97) dX7_takeToken_93 (by decide) ?_
        refine s_istore (pc := 97) C [(4, vI 1), (3, vI (σ 1 ((σ 16 4).toNat))), (0, .ref (ad 16)), (1, .ref (ad 1)), (2, vI q)] dX7_takeToken_97 (by decide) rfl ?_
        refine s_aload_n (pc := 99) C dX7_takeToken_99 2 rfl ?_
        refine s_getr (q := 16) (ci := 7) (N := 5) (CN := RX7) (T := TX7) (pc := 100) C 0 dX7_takeToken_100 wlX7_9 rfl rfl rfl wfX7 (by decide) rfl ?_
        refine s_aload_n (pc := 103) C dX7_takeToken_103 2 rfl ?_
        refine s_geti (q := 16) (ci := 7) (N := 5) (CN := RX7) (T := TX7) (pc := 104) C 3 dX7_takeToken_104 wlX7_27 rfl rfl rfl wfX7 (by decide) rfl (σ 16 3) rfl ?_
        have b104 : (0 : Int) ≤ σ 16 3 ∧ σ 16 3 ≤ 501 := g12.1 16 3
        refine s_iload (pc := 107) C dX7_takeToken_107 0 rfl ?_
        refine s_if_eq (pc := 109) C (tgt := 116) dX7_takeToken_109 (by decide) ⟨by decide, by decide⟩ (fun h109 => ?_) (fun h109 => ?_)
        · exact absurd h109 (by decide)
        · skip
          refine s_iload_n (pc := 112) C dX7_takeToken_112 1 rfl ?_
          refine s_goto (pc := 113) C (tgt := 117) dX7_takeToken_113 (by decide) ?_
          refine s_iast (q := 17) (n := 501) (pc := 117) C dX7_takeToken_117 rfl (by omega) (by omega) (by decide) ?_
          have g117 := gx_set (z := (σ 1 ((σ 16 4).toNat))) g12 17 ((σ 16 3).toNat) rfl (-2147483648) (2147483647) rfl ⟨by omega, by omega⟩
          have f117 := frm_set (P := PT1) (z := (σ 1 ((σ 16 4).toNat))) f12 17 ((σ 16 3).toNat) rfl
          refine s_aload_n (pc := 118) C dX7_takeToken_118 2 rfl ?_
          refine s_dup (pc := 119) C dX7_takeToken_119 rfl ?_
          refine s_geti (q := 16) (ci := 7) (N := 5) (CN := RX7) (T := TX7) (pc := 120) C 4 dX7_takeToken_120 wlX7_31 rfl rfl rfl wfX7 (by decide) rfl (σ 16 4) rfl ?_
          have b120 : (0 : Int) ≤ σ 16 4 ∧ σ 16 4 ≤ 500 := g117.1 16 4
          refine s_iconst (pc := 123) C dX7_takeToken_123 ?_
          refine s_iadd (pc := 124) C dX7_takeToken_124 ?_
          refine s_puti (q := 16) (ci := 7) (N := 5) (CN := RX7) (T := TX7) (ty0 := tyX7) (ty := .int) (pc := 125) C 4 dX7_takeToken_125 wlX7_31 rfl rfl rfl wfX7 tyX7_ok nmX7 (by decide) rfl rfl rfl (vp_nar_int _) rfl ?_
          have g125 := gx_set (z := ((σ 16 4) + 1)) g117 16 4 rfl (0) (500) rfl ⟨by omega, by omega⟩
          have f125 := frm_set (P := PT1) (z := ((σ 16 4) + 1)) f117 16 4 rfl
          refine s_vret (pc := 128) C dX7_takeToken_128 ?_
          refine ⟨rfl, ?_⟩
          exact ⟨g125, f125, by first | exact ot_st k28 | exact ot_st k49 | exact ot_sg (by omega)⟩
      · skip
        refine s_iload_n (pc := 68) C dX7_takeToken_68 0 rfl ?_
        refine s_bipush (pc := 69) C dX7_takeToken_69 (by decide) ?_
        refine s_icmp_eq (pc := 71) C (tgt := 92) dX7_takeToken_71 (by decide) ⟨by omega, by omega⟩ ⟨by decide, by decide⟩ (fun h71 => ?_) (fun h71 => ?_)
        · skip
          refine s_iconst (pc := 92) C dX7_takeToken_92 ?_
          refine s_goto (pc := 93) C (tgt := 97) dX7_takeToken_93 (by decide) ?_
          refine s_istore (pc := 97) C [(4, vI 1), (3, vI (σ 1 ((σ 16 4).toNat))), (0, .ref (ad 16)), (1, .ref (ad 1)), (2, vI q)] dX7_takeToken_97 (by decide) rfl ?_
          refine s_aload_n (pc := 99) C dX7_takeToken_99 2 rfl ?_
          refine s_getr (q := 16) (ci := 7) (N := 5) (CN := RX7) (T := TX7) (pc := 100) C 0 dX7_takeToken_100 wlX7_9 rfl rfl rfl wfX7 (by decide) rfl ?_
          refine s_aload_n (pc := 103) C dX7_takeToken_103 2 rfl ?_
          refine s_geti (q := 16) (ci := 7) (N := 5) (CN := RX7) (T := TX7) (pc := 104) C 3 dX7_takeToken_104 wlX7_27 rfl rfl rfl wfX7 (by decide) rfl (σ 16 3) rfl ?_
          have b104 : (0 : Int) ≤ σ 16 3 ∧ σ 16 3 ≤ 501 := g12.1 16 3
          refine s_iload (pc := 107) C dX7_takeToken_107 0 rfl ?_
          refine s_if_eq (pc := 109) C (tgt := 116) dX7_takeToken_109 (by decide) ⟨by decide, by decide⟩ (fun h109 => ?_) (fun h109 => ?_)
          · exact absurd h109 (by decide)
          · skip
            refine s_iload_n (pc := 112) C dX7_takeToken_112 1 rfl ?_
            refine s_goto (pc := 113) C (tgt := 117) dX7_takeToken_113 (by decide) ?_
            refine s_iast (q := 17) (n := 501) (pc := 117) C dX7_takeToken_117 rfl (by omega) (by omega) (by decide) ?_
            have g117 := gx_set (z := (σ 1 ((σ 16 4).toNat))) g12 17 ((σ 16 3).toNat) rfl (-2147483648) (2147483647) rfl ⟨by omega, by omega⟩
            have f117 := frm_set (P := PT1) (z := (σ 1 ((σ 16 4).toNat))) f12 17 ((σ 16 3).toNat) rfl
            refine s_aload_n (pc := 118) C dX7_takeToken_118 2 rfl ?_
            refine s_dup (pc := 119) C dX7_takeToken_119 rfl ?_
            refine s_geti (q := 16) (ci := 7) (N := 5) (CN := RX7) (T := TX7) (pc := 120) C 4 dX7_takeToken_120 wlX7_31 rfl rfl rfl wfX7 (by decide) rfl (σ 16 4) rfl ?_
            have b120 : (0 : Int) ≤ σ 16 4 ∧ σ 16 4 ≤ 500 := g117.1 16 4
            refine s_iconst (pc := 123) C dX7_takeToken_123 ?_
            refine s_iadd (pc := 124) C dX7_takeToken_124 ?_
            refine s_puti (q := 16) (ci := 7) (N := 5) (CN := RX7) (T := TX7) (ty0 := tyX7) (ty := .int) (pc := 125) C 4 dX7_takeToken_125 wlX7_31 rfl rfl rfl wfX7 tyX7_ok nmX7 (by decide) rfl rfl rfl (vp_nar_int _) rfl ?_
            have g125 := gx_set (z := ((σ 16 4) + 1)) g117 16 4 rfl (0) (500) rfl ⟨by omega, by omega⟩
            have f125 := frm_set (P := PT1) (z := ((σ 16 4) + 1)) f117 16 4 rfl
            refine s_vret (pc := 128) C dX7_takeToken_128 ?_
            refine ⟨rfl, ?_⟩
            exact ⟨g125, f125, by first | exact ot_st k28 | exact ot_st k49 | exact ot_sg (by omega)⟩
        · skip
          refine s_iload_n (pc := 74) C dX7_takeToken_74 0 rfl ?_
          refine s_bipush (pc := 75) C dX7_takeToken_75 (by decide) ?_
          refine s_icmp_eq (pc := 77) C (tgt := 92) dX7_takeToken_77 (by decide) ⟨by omega, by omega⟩ ⟨by decide, by decide⟩ (fun h77 => ?_) (fun h77 => ?_)
          · skip
            refine s_iconst (pc := 92) C dX7_takeToken_92 ?_
            refine s_goto (pc := 93) C (tgt := 97) dX7_takeToken_93 (by decide) ?_
            refine s_istore (pc := 97) C [(4, vI 1), (3, vI (σ 1 ((σ 16 4).toNat))), (0, .ref (ad 16)), (1, .ref (ad 1)), (2, vI q)] dX7_takeToken_97 (by decide) rfl ?_
            refine s_aload_n (pc := 99) C dX7_takeToken_99 2 rfl ?_
            refine s_getr (q := 16) (ci := 7) (N := 5) (CN := RX7) (T := TX7) (pc := 100) C 0 dX7_takeToken_100 wlX7_9 rfl rfl rfl wfX7 (by decide) rfl ?_
            refine s_aload_n (pc := 103) C dX7_takeToken_103 2 rfl ?_
            refine s_geti (q := 16) (ci := 7) (N := 5) (CN := RX7) (T := TX7) (pc := 104) C 3 dX7_takeToken_104 wlX7_27 rfl rfl rfl wfX7 (by decide) rfl (σ 16 3) rfl ?_
            have b104 : (0 : Int) ≤ σ 16 3 ∧ σ 16 3 ≤ 501 := g12.1 16 3
            refine s_iload (pc := 107) C dX7_takeToken_107 0 rfl ?_
            refine s_if_eq (pc := 109) C (tgt := 116) dX7_takeToken_109 (by decide) ⟨by decide, by decide⟩ (fun h109 => ?_) (fun h109 => ?_)
            · exact absurd h109 (by decide)
            · skip
              refine s_iload_n (pc := 112) C dX7_takeToken_112 1 rfl ?_
              refine s_goto (pc := 113) C (tgt := 117) dX7_takeToken_113 (by decide) ?_
              refine s_iast (q := 17) (n := 501) (pc := 117) C dX7_takeToken_117 rfl (by omega) (by omega) (by decide) ?_
              have g117 := gx_set (z := (σ 1 ((σ 16 4).toNat))) g12 17 ((σ 16 3).toNat) rfl (-2147483648) (2147483647) rfl ⟨by omega, by omega⟩
              have f117 := frm_set (P := PT1) (z := (σ 1 ((σ 16 4).toNat))) f12 17 ((σ 16 3).toNat) rfl
              refine s_aload_n (pc := 118) C dX7_takeToken_118 2 rfl ?_
              refine s_dup (pc := 119) C dX7_takeToken_119 rfl ?_
              refine s_geti (q := 16) (ci := 7) (N := 5) (CN := RX7) (T := TX7) (pc := 120) C 4 dX7_takeToken_120 wlX7_31 rfl rfl rfl wfX7 (by decide) rfl (σ 16 4) rfl ?_
              have b120 : (0 : Int) ≤ σ 16 4 ∧ σ 16 4 ≤ 500 := g117.1 16 4
              refine s_iconst (pc := 123) C dX7_takeToken_123 ?_
              refine s_iadd (pc := 124) C dX7_takeToken_124 ?_
              refine s_puti (q := 16) (ci := 7) (N := 5) (CN := RX7) (T := TX7) (ty0 := tyX7) (ty := .int) (pc := 125) C 4 dX7_takeToken_125 wlX7_31 rfl rfl rfl wfX7 tyX7_ok nmX7 (by decide) rfl rfl rfl (vp_nar_int _) rfl ?_
              have g125 := gx_set (z := ((σ 16 4) + 1)) g117 16 4 rfl (0) (500) rfl ⟨by omega, by omega⟩
              have f125 := frm_set (P := PT1) (z := ((σ 16 4) + 1)) f117 16 4 rfl
              refine s_vret (pc := 128) C dX7_takeToken_128 ?_
              refine ⟨rfl, ?_⟩
              exact ⟨g125, f125, by first | exact ot_st k28 | exact ot_st k49 | exact ot_sg (by omega)⟩
          · skip
            refine s_iload_n (pc := 80) C dX7_takeToken_80 0 rfl ?_
            refine s_bipush (pc := 81) C dX7_takeToken_81 (by decide) ?_
            refine s_icmp_eq (pc := 83) C (tgt := 92) dX7_takeToken_83 (by decide) ⟨by omega, by omega⟩ ⟨by decide, by decide⟩ (fun h83 => ?_) (fun h83 => ?_)
            · skip
              refine s_iconst (pc := 92) C dX7_takeToken_92 ?_
              refine s_goto (pc := 93) C (tgt := 97) dX7_takeToken_93 (by decide) ?_
              refine s_istore (pc := 97) C [(4, vI 1), (3, vI (σ 1 ((σ 16 4).toNat))), (0, .ref (ad 16)), (1, .ref (ad 1)), (2, vI q)] dX7_takeToken_97 (by decide) rfl ?_
              refine s_aload_n (pc := 99) C dX7_takeToken_99 2 rfl ?_
              refine s_getr (q := 16) (ci := 7) (N := 5) (CN := RX7) (T := TX7) (pc := 100) C 0 dX7_takeToken_100 wlX7_9 rfl rfl rfl wfX7 (by decide) rfl ?_
              refine s_aload_n (pc := 103) C dX7_takeToken_103 2 rfl ?_
              refine s_geti (q := 16) (ci := 7) (N := 5) (CN := RX7) (T := TX7) (pc := 104) C 3 dX7_takeToken_104 wlX7_27 rfl rfl rfl wfX7 (by decide) rfl (σ 16 3) rfl ?_
              have b104 : (0 : Int) ≤ σ 16 3 ∧ σ 16 3 ≤ 501 := g12.1 16 3
              refine s_iload (pc := 107) C dX7_takeToken_107 0 rfl ?_
              refine s_if_eq (pc := 109) C (tgt := 116) dX7_takeToken_109 (by decide) ⟨by decide, by decide⟩ (fun h109 => ?_) (fun h109 => ?_)
              · exact absurd h109 (by decide)
              · skip
                refine s_iload_n (pc := 112) C dX7_takeToken_112 1 rfl ?_
                refine s_goto (pc := 113) C (tgt := 117) dX7_takeToken_113 (by decide) ?_
                refine s_iast (q := 17) (n := 501) (pc := 117) C dX7_takeToken_117 rfl (by omega) (by omega) (by decide) ?_
                have g117 := gx_set (z := (σ 1 ((σ 16 4).toNat))) g12 17 ((σ 16 3).toNat) rfl (-2147483648) (2147483647) rfl ⟨by omega, by omega⟩
                have f117 := frm_set (P := PT1) (z := (σ 1 ((σ 16 4).toNat))) f12 17 ((σ 16 3).toNat) rfl
                refine s_aload_n (pc := 118) C dX7_takeToken_118 2 rfl ?_
                refine s_dup (pc := 119) C dX7_takeToken_119 rfl ?_
                refine s_geti (q := 16) (ci := 7) (N := 5) (CN := RX7) (T := TX7) (pc := 120) C 4 dX7_takeToken_120 wlX7_31 rfl rfl rfl wfX7 (by decide) rfl (σ 16 4) rfl ?_
                have b120 : (0 : Int) ≤ σ 16 4 ∧ σ 16 4 ≤ 500 := g117.1 16 4
                refine s_iconst (pc := 123) C dX7_takeToken_123 ?_
                refine s_iadd (pc := 124) C dX7_takeToken_124 ?_
                refine s_puti (q := 16) (ci := 7) (N := 5) (CN := RX7) (T := TX7) (ty0 := tyX7) (ty := .int) (pc := 125) C 4 dX7_takeToken_125 wlX7_31 rfl rfl rfl wfX7 tyX7_ok nmX7 (by decide) rfl rfl rfl (vp_nar_int _) rfl ?_
                have g125 := gx_set (z := ((σ 16 4) + 1)) g117 16 4 rfl (0) (500) rfl ⟨by omega, by omega⟩
                have f125 := frm_set (P := PT1) (z := ((σ 16 4) + 1)) f117 16 4 rfl
                refine s_vret (pc := 128) C dX7_takeToken_128 ?_
                refine ⟨rfl, ?_⟩
                exact ⟨g125, f125, by first | exact ot_st k28 | exact ot_st k49 | exact ot_sg (by omega)⟩
            · skip
              refine s_iload_n (pc := 86) C dX7_takeToken_86 0 rfl ?_
              refine s_bipush (pc := 87) C dX7_takeToken_87 (by decide) ?_
              refine s_icmp_ne (pc := 89) C (tgt := 96) dX7_takeToken_89 (by decide) ⟨by omega, by omega⟩ ⟨by decide, by decide⟩ (fun h89 => ?_) (fun h89 => ?_)
              · skip
                refine s_iconst (pc := 96) C dX7_takeToken_96 ?_
                refine s_istore (pc := 97) C [(4, vI 0), (3, vI (σ 1 ((σ 16 4).toNat))), (0, .ref (ad 16)), (1, .ref (ad 1)), (2, vI q)] dX7_takeToken_97 (by decide) rfl ?_
                refine s_aload_n (pc := 99) C dX7_takeToken_99 2 rfl ?_
                refine s_getr (q := 16) (ci := 7) (N := 5) (CN := RX7) (T := TX7) (pc := 100) C 0 dX7_takeToken_100 wlX7_9 rfl rfl rfl wfX7 (by decide) rfl ?_
                refine s_aload_n (pc := 103) C dX7_takeToken_103 2 rfl ?_
                refine s_geti (q := 16) (ci := 7) (N := 5) (CN := RX7) (T := TX7) (pc := 104) C 3 dX7_takeToken_104 wlX7_27 rfl rfl rfl wfX7 (by decide) rfl (σ 16 3) rfl ?_
                have b104 : (0 : Int) ≤ σ 16 3 ∧ σ 16 3 ≤ 501 := g12.1 16 3
                refine s_iload (pc := 107) C dX7_takeToken_107 0 rfl ?_
                refine s_if_eq (pc := 109) C (tgt := 116) dX7_takeToken_109 (by decide) ⟨by decide, by decide⟩ (fun h109 => ?_) (fun h109 => ?_)
                · skip
                  refine s_iconst (pc := 116) C dX7_takeToken_116 ?_
                  refine s_iast (q := 17) (n := 501) (pc := 117) C dX7_takeToken_117 rfl (by omega) (by omega) (by decide) ?_
                  have g117 := gx_set (z := 1) g12 17 ((σ 16 3).toNat) rfl (-2147483648) (2147483647) rfl ⟨by omega, by omega⟩
                  have f117 := frm_set (P := PT1) (z := 1) f12 17 ((σ 16 3).toNat) rfl
                  refine s_aload_n (pc := 118) C dX7_takeToken_118 2 rfl ?_
                  refine s_dup (pc := 119) C dX7_takeToken_119 rfl ?_
                  refine s_geti (q := 16) (ci := 7) (N := 5) (CN := RX7) (T := TX7) (pc := 120) C 4 dX7_takeToken_120 wlX7_31 rfl rfl rfl wfX7 (by decide) rfl (σ 16 4) rfl ?_
                  have b120 : (0 : Int) ≤ σ 16 4 ∧ σ 16 4 ≤ 500 := g117.1 16 4
                  refine s_iconst (pc := 123) C dX7_takeToken_123 ?_
                  refine s_iadd (pc := 124) C dX7_takeToken_124 ?_
                  refine s_puti (q := 16) (ci := 7) (N := 5) (CN := RX7) (T := TX7) (ty0 := tyX7) (ty := .int) (pc := 125) C 4 dX7_takeToken_125 wlX7_31 rfl rfl rfl wfX7 tyX7_ok nmX7 (by decide) rfl rfl rfl (vp_nar_int _) rfl ?_
                  have g125 := gx_set (z := ((σ 16 4) + 1)) g117 16 4 rfl (0) (500) rfl ⟨by omega, by omega⟩
                  have f125 := frm_set (P := PT1) (z := ((σ 16 4) + 1)) f117 16 4 rfl
                  refine s_vret (pc := 128) C dX7_takeToken_128 ?_
                  refine ⟨rfl, ?_⟩
                  exact ⟨g125, f125, by first | exact ot_st k28 | exact ot_st k49 | exact ot_sg (by omega)⟩
                · exact absurd h109 (by decide)
              · skip
                refine s_iconst (pc := 92) C dX7_takeToken_92 ?_
                refine s_goto (pc := 93) C (tgt := 97) dX7_takeToken_93 (by decide) ?_
                refine s_istore (pc := 97) C [(4, vI 1), (3, vI (σ 1 ((σ 16 4).toNat))), (0, .ref (ad 16)), (1, .ref (ad 1)), (2, vI q)] dX7_takeToken_97 (by decide) rfl ?_
                refine s_aload_n (pc := 99) C dX7_takeToken_99 2 rfl ?_
                refine s_getr (q := 16) (ci := 7) (N := 5) (CN := RX7) (T := TX7) (pc := 100) C 0 dX7_takeToken_100 wlX7_9 rfl rfl rfl wfX7 (by decide) rfl ?_
                refine s_aload_n (pc := 103) C dX7_takeToken_103 2 rfl ?_
                refine s_geti (q := 16) (ci := 7) (N := 5) (CN := RX7) (T := TX7) (pc := 104) C 3 dX7_takeToken_104 wlX7_27 rfl rfl rfl wfX7 (by decide) rfl (σ 16 3) rfl ?_
                have b104 : (0 : Int) ≤ σ 16 3 ∧ σ 16 3 ≤ 501 := g12.1 16 3
                refine s_iload (pc := 107) C dX7_takeToken_107 0 rfl ?_
                refine s_if_eq (pc := 109) C (tgt := 116) dX7_takeToken_109 (by decide) ⟨by decide, by decide⟩ (fun h109 => ?_) (fun h109 => ?_)
                · exact absurd h109 (by decide)
                · skip
                  refine s_iload_n (pc := 112) C dX7_takeToken_112 1 rfl ?_
                  refine s_goto (pc := 113) C (tgt := 117) dX7_takeToken_113 (by decide) ?_
                  refine s_iast (q := 17) (n := 501) (pc := 117) C dX7_takeToken_117 rfl (by omega) (by omega) (by decide) ?_
                  have g117 := gx_set (z := (σ 1 ((σ 16 4).toNat))) g12 17 ((σ 16 3).toNat) rfl (-2147483648) (2147483647) rfl ⟨by omega, by omega⟩
                  have f117 := frm_set (P := PT1) (z := (σ 1 ((σ 16 4).toNat))) f12 17 ((σ 16 3).toNat) rfl
                  refine s_aload_n (pc := 118) C dX7_takeToken_118 2 rfl ?_
                  refine s_dup (pc := 119) C dX7_takeToken_119 rfl ?_
                  refine s_geti (q := 16) (ci := 7) (N := 5) (CN := RX7) (T := TX7) (pc := 120) C 4 dX7_takeToken_120 wlX7_31 rfl rfl rfl wfX7 (by decide) rfl (σ 16 4) rfl ?_
                  have b120 : (0 : Int) ≤ σ 16 4 ∧ σ 16 4 ≤ 500 := g117.1 16 4
                  refine s_iconst (pc := 123) C dX7_takeToken_123 ?_
                  refine s_iadd (pc := 124) C dX7_takeToken_124 ?_
                  refine s_puti (q := 16) (ci := 7) (N := 5) (CN := RX7) (T := TX7) (ty0 := tyX7) (ty := .int) (pc := 125) C 4 dX7_takeToken_125 wlX7_31 rfl rfl rfl wfX7 tyX7_ok nmX7 (by decide) rfl rfl rfl (vp_nar_int _) rfl ?_
                  have g125 := gx_set (z := ((σ 16 4) + 1)) g117 16 4 rfl (0) (500) rfl ⟨by omega, by omega⟩
                  have f125 := frm_set (P := PT1) (z := ((σ 16 4) + 1)) f117 16 4 rfl
                  refine s_vret (pc := 128) C dX7_takeToken_128 ?_
                  refine ⟨rfl, ?_⟩
                  exact ⟨g125, f125, by first | exact ot_st k28 | exact ot_st k49 | exact ot_sg (by omega)⟩
    · skip
      refine s_aload_n (pc := 46) C dX7_takeToken_46 0 rfl ?_
      refine s_aload_n (pc := 47) C dX7_takeToken_47 1 rfl ?_
      refine s_iload_n (pc := 48) C dX7_takeToken_48 2 rfl ?_
      have r49_16_3 : (hs_ss σ 18 ((σ 16 3).toNat) (σ 16 4)) 16 3 = σ 16 3 := rfl
      refine s_callVv (pc := 49) C (c_X7_takeNumber l q (by first | omega | assumption | (constructor <;> omega) | (refine ⟨⟨?_, ?_⟩, ?_⟩ <;> omega) | (simp [hs_ss, hs_up]; omega) | (simp [hs_ss, hs_up]; done))) [.ref (ad 1), vI q] [] rfl rfl dX7_takeToken_49 wlX7_48 wiX7_takeNumber weX7_takeNumber wcX7_takeNumber wnX7 noX7_takeNumber (by decide) (by decide) (Nat.le_of_ble_eq_true rfl) ⟨(gx_self g12), by show σ 16 3 ≤ 500; omega⟩ rfl rfl ?_
      rintro σ49 k49
      obtain ⟨kg49, kf49, k49⟩ := k49
      have g49 := gx_trans g12 kg49
      have f49 := frm_tr f12 (frm_mono (Q := PT1) kf49 (fun _ _ h => h))
      show hs_Wd _ _ _ _ _ _ _ _ _ _ _ _ _ _ _ _ _ 52 _ [] σ49
      refine s_goto (pc := 52) C (tgt := 128) dX7_takeToken_52 (by decide) ?_
      refine s_vret (pc := 128) C dX7_takeToken_128 ?_
      refine ⟨rfl, ?_⟩
      exact ⟨g49, f49, by first | exact ot_st k28 | exact ot_st k49 | exact ot_sg (by omega)⟩
  · skip
    refine s_aload_n (pc := 25) C dX7_takeToken_25 0 rfl ?_
    refine s_aload_n (pc := 26) C dX7_takeToken_26 1 rfl ?_
    refine s_iload_n (pc := 27) C dX7_takeToken_27 2 rfl ?_
    have r28_16_3 : (hs_ss σ 18 ((σ 16 3).toNat) (σ 16 4)) 16 3 = σ 16 3 := rfl
    have r28_16_4 : (hs_ss σ 18 ((σ 16 3).toNat) (σ 16 4)) 16 4 = σ 16 4 := rfl
    refine s_callVv (pc := 28) C (c_X7_takeWord l q (by first | omega | assumption | (constructor <;> omega) | (refine ⟨⟨?_, ?_⟩, ?_⟩ <;> omega) | (simp [hs_ss, hs_up]; omega) | (simp [hs_ss, hs_up]; done))) [.ref (ad 1), vI q] [] rfl rfl dX7_takeToken_28 wlX7_42 wiX7_takeWord weX7_takeWord wcX7_takeWord wnX7 noX7_takeWord (by decide) (by decide) (Nat.le_of_ble_eq_true rfl) ⟨(gx_self g12), ⟨by show σ 16 3 ≤ 500; omega, by show σ 16 4 < q; omega, by show 97 ≤ σ 1 (σ 16 4).toNat; omega⟩⟩ rfl rfl ?_
    rintro σ28 k28
    obtain ⟨kg28, kf28, k28⟩ := k28
    have g28 := gx_trans g12 kg28
    have f28 := frm_tr f12 (frm_mono (Q := PT1) kf28 (fun _ _ h => h))
    show hs_Wd _ _ _ _ _ _ _ _ _ _ _ _ _ _ _ _ _ 31 _ [] σ28
    refine s_goto (pc := 31) C (tgt := 128) dX7_takeToken_31 (by decide) ?_
    refine s_vret (pc := 128) C dX7_takeToken_128 ?_
    refine ⟨rfl, ?_⟩
    exact ⟨g28, f28, by first | exact ot_st k28 | exact ot_st k49 | exact ot_sg (by omega)⟩
set_option maxHeartbeats 4000000 in
set_option maxRecDepth 100000 in
theorem c_X7_split (l : Launch) (n : Int) (hn : 0 ≤ n ∧ n ≤ 500) : hs_Met l yX7_split cX7_split 5 none 9 SHX (fun ad => [.ref (ad 16), .ref (ad 1), vI n]) (fun σ => GX σ σ) (hs_PV (fun σ σ1 => GX σ σ1 ∧ FRM PTk σ σ1 ∧ TKs σ1 ∧ 1 ≤ σ1 16 3)) := by
  refine hs_from pfX7_split (fun _ => Nat.le_of_ble_eq_true rfl) ?_
  intro p e s m args below meth c D dA ad A σ C hpre
  have C : hs_C p s m args meth c D dA SHX ad A 5 cX7_split RX7 none := C
  have g0 := hpre
  have f0 : FRM PTk σ σ := frm_rf
  show hs_Wd p l e 9 s m args below meth c D dA SHX ad A 5 (hs_PV (fun σ σ1 => GX σ σ1 ∧ FRM PTk σ σ1 ∧ TKs σ1 ∧ 1 ≤ σ1 16 3) σ) 0 [(0, .ref (ad 16)), (1, .ref (ad 1)), (2, vI n)] [] σ
  refine s_iload_n (pc := 0) C dX7_split_0 2 rfl ?_
  refine s_aload_n (pc := 1) C dX7_split_1 1 rfl ?_
  refine s_alen (q := 1) (n := 500) (t := 0) (pc := 2) C dX7_split_2 rfl rfl ?_
  refine s_sipush (pc := 3) C dX7_split_3 (by decide) ?_
  refine s_callSi (pc := 6) C (c_J9_min_7cf53 l (((500 : Nat) : Int)) 500 ⟨by omega, by omega⟩ ⟨by omega, by omega⟩) [vI (((500 : Nat) : Int)), vI 500] [vI n] rfl rfl dX7_split_6 wlX7_21 wtJ9_min_7cf53 wcJ9_min_7cf53 wnJ9 noJ9_min_7cf53 (by decide) (by decide) (Nat.le_of_ble_eq_true rfl) (by first | omega | assumption | (constructor <;> omega) | (refine ⟨⟨?_, ?_⟩, ?_⟩ <;> omega) | (simp [hs_ss, hs_up]; omega) | (simp [hs_ss, hs_up]; done)) ?_
  rintro _ _ ⟨rfl, rfl⟩
  show hs_Wd _ _ _ _ _ _ _ _ _ _ _ _ _ _ _ _ _ 9 _ [vI (min (((500 : Nat) : Int)) 500), vI n] σ
  refine s_callSi (pc := 9) C (c_J9_min_7cf53 l n (min (((500 : Nat) : Int)) 500) ⟨by omega, by omega⟩ ⟨by omega, by omega⟩) [vI n, vI (min (((500 : Nat) : Int)) 500)] [] rfl rfl dX7_split_9 wlX7_21 wtJ9_min_7cf53 wcJ9_min_7cf53 wnJ9 noJ9_min_7cf53 (by decide) (by decide) (Nat.le_of_ble_eq_true rfl) (by first | omega | assumption | (constructor <;> omega) | (refine ⟨⟨?_, ?_⟩, ?_⟩ <;> omega) | (simp [hs_ss, hs_up]; omega) | (simp [hs_ss, hs_up]; done)) ?_
  rintro _ _ ⟨rfl, rfl⟩
  show hs_Wd _ _ _ _ _ _ _ _ _ _ _ _ _ _ _ _ _ 12 _ [vI (min n (min (((500 : Nat) : Int)) 500))] σ
  refine s_istore_n (pc := 12) C [(3, vI (min n (min (((500 : Nat) : Int)) 500))), (0, .ref (ad 16)), (1, .ref (ad 1)), (2, vI n)] dX7_split_12 (by decide) rfl ?_
  refine s_aload_n (pc := 13) C dX7_split_13 1 rfl ?_
  refine s_iconst (pc := 14) C dX7_split_14 ?_
  refine s_puti (q := 16) (ci := 7) (N := 5) (CN := RX7) (T := TX7) (ty0 := tyX7) (ty := .int) (pc := 15) C 3 dX7_split_15 wlX7_27 rfl rfl rfl wfX7 tyX7_ok nmX7 (by decide) rfl rfl rfl (vp_nar_int _) rfl ?_
  have g15 := gx_set (z := 0) g0 16 3 rfl (0) (501) rfl ⟨by omega, by omega⟩
  have f15 := frm_set (P := PTk) (z := 0) f0 16 3 rfl
  refine s_aload_n (pc := 18) C dX7_split_18 1 rfl ?_
  refine s_iconst (pc := 19) C dX7_split_19 ?_
  refine s_puti (q := 16) (ci := 7) (N := 5) (CN := RX7) (T := TX7) (ty0 := tyX7) (ty := .int) (pc := 20) C 4 dX7_split_20 wlX7_31 rfl rfl rfl wfX7 tyX7_ok nmX7 (by decide) rfl rfl rfl (vp_nar_int _) rfl ?_
  have g20 := gx_set (z := 0) g15 16 4 rfl (0) (500) rfl ⟨by omega, by omega⟩
  have f20 := frm_set (P := PTk) (z := 0) f15 16 4 rfl
  refine s_iconst (pc := 23) C dX7_split_23 ?_
  refine s_istore (pc := 24) C [(4, vI 0), (3, vI (min n (min (((500 : Nat) : Int)) 500))), (0, .ref (ad 16)), (1, .ref (ad 1)), (2, vI n)] dX7_split_24 (by decide) rfl ?_
  refine s_sub C [2, 3, 4, 1, 0] [(0, .ref (ad 16)), (1, .ref (ad 1)), (2, vI n), (3, vI (min n (min (((500 : Nat) : Int)) 500))), (4, vI 0)] rfl ?_
  have hi26 : GX σ ((hs_ss (hs_ss σ 16 3 0) 16 4 0)) ∧ FRM PTk σ ((hs_ss (hs_ss σ 16 3 0) 16 4 0)) ∧ 0 ≤ (0 : Int) ∧ (0 : Int) ≤ 500 ∧ ((hs_ss (hs_ss σ 16 3 0) 16 4 0)) 16 3 ≤ (0 : Int) ∧ TKs ((hs_ss (hs_ss σ 16 3 0) 16 4 0)) := ⟨g20, f20, ⟨by omega, by omega, by simp [hs_ss, hs_up], fun k hk => by exfalso; have hk : (k : Int) < 0 := hk; omega⟩⟩
  refine hs_loop (α := Int × hs_S) (fun x_ => (GX σ x_.2 ∧ FRM PTk σ x_.2 ∧ 0 ≤ x_.1 ∧ x_.1 ≤ 500 ∧ x_.2 16 3 ≤ x_.1 ∧ TKs x_.2) → hs_Wd p l e 9 s m args below meth c D dA SHX ad A 5 (hs_PV (fun σ σ1 => GX σ σ1 ∧ FRM PTk σ σ1 ∧ TKs σ1 ∧ 1 ≤ σ1 16 3) σ) 26 [(0, .ref (ad 16)), (1, .ref (ad 1)), (2, vI n), (3, vI (min n (min (((500 : Nat) : Int)) 500))), (4, vI x_.1)] [] x_.2) (fun x_ => (501 - x_.1).toNat) ?_ (0, (hs_ss (hs_ss σ 16 3 0) 16 4 0)) hi26
  rintro ⟨tk, σ1⟩ ih26 hinv
  replace hinv : GX σ σ1 ∧ FRM PTk σ σ1 ∧ 0 ≤ tk ∧ tk ≤ 500 ∧ σ1 16 3 ≤ tk ∧ TKs σ1 := hinv
  obtain ⟨hg26, hf26, hv26⟩ := hinv
  show hs_Wd p l e 9 s m args below meth c D dA SHX ad A 5 (hs_PV (fun σ σ1 => GX σ σ1 ∧ FRM PTk σ σ1 ∧ TKs σ1 ∧ 1 ≤ σ1 16 3) σ) 26 [(0, .ref (ad 16)), (1, .ref (ad 1)), (2, vI n), (3, vI (min n (min (((500 : Nat) : Int)) 500))), (4, vI tk)] [] σ1
  obtain ⟨ht0, ht1, ht2, htk⟩ := hv26
  have b163 : (0 : Int) ≤ σ1 16 3 ∧ σ1 16 3 ≤ 501 := hg26.1 16 3
  refine s_iload (pc := 26) C dX7_split_26 4 rfl ?_
  refine s_iload_n (pc := 28) C dX7_split_28 3 rfl ?_
  refine s_icmp_ge (pc := 29) C (tgt := 97) dX7_split_29 (by decide) ⟨by omega, by omega⟩ ⟨by omega, by omega⟩ (fun h29 => ?_) (fun h29 => ?_)
  · skip
    refine s_aload_n (pc := 97) C dX7_split_97 0 rfl ?_
    refine s_getr (q := 16) (ci := 7) (N := 5) (CN := RX7) (T := TX7) (pc := 98) C 0 dX7_split_98 wlX7_9 rfl rfl rfl wfX7 (by decide) rfl ?_
    refine s_aload_n (pc := 101) C dX7_split_101 0 rfl ?_
    refine s_geti (q := 16) (ci := 7) (N := 5) (CN := RX7) (T := TX7) (pc := 102) C 3 dX7_split_102 wlX7_27 rfl rfl rfl wfX7 (by decide) rfl (σ1 16 3) rfl ?_
    have b102 : (0 : Int) ≤ σ1 16 3 ∧ σ1 16 3 ≤ 501 := hg26.1 16 3
    refine s_iconst (pc := 105) C dX7_split_105 ?_
    refine s_iast (q := 17) (n := 501) (pc := 106) C dX7_split_106 rfl (by omega) (by omega) (by decide) ?_
    have g106 := gx_set (z := 0) hg26 17 ((σ1 16 3).toNat) rfl (-2147483648) (2147483647) rfl ⟨by omega, by omega⟩
    have f106 := frm_set (P := PTk) (z := 0) hf26 17 ((σ1 16 3).toNat) rfl
    refine s_aload_n (pc := 107) C dX7_split_107 0 rfl ?_
    refine s_getr (q := 16) (ci := 7) (N := 5) (CN := RX7) (T := TX7) (pc := 108) C 1 dX7_split_108 wlX7_15 rfl rfl rfl wfX7 (by decide) rfl ?_
    refine s_aload_n (pc := 111) C dX7_split_111 0 rfl ?_
    refine s_geti (q := 16) (ci := 7) (N := 5) (CN := RX7) (T := TX7) (pc := 112) C 3 dX7_split_112 wlX7_27 rfl rfl rfl wfX7 (by decide) rfl (σ1 16 3) rfl ?_
    have b112 : (0 : Int) ≤ σ1 16 3 ∧ σ1 16 3 ≤ 501 := g106.1 16 3
    refine s_iload_n (pc := 115) C dX7_split_115 3 rfl ?_
    refine s_iast (q := 18) (n := 501) (pc := 116) C dX7_split_116 rfl (by omega) (by omega) (by decide) ?_
    have g116 := gx_set (z := (min n (min (((500 : Nat) : Int)) 500))) g106 18 ((σ1 16 3).toNat) rfl (0) (500) rfl ⟨by omega, by omega⟩
    have f116 := frm_set (P := PTk) (z := (min n (min (((500 : Nat) : Int)) 500))) f106 18 ((σ1 16 3).toNat) rfl
    refine s_aload_n (pc := 117) C dX7_split_117 0 rfl ?_
    refine s_dup (pc := 118) C dX7_split_118 rfl ?_
    refine s_geti (q := 16) (ci := 7) (N := 5) (CN := RX7) (T := TX7) (pc := 119) C 3 dX7_split_119 wlX7_27 rfl rfl rfl wfX7 (by decide) rfl (σ1 16 3) rfl ?_
    have b119 : (0 : Int) ≤ σ1 16 3 ∧ σ1 16 3 ≤ 501 := g116.1 16 3
    refine s_iconst (pc := 122) C dX7_split_122 ?_
    refine s_iadd (pc := 123) C dX7_split_123 ?_
    refine s_puti (q := 16) (ci := 7) (N := 5) (CN := RX7) (T := TX7) (ty0 := tyX7) (ty := .int) (pc := 124) C 3 dX7_split_124 wlX7_27 rfl rfl rfl wfX7 tyX7_ok nmX7 (by decide) rfl rfl rfl (vp_nar_int _) rfl ?_
    have g124 := gx_set (z := ((σ1 16 3) + 1)) g116 16 3 rfl (0) (501) rfl ⟨by omega, by omega⟩
    have f124 := frm_set (P := PTk) (z := ((σ1 16 3) + 1)) f116 16 3 rfl
    refine s_vret (pc := 127) C dX7_split_127 ?_
    refine ⟨rfl, ?_⟩
    exact ⟨g124, f124, ⟨tks_end htk b163.1, by show 1 ≤ σ1 16 3 + 1; omega⟩⟩
  · skip
    refine s_aload_n (pc := 32) C dX7_split_32 0 rfl ?_
    refine s_geti (q := 16) (ci := 7) (N := 5) (CN := RX7) (T := TX7) (pc := 33) C 4 dX7_split_33 wlX7_31 rfl rfl rfl wfX7 (by decide) rfl (σ1 16 4) rfl ?_
    have b33 : (0 : Int) ≤ σ1 16 4 ∧ σ1 16 4 ≤ 500 := hg26.1 16 4
    refine s_iload_n (pc := 36) C dX7_split_36 3 rfl ?_
    refine s_icmp_ge (pc := 37) C (tgt := 97) dX7_split_37 (by decide) ⟨by omega, by omega⟩ ⟨by omega, by omega⟩ (fun h37 => ?_) (fun h37 => ?_)
    · skip
      refine s_aload_n (pc := 97) C dX7_split_97 0 rfl ?_
      refine s_getr (q := 16) (ci := 7) (N := 5) (CN := RX7) (T := TX7) (pc := 98) C 0 dX7_split_98 wlX7_9 rfl rfl rfl wfX7 (by decide) rfl ?_
      refine s_aload_n (pc := 101) C dX7_split_101 0 rfl ?_
      refine s_geti (q := 16) (ci := 7) (N := 5) (CN := RX7) (T := TX7) (pc := 102) C 3 dX7_split_102 wlX7_27 rfl rfl rfl wfX7 (by decide) rfl (σ1 16 3) rfl ?_
      have b102 : (0 : Int) ≤ σ1 16 3 ∧ σ1 16 3 ≤ 501 := hg26.1 16 3
      refine s_iconst (pc := 105) C dX7_split_105 ?_
      refine s_iast (q := 17) (n := 501) (pc := 106) C dX7_split_106 rfl (by omega) (by omega) (by decide) ?_
      have g106 := gx_set (z := 0) hg26 17 ((σ1 16 3).toNat) rfl (-2147483648) (2147483647) rfl ⟨by omega, by omega⟩
      have f106 := frm_set (P := PTk) (z := 0) hf26 17 ((σ1 16 3).toNat) rfl
      refine s_aload_n (pc := 107) C dX7_split_107 0 rfl ?_
      refine s_getr (q := 16) (ci := 7) (N := 5) (CN := RX7) (T := TX7) (pc := 108) C 1 dX7_split_108 wlX7_15 rfl rfl rfl wfX7 (by decide) rfl ?_
      refine s_aload_n (pc := 111) C dX7_split_111 0 rfl ?_
      refine s_geti (q := 16) (ci := 7) (N := 5) (CN := RX7) (T := TX7) (pc := 112) C 3 dX7_split_112 wlX7_27 rfl rfl rfl wfX7 (by decide) rfl (σ1 16 3) rfl ?_
      have b112 : (0 : Int) ≤ σ1 16 3 ∧ σ1 16 3 ≤ 501 := g106.1 16 3
      refine s_iload_n (pc := 115) C dX7_split_115 3 rfl ?_
      refine s_iast (q := 18) (n := 501) (pc := 116) C dX7_split_116 rfl (by omega) (by omega) (by decide) ?_
      have g116 := gx_set (z := (min n (min (((500 : Nat) : Int)) 500))) g106 18 ((σ1 16 3).toNat) rfl (0) (500) rfl ⟨by omega, by omega⟩
      have f116 := frm_set (P := PTk) (z := (min n (min (((500 : Nat) : Int)) 500))) f106 18 ((σ1 16 3).toNat) rfl
      refine s_aload_n (pc := 117) C dX7_split_117 0 rfl ?_
      refine s_dup (pc := 118) C dX7_split_118 rfl ?_
      refine s_geti (q := 16) (ci := 7) (N := 5) (CN := RX7) (T := TX7) (pc := 119) C 3 dX7_split_119 wlX7_27 rfl rfl rfl wfX7 (by decide) rfl (σ1 16 3) rfl ?_
      have b119 : (0 : Int) ≤ σ1 16 3 ∧ σ1 16 3 ≤ 501 := g116.1 16 3
      refine s_iconst (pc := 122) C dX7_split_122 ?_
      refine s_iadd (pc := 123) C dX7_split_123 ?_
      refine s_puti (q := 16) (ci := 7) (N := 5) (CN := RX7) (T := TX7) (ty0 := tyX7) (ty := .int) (pc := 124) C 3 dX7_split_124 wlX7_27 rfl rfl rfl wfX7 tyX7_ok nmX7 (by decide) rfl rfl rfl (vp_nar_int _) rfl ?_
      have g124 := gx_set (z := ((σ1 16 3) + 1)) g116 16 3 rfl (0) (501) rfl ⟨by omega, by omega⟩
      have f124 := frm_set (P := PTk) (z := ((σ1 16 3) + 1)) f116 16 3 rfl
      refine s_vret (pc := 127) C dX7_split_127 ?_
      refine ⟨rfl, ?_⟩
      exact ⟨g124, f124, ⟨tks_end htk b163.1, by show 1 ≤ σ1 16 3 + 1; omega⟩⟩
    · skip
      refine s_aload_n (pc := 40) C dX7_split_40 1 rfl ?_
      refine s_aload_n (pc := 41) C dX7_split_41 0 rfl ?_
      refine s_geti (q := 16) (ci := 7) (N := 5) (CN := RX7) (T := TX7) (pc := 42) C 4 dX7_split_42 wlX7_31 rfl rfl rfl wfX7 (by decide) rfl (σ1 16 4) rfl ?_
      have b42 : (0 : Int) ≤ σ1 16 4 ∧ σ1 16 4 ≤ 500 := hg26.1 16 4
      refine s_bald (q := 1) (n := 500) (pc := 45) C (σ1 1 ((σ1 16 4).toNat)) rfl dX7_split_45 rfl (by omega) (by omega) (by decide) ?_
      have b45 : (-128 : Int) ≤ σ1 1 ((σ1 16 4).toNat) ∧ σ1 1 ((σ1 16 4).toNat) ≤ 127 := hg26.1 1 ((σ1 16 4).toNat)
      refine s_bipush (pc := 46) C dX7_split_46 (by decide) ?_
      refine s_icmp_eq (pc := 48) C (tgt := 62) dX7_split_48 (by decide) ⟨by omega, by omega⟩ ⟨by decide, by decide⟩ (fun h48 => ?_) (fun h48 => ?_)
      · skip
        refine s_aload_n (pc := 62) C dX7_split_62 0 rfl ?_
        refine s_dup (pc := 63) C dX7_split_63 rfl ?_
        refine s_geti (q := 16) (ci := 7) (N := 5) (CN := RX7) (T := TX7) (pc := 64) C 4 dX7_split_64 wlX7_31 rfl rfl rfl wfX7 (by decide) rfl (σ1 16 4) rfl ?_
        have b64 : (0 : Int) ≤ σ1 16 4 ∧ σ1 16 4 ≤ 500 := hg26.1 16 4
        refine s_iconst (pc := 67) C dX7_split_67 ?_
        refine s_iadd (pc := 68) C dX7_split_68 ?_
        refine s_puti (q := 16) (ci := 7) (N := 5) (CN := RX7) (T := TX7) (ty0 := tyX7) (ty := .int) (pc := 69) C 4 dX7_split_69 wlX7_31 rfl rfl rfl wfX7 tyX7_ok nmX7 (by decide) rfl rfl rfl (vp_nar_int _) rfl ?_
        have g69 := gx_set (z := ((σ1 16 4) + 1)) hg26 16 4 rfl (0) (500) rfl ⟨by omega, by omega⟩
        have f69 := frm_set (P := PTk) (z := ((σ1 16 4) + 1)) hf26 16 4 rfl
        refine s_goto (pc := 72) C (tgt := 91) dX7_split_72 (by decide) ?_
        refine s_iinc (pc := 91) C [(4, vI (tk + 1)), (0, .ref (ad 16)), (1, .ref (ad 1)), (2, vI n), (3, vI (min n (min (((500 : Nat) : Int)) 500)))] dX7_split_91 4 rfl (by decide) rfl ?_
        refine s_goto (pc := 94) C (tgt := 26) dX7_split_94 (by decide) ?_
        refine s_sub C [1, 2, 3, 4, 0] [(0, .ref (ad 16)), (1, .ref (ad 1)), (2, vI n), (3, vI (min n (min (((500 : Nat) : Int)) 500))), (4, vI (tk + 1))] rfl ?_
        have hi26 : GX σ ((hs_ss σ1 16 4 ((σ1 16 4) + 1))) ∧ FRM PTk σ ((hs_ss σ1 16 4 ((σ1 16 4) + 1))) ∧ 0 ≤ (tk + 1) ∧ (tk + 1) ≤ 500 ∧ ((hs_ss σ1 16 4 ((σ1 16 4) + 1))) 16 3 ≤ (tk + 1) ∧ TKs ((hs_ss σ1 16 4 ((σ1 16 4) + 1))) := ⟨g69, f69, by first | exact ⟨by omega, by omega, by show σ1 16 3 ≤ _; omega, htk⟩ | exact ⟨by omega, by omega, by show σ78 16 3 + 1 ≤ _; omega, tks_step htk e78 b163.1 k78⟩⟩
        exact ih26 (tk + 1, (hs_ss σ1 16 4 ((σ1 16 4) + 1))) (by first | omega | (simp only []; omega)) hi26
      · skip
        refine s_aload_n (pc := 51) C dX7_split_51 1 rfl ?_
        refine s_aload_n (pc := 52) C dX7_split_52 0 rfl ?_
        refine s_geti (q := 16) (ci := 7) (N := 5) (CN := RX7) (T := TX7) (pc := 53) C 4 dX7_split_53 wlX7_31 rfl rfl rfl wfX7 (by decide) rfl (σ1 16 4) rfl ?_
        have b53 : (0 : Int) ≤ σ1 16 4 ∧ σ1 16 4 ≤ 500 := hg26.1 16 4
        refine s_bald (q := 1) (n := 500) (pc := 56) C (σ1 1 ((σ1 16 4).toNat)) rfl dX7_split_56 rfl (by omega) (by omega) (by decide) ?_
        have b56 : (-128 : Int) ≤ σ1 1 ((σ1 16 4).toNat) ∧ σ1 1 ((σ1 16 4).toNat) ≤ 127 := hg26.1 1 ((σ1 16 4).toNat)
        refine s_bipush (pc := 57) C dX7_split_57 (by decide) ?_
        refine s_icmp_ne (pc := 59) C (tgt := 75) dX7_split_59 (by decide) ⟨by omega, by omega⟩ ⟨by decide, by decide⟩ (fun h59 => ?_) (fun h59 => ?_)
        · skip
          refine s_aload_n (pc := 75) C dX7_split_75 0 rfl ?_
          refine s_aload_n (pc := 76) C dX7_split_76 1 rfl ?_
          refine s_iload_n (pc := 77) C dX7_split_77 3 rfl ?_
          refine s_callVv (pc := 78) C (c_X7_takeToken l (min n (min (((500 : Nat) : Int)) 500)) (by first | omega | assumption | (constructor <;> omega) | (refine ⟨⟨?_, ?_⟩, ?_⟩ <;> omega) | (simp [hs_ss, hs_up]; omega) | (simp [hs_ss, hs_up]; done))) [.ref (ad 1), vI (min n (min (((500 : Nat) : Int)) 500))] [] rfl rfl dX7_split_78 wlX7_34 wiX7_takeToken weX7_takeToken wcX7_takeToken wnX7 noX7_takeToken (by decide) (by decide) (Nat.le_of_ble_eq_true rfl) ⟨(gx_self hg26), by first | omega | assumption | (constructor <;> omega) | (refine ⟨⟨?_, ?_⟩, ?_⟩ <;> omega) | (simp [hs_ss, hs_up]; omega) | (simp [hs_ss, hs_up]; done)⟩ rfl rfl ?_
          rintro σ78 k78
          obtain ⟨kg78, kf78, k78⟩ := k78
          have g78 := gx_trans hg26 kg78
          have f78 := frm_tr hf26 (frm_mono (Q := PTk) kf78 (fun c j h => by simp [PT1, PTk] at h ⊢ <;> omega))
          have e78 : σ78 16 3 = σ1 16 3 := kf78 16 3 rfl
          show hs_Wd _ _ _ _ _ _ _ _ _ _ _ _ _ _ _ _ _ 81 _ [] σ78
          refine s_aload_n (pc := 81) C dX7_split_81 0 rfl ?_
          refine s_dup (pc := 82) C dX7_split_82 rfl ?_
          refine s_geti (q := 16) (ci := 7) (N := 5) (CN := RX7) (T := TX7) (pc := 83) C 3 dX7_split_83 wlX7_27 rfl rfl rfl wfX7 (by decide) rfl (σ78 16 3) rfl ?_
          have b83 : (0 : Int) ≤ σ78 16 3 ∧ σ78 16 3 ≤ 501 := g78.1 16 3
          refine s_iconst (pc := 86) C dX7_split_86 ?_
          refine s_iadd (pc := 87) C dX7_split_87 ?_
          refine s_puti (q := 16) (ci := 7) (N := 5) (CN := RX7) (T := TX7) (ty0 := tyX7) (ty := .int) (pc := 88) C 3 dX7_split_88 wlX7_27 rfl rfl rfl wfX7 tyX7_ok nmX7 (by decide) rfl rfl rfl (vp_nar_int _) rfl ?_
          have g88 := gx_set (z := ((σ78 16 3) + 1)) g78 16 3 rfl (0) (501) rfl ⟨by omega, by omega⟩
          have f88 := frm_set (P := PTk) (z := ((σ78 16 3) + 1)) f78 16 3 rfl
          refine s_iinc (pc := 91) C [(4, vI (tk + 1)), (0, .ref (ad 16)), (1, .ref (ad 1)), (2, vI n), (3, vI (min n (min (((500 : Nat) : Int)) 500)))] dX7_split_91 4 rfl (by decide) rfl ?_
          refine s_goto (pc := 94) C (tgt := 26) dX7_split_94 (by decide) ?_
          refine s_sub C [1, 2, 3, 4, 0] [(0, .ref (ad 16)), (1, .ref (ad 1)), (2, vI n), (3, vI (min n (min (((500 : Nat) : Int)) 500))), (4, vI (tk + 1))] rfl ?_
          have hi26 : GX σ ((hs_ss σ78 16 3 ((σ78 16 3) + 1))) ∧ FRM PTk σ ((hs_ss σ78 16 3 ((σ78 16 3) + 1))) ∧ 0 ≤ (tk + 1) ∧ (tk + 1) ≤ 500 ∧ ((hs_ss σ78 16 3 ((σ78 16 3) + 1))) 16 3 ≤ (tk + 1) ∧ TKs ((hs_ss σ78 16 3 ((σ78 16 3) + 1))) := ⟨g88, f88, by first | exact ⟨by omega, by omega, by show σ1 16 3 ≤ _; omega, htk⟩ | exact ⟨by omega, by omega, by show σ78 16 3 + 1 ≤ _; omega, tks_step htk e78 b163.1 k78⟩⟩
          exact ih26 (tk + 1, (hs_ss σ78 16 3 ((σ78 16 3) + 1))) (by first | omega | (simp only []; omega)) hi26
        · skip
          refine s_aload_n (pc := 62) C dX7_split_62 0 rfl ?_
          refine s_dup (pc := 63) C dX7_split_63 rfl ?_
          refine s_geti (q := 16) (ci := 7) (N := 5) (CN := RX7) (T := TX7) (pc := 64) C 4 dX7_split_64 wlX7_31 rfl rfl rfl wfX7 (by decide) rfl (σ1 16 4) rfl ?_
          have b64 : (0 : Int) ≤ σ1 16 4 ∧ σ1 16 4 ≤ 500 := hg26.1 16 4
          refine s_iconst (pc := 67) C dX7_split_67 ?_
          refine s_iadd (pc := 68) C dX7_split_68 ?_
          refine s_puti (q := 16) (ci := 7) (N := 5) (CN := RX7) (T := TX7) (ty0 := tyX7) (ty := .int) (pc := 69) C 4 dX7_split_69 wlX7_31 rfl rfl rfl wfX7 tyX7_ok nmX7 (by decide) rfl rfl rfl (vp_nar_int _) rfl ?_
          have g69 := gx_set (z := ((σ1 16 4) + 1)) hg26 16 4 rfl (0) (500) rfl ⟨by omega, by omega⟩
          have f69 := frm_set (P := PTk) (z := ((σ1 16 4) + 1)) hf26 16 4 rfl
          refine s_goto (pc := 72) C (tgt := 91) dX7_split_72 (by decide) ?_
          refine s_iinc (pc := 91) C [(4, vI (tk + 1)), (0, .ref (ad 16)), (1, .ref (ad 1)), (2, vI n), (3, vI (min n (min (((500 : Nat) : Int)) 500)))] dX7_split_91 4 rfl (by decide) rfl ?_
          refine s_goto (pc := 94) C (tgt := 26) dX7_split_94 (by decide) ?_
          refine s_sub C [1, 2, 3, 4, 0] [(0, .ref (ad 16)), (1, .ref (ad 1)), (2, vI n), (3, vI (min n (min (((500 : Nat) : Int)) 500))), (4, vI (tk + 1))] rfl ?_
          have hi26 : GX σ ((hs_ss σ1 16 4 ((σ1 16 4) + 1))) ∧ FRM PTk σ ((hs_ss σ1 16 4 ((σ1 16 4) + 1))) ∧ 0 ≤ (tk + 1) ∧ (tk + 1) ≤ 500 ∧ ((hs_ss σ1 16 4 ((σ1 16 4) + 1))) 16 3 ≤ (tk + 1) ∧ TKs ((hs_ss σ1 16 4 ((σ1 16 4) + 1))) := ⟨g69, f69, by first | exact ⟨by omega, by omega, by show σ1 16 3 ≤ _; omega, htk⟩ | exact ⟨by omega, by omega, by show σ78 16 3 + 1 ≤ _; omega, tks_step htk e78 b163.1 k78⟩⟩
          exact ih26 (tk + 1, (hs_ss σ1 16 4 ((σ1 16 4) + 1))) (by first | omega | (simp only []; omega)) hi26
