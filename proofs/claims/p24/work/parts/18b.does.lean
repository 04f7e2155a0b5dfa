def PNo (c j : Nat) : Bool := (c == 0 && j == 20) || c == 12
def PTo (c j : Nat) : Bool := c == 24
def PDo (c j : Nat) : Bool := (c == 0 && (j == 4 || j == 5 || j == 23 || j == 20 || j == 45 || j == 46 || j == 47 || j == 49)) || c == 10 || c == 11 || c == 12 || c == 24 || c == 25 || c == 26
def PIt (c j : Nat) : Bool := (c == 0 && (j == 4 || j == 5 || j == 23 || j == 20 || j == 45 || j == 46 || j == 47)) || c == 10 || c == 11 || c == 12 || c == 24
/-! the loops that stand round the act that is done -/
def SI (σ : hs_S) (dep : Nat → Nat) (σ1 : hs_S) (a : Int) : Prop := ∀ k : Nat, (k : Int) < σ1 0 49 → 0 ≤ σ1 25 k ∧ σ1 25 k < σ 0 32 ∧ 5 ≤ σ 15 (σ1 25 k).toNat ∧ k ≤ dep (σ1 25 k).toNat ∧ 1 ≤ σ1 26 k ∧ ((k : Int) + 1 = σ1 0 49 → σ1 25 k < a ∧ a ≤ σ 22 (σ1 25 k).toNat) ∧ ((k : Int) + 1 < σ1 0 49 → σ1 25 k < σ1 25 (k + 1) ∧ σ1 25 (k + 1) < σ 22 (σ1 25 k).toNat)
def SLs (σ : hs_S) : Int := (if 0 < σ 0 49 then σ 26 0 else 0) + (if 1 < σ 0 49 then σ 26 1 else 0) + (if 2 < σ 0 49 then σ 26 2 else 0) + (if 3 < σ 0 49 then σ 26 3 else 0) + (if 4 < σ 0 49 then σ 26 4 else 0)
def MUD (σ : hs_S) : Int := (5000 - σ 0 46) * 1001 + SLs σ
theorem sls_cases (σ : hs_S) : (σ 0 49 ≤ 0 → SLs σ = 0) ∧ (σ 0 49 = 1 → SLs σ = σ 26 0) ∧ (σ 0 49 = 2 → SLs σ = σ 26 0 + σ 26 1) ∧ (σ 0 49 = 3 → SLs σ = σ 26 0 + σ 26 1 + σ 26 2) ∧ (σ 0 49 = 4 → SLs σ = σ 26 0 + σ 26 1 + σ 26 2 + σ 26 3) ∧ (5 ≤ σ 0 49 → SLs σ = σ 26 0 + σ 26 1 + σ 26 2 + σ 26 3 + σ 26 4) := by
  unfold SLs
  refine ⟨fun h => ?_, fun h => ?_, fun h => ?_, fun h => ?_, fun h => ?_, fun h => ?_⟩
  · rw [if_neg (show ¬ 0 < σ 0 49 by omega), if_neg (show ¬ 1 < σ 0 49 by omega), if_neg (show ¬ 2 < σ 0 49 by omega), if_neg (show ¬ 3 < σ 0 49 by omega), if_neg (show ¬ 4 < σ 0 49 by omega)]; omega
  · rw [if_pos (show 0 < σ 0 49 by omega), if_neg (show ¬ 1 < σ 0 49 by omega), if_neg (show ¬ 2 < σ 0 49 by omega), if_neg (show ¬ 3 < σ 0 49 by omega), if_neg (show ¬ 4 < σ 0 49 by omega)]; omega
  · rw [if_pos (show 0 < σ 0 49 by omega), if_pos (show 1 < σ 0 49 by omega), if_neg (show ¬ 2 < σ 0 49 by omega), if_neg (show ¬ 3 < σ 0 49 by omega), if_neg (show ¬ 4 < σ 0 49 by omega)]; omega
  · rw [if_pos (show 0 < σ 0 49 by omega), if_pos (show 1 < σ 0 49 by omega), if_pos (show 2 < σ 0 49 by omega), if_neg (show ¬ 3 < σ 0 49 by omega), if_neg (show ¬ 4 < σ 0 49 by omega)]; omega
  · rw [if_pos (show 0 < σ 0 49 by omega), if_pos (show 1 < σ 0 49 by omega), if_pos (show 2 < σ 0 49 by omega), if_pos (show 3 < σ 0 49 by omega), if_neg (show ¬ 4 < σ 0 49 by omega)]; omega
  · rw [if_pos (show 0 < σ 0 49 by omega), if_pos (show 1 < σ 0 49 by omega), if_pos (show 2 < σ 0 49 by omega), if_pos (show 3 < σ 0 49 by omega), if_pos (show 4 < σ 0 49 by omega)]
theorem sls_b {σ : hs_S} (h : ∀ k : Nat, 0 ≤ σ 26 k ∧ σ 26 k ≤ 200) : 0 ≤ SLs σ ∧ SLs σ ≤ 1000 := by
  have h0 := h 0
  have h1 := h 1
  have h2 := h 2
  have h3 := h 3
  have h4 := h 4
  have q := sls_cases σ
  omega
/-- less is left of the innermost loop -/
theorem mud_less {σ σ1 : hs_S} {d : Nat} (h : ∀ k : Nat, 0 ≤ σ 26 k ∧ σ 26 k ≤ 200) (hd : σ 0 49 = (d : Int) + 1) (hd5 : d ≤ 4) (h46 : σ1 0 46 = σ 0 46) (hb : σ 0 46 ≤ 5000) (h26 : σ1 26 d = σ 26 d - 1) (hp : 1 ≤ σ 26 d) (hs : ∀ k : Nat, k ≠ d → σ1 26 k = σ 26 k) (h49 : σ1 0 49 = (d : Int) + 1 ∨ (σ1 0 49 = (d : Int) ∧ σ 26 d = 1)) : (MUD σ1).toNat < (MUD σ).toNat := by
  unfold MUD
  have h0 := h 0
  have h1 := h 1
  have h2 := h 2
  have h3 := h 3
  have h4 := h 4
  have s0 := hs 0
  have s1 := hs 1
  have s2 := hs 2
  have s3 := hs 3
  have s4 := hs 4
  have q := sls_cases σ
  have q1 := sls_cases σ1
  rcases (show d = 0 ∨ d = 1 ∨ d = 2 ∨ d = 3 ∨ d = 4 by omega) with rfl | rfl | rfl | rfl | rfl <;> omega
/-- an act more is done -/
theorem mud_done {σ σ1 : hs_S} (h : ∀ k : Nat, 0 ≤ σ 26 k ∧ σ 26 k ≤ 200) (h1 : ∀ k : Nat, 0 ≤ σ1 26 k ∧ σ1 26 k ≤ 200) (h46 : σ1 0 46 = σ 0 46 + 1) (hb : σ 0 46 < 5000) : (MUD σ1).toNat < (MUD σ).toNat := by
  have a := sls_b h
  have b := sls_b h1
  unfold MUD
  omega
def PGD (σ : hs_S) (dep : Nat → Nat) : Prop := ∀ i : Nat, (i : Int) < σ 0 32 → OKA σ i ∧ (5 ≤ σ 15 i → CLD σ dep i)
/-- nothing of the stack has changed but what is left -/
theorem si_same {σ τ τ2 : hs_S} {dep : Nat → Nat} {a a2 : Int} (h : SI σ dep τ a) (e49 : τ2 0 49 = τ 0 49) (e25 : ∀ k, τ2 25 k = τ 25 k) (e26 : ∀ k : Nat, (k : Int) < τ 0 49 → 1 ≤ τ2 26 k) (ha : ∀ k : Nat, (k : Int) + 1 = τ 0 49 → τ 25 k < a2 ∧ a2 ≤ σ 22 (τ 25 k).toNat) : SI σ dep τ2 a2 := by
  intro k hk
  rw [e49] at hk
  obtain ⟨b1, b2, b3, b4, b5, b6, b7⟩ := h k hk
  rw [e25, e25, e49]
  exact ⟨b1, b2, b3, b4, e26 k hk, fun q => ha k q, b7⟩
theorem si_pop {σ τ τ2 : hs_S} {dep : Nat → Nat} {a : Int} {d : Nat} (hP : PGD σ dep) (h : SI σ dep τ a) (hd : τ 0 49 = (d : Int) + 1) (ha : a = σ 22 (τ 25 d).toNat) (e49 : τ2 0 49 = (d : Int)) (e25 : ∀ k, τ2 25 k = τ 25 k) (e26 : ∀ k : Nat, k ≠ d → τ2 26 k = τ 26 k) : SI σ dep τ2 a := by
  intro k hk
  have hkd : k < d := by omega
  obtain ⟨b1, b2, b3, b4, b5, b6, b7⟩ := h k (by omega)
  obtain ⟨t1, t2, t3, -⟩ := h d (by omega)
  rw [e25, e25, e49]
  refine ⟨b1, b2, b3, b4, by rw [e26 k (by omega)]; exact b5, fun q => ?_, fun q => b7 (by omega)⟩
  have hk1 : k + 1 = d := by omega
  have h7 := b7 (by omega)
  rw [hk1] at h7
  have hc := ((hP (τ 25 k).toNat (by omega)).2 b3).2.2.2 (τ 25 d).toNat (by omega) (by omega)
  have hc2 := hc.2 t3
  have hl := ((hP (τ 25 d).toNat (by omega)).2 t3).2.1
  omega
/-- the place of the innermost loop -/
theorem si_top {σ τ : hs_S} {dep : Nat → Nat} {a : Int} (h : SI σ dep τ a) {d : Nat} (hd : τ 0 49 = (d : Int) + 1) : τ 25 d < a ∧ a ≤ σ 22 (τ 25 d).toNat := (h d (by omega)).2.2.2.2.2.1 (by omega)
theorem si_depth {σ τ : hs_S} {dep : Nat → Nat} {a : Int} (hP : PGD σ dep) (h : SI σ dep τ a) (ha0 : 0 ≤ a) (h0 : 0 ≤ τ 0 49) (hne : ∀ d : Nat, τ 0 49 = (d : Int) + 1 → ¬ a = σ 22 (τ 25 d).toNat) : τ 0 49 ≤ (dep a.toNat : Int) := by
  rcases Int.lt_or_le 0 (τ 0 49) with q | q
  · obtain ⟨d, hd⟩ : ∃ d : Nat, τ 0 49 = (d : Int) + 1 := ⟨(τ 0 49 - 1).toNat, by omega⟩
    obtain ⟨b1, b2, b3, b4, b5, b6, b7⟩ := h d (by omega)
    have ht := b6 (by omega)
    have hn := hne d hd
    have hc := ((hP (τ 25 d).toNat (by omega)).2 b3).2.2.2 a.toNat (by omega) (by omega)
    omega
  · omega
theorem si_push {σ τ τ2 : hs_S} {dep : Nat → Nat} {a : Int} (hP : PGD σ dep) (h : SI σ dep τ a) (ha0 : 0 ≤ a) (ha : a < σ 0 32) (h5 : 5 ≤ σ 15 a.toNat) (h0 : 0 ≤ τ 0 49) (hne : ∀ d : Nat, τ 0 49 = (d : Int) + 1 → ¬ a = σ 22 (τ 25 d).toNat) (e49 : τ2 0 49 = τ 0 49 + 1) (e25a : τ2 25 (τ 0 49).toNat = a) (e25 : ∀ k, k ≠ (τ 0 49).toNat → τ2 25 k = τ 25 k) (e26a : 1 ≤ τ2 26 (τ 0 49).toNat) (e26 : ∀ k, k ≠ (τ 0 49).toNat → τ2 26 k = τ 26 k) : SI σ dep τ2 (a + 1) := by
  have hdep := si_depth hP h ha0 h0 hne
  have hca := (hP a.toNat (by omega)).2 h5
  intro k hk
  by_cases ek : k = (τ 0 49).toNat
  · subst ek
    rw [e25a, e49]
    refine ⟨ha0, ha, h5, by omega, e26a, fun _ => ⟨by omega, ?_⟩, fun q => by exfalso; omega⟩
    have := hca.2.1
    omega
  · have hk2 : (k : Int) < τ 0 49 := by omega
    obtain ⟨b1, b2, b3, b4, b5, b6, b7⟩ := h k hk2
    rw [e25 k ek, e49]
    refine ⟨b1, b2, b3, b4, by rw [e26 k ek]; exact b5, fun q => by exfalso; omega, fun _ => ?_⟩
    by_cases e1 : k + 1 = (τ 0 49).toNat
    · rw [e1, e25a]
      have hn := hne k (by omega)
      have := b6 (by omega)
      omega
    · rw [e25 (k + 1) e1]
      exact b7 (by omega)
set_option maxHeartbeats 4000000 in
set_option maxRecDepth 100000 in
theorem c_X12_placeOf (l : Launch) (v n : Int) (hv : -1 ≤ v ∧ v ≤ 7) (hn : -999 ≤ n ∧ n ≤ 999) : hs_Met l yX12_placeOf cX12_placeOf 3 (some .int) 2 SHY (fun ad => [.ref (ad 0), vI v, vI n]) (fun σ => GY σ σ) (hs_PI (fun σ z σ1 => σ = σ1 ∧ 0 ≤ z ∧ z ≤ 99 ∧ z < σ 0 3)) := by
  refine hs_from pfX12_placeOf (fun _ => Nat.le_of_ble_eq_true rfl) ?_
  intro p e s m args below meth c D dA ad A σ C hpre
  have C : hs_C p s m args meth c D dA SHY ad A 3 cX12_placeOf RX12 (some .int) := C
  have g0 := hpre
  show hs_Wd p l e 2 s m args below meth c D dA SHY ad A 3 (hs_PI (fun σ z σ1 => σ = σ1 ∧ 0 ≤ z ∧ z ≤ 99 ∧ z < σ 0 3) σ) 0 [(0, .ref (ad 0)), (1, vI v), (2, vI n)] [] σ
  refine s_aload_n (pc := 0) C dX12_placeOf_0 0 rfl ?_
  refine s_iload_n (pc := 1) C dX12_placeOf_1 1 rfl ?_
  refine s_iconst (pc := 2) C dX12_placeOf_2 ?_
  refine s_icmp_ne (pc := 3) C (tgt := 10) dX12_placeOf_3 (by decide) ⟨by omega, by omega⟩ ⟨by decide, by decide⟩ (fun h3 => ?_) (fun h3 => ?_)
  · skip
    refine s_aload_n (pc := 10) C dX12_placeOf_10 0 rfl ?_
    refine s_getr (q := 0) (ci := 12) (N := 68) (CN := RX12) (T := TX12) (pc := 11) C 48 dX12_placeOf_11 wlX12_86 rfl rfl rfl wfX12 (by decide) rfl ?_
    refine s_iload_n (pc := 14) C dX12_placeOf_14 1 rfl ?_
    refine s_iald (q := 24) (n := 8) (pc := 15) C (σ 24 v.toNat) rfl dX12_placeOf_15 rfl (by omega) (by omega) (by decide) ?_
    have b15 : (0 : Int) ≤ σ 24 v.toNat ∧ σ 24 v.toNat ≤ 99 := g0.1 24 v.toNat
    refine s_iload_n (pc := 16) C dX12_placeOf_16 2 rfl ?_
    refine s_iadd (pc := 17) C dX12_placeOf_17 ?_
    refine s_callVi (pc := 18) C (c_X12_round l ((σ 24 v.toNat) + n) ⟨by omega, by omega⟩) [vI ((σ 24 v.toNat) + n)] [] rfl rfl dX12_placeOf_18 wlX12_144 wiX12_round weX12_round wcX12_round wnX12 noX12_round (by decide) (by decide) (Nat.le_of_ble_eq_true rfl) (gy_self g0) rfl rfl ?_
    rintro z18 _ ⟨rfl, k18⟩
    show hs_Wd _ _ _ _ _ _ _ _ _ _ _ _ _ _ _ _ _ 21 _ [vI z18] σ
    refine s_iret (pc := 21) C dX12_placeOf_21 ?_
    refine ⟨_, rfl, ?_⟩
    exact ⟨rfl, by first | omega | assumption | (constructor <;> omega) | (refine ⟨⟨?_, ?_⟩, ?_⟩ <;> omega) | (simp [hs_ss, hs_up]; omega) | (simp [hs_ss, hs_up]; done)⟩
  · skip
    refine s_iload_n (pc := 6) C dX12_placeOf_6 2 rfl ?_
    refine s_goto (pc := 7) C (tgt := 18) dX12_placeOf_7 (by decide) ?_
    refine s_callVi (pc := 18) C (c_X12_round l n ⟨by omega, by omega⟩) [vI n] [] rfl rfl dX12_placeOf_18 wlX12_144 wiX12_round weX12_round wcX12_round wnX12 noX12_round (by decide) (by decide) (Nat.le_of_ble_eq_true rfl) (gy_self g0) rfl rfl ?_
    rintro z18 _ ⟨rfl, k18⟩
    show hs_Wd _ _ _ _ _ _ _ _ _ _ _ _ _ _ _ _ _ 21 _ [vI z18] σ
    refine s_iret (pc := 21) C dX12_placeOf_21 ?_
    refine ⟨_, rfl, ?_⟩
    exact ⟨rfl, by first | omega | assumption | (constructor <;> omega) | (refine ⟨⟨?_, ?_⟩, ?_⟩ <;> omega) | (simp [hs_ss, hs_up]; omega) | (simp [hs_ss, hs_up]; done)⟩
set_option maxHeartbeats 4000000 in
set_option maxRecDepth 100000 in
theorem c_X12_isLeft (l : Launch) (a : Int) (ha : 0 ≤ a ∧ a ≤ 59) : hs_Met l yX12_isLeft cX12_isLeft 2 (some .boolean) 1 SHY (fun ad => [.ref (ad 0), vI a]) (fun σ => GY σ σ) (hs_PI (fun σ z σ1 => σ = σ1 ∧ (z = 0 ∨ z = 1))) := by
  refine hs_from pfX12_isLeft (fun _ => Nat.le_of_ble_eq_true rfl) ?_
  intro p e s m args below meth c D dA ad A σ C hpre
  have C : hs_C p s m args meth c D dA SHY ad A 2 cX12_isLeft RX12 (some .boolean) := C
  have g0 := hpre
  show hs_Wd p l e 1 s m args below meth c D dA SHY ad A 2 (hs_PI (fun σ z σ1 => σ = σ1 ∧ (z = 0 ∨ z = 1)) σ) 0 [(0, .ref (ad 0)), (1, vI a)] [] σ
  refine s_aload_n (pc := 0) C dX12_isLeft_0 0 rfl ?_
  refine s_getr (q := 0) (ci := 12) (N := 68) (CN := RX12) (T := TX12) (pc := 1) C 33 dX12_isLeft_1 wlX12_59 rfl rfl rfl wfX12 (by decide) rfl ?_
  refine s_iload_n (pc := 4) C dX12_isLeft_4 1 rfl ?_
  refine s_iald (q := 15) (n := 60) (pc := 5) C (σ 15 a.toNat) rfl dX12_isLeft_5 rfl (by omega) (by omega) (by decide) ?_
  have b5 : (0 : Int) ≤ σ 15 a.toNat ∧ σ 15 a.toNat ≤ 6 := g0.1 15 a.toNat
  refine s_if_eq (pc := 6) C (tgt := 27) dX12_isLeft_6 (by decide) ⟨by omega, by omega⟩ (fun h6 => ?_) (fun h6 => ?_)
  · skip
    refine s_iconst (pc := 27) C dX12_isLeft_27 ?_
    refine s_goto (pc := 28) C (tgt := 32) dX12_isLeft_28 (by decide) ?_
    refine s_zret (pc := 32) C (by omega) dX12_isLeft_32 ?_
    refine ⟨_, rfl, ?_⟩
    exact ⟨rfl, by first | omega | assumption | (constructor <;> omega) | (refine ⟨⟨?_, ?_⟩, ?_⟩ <;> omega) | (simp [hs_ss, hs_up]; omega) | (simp [hs_ss, hs_up]; done)⟩
  · skip
    refine s_aload_n (pc := 9) C dX12_isLeft_9 0 rfl ?_
    refine s_getr (q := 0) (ci := 12) (N := 68) (CN := RX12) (T := TX12) (pc := 10) C 33 dX12_isLeft_10 wlX12_59 rfl rfl rfl wfX12 (by decide) rfl ?_
    refine s_iload_n (pc := 13) C dX12_isLeft_13 1 rfl ?_
    refine s_iald (q := 15) (n := 60) (pc := 14) C (σ 15 a.toNat) rfl dX12_isLeft_14 rfl (by omega) (by omega) (by decide) ?_
    have b14 : (0 : Int) ≤ σ 15 a.toNat ∧ σ 15 a.toNat ≤ 6 := g0.1 15 a.toNat
    refine s_iconst (pc := 15) C dX12_isLeft_15 ?_
    refine s_icmp_ne (pc := 16) C (tgt := 31) dX12_isLeft_16 (by decide) ⟨by omega, by omega⟩ ⟨by decide, by decide⟩ (fun h16 => ?_) (fun h16 => ?_)
    · skip
      refine s_iconst (pc := 31) C dX12_isLeft_31 ?_
      refine s_zret (pc := 32) C (by omega) dX12_isLeft_32 ?_
      refine ⟨_, rfl, ?_⟩
      exact ⟨rfl, by first | omega | assumption | (constructor <;> omega) | (refine ⟨⟨?_, ?_⟩, ?_⟩ <;> omega) | (simp [hs_ss, hs_up]; omega) | (simp [hs_ss, hs_up]; done)⟩
    · skip
      refine s_aload_n (pc := 19) C dX12_isLeft_19 0 rfl ?_
      refine s_geti (q := 0) (ci := 12) (N := 68) (CN := RX12) (T := TX12) (pc := 20) C 5 dX12_isLeft_20 wlX12_151 rfl rfl rfl wfX12 (by decide) rfl (σ 0 5) rfl ?_
      have b20 : (0 : Int) ≤ σ 0 5 ∧ σ 0 5 ≤ 2 := g0.1 0 5
      refine s_iconst (pc := 23) C dX12_isLeft_23 ?_
      refine s_icmp_eq (pc := 24) C (tgt := 31) dX12_isLeft_24 (by decide) ⟨by omega, by omega⟩ ⟨by decide, by decide⟩ (fun h24 => ?_) (fun h24 => ?_)
      · skip
        refine s_iconst (pc := 31) C dX12_isLeft_31 ?_
        refine s_zret (pc := 32) C (by omega) dX12_isLeft_32 ?_
        refine ⟨_, rfl, ?_⟩
        exact ⟨rfl, by first | omega | assumption | (constructor <;> omega) | (refine ⟨⟨?_, ?_⟩, ?_⟩ <;> omega) | (simp [hs_ss, hs_up]; omega) | (simp [hs_ss, hs_up]; done)⟩
      · skip
        refine s_iconst (pc := 27) C dX12_isLeft_27 ?_
        refine s_goto (pc := 28) C (tgt := 32) dX12_isLeft_28 (by decide) ?_
        refine s_zret (pc := 32) C (by omega) dX12_isLeft_32 ?_
        refine ⟨_, rfl, ?_⟩
        exact ⟨rfl, by first | omega | assumption | (constructor <;> omega) | (refine ⟨⟨?_, ?_⟩, ?_⟩ <;> omega) | (simp [hs_ss, hs_up]; omega) | (simp [hs_ss, hs_up]; done)⟩
set_option maxHeartbeats 4000000 in
set_option maxRecDepth 100000 in
theorem c_X12_stepsOf (l : Launch) (a : Int) (ha : 0 ≤ a ∧ a ≤ 59) : hs_Met l yX12_stepsOf cX12_stepsOf 4 (some .int) 3 SHY (fun ad => [.ref (ad 0), vI a]) (fun σ => GY σ σ ∧ (σ 15 a.toNat ≤ 1 → 1 ≤ σ 16 a.toNat)) (hs_PI (fun σ z σ1 => σ = σ1 ∧ 0 ≤ z ∧ z ≤ 10100)) := by
  refine hs_from pfX12_stepsOf (fun _ => Nat.le_of_ble_eq_true rfl) ?_
  intro p e s m args below meth c D dA ad A σ C hpre
  have C : hs_C p s m args meth c D dA SHY ad A 4 cX12_stepsOf RX12 (some .int) := C
  obtain ⟨g0, hpre⟩ := hpre
  show hs_Wd p l e 3 s m args below meth c D dA SHY ad A 4 (hs_PI (fun σ z σ1 => σ = σ1 ∧ 0 ≤ z ∧ z ≤ 10100) σ) 0 [(0, .ref (ad 0)), (1, vI a)] [] σ
  refine s_aload_n (pc := 0) C dX12_stepsOf_0 0 rfl ?_
  refine s_getr (q := 0) (ci := 12) (N := 68) (CN := RX12) (T := TX12) (pc := 1) C 33 dX12_stepsOf_1 wlX12_59 rfl rfl rfl wfX12 (by decide) rfl ?_
  refine s_iload_n (pc := 4) C dX12_stepsOf_4 1 rfl ?_
  refine s_iald (q := 15) (n := 60) (pc := 5) C (σ 15 a.toNat) rfl dX12_stepsOf_5 rfl (by omega) (by omega) (by decide) ?_
  have b5 : (0 : Int) ≤ σ 15 a.toNat ∧ σ 15 a.toNat ≤ 6 := g0.1 15 a.toNat
  refine s_iconst (pc := 6) C dX12_stepsOf_6 ?_
  refine s_icmp_le (pc := 7) C (tgt := 12) dX12_stepsOf_7 (by decide) ⟨by omega, by omega⟩ ⟨by decide, by decide⟩ (fun h7 => ?_) (fun h7 => ?_)
  · skip
    refine s_aload_n (pc := 12) C dX12_stepsOf_12 0 rfl ?_
    refine s_aload_n (pc := 13) C dX12_stepsOf_13 0 rfl ?_
    refine s_getr (q := 0) (ci := 12) (N := 68) (CN := RX12) (T := TX12) (pc := 14) C 36 dX12_stepsOf_14 wlX12_68 rfl rfl rfl wfX12 (by decide) rfl ?_
    refine s_iload_n (pc := 17) C dX12_stepsOf_17 1 rfl ?_
    refine s_iald (q := 18) (n := 60) (pc := 18) C (σ 18 a.toNat) rfl dX12_stepsOf_18 rfl (by omega) (by omega) (by decide) ?_
    have b18 : (-1 : Int) ≤ σ 18 a.toNat ∧ σ 18 a.toNat ≤ 7 := g0.1 18 a.toNat
    refine s_aload_n (pc := 19) C dX12_stepsOf_19 0 rfl ?_
    refine s_getr (q := 0) (ci := 12) (N := 68) (CN := RX12) (T := TX12) (pc := 20) C 37 dX12_stepsOf_20 wlX12_71 rfl rfl rfl wfX12 (by decide) rfl ?_
    refine s_iload_n (pc := 23) C dX12_stepsOf_23 1 rfl ?_
    refine s_iald (q := 19) (n := 60) (pc := 24) C (σ 19 a.toNat) rfl dX12_stepsOf_24 rfl (by omega) (by omega) (by decide) ?_
    have b24 : (-999 : Int) ≤ σ 19 a.toNat ∧ σ 19 a.toNat ≤ 999 := g0.1 19 a.toNat
    refine s_callVi (pc := 25) C (c_X12_placeOf l (σ 18 a.toNat) (σ 19 a.toNat) (by first | omega | assumption | (constructor <;> omega) | (refine ⟨⟨?_, ?_⟩, ?_⟩ <;> omega) | (simp [hs_ss, hs_up]; omega) | (simp [hs_ss, hs_up]; done)) (by first | omega | assumption | (constructor <;> omega) | (refine ⟨⟨?_, ?_⟩, ?_⟩ <;> omega) | (simp [hs_ss, hs_up]; omega) | (simp [hs_ss, hs_up]; done))) [vI (σ 18 a.toNat), vI (σ 19 a.toNat)] [] rfl rfl dX12_stepsOf_25 wlX12_294 wiX12_placeOf weX12_placeOf wcX12_placeOf wnX12 noX12_placeOf (by decide) (by decide) (Nat.le_of_ble_eq_true rfl) (gy_self g0) rfl rfl ?_
    rintro z25 _ ⟨rfl, k25⟩
    show hs_Wd _ _ _ _ _ _ _ _ _ _ _ _ _ _ _ _ _ 28 _ [vI z25] σ
    refine s_istore_n (pc := 28) C [(2, vI z25), (0, .ref (ad 0)), (1, vI a)] dX12_stepsOf_28 (by decide) rfl ?_
    refine s_aload_n (pc := 29) C dX12_stepsOf_29 1 rfl ?_
    refine s_iload_n (pc := 30) C dX12_stepsOf_30 2 rfl ?_
    refine s_callVi (pc := 31) C (c_X12_isLeft l a (by first | omega | assumption | (constructor <;> omega) | (refine ⟨⟨?_, ?_⟩, ?_⟩ <;> omega) | (simp [hs_ss, hs_up]; omega) | (simp [hs_ss, hs_up]; done))) [vI a] [] rfl rfl dX12_stepsOf_31 wlX12_297 wiX12_isLeft weX12_isLeft wcX12_isLeft wnX12 noX12_isLeft (by decide) (by decide) (Nat.le_of_ble_eq_true rfl) (gy_self g0) rfl rfl ?_
    rintro z31 _ ⟨rfl, k31⟩
    show hs_Wd _ _ _ _ _ _ _ _ _ _ _ _ _ _ _ _ _ 34 _ [vI z31] σ
    refine s_if_eq (pc := 34) C (tgt := 50) dX12_stepsOf_34 (by decide) ⟨by omega, by omega⟩ (fun h34 => ?_) (fun h34 => ?_)
    · skip
      refine s_aload_n (pc := 50) C dX12_stepsOf_50 1 rfl ?_
      refine s_aload_n (pc := 51) C dX12_stepsOf_51 1 rfl ?_
      refine s_geti (q := 0) (ci := 12) (N := 68) (CN := RX12) (T := TX12) (pc := 52) C 4 dX12_stepsOf_52 wlX12_148 rfl rfl rfl wfX12 (by decide) rfl (σ 0 4) rfl ?_
      have b52 : (0 : Int) ≤ σ 0 4 ∧ σ 0 4 ≤ 99 := g0.1 0 4
      refine s_iload_n (pc := 55) C dX12_stepsOf_55 0 rfl ?_
      refine s_isub (pc := 56) C dX12_stepsOf_56 ?_
      refine s_callVi (pc := 57) C (c_X12_round l ((σ 0 4) - z25) ⟨by omega, by omega⟩) [vI ((σ 0 4) - z25)] [] rfl rfl dX12_stepsOf_57 wlX12_144 wiX12_round weX12_round wcX12_round wnX12 noX12_round (by decide) (by decide) (Nat.le_of_ble_eq_true rfl) (gy_self g0) rfl rfl ?_
      rintro z57 _ ⟨rfl, k57⟩
      show hs_Wd _ _ _ _ _ _ _ _ _ _ _ _ _ _ _ _ _ 60 _ [vI z57] σ
      refine s_istore_n (pc := 60) C [(3, vI z57), (2, vI z25), (0, .ref (ad 0)), (1, vI a)] dX12_stepsOf_60 (by decide) rfl ?_
      refine s_aload_n (pc := 61) C dX12_stepsOf_61 2 rfl ?_
      refine s_getr (q := 0) (ci := 12) (N := 68) (CN := RX12) (T := TX12) (pc := 62) C 33 dX12_stepsOf_62 wlX12_59 rfl rfl rfl wfX12 (by decide) rfl ?_
      refine s_iload_n (pc := 65) C dX12_stepsOf_65 3 rfl ?_
      refine s_iald (q := 15) (n := 60) (pc := 66) C (σ 15 a.toNat) rfl dX12_stepsOf_66 rfl (by omega) (by omega) (by decide) ?_
      have b66 : (0 : Int) ≤ σ 15 a.toNat ∧ σ 15 a.toNat ≤ 6 := g0.1 15 a.toNat
      refine s_iconst (pc := 67) C dX12_stepsOf_67 ?_
      refine s_icmp_ne (pc := 68) C (tgt := 73) dX12_stepsOf_68 (by decide) ⟨by omega, by omega⟩ ⟨by decide, by decide⟩ (fun h68 => ?_) (fun h68 => ?_)
      · skip
        refine s_iload_n (pc := 73) C dX12_stepsOf_73 0 rfl ?_
        refine s_if_ne (pc := 74) C (tgt := 84) dX12_stepsOf_74 (by decide) ⟨by omega, by omega⟩ (fun h74 => ?_) (fun h74 => ?_)
        · skip
          refine s_iload_n (pc := 84) C dX12_stepsOf_84 0 rfl ?_
          refine s_aload_n (pc := 85) C dX12_stepsOf_85 2 rfl ?_
          refine s_getr (q := 0) (ci := 12) (N := 68) (CN := RX12) (T := TX12) (pc := 86) C 34 dX12_stepsOf_86 wlX12_62 rfl rfl rfl wfX12 (by decide) rfl ?_
          refine s_iload_n (pc := 89) C dX12_stepsOf_89 3 rfl ?_
          refine s_iald (q := 16) (n := 60) (pc := 90) C (σ 16 a.toNat) rfl dX12_stepsOf_90 rfl (by omega) (by omega) (by decide) ?_
          have b90 : (0 : Int) ≤ σ 16 a.toNat ∧ σ 16 a.toNat ≤ 99 := g0.1 16 a.toNat
          refine s_iconst (pc := 91) C dX12_stepsOf_91 ?_
          refine s_isub (pc := 92) C dX12_stepsOf_92 ?_
          refine s_aload_n (pc := 93) C dX12_stepsOf_93 2 rfl ?_
          refine s_geti (q := 0) (ci := 12) (N := 68) (CN := RX12) (T := TX12) (pc := 94) C 3 dX12_stepsOf_94 wlX12_13 rfl rfl rfl wfX12 (by decide) rfl (σ 0 3) rfl ?_
          have b94 : (10 : Int) ≤ σ 0 3 ∧ σ 0 3 ≤ 100 := g0.1 0 3
          have hm := hs_mulb (a := σ 16 a.toNat - 1) (b := σ 0 3) (lo := -1) (hi := 98) (B := 100) (by omega) (by omega) (by omega) (by omega) (by omega) (by omega)
          have hm2 : 0 ≤ (σ 16 a.toNat - 1) * σ 0 3 := Int.mul_nonneg (by omega) (by omega)
          refine s_imul (pc := 97) C dX12_stepsOf_97 ?_
          refine s_iadd (pc := 98) C dX12_stepsOf_98 ?_
          refine s_iret (pc := 99) C dX12_stepsOf_99 ?_
          refine ⟨_, rfl, ?_⟩
          exact ⟨rfl, by first | omega | assumption | (constructor <;> omega) | (refine ⟨⟨?_, ?_⟩, ?_⟩ <;> omega) | (simp [hs_ss, hs_up]; omega) | (simp [hs_ss, hs_up]; done)⟩
        · skip
          refine s_aload_n (pc := 77) C dX12_stepsOf_77 2 rfl ?_
          refine s_geti (q := 0) (ci := 12) (N := 68) (CN := RX12) (T := TX12) (pc := 78) C 3 dX12_stepsOf_78 wlX12_13 rfl rfl rfl wfX12 (by decide) rfl (σ 0 3) rfl ?_
          have b78 : (10 : Int) ≤ σ 0 3 ∧ σ 0 3 ≤ 100 := g0.1 0 3
          refine s_goto (pc := 81) C (tgt := 85) dX12_stepsOf_81 (by decide) ?_
          refine s_aload_n (pc := 85) C dX12_stepsOf_85 2 rfl ?_
          refine s_getr (q := 0) (ci := 12) (N := 68) (CN := RX12) (T := TX12) (pc := 86) C 34 dX12_stepsOf_86 wlX12_62 rfl rfl rfl wfX12 (by decide) rfl ?_
          refine s_iload_n (pc := 89) C dX12_stepsOf_89 3 rfl ?_
          refine s_iald (q := 16) (n := 60) (pc := 90) C (σ 16 a.toNat) rfl dX12_stepsOf_90 rfl (by omega) (by omega) (by decide) ?_
          have b90 : (0 : Int) ≤ σ 16 a.toNat ∧ σ 16 a.toNat ≤ 99 := g0.1 16 a.toNat
          refine s_iconst (pc := 91) C dX12_stepsOf_91 ?_
          refine s_isub (pc := 92) C dX12_stepsOf_92 ?_
          refine s_aload_n (pc := 93) C dX12_stepsOf_93 2 rfl ?_
          refine s_geti (q := 0) (ci := 12) (N := 68) (CN := RX12) (T := TX12) (pc := 94) C 3 dX12_stepsOf_94 wlX12_13 rfl rfl rfl wfX12 (by decide) rfl (σ 0 3) rfl ?_
          have b94 : (10 : Int) ≤ σ 0 3 ∧ σ 0 3 ≤ 100 := g0.1 0 3
          have hm := hs_mulb (a := σ 16 a.toNat - 1) (b := σ 0 3) (lo := -1) (hi := 98) (B := 100) (by omega) (by omega) (by omega) (by omega) (by omega) (by omega)
          have hm2 : 0 ≤ (σ 16 a.toNat - 1) * σ 0 3 := Int.mul_nonneg (by omega) (by omega)
          refine s_imul (pc := 97) C dX12_stepsOf_97 ?_
          refine s_iadd (pc := 98) C dX12_stepsOf_98 ?_
          refine s_iret (pc := 99) C dX12_stepsOf_99 ?_
          refine ⟨_, rfl, ?_⟩
          exact ⟨rfl, by first | omega | assumption | (constructor <;> omega) | (refine ⟨⟨?_, ?_⟩, ?_⟩ <;> omega) | (simp [hs_ss, hs_up]; omega) | (simp [hs_ss, hs_up]; done)⟩
      · skip
        refine s_iload_n (pc := 71) C dX12_stepsOf_71 0 rfl ?_
        refine s_iret (pc := 72) C dX12_stepsOf_72 ?_
        refine ⟨_, rfl, ?_⟩
        exact ⟨rfl, by first | omega | assumption | (constructor <;> omega) | (refine ⟨⟨?_, ?_⟩, ?_⟩ <;> omega) | (simp [hs_ss, hs_up]; omega) | (simp [hs_ss, hs_up]; done)⟩
    · skip
      refine s_aload_n (pc := 37) C dX12_stepsOf_37 1 rfl ?_
      refine s_iload_n (pc := 38) C dX12_stepsOf_38 0 rfl ?_
      refine s_aload_n (pc := 39) C dX12_stepsOf_39 1 rfl ?_
      refine s_geti (q := 0) (ci := 12) (N := 68) (CN := RX12) (T := TX12) (pc := 40) C 4 dX12_stepsOf_40 wlX12_148 rfl rfl rfl wfX12 (by decide) rfl (σ 0 4) rfl ?_
      have b40 : (0 : Int) ≤ σ 0 4 ∧ σ 0 4 ≤ 99 := g0.1 0 4
      refine s_isub (pc := 43) C dX12_stepsOf_43 ?_
      refine s_callVi (pc := 44) C (c_X12_round l (z25 - (σ 0 4)) ⟨by omega, by omega⟩) [vI (z25 - (σ 0 4))] [] rfl rfl dX12_stepsOf_44 wlX12_144 wiX12_round weX12_round wcX12_round wnX12 noX12_round (by decide) (by decide) (Nat.le_of_ble_eq_true rfl) (gy_self g0) rfl rfl ?_
      rintro z44 _ ⟨rfl, k44⟩
      show hs_Wd _ _ _ _ _ _ _ _ _ _ _ _ _ _ _ _ _ 47 _ [vI z44] σ
      refine s_goto (pc := 47) C (tgt := 60) dX12_stepsOf_47 (by decide) ?_
      refine s_istore_n (pc := 60) C [(3, vI z44), (2, vI z25), (0, .ref (ad 0)), (1, vI a)] dX12_stepsOf_60 (by decide) rfl ?_
      refine s_aload_n (pc := 61) C dX12_stepsOf_61 2 rfl ?_
      refine s_getr (q := 0) (ci := 12) (N := 68) (CN := RX12) (T := TX12) (pc := 62) C 33 dX12_stepsOf_62 wlX12_59 rfl rfl rfl wfX12 (by decide) rfl ?_
      refine s_iload_n (pc := 65) C dX12_stepsOf_65 3 rfl ?_
      refine s_iald (q := 15) (n := 60) (pc := 66) C (σ 15 a.toNat) rfl dX12_stepsOf_66 rfl (by omega) (by omega) (by decide) ?_
      have b66 : (0 : Int) ≤ σ 15 a.toNat ∧ σ 15 a.toNat ≤ 6 := g0.1 15 a.toNat
      refine s_iconst (pc := 67) C dX12_stepsOf_67 ?_
      refine s_icmp_ne (pc := 68) C (tgt := 73) dX12_stepsOf_68 (by decide) ⟨by omega, by omega⟩ ⟨by decide, by decide⟩ (fun h68 => ?_) (fun h68 => ?_)
      · skip
        refine s_iload_n (pc := 73) C dX12_stepsOf_73 0 rfl ?_
        refine s_if_ne (pc := 74) C (tgt := 84) dX12_stepsOf_74 (by decide) ⟨by omega, by omega⟩ (fun h74 => ?_) (fun h74 => ?_)
        · skip
          refine s_iload_n (pc := 84) C dX12_stepsOf_84 0 rfl ?_
          refine s_aload_n (pc := 85) C dX12_stepsOf_85 2 rfl ?_
          refine s_getr (q := 0) (ci := 12) (N := 68) (CN := RX12) (T := TX12) (pc := 86) C 34 dX12_stepsOf_86 wlX12_62 rfl rfl rfl wfX12 (by decide) rfl ?_
          refine s_iload_n (pc := 89) C dX12_stepsOf_89 3 rfl ?_
          refine s_iald (q := 16) (n := 60) (pc := 90) C (σ 16 a.toNat) rfl dX12_stepsOf_90 rfl (by omega) (by omega) (by decide) ?_
          have b90 : (0 : Int) ≤ σ 16 a.toNat ∧ σ 16 a.toNat ≤ 99 := g0.1 16 a.toNat
          refine s_iconst (pc := 91) C dX12_stepsOf_91 ?_
          refine s_isub (pc := 92) C dX12_stepsOf_92 ?_
          refine s_aload_n (pc := 93) C dX12_stepsOf_93 2 rfl ?_
          refine s_geti (q := 0) (ci := 12) (N := 68) (CN := RX12) (T := TX12) (pc := 94) C 3 dX12_stepsOf_94 wlX12_13 rfl rfl rfl wfX12 (by decide) rfl (σ 0 3) rfl ?_
          have b94 : (10 : Int) ≤ σ 0 3 ∧ σ 0 3 ≤ 100 := g0.1 0 3
          have hm := hs_mulb (a := σ 16 a.toNat - 1) (b := σ 0 3) (lo := -1) (hi := 98) (B := 100) (by omega) (by omega) (by omega) (by omega) (by omega) (by omega)
          have hm2 : 0 ≤ (σ 16 a.toNat - 1) * σ 0 3 := Int.mul_nonneg (by omega) (by omega)
          refine s_imul (pc := 97) C dX12_stepsOf_97 ?_
          refine s_iadd (pc := 98) C dX12_stepsOf_98 ?_
          refine s_iret (pc := 99) C dX12_stepsOf_99 ?_
          refine ⟨_, rfl, ?_⟩
          exact ⟨rfl, by first | omega | assumption | (constructor <;> omega) | (refine ⟨⟨?_, ?_⟩, ?_⟩ <;> omega) | (simp [hs_ss, hs_up]; omega) | (simp [hs_ss, hs_up]; done)⟩
        · skip
          refine s_aload_n (pc := 77) C dX12_stepsOf_77 2 rfl ?_
          refine s_geti (q := 0) (ci := 12) (N := 68) (CN := RX12) (T := TX12) (pc := 78) C 3 dX12_stepsOf_78 wlX12_13 rfl rfl rfl wfX12 (by decide) rfl (σ 0 3) rfl ?_
          have b78 : (10 : Int) ≤ σ 0 3 ∧ σ 0 3 ≤ 100 := g0.1 0 3
          refine s_goto (pc := 81) C (tgt := 85) dX12_stepsOf_81 (by decide) ?_
          refine s_aload_n (pc := 85) C dX12_stepsOf_85 2 rfl ?_
          refine s_getr (q := 0) (ci := 12) (N := 68) (CN := RX12) (T := TX12) (pc := 86) C 34 dX12_stepsOf_86 wlX12_62 rfl rfl rfl wfX12 (by decide) rfl ?_
          refine s_iload_n (pc := 89) C dX12_stepsOf_89 3 rfl ?_
          refine s_iald (q := 16) (n := 60) (pc := 90) C (σ 16 a.toNat) rfl dX12_stepsOf_90 rfl (by omega) (by omega) (by decide) ?_
          have b90 : (0 : Int) ≤ σ 16 a.toNat ∧ σ 16 a.toNat ≤ 99 := g0.1 16 a.toNat
          refine s_iconst (pc := 91) C dX12_stepsOf_91 ?_
          refine s_isub (pc := 92) C dX12_stepsOf_92 ?_
          refine s_aload_n (pc := 93) C dX12_stepsOf_93 2 rfl ?_
          refine s_geti (q := 0) (ci := 12) (N := 68) (CN := RX12) (T := TX12) (pc := 94) C 3 dX12_stepsOf_94 wlX12_13 rfl rfl rfl wfX12 (by decide) rfl (σ 0 3) rfl ?_
          have b94 : (10 : Int) ≤ σ 0 3 ∧ σ 0 3 ≤ 100 := g0.1 0 3
          have hm := hs_mulb (a := σ 16 a.toNat - 1) (b := σ 0 3) (lo := -1) (hi := 98) (B := 100) (by omega) (by omega) (by omega) (by omega) (by omega) (by omega)
          have hm2 : 0 ≤ (σ 16 a.toNat - 1) * σ 0 3 := Int.mul_nonneg (by omega) (by omega)
          refine s_imul (pc := 97) C dX12_stepsOf_97 ?_
          refine s_iadd (pc := 98) C dX12_stepsOf_98 ?_
          refine s_iret (pc := 99) C dX12_stepsOf_99 ?_
          refine ⟨_, rfl, ?_⟩
          exact ⟨rfl, by first | omega | assumption | (constructor <;> omega) | (refine ⟨⟨?_, ?_⟩, ?_⟩ <;> omega) | (simp [hs_ss, hs_up]; omega) | (simp [hs_ss, hs_up]; done)⟩
      · skip
        refine s_iload_n (pc := 71) C dX12_stepsOf_71 0 rfl ?_
        refine s_iret (pc := 72) C dX12_stepsOf_72 ?_
        refine ⟨_, rfl, ?_⟩
        exact ⟨rfl, by first | omega | assumption | (constructor <;> omega) | (refine ⟨⟨?_, ?_⟩, ?_⟩ <;> omega) | (simp [hs_ss, hs_up]; omega) | (simp [hs_ss, hs_up]; done)⟩
  · skip
    refine s_iconst (pc := 10) C dX12_stepsOf_10 ?_
    refine s_iret (pc := 11) C dX12_stepsOf_11 ?_
    refine ⟨_, rfl, ?_⟩
    exact ⟨rfl, by first | omega | assumption | (constructor <;> omega) | (refine ⟨⟨?_, ?_⟩, ?_⟩ <;> omega) | (simp [hs_ss, hs_up]; omega) | (simp [hs_ss, hs_up]; done)⟩
set_option maxHeartbeats 4000000 in
set_option maxRecDepth 100000 in
theorem c_X12_notes (l : Launch)  : hs_Met l yX12_notes cX12_notes 2 none 7 SHY (fun ad => [.ref (ad 0)]) (fun σ => GY σ σ) (hs_PV (fun σ σ1 => GY σ σ1 ∧ FRM PNo σ σ1)) := by
  refine hs_from pfX12_notes (fun _ => Nat.le_of_ble_eq_true rfl) ?_
  intro p e s m args below meth c D dA ad A σ C hpre
  have C : hs_C p s m args meth c D dA SHY ad A 2 cX12_notes RX12 none := C
  have g0 := hpre
  have f0 : FRM PNo σ σ := frm_rf
  show hs_Wd p l e 7 s m args below meth c D dA SHY ad A 2 (hs_PV (fun σ σ1 => GY σ σ1 ∧ FRM PNo σ σ1) σ) 0 [(0, .ref (ad 0))] [] σ
  refine s_aload_n (pc := 0) C dX12_notes_0 0 rfl ?_
  refine s_geti (q := 0) (ci := 12) (N := 68) (CN := RX12) (T := TX12) (pc := 1) C 20 dX12_notes_1 wlX12_202 rfl rfl rfl wfX12 (by decide) rfl (σ 0 20) rfl ?_
  have b1 : (0 : Int) ≤ σ 0 20 ∧ σ 0 20 ≤ 100 := g0.1 0 20
  refine s_bipush (pc := 4) C dX12_notes_4 (by decide) ?_
  refine s_icmp_ne (pc := 6) C (tgt := 10) dX12_notes_6 (by decide) ⟨by omega, by omega⟩ ⟨by decide, by decide⟩ (fun h6 => ?_) (fun h6 => ?_)
  · skip
    refine s_aload_n (pc := 10) C dX12_notes_10 0 rfl ?_
    refine s_getr (q := 0) (ci := 12) (N := 68) (CN := RX12) (T := TX12) (pc := 11) C 21 dX12_notes_11 wlX12_47 rfl rfl rfl wfX12 (by decide) rfl ?_
    refine s_iconst (pc := 14) C dX12_notes_14 ?_
    refine s_aload_n (pc := 15) C dX12_notes_15 0 rfl ?_
    refine s_geti (q := 0) (ci := 12) (N := 68) (CN := RX12) (T := TX12) (pc := 16) C 20 dX12_notes_16 wlX12_202 rfl rfl rfl wfX12 (by decide) rfl (σ 0 20) rfl ?_
    have b16 : (0 : Int) ≤ σ 0 20 ∧ σ 0 20 ≤ 100 := g0.1 0 20
    refine s_imul (pc := 19) C dX12_notes_19 ?_
    refine s_aload_n (pc := 20) C dX12_notes_20 0 rfl ?_
    refine s_callVi (pc := 21) C (c_X12_ridesNow l) [] [vI (5 * (σ 0 20)), .ref (ad 12)] rfl rfl dX12_notes_21 wlX12_179 wiX12_ridesNow weX12_ridesNow wcX12_ridesNow wnX12 noX12_ridesNow (by decide) (by decide) (Nat.le_of_ble_eq_true rfl) (gy_self g0) rfl rfl ?_
    rintro z21 _ ⟨rfl, k21⟩
    show hs_Wd _ _ _ _ _ _ _ _ _ _ _ _ _ _ _ _ _ 24 _ [vI z21, vI (5 * (σ 0 20)), .ref (ad 12)] σ
    refine s_iast (q := 12) (n := 500) (pc := 24) C dX12_notes_24 rfl (by omega) (by omega) (by decide) ?_
    have g24 := gy_set (z := z21) g0 12 ((5 * (σ 0 20)).toNat) rfl (-10000) (10000) rfl ⟨by omega, by omega⟩
    have f24 := frm_set (P := PNo) (z := z21) f0 12 ((5 * (σ 0 20)).toNat) rfl
    refine s_iconst (pc := 25) C dX12_notes_25 ?_
    refine s_istore_n (pc := 26) C [(1, vI 0), (0, .ref (ad 0))] dX12_notes_26 (by decide) rfl ?_
    refine s_sub C [1, 0] [(0, .ref (ad 0)), (1, vI 0)] rfl ?_
    have hi27 : GY σ ((hs_ss σ 12 ((5 * (σ 0 20)).toNat) z21)) ∧ FRM PNo σ ((hs_ss σ 12 ((5 * (σ 0 20)).toNat) z21)) ∧ 0 ≤ (0 : Int) ∧ (0 : Int) ≤ 4 ∧ ((hs_ss σ 12 ((5 * (σ 0 20)).toNat) z21)) 0 20 = σ 0 20 ∧ σ 0 20 ≤ 99 := ⟨g24, f24, ⟨by omega, by omega, rfl, by omega⟩⟩
    refine hs_loop (α := Int × hs_S) (fun x_ => (GY σ x_.2 ∧ FRM PNo σ x_.2 ∧ 0 ≤ x_.1 ∧ x_.1 ≤ 4 ∧ x_.2 0 20 = σ 0 20 ∧ σ 0 20 ≤ 99) → hs_Wd p l e 7 s m args below meth c D dA SHY ad A 2 (hs_PV (fun σ σ1 => GY σ σ1 ∧ FRM PNo σ σ1) σ) 27 [(0, .ref (ad 0)), (1, vI x_.1)] [] x_.2) (fun x_ => (5 - x_.1).toNat) ?_ (0, (hs_ss σ 12 ((5 * (σ 0 20)).toNat) z21)) hi27
    rintro ⟨w, σ1⟩ ih27 hinv
    replace hinv : GY σ σ1 ∧ FRM PNo σ σ1 ∧ 0 ≤ w ∧ w ≤ 4 ∧ σ1 0 20 = σ 0 20 ∧ σ 0 20 ≤ 99 := hinv
    obtain ⟨hg27, hf27, hv27⟩ := hinv
    show hs_Wd p l e 7 s m args below meth c D dA SHY ad A 2 (hs_PV (fun σ σ1 => GY σ σ1 ∧ FRM PNo σ σ1) σ) 27 [(0, .ref (ad 0)), (1, vI w)] [] σ1
    refine s_iload_n (pc := 27) C dX12_notes_27 1 rfl ?_
    refine s_aload_n (pc := 28) C dX12_notes_28 0 rfl ?_
    refine s_geti (q := 0) (ci := 12) (N := 68) (CN := RX12) (T := TX12) (pc := 29) C 6 dX12_notes_29 wlX12_141 rfl rfl rfl wfX12 (by decide) rfl (σ1 0 6) rfl ?_
    have b29 : (0 : Int) ≤ σ1 0 6 ∧ σ1 0 6 ≤ 4 := hg27.1 0 6
    refine s_icmp_ge (pc := 32) C (tgt := 62) dX12_notes_32 (by decide) ⟨by omega, by omega⟩ ⟨by omega, by omega⟩ (fun h32 => ?_) (fun h32 => ?_)
    · skip
      refine s_aload_n (pc := 62) C dX12_notes_62 0 rfl ?_
      refine s_dup (pc := 63) C dX12_notes_63 rfl ?_
      refine s_geti (q := 0) (ci := 12) (N := 68) (CN := RX12) (T := TX12) (pc := 64) C 20 dX12_notes_64 wlX12_202 rfl rfl rfl wfX12 (by decide) rfl (σ1 0 20) rfl ?_
      have b64 : (0 : Int) ≤ σ1 0 20 ∧ σ1 0 20 ≤ 100 := hg27.1 0 20
      refine s_iconst (pc := 67) C dX12_notes_67 ?_
      refine s_iadd (pc := 68) C dX12_notes_68 ?_
      refine s_puti (q := 0) (ci := 12) (N := 68) (CN := RX12) (T := TX12) (ty0 := tyX12) (ty := .int) (pc := 69) C 20 dX12_notes_69 wlX12_202 rfl rfl rfl wfX12 tyX12_ok nmX12 (by decide) rfl rfl rfl (vp_nar_int _) rfl ?_
      have g69 := gy_set (z := ((σ1 0 20) + 1)) hg27 0 20 rfl (0) (100) rfl ⟨by omega, by omega⟩
      have f69 := frm_set (P := PNo) (z := ((σ1 0 20) + 1)) hf27 0 20 rfl
      refine s_vret (pc := 72) C dX12_notes_72 ?_
      refine ⟨rfl, ?_⟩
      exact ⟨g69, f69⟩
    · skip
      refine s_aload_n (pc := 35) C dX12_notes_35 0 rfl ?_
      refine s_getr (q := 0) (ci := 12) (N := 68) (CN := RX12) (T := TX12) (pc := 36) C 21 dX12_notes_36 wlX12_47 rfl rfl rfl wfX12 (by decide) rfl ?_
      refine s_iconst (pc := 39) C dX12_notes_39 ?_
      refine s_aload_n (pc := 40) C dX12_notes_40 0 rfl ?_
      refine s_geti (q := 0) (ci := 12) (N := 68) (CN := RX12) (T := TX12) (pc := 41) C 20 dX12_notes_41 wlX12_202 rfl rfl rfl wfX12 (by decide) rfl (σ1 0 20) rfl ?_
      have b41 : (0 : Int) ≤ σ1 0 20 ∧ σ1 0 20 ≤ 100 := hg27.1 0 20
      refine s_imul (pc := 44) C dX12_notes_44 ?_
      refine s_iconst (pc := 45) C dX12_notes_45 ?_
      refine s_iadd (pc := 46) C dX12_notes_46 ?_
      refine s_iload_n (pc := 47) C dX12_notes_47 1 rfl ?_
      refine s_iadd (pc := 48) C dX12_notes_48 ?_
      refine s_aload_n (pc := 49) C dX12_notes_49 0 rfl ?_
      refine s_getr (q := 0) (ci := 12) (N := 68) (CN := RX12) (T := TX12) (pc := 50) C 15 dX12_notes_50 wlX12_41 rfl rfl rfl wfX12 (by decide) rfl ?_
      refine s_iload_n (pc := 53) C dX12_notes_53 1 rfl ?_
      refine s_iald (q := 10) (n := 4) (pc := 54) C (σ1 10 w.toNat) rfl dX12_notes_54 rfl (by omega) (by omega) (by decide) ?_
      have b54 : (0 : Int) ≤ σ1 10 w.toNat ∧ σ1 10 w.toNat ≤ 99 := hg27.1 10 w.toNat
      refine s_iast (q := 12) (n := 500) (pc := 55) C dX12_notes_55 rfl (by omega) (by omega) (by decide) ?_
      have g55 := gy_set (z := (σ1 10 w.toNat)) hg27 12 ((((5 * (σ1 0 20)) + 1) + w).toNat) rfl (-10000) (10000) rfl ⟨by omega, by omega⟩
      have f55 := frm_set (P := PNo) (z := (σ1 10 w.toNat)) hf27 12 ((((5 * (σ1 0 20)) + 1) + w).toNat) rfl
      refine s_iinc (pc := 56) C [(1, vI (w + 1)), (0, .ref (ad 0))] dX12_notes_56 1 rfl (by decide) rfl ?_
      refine s_goto (pc := 59) C (tgt := 27) dX12_notes_59 (by decide) ?_
      refine s_sub C [1, 0] [(0, .ref (ad 0)), (1, vI (w + 1))] rfl ?_
      have hi27 : GY σ ((hs_ss σ1 12 ((((5 * (σ1 0 20)) + 1) + w).toNat) (σ1 10 w.toNat))) ∧ FRM PNo σ ((hs_ss σ1 12 ((((5 * (σ1 0 20)) + 1) + w).toNat) (σ1 10 w.toNat))) ∧ 0 ≤ (w + 1) ∧ (w + 1) ≤ 4 ∧ ((hs_ss σ1 12 ((((5 * (σ1 0 20)) + 1) + w).toNat) (σ1 10 w.toNat))) 0 20 = σ 0 20 ∧ σ 0 20 ≤ 99 := ⟨g55, f55, ⟨by omega, by omega, hv27.2.2.1, by omega⟩⟩
      exact ih27 (w + 1, (hs_ss σ1 12 ((((5 * (σ1 0 20)) + 1) + w).toNat) (σ1 10 w.toNat))) (by first | omega | (simp only []; omega)) hi27
  · skip
    refine s_vret (pc := 9) C dX12_notes_9 ?_
    refine ⟨rfl, ?_⟩
    exact ⟨g0, f0⟩
set_option maxHeartbeats 4000000 in
set_option maxRecDepth 100000 in
theorem c_X12_timesOf (l : Launch) (a : Int) (ha : 0 ≤ a ∧ a ≤ 59) : hs_Met l yX12_timesOf cX12_timesOf 2 (some .int) 3 SHY (fun ad => [.ref (ad 0), vI a]) (fun σ => GY σ σ ∧ OKA σ a.toNat ∧ 5 ≤ σ 15 a.toNat) (hs_PI (fun σ z σ1 => GY σ σ1 ∧ FRM PTo σ σ1 ∧ 0 ≤ z ∧ z ≤ 100)) := by
  refine hs_from pfX12_timesOf (fun _ => Nat.le_of_ble_eq_true rfl) ?_
  intro p e s m args below meth c D dA ad A σ C hpre
  have C : hs_C p s m args meth c D dA SHY ad A 2 cX12_timesOf RX12 (some .int) := C
  obtain ⟨g0, hpre⟩ := hpre
  have f0 : FRM PTo σ σ := frm_rf
  have ho := hpre.1
  unfold OKA at ho
  show hs_Wd p l e 3 s m args below meth c D dA SHY ad A 2 (hs_PI (fun σ z σ1 => GY σ σ1 ∧ FRM PTo σ σ1 ∧ 0 ≤ z ∧ z ≤ 100) σ) 0 [(0, .ref (ad 0)), (1, vI a)] [] σ
  refine s_aload_n (pc := 0) C dX12_timesOf_0 0 rfl ?_
  refine s_getr (q := 0) (ci := 12) (N := 68) (CN := RX12) (T := TX12) (pc := 1) C 33 dX12_timesOf_1 wlX12_59 rfl rfl rfl wfX12 (by decide) rfl ?_
  refine s_iload_n (pc := 4) C dX12_timesOf_4 1 rfl ?_
  refine s_iald (q := 15) (n := 60) (pc := 5) C (σ 15 a.toNat) rfl dX12_timesOf_5 rfl (by omega) (by omega) (by decide) ?_
  have b5 : (0 : Int) ≤ σ 15 a.toNat ∧ σ 15 a.toNat ≤ 6 := g0.1 15 a.toNat
  refine s_iconst (pc := 6) C dX12_timesOf_6 ?_
  refine s_icmp_ne (pc := 7) C (tgt := 17) dX12_timesOf_7 (by decide) ⟨by omega, by omega⟩ ⟨by decide, by decide⟩ (fun h7 => ?_) (fun h7 => ?_)
  · skip
    refine s_aload_n (pc := 17) C dX12_timesOf_17 0 rfl ?_
    refine s_getr (q := 0) (ci := 12) (N := 68) (CN := RX12) (T := TX12) (pc := 18) C 48 dX12_timesOf_18 wlX12_86 rfl rfl rfl wfX12 (by decide) rfl ?_
    refine s_aload_n (pc := 21) C dX12_timesOf_21 0 rfl ?_
    refine s_getr (q := 0) (ci := 12) (N := 68) (CN := RX12) (T := TX12) (pc := 22) C 35 dX12_timesOf_22 wlX12_65 rfl rfl rfl wfX12 (by decide) rfl ?_
    refine s_iload_n (pc := 25) C dX12_timesOf_25 1 rfl ?_
    refine s_iald (q := 17) (n := 60) (pc := 26) C (σ 17 a.toNat) rfl dX12_timesOf_26 rfl (by omega) (by omega) (by decide) ?_
    have b26 : (-1 : Int) ≤ σ 17 a.toNat ∧ σ 17 a.toNat ≤ 7 := g0.1 17 a.toNat
    refine s_aload_n (pc := 27) C dX12_timesOf_27 0 rfl ?_
    refine s_aload_n (pc := 28) C dX12_timesOf_28 0 rfl ?_
    refine s_getr (q := 0) (ci := 12) (N := 68) (CN := RX12) (T := TX12) (pc := 29) C 36 dX12_timesOf_29 wlX12_68 rfl rfl rfl wfX12 (by decide) rfl ?_
    refine s_iload_n (pc := 32) C dX12_timesOf_32 1 rfl ?_
    refine s_iald (q := 18) (n := 60) (pc := 33) C (σ 18 a.toNat) rfl dX12_timesOf_33 rfl (by omega) (by omega) (by decide) ?_
    have b33 : (-1 : Int) ≤ σ 18 a.toNat ∧ σ 18 a.toNat ≤ 7 := g0.1 18 a.toNat
    refine s_aload_n (pc := 34) C dX12_timesOf_34 0 rfl ?_
    refine s_getr (q := 0) (ci := 12) (N := 68) (CN := RX12) (T := TX12) (pc := 35) C 37 dX12_timesOf_35 wlX12_71 rfl rfl rfl wfX12 (by decide) rfl ?_
    refine s_iload_n (pc := 38) C dX12_timesOf_38 1 rfl ?_
    refine s_iald (q := 19) (n := 60) (pc := 39) C (σ 19 a.toNat) rfl dX12_timesOf_39 rfl (by omega) (by omega) (by decide) ?_
    have b39 : (-999 : Int) ≤ σ 19 a.toNat ∧ σ 19 a.toNat ≤ 999 := g0.1 19 a.toNat
    refine s_callVi (pc := 40) C (c_X12_placeOf l (σ 18 a.toNat) (σ 19 a.toNat) (by first | omega | assumption | (constructor <;> omega) | (refine ⟨⟨?_, ?_⟩, ?_⟩ <;> omega) | (simp [hs_ss, hs_up]; omega) | (simp [hs_ss, hs_up]; done)) (by first | omega | assumption | (constructor <;> omega) | (refine ⟨⟨?_, ?_⟩, ?_⟩ <;> omega) | (simp [hs_ss, hs_up]; omega) | (simp [hs_ss, hs_up]; done))) [vI (σ 18 a.toNat), vI (σ 19 a.toNat)] [vI (σ 17 a.toNat), .ref (ad 24)] rfl rfl dX12_timesOf_40 wlX12_294 wiX12_placeOf weX12_placeOf wcX12_placeOf wnX12 noX12_placeOf (by decide) (by decide) (Nat.le_of_ble_eq_true rfl) (gy_self g0) rfl rfl ?_
    rintro z40 _ ⟨rfl, k40⟩
    show hs_Wd _ _ _ _ _ _ _ _ _ _ _ _ _ _ _ _ _ 43 _ [vI z40, vI (σ 17 a.toNat), .ref (ad 24)] σ
    refine s_iast (q := 24) (n := 8) (pc := 43) C dX12_timesOf_43 rfl (by omega) (by omega) (by decide) ?_
    have g43 := gy_set (z := z40) g0 24 ((σ 17 a.toNat).toNat) rfl (0) (99) rfl ⟨by omega, by omega⟩
    have f43 := frm_set (P := PTo) (z := z40) f0 24 ((σ 17 a.toNat).toNat) rfl
    refine s_aload_n (pc := 44) C dX12_timesOf_44 0 rfl ?_
    refine s_aload_n (pc := 45) C dX12_timesOf_45 0 rfl ?_
    refine s_aload_n (pc := 46) C dX12_timesOf_46 0 rfl ?_
    refine s_getr (q := 0) (ci := 12) (N := 68) (CN := RX12) (T := TX12) (pc := 47) C 38 dX12_timesOf_47 wlX12_74 rfl rfl rfl wfX12 (by decide) rfl ?_
    refine s_iload_n (pc := 50) C dX12_timesOf_50 1 rfl ?_
    refine s_iald (q := 20) (n := 60) (pc := 51) C (σ 20 a.toNat) rfl dX12_timesOf_51 rfl (by omega) (by omega) (by decide) ?_
    have b51 : (-1 : Int) ≤ σ 20 a.toNat ∧ σ 20 a.toNat ≤ 7 := g43.1 20 a.toNat
    refine s_aload_n (pc := 52) C dX12_timesOf_52 0 rfl ?_
    refine s_getr (q := 0) (ci := 12) (N := 68) (CN := RX12) (T := TX12) (pc := 53) C 39 dX12_timesOf_53 wlX12_77 rfl rfl rfl wfX12 (by decide) rfl ?_
    refine s_iload_n (pc := 56) C dX12_timesOf_56 1 rfl ?_
    refine s_iald (q := 21) (n := 60) (pc := 57) C (σ 21 a.toNat) rfl dX12_timesOf_57 rfl (by omega) (by omega) (by decide) ?_
    have b57 : (-999 : Int) ≤ σ 21 a.toNat ∧ σ 21 a.toNat ≤ 999 := g43.1 21 a.toNat
    have r58_0_3 : (hs_ss σ 24 ((σ 17 a.toNat).toNat) z40) 0 3 = σ 0 3 := rfl
    refine s_callVi (pc := 58) C (c_X12_placeOf l (σ 20 a.toNat) (σ 21 a.toNat) (by first | omega | assumption | (constructor <;> omega) | (refine ⟨⟨?_, ?_⟩, ?_⟩ <;> omega) | (simp [hs_ss, hs_up]; omega) | (simp [hs_ss, hs_up]; done)) (by first | omega | assumption | (constructor <;> omega) | (refine ⟨⟨?_, ?_⟩, ?_⟩ <;> omega) | (simp [hs_ss, hs_up]; omega) | (simp [hs_ss, hs_up]; done))) [vI (σ 20 a.toNat), vI (σ 21 a.toNat)] [.ref (ad 0)] rfl rfl dX12_timesOf_58 wlX12_294 wiX12_placeOf weX12_placeOf wcX12_placeOf wnX12 noX12_placeOf (by decide) (by decide) (Nat.le_of_ble_eq_true rfl) (gy_self g43) rfl rfl ?_
    rintro z58 _ ⟨rfl, k58⟩
    show hs_Wd _ _ _ _ _ _ _ _ _ _ _ _ _ _ _ _ _ 61 _ [vI z58, .ref (ad 0)] (hs_ss σ 24 ((σ 17 a.toNat).toNat) z40)
    refine s_aload_n (pc := 61) C dX12_timesOf_61 0 rfl ?_
    refine s_getr (q := 0) (ci := 12) (N := 68) (CN := RX12) (T := TX12) (pc := 62) C 48 dX12_timesOf_62 wlX12_86 rfl rfl rfl wfX12 (by decide) rfl ?_
    refine s_aload_n (pc := 65) C dX12_timesOf_65 0 rfl ?_
    refine s_getr (q := 0) (ci := 12) (N := 68) (CN := RX12) (T := TX12) (pc := 66) C 35 dX12_timesOf_66 wlX12_65 rfl rfl rfl wfX12 (by decide) rfl ?_
    refine s_iload_n (pc := 69) C dX12_timesOf_69 1 rfl ?_
    refine s_iald (q := 17) (n := 60) (pc := 70) C (σ 17 a.toNat) rfl dX12_timesOf_70 rfl (by omega) (by omega) (by decide) ?_
    have b70 : (-1 : Int) ≤ σ 17 a.toNat ∧ σ 17 a.toNat ≤ 7 := g43.1 17 a.toNat
    refine s_iald (q := 24) (n := 8) (pc := 71) C (z40) (by simp [hs_ss, hs_up]) dX12_timesOf_71 rfl (by omega) (by omega) (by decide) ?_
    have b71 : (0 : Int) ≤ z40 ∧ z40 ≤ 99 := by have h := g43.1 24 ((σ 17 a.toNat).toNat); rw [show (hs_ss σ 24 ((σ 17 a.toNat).toNat) z40) 24 ((σ 17 a.toNat).toNat) = z40 from by simp [hs_ss, hs_up]] at h; exact h
    refine s_isub (pc := 72) C dX12_timesOf_72 ?_
    have r73_0_3 : (hs_ss σ 24 ((σ 17 a.toNat).toNat) z40) 0 3 = σ 0 3 := rfl
    refine s_callVi (pc := 73) C (c_X12_round l (z58 - z40) ⟨by omega, by omega⟩) [vI (z58 - z40)] [] rfl rfl dX12_timesOf_73 wlX12_144 wiX12_round weX12_round wcX12_round wnX12 noX12_round (by decide) (by decide) (Nat.le_of_ble_eq_true rfl) (gy_self g43) rfl rfl ?_
    rintro z73 _ ⟨rfl, k73⟩
    show hs_Wd _ _ _ _ _ _ _ _ _ _ _ _ _ _ _ _ _ 76 _ [vI z73] (hs_ss σ 24 ((σ 17 a.toNat).toNat) z40)
    refine s_aload_n (pc := 76) C dX12_timesOf_76 0 rfl ?_
    refine s_getr (q := 0) (ci := 12) (N := 68) (CN := RX12) (T := TX12) (pc := 77) C 34 dX12_timesOf_77 wlX12_62 rfl rfl rfl wfX12 (by decide) rfl ?_
    refine s_iload_n (pc := 80) C dX12_timesOf_80 1 rfl ?_
    refine s_iald (q := 16) (n := 60) (pc := 81) C (σ 16 a.toNat) rfl dX12_timesOf_81 rfl (by omega) (by omega) (by decide) ?_
    have b81 : (0 : Int) ≤ σ 16 a.toNat ∧ σ 16 a.toNat ≤ 99 := g43.1 16 a.toNat
    refine s_idiv (pc := 82) C dX12_timesOf_82 ⟨by omega, by omega⟩ ⟨by omega, by omega⟩ (by omega) ?_
    have hq := hs_tdivb (a := z73) (b := σ 16 a.toNat) (M := 99) (by omega) (by omega) (by omega)
    have hq0 := Int.tdiv_nonneg (a := z73) (b := σ 16 a.toNat) (by omega) (by omega)
    refine s_iconst (pc := 83) C dX12_timesOf_83 ?_
    refine s_iadd (pc := 84) C dX12_timesOf_84 ?_
    refine s_iret (pc := 85) C dX12_timesOf_85 ?_
    refine ⟨_, rfl, ?_⟩
    exact ⟨g43, f43, by first | omega | assumption | (constructor <;> omega) | (refine ⟨⟨?_, ?_⟩, ?_⟩ <;> omega) | (simp [hs_ss, hs_up]; omega) | (simp [hs_ss, hs_up]; done)⟩
  · skip
    refine s_aload_n (pc := 10) C dX12_timesOf_10 0 rfl ?_
    refine s_getr (q := 0) (ci := 12) (N := 68) (CN := RX12) (T := TX12) (pc := 11) C 34 dX12_timesOf_11 wlX12_62 rfl rfl rfl wfX12 (by decide) rfl ?_
    refine s_iload_n (pc := 14) C dX12_timesOf_14 1 rfl ?_
    refine s_iald (q := 16) (n := 60) (pc := 15) C (σ 16 a.toNat) rfl dX12_timesOf_15 rfl (by omega) (by omega) (by decide) ?_
    have b15 : (0 : Int) ≤ σ 16 a.toNat ∧ σ 16 a.toNat ≤ 99 := g0.1 16 a.toNat
    refine s_iret (pc := 16) C dX12_timesOf_16 ?_
    refine ⟨_, rfl, ?_⟩
    exact ⟨g0, f0, by first | omega | assumption | (constructor <;> omega) | (refine ⟨⟨?_, ?_⟩, ?_⟩ <;> omega) | (simp [hs_ss, hs_up]; omega) | (simp [hs_ss, hs_up]; done)⟩
set_option maxHeartbeats 4000000 in
set_option maxRecDepth 100000 in
theorem c_X12_does (l : Launch)  : hs_Met l yX12_does cX12_does 5 (some .int) 8 SHY (fun ad => [.ref (ad 0)]) (fun σ => GY σ σ ∧ PG σ ∧ σ 0 47 ≤ σ 0 46) (hs_PI (fun σ z σ1 => GY σ σ1 ∧ FRM PDo σ σ1 ∧ 0 ≤ z ∧ z ≤ 3)) := by
  refine hs_from pfX12_does (fun _ => Nat.le_of_ble_eq_true rfl) ?_
  intro p e s m args below meth c D dA ad A σ C hpre
  have C : hs_C p s m args meth c D dA SHY ad A 5 cX12_does RX12 (some .int) := C
  obtain ⟨g0, hpre⟩ := hpre
  have f0 : FRM PDo σ σ := frm_rf
  obtain ⟨⟨dep, hP⟩, htr⟩ := hpre
  have hP : PGD σ dep := hP
  have b32 : (0 : Int) ≤ σ 0 32 ∧ σ 0 32 ≤ 60 := g0.1 0 32
  show hs_Wd p l e 8 s m args below meth c D dA SHY ad A 5 (hs_PI (fun σ z σ1 => GY σ σ1 ∧ FRM PDo σ σ1 ∧ 0 ≤ z ∧ z ≤ 3) σ) 0 [(0, .ref (ad 0))] [] σ
  refine s_iconst (pc := 0) C dX12_does_0 ?_
  refine s_istore_n (pc := 1) C [(1, vI 0), (0, .ref (ad 0))] dX12_does_1 (by decide) rfl ?_
  refine s_aload_n (pc := 2) C dX12_does_2 1 rfl ?_
  refine s_iconst (pc := 3) C dX12_does_3 ?_
  refine s_puti (q := 0) (ci := 12) (N := 68) (CN := RX12) (T := TX12) (ty0 := tyX12) (ty := .int) (pc := 4) C 49 dX12_does_4 wlX12_300 rfl rfl rfl wfX12 tyX12_ok nmX12 (by decide) rfl rfl rfl (vp_nar_int _) rfl ?_
  have g4 := gy_set (z := 0) g0 0 49 rfl (0) (5) rfl ⟨by omega, by omega⟩
  have f4 := frm_set (P := PDo) (z := 0) f0 0 49 rfl
  refine s_sub C [1, 0] [(0, .ref (ad 0)), (1, vI 0)] rfl ?_
  have hi7 : GY σ ((hs_ss σ 0 49 0)) ∧ FRM PDo σ ((hs_ss σ 0 49 0)) ∧ 0 ≤ (0 : Int) ∧ (0 : Int) ≤ σ 0 32 ∧ ((hs_ss σ 0 49 0)) 0 47 ≤ ((hs_ss σ 0 49 0)) 0 46 ∧ SI σ dep ((hs_ss σ 0 49 0)) (0 : Int) := ⟨g4, f4, ⟨by omega, by omega, by show σ 0 47 ≤ σ 0 46; omega, fun k hk => by exfalso; have hk : (k : Int) < 0 := hk; omega⟩⟩
  refine hs_loop (α := Int × hs_S) (fun x_ => (GY σ x_.2 ∧ FRM PDo σ x_.2 ∧ 0 ≤ x_.1 ∧ x_.1 ≤ σ 0 32 ∧ x_.2 0 47 ≤ x_.2 0 46 ∧ SI σ dep x_.2 x_.1) → hs_Wd p l e 8 s m args below meth c D dA SHY ad A 5 (hs_PI (fun σ z σ1 => GY σ σ1 ∧ FRM PDo σ σ1 ∧ 0 ≤ z ∧ z ≤ 3) σ) 7 [(0, .ref (ad 0)), (1, vI x_.1)] [] x_.2) (fun x_ => (MUD x_.2).toNat) ?_ (0, (hs_ss σ 0 49 0)) hi7
  rintro ⟨a, σ1⟩ ih7 hinv
  replace hinv : GY σ σ1 ∧ FRM PDo σ σ1 ∧ 0 ≤ a ∧ a ≤ σ 0 32 ∧ σ1 0 47 ≤ σ1 0 46 ∧ SI σ dep σ1 a := hinv
  obtain ⟨hg7, hf7, hv7⟩ := hinv
  show hs_Wd p l e 8 s m args below meth c D dA SHY ad A 5 (hs_PI (fun σ z σ1 => GY σ σ1 ∧ FRM PDo σ σ1 ∧ 0 ≤ z ∧ z ≤ 3) σ) 7 [(0, .ref (ad 0)), (1, vI a)] [] σ1
  obtain ⟨ha0, ha1, ht, hsi⟩ := hv7
  have e32 : σ1 0 32 = σ 0 32 := hf7 0 32 rfl
  have b49 : (0 : Int) ≤ σ1 0 49 ∧ σ1 0 49 ≤ 5 := hg7.1 0 49
  have b46 : (0 : Int) ≤ σ1 0 46 ∧ σ1 0 46 ≤ 5000 := hg7.1 0 46
  have b47 : (0 : Int) ≤ σ1 0 47 ∧ σ1 0 47 ≤ 5000 := hg7.1 0 47
  have e15 : ∀ j, σ1 15 j = σ 15 j := fun j => hf7 15 j rfl
  have e16 : ∀ j, σ1 16 j = σ 16 j := fun j => hf7 16 j rfl
  have e17 : ∀ j, σ1 17 j = σ 17 j := fun j => hf7 17 j rfl
  have e22 : ∀ j, σ1 22 j = σ 22 j := fun j => hf7 22 j rfl
  have b26 : ∀ k : Nat, 0 ≤ σ1 26 k ∧ σ1 26 k ≤ 200 := fun k => hg7.1 26 k
  refine s_aload_n (pc := 7) C dX12_does_7 0 rfl ?_
  have j139 : (∀ d : Nat, σ1 0 49 = (d : Int) + 1 → ¬ a = σ 22 (σ1 25 d).toNat) → hs_Wd p l e 8 s m args below meth c D dA SHY ad A 5 (hs_PI (fun σ z σ1 => GY σ σ1 ∧ FRM PDo σ σ1 ∧ 0 ≤ z ∧ z ≤ 3) σ) 139 [(0, .ref (ad 0)), (1, vI a)] [] σ1 := by
    intro  hj139
    have lf139 : FRM PIt σ1 σ1 := frm_rf
    refine s_iload_n (pc := 139) C dX12_does_139 1 rfl ?_
    refine s_aload_n (pc := 140) C dX12_does_140 0 rfl ?_
    refine s_geti (q := 0) (ci := 12) (N := 68) (CN := RX12) (T := TX12) (pc := 141) C 32 dX12_does_141 wlX12_282 rfl rfl rfl wfX12 (by decide) rfl (σ1 0 32) rfl ?_
    have b141 : (0 : Int) ≤ σ1 0 32 ∧ σ1 0 32 ≤ 60 := hg7.1 0 32
    refine s_icmp_ne (pc := 144) C (tgt := 149) dX12_does_144 (by decide) ⟨by omega, by omega⟩ ⟨by omega, by omega⟩ (fun h144 => ?_) (fun h144 => ?_)
    · skip
      have hoka := (hP a.toNat (by omega)).1
      have hok := hoka
      unfold OKA at hok
      have q15 := e15 a.toNat
      have q16 := e16 a.toNat
      have q17 := e17 a.toNat
      have q22 := e22 a.toNat
      refine s_aload_n (pc := 149) C dX12_does_149 0 rfl ?_
      refine s_iload_n (pc := 150) C dX12_does_150 1 rfl ?_
      refine s_callVi (pc := 151) C (c_X12_stepsOf l a (by first | omega | assumption | (constructor <;> omega) | (refine ⟨⟨?_, ?_⟩, ?_⟩ <;> omega) | (simp [hs_ss, hs_up]; omega) | (simp [hs_ss, hs_up]; done))) [vI a] [] rfl rfl dX12_does_151 wlX12_303 wiX12_stepsOf weX12_stepsOf wcX12_stepsOf wnX12 noX12_stepsOf (by decide) (by decide) (Nat.le_of_ble_eq_true rfl) ⟨(gy_self hg7), fun q => by omega⟩ rfl rfl ?_
      rintro z151 _ ⟨rfl, k151⟩
      show hs_Wd _ _ _ _ _ _ _ _ _ _ _ _ _ _ _ _ _ 154 _ [vI z151] σ1
      refine s_istore_n (pc := 154) C [(2, vI z151), (0, .ref (ad 0)), (1, vI a)] dX12_does_154 (by decide) rfl ?_
      refine s_aload_n (pc := 155) C dX12_does_155 1 rfl ?_
      refine s_geti (q := 0) (ci := 12) (N := 68) (CN := RX12) (T := TX12) (pc := 156) C 46 dX12_does_156 wlX12_306 rfl rfl rfl wfX12 (by decide) rfl (σ1 0 46) rfl ?_
      have b156 : (0 : Int) ≤ σ1 0 46 ∧ σ1 0 46 ≤ 5000 := hg7.1 0 46
      refine s_sipush (pc := 159) C dX12_does_159 (by decide) ?_
      refine s_icmp_eq (pc := 162) C (tgt := 176) dX12_does_162 (by decide) ⟨by omega, by omega⟩ ⟨by decide, by decide⟩ (fun h162 => ?_) (fun h162 => ?_)
      · skip
        refine s_iconst (pc := 176) C dX12_does_176 ?_
        refine s_iret (pc := 177) C dX12_does_177 ?_
        refine ⟨_, rfl, ?_⟩
        exact ⟨hg7, hf7, by first | omega | assumption | (constructor <;> omega) | (refine ⟨⟨?_, ?_⟩, ?_⟩ <;> omega) | (simp [hs_ss, hs_up]; omega) | (simp [hs_ss, hs_up]; done)⟩
      · skip
        refine s_aload_n (pc := 165) C dX12_does_165 1 rfl ?_
        refine s_geti (q := 0) (ci := 12) (N := 68) (CN := RX12) (T := TX12) (pc := 166) C 45 dX12_does_166 wlX12_309 rfl rfl rfl wfX12 (by decide) rfl (σ1 0 45) rfl ?_
        have b166 : (0 : Int) ≤ σ1 0 45 ∧ σ1 0 45 ≤ 100000 := hg7.1 0 45
        refine s_iload_n (pc := 169) C dX12_does_169 0 rfl ?_
        refine s_iadd (pc := 170) C dX12_does_170 ?_
        refine s_ldc (z := 100000) (pc := 171) C dX12_does_171 wlX12_212 (by decide) ?_
        refine s_icmp_le (pc := 173) C (tgt := 178) dX12_does_173 (by decide) ⟨by omega, by omega⟩ ⟨by decide, by decide⟩ (fun h173 => ?_) (fun h173 => ?_)
        · skip
          refine s_aload_n (pc := 178) C dX12_does_178 1 rfl ?_
          refine s_dup (pc := 179) C dX12_does_179 rfl ?_
          refine s_geti (q := 0) (ci := 12) (N := 68) (CN := RX12) (T := TX12) (pc := 180) C 46 dX12_does_180 wlX12_306 rfl rfl rfl wfX12 (by decide) rfl (σ1 0 46) rfl ?_
          have b180 : (0 : Int) ≤ σ1 0 46 ∧ σ1 0 46 ≤ 5000 := hg7.1 0 46
          refine s_iconst (pc := 183) C dX12_does_183 ?_
          refine s_iadd (pc := 184) C dX12_does_184 ?_
          refine s_puti (q := 0) (ci := 12) (N := 68) (CN := RX12) (T := TX12) (ty0 := tyX12) (ty := .int) (pc := 185) C 46 dX12_does_185 wlX12_306 rfl rfl rfl wfX12 tyX12_ok nmX12 (by decide) rfl rfl rfl (vp_nar_int _) rfl ?_
          have g185 := gy_set (z := ((σ1 0 46) + 1)) hg7 0 46 rfl (0) (5000) rfl ⟨by omega, by omega⟩
          have lf185 : FRM PIt σ1 ((hs_ss σ1 0 46 ((σ1 0 46) + 1))) := frm_set (P := PIt) (z := ((σ1 0 46) + 1)) lf139 0 46 rfl
          have f185 := frm_set (P := PDo) (z := ((σ1 0 46) + 1)) hf7 0 46 rfl
          refine s_aload_n (pc := 188) C dX12_does_188 1 rfl ?_
          refine s_iload_n (pc := 189) C dX12_does_189 2 rfl ?_
          refine s_callVi (pc := 190) C (c_X12_isLeft l a (by first | omega | assumption | (constructor <;> omega) | (refine ⟨⟨?_, ?_⟩, ?_⟩ <;> omega) | (simp [hs_ss, hs_up]; omega) | (simp [hs_ss, hs_up]; done))) [vI a] [] rfl rfl dX12_does_190 wlX12_297 wiX12_isLeft weX12_isLeft wcX12_isLeft wnX12 noX12_isLeft (by decide) (by decide) (Nat.le_of_ble_eq_true rfl) (gy_self g185) rfl rfl ?_
          rintro z190 _ ⟨rfl, k190⟩
          show hs_Wd _ _ _ _ _ _ _ _ _ _ _ _ _ _ _ _ _ 193 _ [vI z190] (hs_ss σ1 0 46 ((σ1 0 46) + 1))
          refine s_istore_n (pc := 193) C [(3, vI z190), (2, vI z151), (0, .ref (ad 0)), (1, vI a)] dX12_does_193 (by decide) rfl ?_
          refine s_iconst (pc := 194) C dX12_does_194 ?_
          refine s_istore (pc := 195) C [(4, vI 0), (3, vI z190), (2, vI z151), (0, .ref (ad 0)), (1, vI a)] dX12_does_195 (by decide) rfl ?_
          refine s_sub C [3, 4, 2, 1, 0] [(0, .ref (ad 0)), (1, vI a), (2, vI z151), (3, vI z190), (4, vI 0)] rfl ?_
          have hi197 : GY σ ((hs_ss σ1 0 46 ((σ1 0 46) + 1))) ∧ FRM PDo σ ((hs_ss σ1 0 46 ((σ1 0 46) + 1))) ∧ 0 ≤ (0 : Int) ∧ (0 : Int) ≤ z151 ∧ FRM PIt σ1 ((hs_ss σ1 0 46 ((σ1 0 46) + 1))) ∧ ((hs_ss σ1 0 46 ((σ1 0 46) + 1))) 0 46 = σ1 0 46 + 1 ∧ ((hs_ss σ1 0 46 ((σ1 0 46) + 1))) 0 47 = σ1 0 47 ∧ ((hs_ss σ1 0 46 ((σ1 0 46) + 1))) 0 45 = σ1 0 45 ∧ ((hs_ss σ1 0 46 ((σ1 0 46) + 1))) 15 a.toNat = σ1 15 a.toNat := ⟨g185, f185, ⟨by omega, by omega, lf185, rfl, rfl, rfl, rfl⟩⟩
          refine hs_loop (α := Int × hs_S) (fun x_ => (GY σ x_.2 ∧ FRM PDo σ x_.2 ∧ 0 ≤ x_.1 ∧ x_.1 ≤ z151 ∧ FRM PIt σ1 x_.2 ∧ x_.2 0 46 = σ1 0 46 + 1 ∧ x_.2 0 47 = σ1 0 47 ∧ x_.2 0 45 = σ1 0 45 ∧ x_.2 15 a.toNat = σ1 15 a.toNat) → hs_Wd p l e 8 s m args below meth c D dA SHY ad A 5 (hs_PI (fun σ z σ1 => GY σ σ1 ∧ FRM PDo σ σ1 ∧ 0 ≤ z ∧ z ≤ 3) σ) 197 [(0, .ref (ad 0)), (1, vI a), (2, vI z151), (3, vI z190), (4, vI x_.1)] [] x_.2) (fun x_ => (20000 - x_.1).toNat) ?_ (0, (hs_ss σ1 0 46 ((σ1 0 46) + 1))) hi197
          rintro ⟨k, σ2⟩ ih197 hinv
          replace hinv : GY σ σ2 ∧ FRM PDo σ σ2 ∧ 0 ≤ k ∧ k ≤ z151 ∧ FRM PIt σ1 σ2 ∧ σ2 0 46 = σ1 0 46 + 1 ∧ σ2 0 47 = σ1 0 47 ∧ σ2 0 45 = σ1 0 45 ∧ σ2 15 a.toNat = σ1 15 a.toNat := hinv
          obtain ⟨hg197, hf197, hv197⟩ := hinv
          show hs_Wd p l e 8 s m args below meth c D dA SHY ad A 5 (hs_PI (fun σ z σ1 => GY σ σ1 ∧ FRM PDo σ σ1 ∧ 0 ≤ z ∧ z ≤ 3) σ) 197 [(0, .ref (ad 0)), (1, vI a), (2, vI z151), (3, vI z190), (4, vI k)] [] σ2
          obtain ⟨hk0, hk1, hlf, h46, h47, h45, h15⟩ := hv197
          refine s_iload (pc := 197) C dX12_does_197 4 rfl ?_
          refine s_iload_n (pc := 199) C dX12_does_199 2 rfl ?_
          refine s_icmp_ge (pc := 200) C (tgt := 215) dX12_does_200 (by decide) ⟨by omega, by omega⟩ ⟨by omega, by omega⟩ (fun h200 => ?_) (fun h200 => ?_)
          · skip
            refine s_aload_n (pc := 215) C dX12_does_215 0 rfl ?_
            refine s_dup (pc := 216) C dX12_does_216 rfl ?_
            refine s_geti (q := 0) (ci := 12) (N := 68) (CN := RX12) (T := TX12) (pc := 217) C 45 dX12_does_217 wlX12_309 rfl rfl rfl wfX12 (by decide) rfl (σ2 0 45) rfl ?_
            have b217 : (0 : Int) ≤ σ2 0 45 ∧ σ2 0 45 ≤ 100000 := hg197.1 0 45
            refine s_iload_n (pc := 220) C dX12_does_220 2 rfl ?_
            refine s_iadd (pc := 221) C dX12_does_221 ?_
            refine s_puti (q := 0) (ci := 12) (N := 68) (CN := RX12) (T := TX12) (ty0 := tyX12) (ty := .int) (pc := 222) C 45 dX12_does_222 wlX12_309 rfl rfl rfl wfX12 tyX12_ok nmX12 (by decide) rfl rfl rfl (vp_nar_int _) rfl ?_
            have g222 := gy_set (z := ((σ2 0 45) + z151)) hg197 0 45 rfl (0) (100000) rfl ⟨by omega, by omega⟩
            have lf222 : FRM PIt σ1 ((hs_ss σ2 0 45 ((σ2 0 45) + z151))) := frm_set (P := PIt) (z := ((σ2 0 45) + z151)) hlf 0 45 rfl
            have f222 := frm_set (P := PDo) (z := ((σ2 0 45) + z151)) hf197 0 45 rfl
            refine s_aload_n (pc := 225) C dX12_does_225 0 rfl ?_
            refine s_getr (q := 0) (ci := 12) (N := 68) (CN := RX12) (T := TX12) (pc := 226) C 33 dX12_does_226 wlX12_59 rfl rfl rfl wfX12 (by decide) rfl ?_
            refine s_iload_n (pc := 229) C dX12_does_229 1 rfl ?_
            refine s_iald (q := 15) (n := 60) (pc := 230) C (σ2 15 a.toNat) rfl dX12_does_230 rfl (by omega) (by omega) (by decide) ?_
            have b230 : (0 : Int) ≤ σ2 15 a.toNat ∧ σ2 15 a.toNat ≤ 6 := g222.1 15 a.toNat
            refine s_iconst (pc := 231) C dX12_does_231 ?_
            refine s_icmp_ne (pc := 232) C (tgt := 239) dX12_does_232 (by decide) ⟨by omega, by omega⟩ ⟨by decide, by decide⟩ (fun h232 => ?_) (fun h232 => ?_)
            · skip
              refine s_aload_n (pc := 239) C dX12_does_239 0 rfl ?_
              refine s_getr (q := 0) (ci := 12) (N := 68) (CN := RX12) (T := TX12) (pc := 240) C 33 dX12_does_240 wlX12_59 rfl rfl rfl wfX12 (by decide) rfl ?_
              refine s_iload_n (pc := 243) C dX12_does_243 1 rfl ?_
              refine s_iald (q := 15) (n := 60) (pc := 244) C (σ2 15 a.toNat) rfl dX12_does_244 rfl (by omega) (by omega) (by decide) ?_
              have b244 : (0 : Int) ≤ σ2 15 a.toNat ∧ σ2 15 a.toNat ≤ 6 := g222.1 15 a.toNat
              refine s_iconst (pc := 245) C dX12_does_245 ?_
              refine s_icmp_ne (pc := 246) C (tgt := 275) dX12_does_246 (by decide) ⟨by omega, by omega⟩ ⟨by decide, by decide⟩ (fun h246 => ?_) (fun h246 => ?_)
              · skip
                refine s_aload_n (pc := 275) C dX12_does_275 0 rfl ?_
                refine s_getr (q := 0) (ci := 12) (N := 68) (CN := RX12) (T := TX12) (pc := 276) C 33 dX12_does_276 wlX12_59 rfl rfl rfl wfX12 (by decide) rfl ?_
                refine s_iload_n (pc := 279) C dX12_does_279 1 rfl ?_
                refine s_iald (q := 15) (n := 60) (pc := 280) C (σ2 15 a.toNat) rfl dX12_does_280 rfl (by omega) (by omega) (by decide) ?_
                have b280 : (0 : Int) ≤ σ2 15 a.toNat ∧ σ2 15 a.toNat ≤ 6 := g222.1 15 a.toNat
                refine s_iconst (pc := 281) C dX12_does_281 ?_
                refine s_icmp_lt (pc := 282) C (tgt := 338) dX12_does_282 (by decide) ⟨by omega, by omega⟩ ⟨by decide, by decide⟩ (fun h282 => ?_) (fun h282 => ?_)
                · skip
                  refine s_iinc (pc := 338) C [(1, vI (a + 1)), (0, .ref (ad 0)), (2, vI z151), (3, vI z190), (4, vI k)] dX12_does_338 1 rfl (by decide) rfl ?_
                  refine s_goto (pc := 341) C (tgt := 7) dX12_does_341 (by decide) ?_
                  refine s_sub C [1, 0] [(0, .ref (ad 0)), (1, vI (a + 1))] rfl ?_
                  have hi7 : GY σ ((hs_ss σ2 0 45 ((σ2 0 45) + z151))) ∧ FRM PDo σ ((hs_ss σ2 0 45 ((σ2 0 45) + z151))) ∧ 0 ≤ (a + 1) ∧ (a + 1) ≤ σ 0 32 ∧ ((hs_ss σ2 0 45 ((σ2 0 45) + z151))) 0 47 ≤ ((hs_ss σ2 0 45 ((σ2 0 45) + z151))) 0 46 ∧ SI σ dep ((hs_ss σ2 0 45 ((σ2 0 45) + z151))) (a + 1) := ⟨g222, f222, ⟨by omega, by omega, by show σ2 0 47 ≤ σ2 0 46; omega, si_same (τ2 := (hs_ss σ2 0 45 ((σ2 0 45) + z151))) hsi ((lf222) 0 49 rfl) (fun k => (lf222) 25 k rfl) (fun k hk => by rw [(lf222) 26 k rfl]; exact (hsi k hk).2.2.2.2.1) (fun k hk => by have e : k = (σ1 0 49 - 1).toNat := (by omega); subst e; have ht1 := si_top hsi (d := (σ1 0 49 - 1).toNat) (by omega); have ht2 := hj139 (σ1 0 49 - 1).toNat (by omega); omega)⟩⟩
                  exact ih7 (a + 1, (hs_ss σ2 0 45 ((σ2 0 45) + z151))) (by exact mud_done (σ := σ1) (σ1 := (hs_ss σ2 0 45 ((σ2 0 45) + z151))) b26 (fun k => (g222).1 26 k) (by show σ2 0 46 = σ1 0 46 + 1; omega) (by omega)) hi7
                · skip
                  have h5a : 5 ≤ σ 15 a.toNat := by omega
                  have hca := (hP a.toNat (by omega)).2 h5a
                  have hca2 := hca.2.1
                  have hca3 := hca.2.2.1
                  have hca1 := hca.1
                  refine s_aload_n (pc := 285) C dX12_does_285 0 rfl ?_
                  refine s_iload_n (pc := 286) C dX12_does_286 1 rfl ?_
                  refine s_callVi (pc := 287) C (c_X12_timesOf l a (by first | omega | assumption | (constructor <;> omega) | (refine ⟨⟨?_, ?_⟩, ?_⟩ <;> omega) | (simp [hs_ss, hs_up]; omega) | (simp [hs_ss, hs_up]; done))) [vI a] [] rfl rfl dX12_does_287 wlX12_318 wiX12_timesOf weX12_timesOf wcX12_timesOf wnX12 noX12_timesOf (by decide) (by decide) (Nat.le_of_ble_eq_true rfl) ⟨(gy_self g222), ⟨OKA_eq ((f222) 15 a.toNat rfl) ((f222) 16 a.toNat rfl) ((f222) 17 a.toNat rfl) hoka, by show 5 ≤ σ2 15 a.toNat; omega⟩⟩ rfl rfl ?_
                  rintro z287 σ287 k287
                  obtain ⟨kg287, kf287, k287⟩ := k287
                  have g287 := gy_trans g222 kg287
                  have f287 := frm_tr f222 (frm_mono (Q := PDo) kf287 (fun c j h => by simp [PTo, PDo] at h ⊢ <;> omega))
                  have lf287 := frm_tr lf222 (frm_mono (Q := PIt) kf287 (fun c j h => by simp [PTo, PIt] at h ⊢ <;> omega))
                  have x287_0_45 : σ287 0 45 = (σ2 0 45) + z151 := kf287 0 45 rfl
                  have x287_0_46 : σ287 0 46 = σ2 0 46 := kf287 0 46 rfl
                  have x287_0_47 : σ287 0 47 = σ2 0 47 := kf287 0 47 rfl
                  have x287_15_atoNat : σ287 15 a.toNat = σ2 15 a.toNat := by first | exact kf287 15 a.toNat rfl | (rw [kf287 15 a.toNat rfl]; simp [hs_ss, hs_up]; done)
                  show hs_Wd _ _ _ _ _ _ _ _ _ _ _ _ _ _ _ _ _ 290 _ [vI z287] σ287
                  refine s_istore (pc := 290) C [(4, vI z287), (0, .ref (ad 0)), (1, vI a), (2, vI z151), (3, vI z190)] dX12_does_290 (by decide) rfl ?_
                  refine s_iload (pc := 292) C dX12_does_292 0 rfl ?_
                  refine s_if_ne (pc := 294) C (tgt := 307) dX12_does_294 (by decide) ⟨by omega, by omega⟩ (fun h294 => ?_) (fun h294 => ?_)
                  · skip
                    have q49 : σ287 0 49 = σ1 0 49 := (lf287) 0 49 rfl
                    have q25 : ∀ k, σ287 25 k = σ1 25 k := fun k => (lf287) 25 k rfl
                    have q26 : ∀ k, σ287 26 k = σ1 26 k := fun k => (lf287) 26 k rfl
                    have hdp := si_depth hP hsi ha0 b49.1 hj139
                    refine s_aload_n (pc := 307) C dX12_does_307 1 rfl ?_
                    refine s_getr (q := 0) (ci := 12) (N := 68) (CN := RX12) (T := TX12) (pc := 308) C 50 dX12_does_308 wlX12_89 rfl rfl rfl wfX12 (by decide) rfl ?_
                    refine s_aload_n (pc := 311) C dX12_does_311 1 rfl ?_
                    refine s_geti (q := 0) (ci := 12) (N := 68) (CN := RX12) (T := TX12) (pc := 312) C 49 dX12_does_312 wlX12_300 rfl rfl rfl wfX12 (by decide) rfl (σ287 0 49) rfl ?_
                    have b312 : (0 : Int) ≤ σ287 0 49 ∧ σ287 0 49 ≤ 5 := g287.1 0 49
                    refine s_iload_n (pc := 315) C dX12_does_315 2 rfl ?_
                    refine s_iast (q := 25) (n := 5) (pc := 316) C dX12_does_316 rfl (by omega) (by omega) (by decide) ?_
                    have g316 := gy_set (z := a) g287 25 ((σ287 0 49).toNat) rfl (0) (59) rfl ⟨by omega, by omega⟩
                    have f316 := frm_set (P := PDo) (z := a) f287 25 ((σ287 0 49).toNat) rfl
                    refine s_aload_n (pc := 317) C dX12_does_317 1 rfl ?_
                    refine s_getr (q := 0) (ci := 12) (N := 68) (CN := RX12) (T := TX12) (pc := 318) C 51 dX12_does_318 wlX12_92 rfl rfl rfl wfX12 (by decide) rfl ?_
                    refine s_aload_n (pc := 321) C dX12_does_321 1 rfl ?_
                    refine s_geti (q := 0) (ci := 12) (N := 68) (CN := RX12) (T := TX12) (pc := 322) C 49 dX12_does_322 wlX12_300 rfl rfl rfl wfX12 (by decide) rfl (σ287 0 49) rfl ?_
                    have b322 : (0 : Int) ≤ σ287 0 49 ∧ σ287 0 49 ≤ 5 := g316.1 0 49
                    refine s_iload (pc := 325) C dX12_does_325 0 rfl ?_
                    refine s_iast (q := 26) (n := 5) (pc := 327) C dX12_does_327 rfl (by omega) (by omega) (by decide) ?_
                    have g327 := gy_set (z := z287) g316 26 ((σ287 0 49).toNat) rfl (0) (200) rfl ⟨by omega, by omega⟩
                    have f327 := frm_set (P := PDo) (z := z287) f316 26 ((σ287 0 49).toNat) rfl
                    refine s_aload_n (pc := 328) C dX12_does_328 1 rfl ?_
                    refine s_dup (pc := 329) C dX12_does_329 rfl ?_
                    refine s_geti (q := 0) (ci := 12) (N := 68) (CN := RX12) (T := TX12) (pc := 330) C 49 dX12_does_330 wlX12_300 rfl rfl rfl wfX12 (by decide) rfl (σ287 0 49) rfl ?_
                    have b330 : (0 : Int) ≤ σ287 0 49 ∧ σ287 0 49 ≤ 5 := g327.1 0 49
                    refine s_iconst (pc := 333) C dX12_does_333 ?_
                    refine s_iadd (pc := 334) C dX12_does_334 ?_
                    refine s_puti (q := 0) (ci := 12) (N := 68) (CN := RX12) (T := TX12) (ty0 := tyX12) (ty := .int) (pc := 335) C 49 dX12_does_335 wlX12_300 rfl rfl rfl wfX12 tyX12_ok nmX12 (by decide) rfl rfl rfl (vp_nar_int _) rfl ?_
                    have g335 := gy_set (z := ((σ287 0 49) + 1)) g327 0 49 rfl (0) (5) rfl ⟨by omega, by omega⟩
                    have f335 := frm_set (P := PDo) (z := ((σ287 0 49) + 1)) f327 0 49 rfl
                    refine s_iinc (pc := 338) C [(1, vI (a + 1)), (4, vI z287), (0, .ref (ad 0)), (2, vI z151), (3, vI z190)] dX12_does_338 2 rfl (by decide) rfl ?_
                    refine s_goto (pc := 341) C (tgt := 7) dX12_does_341 (by decide) ?_
                    refine s_sub C [2, 0] [(0, .ref (ad 0)), (1, vI (a + 1))] rfl ?_
                    have hi7 : GY σ ((hs_ss (hs_ss (hs_ss σ287 25 ((σ287 0 49).toNat) a) 26 ((σ287 0 49).toNat) z287) 0 49 ((σ287 0 49) + 1))) ∧ FRM PDo σ ((hs_ss (hs_ss (hs_ss σ287 25 ((σ287 0 49).toNat) a) 26 ((σ287 0 49).toNat) z287) 0 49 ((σ287 0 49) + 1))) ∧ 0 ≤ (a + 1) ∧ (a + 1) ≤ σ 0 32 ∧ ((hs_ss (hs_ss (hs_ss σ287 25 ((σ287 0 49).toNat) a) 26 ((σ287 0 49).toNat) z287) 0 49 ((σ287 0 49) + 1))) 0 47 ≤ ((hs_ss (hs_ss (hs_ss σ287 25 ((σ287 0 49).toNat) a) 26 ((σ287 0 49).toNat) z287) 0 49 ((σ287 0 49) + 1))) 0 46 ∧ SI σ dep ((hs_ss (hs_ss (hs_ss σ287 25 ((σ287 0 49).toNat) a) 26 ((σ287 0 49).toNat) z287) 0 49 ((σ287 0 49) + 1))) (a + 1) := ⟨g335, f335, ⟨by omega, by omega, by show σ287 0 47 ≤ σ287 0 46; omega, si_push (τ2 := (hs_ss (hs_ss (hs_ss σ287 25 ((σ287 0 49).toNat) a) 26 ((σ287 0 49).toNat) z287) 0 49 ((σ287 0 49) + 1))) hP hsi ha0 (by omega) (by omega) b49.1 hj139 (by show σ287 0 49 + 1 = _; omega) (by rw [← q49]; simp [hs_ss, hs_up]) (fun k hk => by rw [← q49] at hk; simp [hs_ss, hs_up, hk]; exact q25 k) (by rw [← q49]; simp [hs_ss, hs_up]; omega) (fun k hk => by rw [← q49] at hk; simp [hs_ss, hs_up, hk]; exact q26 k)⟩⟩
                    exact ih7 (a + 1, (hs_ss (hs_ss (hs_ss σ287 25 ((σ287 0 49).toNat) a) 26 ((σ287 0 49).toNat) z287) 0 49 ((σ287 0 49) + 1))) (by exact mud_done (σ := σ1) (σ1 := (hs_ss (hs_ss (hs_ss σ287 25 ((σ287 0 49).toNat) a) 26 ((σ287 0 49).toNat) z287) 0 49 ((σ287 0 49) + 1))) b26 (fun k => (g335).1 26 k) (by show σ287 0 46 = σ1 0 46 + 1; omega) (by omega)) hi7
                  · skip
                    have f22 : σ287 22 a.toNat = σ 22 a.toNat := (f287) 22 a.toNat rfl
                    refine s_aload_n (pc := 297) C dX12_does_297 1 rfl ?_
                    refine s_getr (q := 0) (ci := 12) (N := 68) (CN := RX12) (T := TX12) (pc := 298) C 40 dX12_does_298 wlX12_80 rfl rfl rfl wfX12 (by decide) rfl ?_
                    refine s_iload_n (pc := 301) C dX12_does_301 2 rfl ?_
                    refine s_iald (q := 22) (n := 60) (pc := 302) C (σ287 22 a.toNat) rfl dX12_does_302 rfl (by omega) (by omega) (by decide) ?_
                    have b302 : (0 : Int) ≤ σ287 22 a.toNat ∧ σ287 22 a.toNat ≤ 60 := g287.1 22 a.toNat
                    refine s_istore_n (pc := 303) C [(1, vI (σ287 22 a.toNat)), (4, vI z287), (0, .ref (ad 0)), (2, vI z151), (3, vI z190)] dX12_does_303 (by decide) rfl ?_
                    refine s_goto (pc := 304) C (tgt := 7) dX12_does_304 (by decide) ?_
                    refine s_sub C [2, 0] [(0, .ref (ad 0)), (1, vI (σ287 22 a.toNat))] rfl ?_
                    have hi7 : GY σ σ287 ∧ FRM PDo σ σ287 ∧ 0 ≤ (σ287 22 a.toNat) ∧ (σ287 22 a.toNat) ≤ σ 0 32 ∧ σ287 0 47 ≤ σ287 0 46 ∧ SI σ dep σ287 (σ287 22 a.toNat) := ⟨g287, f287, ⟨by omega, by omega, by show σ287 0 47 ≤ σ287 0 46; omega, si_same (τ2 := σ287) hsi ((lf287) 0 49 rfl) (fun k => (lf287) 25 k rfl) (fun k hk => by rw [(lf287) 26 k rfl]; exact (hsi k hk).2.2.2.2.1) (fun k hk => by have e : k = (σ1 0 49 - 1).toNat := (by omega); subst e; have ht1 := si_top hsi (d := (σ1 0 49 - 1).toNat) (by omega); have ht2 := hj139 (σ1 0 49 - 1).toNat (by omega); have hl := hsi (σ1 0 49 - 1).toNat (by omega); have hc3 := ((hP (σ1 25 (σ1 0 49 - 1).toNat).toNat (by omega)).2 hl.2.2.1).2.2.2 a.toNat (by omega) (by omega); have hc4 := hc3.2 (by omega); omega)⟩⟩
                    exact ih7 (σ287 22 a.toNat, σ287) (by exact mud_done (σ := σ1) (σ1 := σ287) b26 (fun k => (g287).1 26 k) (by show σ287 0 46 = σ1 0 46 + 1; omega) (by omega)) hi7
              · skip
                refine s_aload_n (pc := 249) C dX12_does_249 0 rfl ?_
                refine s_dup (pc := 250) C dX12_does_250 rfl ?_
                refine s_geti (q := 0) (ci := 12) (N := 68) (CN := RX12) (T := TX12) (pc := 251) C 47 dX12_does_251 wlX12_315 rfl rfl rfl wfX12 (by decide) rfl (σ2 0 47) rfl ?_
                have b251 : (0 : Int) ≤ σ2 0 47 ∧ σ2 0 47 ≤ 5000 := g222.1 0 47
                refine s_iconst (pc := 254) C dX12_does_254 ?_
                refine s_iadd (pc := 255) C dX12_does_255 ?_
                refine s_puti (q := 0) (ci := 12) (N := 68) (CN := RX12) (T := TX12) (ty0 := tyX12) (ty := .int) (pc := 256) C 47 dX12_does_256 wlX12_315 rfl rfl rfl wfX12 tyX12_ok nmX12 (by decide) rfl rfl rfl (vp_nar_int _) rfl ?_
                have g256 := gy_set (z := ((σ2 0 47) + 1)) g222 0 47 rfl (0) (5000) rfl ⟨by omega, by omega⟩
                have lf256 : FRM PIt σ1 ((hs_ss (hs_ss σ2 0 45 ((σ2 0 45) + z151)) 0 47 ((σ2 0 47) + 1))) := frm_set (P := PIt) (z := ((σ2 0 47) + 1)) lf222 0 47 rfl
                have f256 := frm_set (P := PDo) (z := ((σ2 0 47) + 1)) f222 0 47 rfl
                refine s_aload_n (pc := 259) C dX12_does_259 0 rfl ?_
                have r260_0_17 : (hs_ss (hs_ss σ2 0 45 ((σ2 0 45) + z151)) 0 47 ((σ2 0 47) + 1)) 0 17 = σ2 0 17 := rfl
                have r260_0_6 : (hs_ss (hs_ss σ2 0 45 ((σ2 0 45) + z151)) 0 47 ((σ2 0 47) + 1)) 0 6 = σ2 0 6 := rfl
                refine s_callVi (pc := 260) C (c_X12_tried l) [] [] rfl rfl dX12_does_260 wlX12_186 wiX12_tried weX12_tried wcX12_tried wnX12 noX12_tried (by decide) (by decide) (Nat.le_of_ble_eq_true rfl) (gy_self g256) rfl rfl ?_
                rintro z260 _ ⟨rfl, k260⟩
                show hs_Wd _ _ _ _ _ _ _ _ _ _ _ _ _ _ _ _ _ 263 _ [vI z260] (hs_ss (hs_ss σ2 0 45 ((σ2 0 45) + z151)) 0 47 ((σ2 0 47) + 1))
                refine s_istore (pc := 263) C [(4, vI z260), (0, .ref (ad 0)), (1, vI a), (2, vI z151), (3, vI z190)] dX12_does_263 (by decide) rfl ?_
                refine s_iload (pc := 265) C dX12_does_265 0 rfl ?_
                refine s_if_le (pc := 267) C (tgt := 275) dX12_does_267 (by decide) ⟨by omega, by omega⟩ (fun h267 => ?_) (fun h267 => ?_)
                · skip
                  refine s_aload_n (pc := 275) C dX12_does_275 1 rfl ?_
                  refine s_getr (q := 0) (ci := 12) (N := 68) (CN := RX12) (T := TX12) (pc := 276) C 33 dX12_does_276 wlX12_59 rfl rfl rfl wfX12 (by decide) rfl ?_
                  refine s_iload_n (pc := 279) C dX12_does_279 2 rfl ?_
                  refine s_iald (q := 15) (n := 60) (pc := 280) C (σ2 15 a.toNat) rfl dX12_does_280 rfl (by omega) (by omega) (by decide) ?_
                  have b280 : (0 : Int) ≤ σ2 15 a.toNat ∧ σ2 15 a.toNat ≤ 6 := g256.1 15 a.toNat
                  refine s_iconst (pc := 281) C dX12_does_281 ?_
                  refine s_icmp_lt (pc := 282) C (tgt := 338) dX12_does_282 (by decide) ⟨by omega, by omega⟩ ⟨by decide, by decide⟩ (fun h282 => ?_) (fun h282 => ?_)
                  · skip
                    refine s_iinc (pc := 338) C [(1, vI (a + 1)), (4, vI z260), (0, .ref (ad 0)), (2, vI z151), (3, vI z190)] dX12_does_338 2 rfl (by decide) rfl ?_
                    refine s_goto (pc := 341) C (tgt := 7) dX12_does_341 (by decide) ?_
                    refine s_sub C [2, 0] [(0, .ref (ad 0)), (1, vI (a + 1))] rfl ?_
                    have hi7 : GY σ ((hs_ss (hs_ss σ2 0 45 ((σ2 0 45) + z151)) 0 47 ((σ2 0 47) + 1))) ∧ FRM PDo σ ((hs_ss (hs_ss σ2 0 45 ((σ2 0 45) + z151)) 0 47 ((σ2 0 47) + 1))) ∧ 0 ≤ (a + 1) ∧ (a + 1) ≤ σ 0 32 ∧ ((hs_ss (hs_ss σ2 0 45 ((σ2 0 45) + z151)) 0 47 ((σ2 0 47) + 1))) 0 47 ≤ ((hs_ss (hs_ss σ2 0 45 ((σ2 0 45) + z151)) 0 47 ((σ2 0 47) + 1))) 0 46 ∧ SI σ dep ((hs_ss (hs_ss σ2 0 45 ((σ2 0 45) + z151)) 0 47 ((σ2 0 47) + 1))) (a + 1) := ⟨g256, f256, ⟨by omega, by omega, by show (σ2 0 47) + 1 ≤ σ2 0 46; omega, si_same (τ2 := (hs_ss (hs_ss σ2 0 45 ((σ2 0 45) + z151)) 0 47 ((σ2 0 47) + 1))) hsi ((lf256) 0 49 rfl) (fun k => (lf256) 25 k rfl) (fun k hk => by rw [(lf256) 26 k rfl]; exact (hsi k hk).2.2.2.2.1) (fun k hk => by have e : k = (σ1 0 49 - 1).toNat := (by omega); subst e; have ht1 := si_top hsi (d := (σ1 0 49 - 1).toNat) (by omega); have ht2 := hj139 (σ1 0 49 - 1).toNat (by omega); omega)⟩⟩
                    exact ih7 (a + 1, (hs_ss (hs_ss σ2 0 45 ((σ2 0 45) + z151)) 0 47 ((σ2 0 47) + 1))) (by exact mud_done (σ := σ1) (σ1 := (hs_ss (hs_ss σ2 0 45 ((σ2 0 45) + z151)) 0 47 ((σ2 0 47) + 1))) b26 (fun k => (g256).1 26 k) (by show σ2 0 46 = σ1 0 46 + 1; omega) (by omega)) hi7
                  · skip
                    have h5a : 5 ≤ σ 15 a.toNat := by omega
                    have hca := (hP a.toNat (by omega)).2 h5a
                    have hca2 := hca.2.1
                    have hca3 := hca.2.2.1
                    have hca1 := hca.1
                    refine s_aload_n (pc := 285) C dX12_does_285 1 rfl ?_
                    refine s_iload_n (pc := 286) C dX12_does_286 2 rfl ?_
                    refine s_callVi (pc := 287) C (c_X12_timesOf l a (by first | omega | assumption | (constructor <;> omega) | (refine ⟨⟨?_, ?_⟩, ?_⟩ <;> omega) | (simp [hs_ss, hs_up]; omega) | (simp [hs_ss, hs_up]; done))) [vI a] [] rfl rfl dX12_does_287 wlX12_318 wiX12_timesOf weX12_timesOf wcX12_timesOf wnX12 noX12_timesOf (by decide) (by decide) (Nat.le_of_ble_eq_true rfl) ⟨(gy_self g256), ⟨OKA_eq ((f256) 15 a.toNat rfl) ((f256) 16 a.toNat rfl) ((f256) 17 a.toNat rfl) hoka, by show 5 ≤ σ2 15 a.toNat; omega⟩⟩ rfl rfl ?_
                    rintro z287 σ287 k287
                    obtain ⟨kg287, kf287, k287⟩ := k287
                    have g287 := gy_trans g256 kg287
                    have f287 := frm_tr f256 (frm_mono (Q := PDo) kf287 (fun c j h => by simp [PTo, PDo] at h ⊢ <;> omega))
                    have lf287 := frm_tr lf256 (frm_mono (Q := PIt) kf287 (fun c j h => by simp [PTo, PIt] at h ⊢ <;> omega))
                    have x287_0_45 : σ287 0 45 = (σ2 0 45) + z151 := kf287 0 45 rfl
                    have x287_0_46 : σ287 0 46 = σ2 0 46 := kf287 0 46 rfl
                    have x287_0_47 : σ287 0 47 = (σ2 0 47) + 1 := kf287 0 47 rfl
                    have x287_15_atoNat : σ287 15 a.toNat = σ2 15 a.toNat := by first | exact kf287 15 a.toNat rfl | (rw [kf287 15 a.toNat rfl]; simp [hs_ss, hs_up]; done)
                    show hs_Wd _ _ _ _ _ _ _ _ _ _ _ _ _ _ _ _ _ 290 _ [vI z287] σ287
                    refine s_istore (pc := 290) C [(4, vI z287), (0, .ref (ad 0)), (1, vI a), (2, vI z151), (3, vI z190)] dX12_does_290 (by decide) rfl ?_
                    refine s_iload (pc := 292) C dX12_does_292 0 rfl ?_
                    refine s_if_ne (pc := 294) C (tgt := 307) dX12_does_294 (by decide) ⟨by omega, by omega⟩ (fun h294 => ?_) (fun h294 => ?_)
                    · skip
                      have q49 : σ287 0 49 = σ1 0 49 := (lf287) 0 49 rfl
                      have q25 : ∀ k, σ287 25 k = σ1 25 k := fun k => (lf287) 25 k rfl
                      have q26 : ∀ k, σ287 26 k = σ1 26 k := fun k => (lf287) 26 k rfl
                      have hdp := si_depth hP hsi ha0 b49.1 hj139
                      refine s_aload_n (pc := 307) C dX12_does_307 1 rfl ?_
                      refine s_getr (q := 0) (ci := 12) (N := 68) (CN := RX12) (T := TX12) (pc := 308) C 50 dX12_does_308 wlX12_89 rfl rfl rfl wfX12 (by decide) rfl ?_
                      refine s_aload_n (pc := 311) C dX12_does_311 1 rfl ?_
                      refine s_geti (q := 0) (ci := 12) (N := 68) (CN := RX12) (T := TX12) (pc := 312) C 49 dX12_does_312 wlX12_300 rfl rfl rfl wfX12 (by decide) rfl (σ287 0 49) rfl ?_
                      have b312 : (0 : Int) ≤ σ287 0 49 ∧ σ287 0 49 ≤ 5 := g287.1 0 49
                      refine s_iload_n (pc := 315) C dX12_does_315 2 rfl ?_
                      refine s_iast (q := 25) (n := 5) (pc := 316) C dX12_does_316 rfl (by omega) (by omega) (by decide) ?_
                      have g316 := gy_set (z := a) g287 25 ((σ287 0 49).toNat) rfl (0) (59) rfl ⟨by omega, by omega⟩
                      have f316 := frm_set (P := PDo) (z := a) f287 25 ((σ287 0 49).toNat) rfl
                      refine s_aload_n (pc := 317) C dX12_does_317 1 rfl ?_
                      refine s_getr (q := 0) (ci := 12) (N := 68) (CN := RX12) (T := TX12) (pc := 318) C 51 dX12_does_318 wlX12_92 rfl rfl rfl wfX12 (by decide) rfl ?_
                      refine s_aload_n (pc := 321) C dX12_does_321 1 rfl ?_
                      refine s_geti (q := 0) (ci := 12) (N := 68) (CN := RX12) (T := TX12) (pc := 322) C 49 dX12_does_322 wlX12_300 rfl rfl rfl wfX12 (by decide) rfl (σ287 0 49) rfl ?_
                      have b322 : (0 : Int) ≤ σ287 0 49 ∧ σ287 0 49 ≤ 5 := g316.1 0 49
                      refine s_iload (pc := 325) C dX12_does_325 0 rfl ?_
                      refine s_iast (q := 26) (n := 5) (pc := 327) C dX12_does_327 rfl (by omega) (by omega) (by decide) ?_
                      have g327 := gy_set (z := z287) g316 26 ((σ287 0 49).toNat) rfl (0) (200) rfl ⟨by omega, by omega⟩
                      have f327 := frm_set (P := PDo) (z := z287) f316 26 ((σ287 0 49).toNat) rfl
                      refine s_aload_n (pc := 328) C dX12_does_328 1 rfl ?_
                      refine s_dup (pc := 329) C dX12_does_329 rfl ?_
                      refine s_geti (q := 0) (ci := 12) (N := 68) (CN := RX12) (T := TX12) (pc := 330) C 49 dX12_does_330 wlX12_300 rfl rfl rfl wfX12 (by decide) rfl (σ287 0 49) rfl ?_
                      have b330 : (0 : Int) ≤ σ287 0 49 ∧ σ287 0 49 ≤ 5 := g327.1 0 49
                      refine s_iconst (pc := 333) C dX12_does_333 ?_
                      refine s_iadd (pc := 334) C dX12_does_334 ?_
                      refine s_puti (q := 0) (ci := 12) (N := 68) (CN := RX12) (T := TX12) (ty0 := tyX12) (ty := .int) (pc := 335) C 49 dX12_does_335 wlX12_300 rfl rfl rfl wfX12 tyX12_ok nmX12 (by decide) rfl rfl rfl (vp_nar_int _) rfl ?_
                      have g335 := gy_set (z := ((σ287 0 49) + 1)) g327 0 49 rfl (0) (5) rfl ⟨by omega, by omega⟩
                      have f335 := frm_set (P := PDo) (z := ((σ287 0 49) + 1)) f327 0 49 rfl
                      refine s_iinc (pc := 338) C [(1, vI (a + 1)), (4, vI z287), (0, .ref (ad 0)), (2, vI z151), (3, vI z190)] dX12_does_338 2 rfl (by decide) rfl ?_
                      refine s_goto (pc := 341) C (tgt := 7) dX12_does_341 (by decide) ?_
                      refine s_sub C [2, 0] [(0, .ref (ad 0)), (1, vI (a + 1))] rfl ?_
                      have hi7 : GY σ ((hs_ss (hs_ss (hs_ss σ287 25 ((σ287 0 49).toNat) a) 26 ((σ287 0 49).toNat) z287) 0 49 ((σ287 0 49) + 1))) ∧ FRM PDo σ ((hs_ss (hs_ss (hs_ss σ287 25 ((σ287 0 49).toNat) a) 26 ((σ287 0 49).toNat) z287) 0 49 ((σ287 0 49) + 1))) ∧ 0 ≤ (a + 1) ∧ (a + 1) ≤ σ 0 32 ∧ ((hs_ss (hs_ss (hs_ss σ287 25 ((σ287 0 49).toNat) a) 26 ((σ287 0 49).toNat) z287) 0 49 ((σ287 0 49) + 1))) 0 47 ≤ ((hs_ss (hs_ss (hs_ss σ287 25 ((σ287 0 49).toNat) a) 26 ((σ287 0 49).toNat) z287) 0 49 ((σ287 0 49) + 1))) 0 46 ∧ SI σ dep ((hs_ss (hs_ss (hs_ss σ287 25 ((σ287 0 49).toNat) a) 26 ((σ287 0 49).toNat) z287) 0 49 ((σ287 0 49) + 1))) (a + 1) := ⟨g335, f335, ⟨by omega, by omega, by show σ287 0 47 ≤ σ287 0 46; omega, si_push (τ2 := (hs_ss (hs_ss (hs_ss σ287 25 ((σ287 0 49).toNat) a) 26 ((σ287 0 49).toNat) z287) 0 49 ((σ287 0 49) + 1))) hP hsi ha0 (by omega) (by omega) b49.1 hj139 (by show σ287 0 49 + 1 = _; omega) (by rw [← q49]; simp [hs_ss, hs_up]) (fun k hk => by rw [← q49] at hk; simp [hs_ss, hs_up, hk]; exact q25 k) (by rw [← q49]; simp [hs_ss, hs_up]; omega) (fun k hk => by rw [← q49] at hk; simp [hs_ss, hs_up, hk]; exact q26 k)⟩⟩
                      exact ih7 (a + 1, (hs_ss (hs_ss (hs_ss σ287 25 ((σ287 0 49).toNat) a) 26 ((σ287 0 49).toNat) z287) 0 49 ((σ287 0 49) + 1))) (by exact mud_done (σ := σ1) (σ1 := (hs_ss (hs_ss (hs_ss σ287 25 ((σ287 0 49).toNat) a) 26 ((σ287 0 49).toNat) z287) 0 49 ((σ287 0 49) + 1))) b26 (fun k => (g335).1 26 k) (by show σ287 0 46 = σ1 0 46 + 1; omega) (by omega)) hi7
                    · skip
                      have f22 : σ287 22 a.toNat = σ 22 a.toNat := (f287) 22 a.toNat rfl
                      refine s_aload_n (pc := 297) C dX12_does_297 1 rfl ?_
                      refine s_getr (q := 0) (ci := 12) (N := 68) (CN := RX12) (T := TX12) (pc := 298) C 40 dX12_does_298 wlX12_80 rfl rfl rfl wfX12 (by decide) rfl ?_
                      refine s_iload_n (pc := 301) C dX12_does_301 2 rfl ?_
                      refine s_iald (q := 22) (n := 60) (pc := 302) C (σ287 22 a.toNat) rfl dX12_does_302 rfl (by omega) (by omega) (by decide) ?_
                      have b302 : (0 : Int) ≤ σ287 22 a.toNat ∧ σ287 22 a.toNat ≤ 60 := g287.1 22 a.toNat
                      refine s_istore_n (pc := 303) C [(1, vI (σ287 22 a.toNat)), (4, vI z287), (0, .ref (ad 0)), (2, vI z151), (3, vI z190)] dX12_does_303 (by decide) rfl ?_
                      refine s_goto (pc := 304) C (tgt := 7) dX12_does_304 (by decide) ?_
                      refine s_sub C [2, 0] [(0, .ref (ad 0)), (1, vI (σ287 22 a.toNat))] rfl ?_
                      have hi7 : GY σ σ287 ∧ FRM PDo σ σ287 ∧ 0 ≤ (σ287 22 a.toNat) ∧ (σ287 22 a.toNat) ≤ σ 0 32 ∧ σ287 0 47 ≤ σ287 0 46 ∧ SI σ dep σ287 (σ287 22 a.toNat) := ⟨g287, f287, ⟨by omega, by omega, by show σ287 0 47 ≤ σ287 0 46; omega, si_same (τ2 := σ287) hsi ((lf287) 0 49 rfl) (fun k => (lf287) 25 k rfl) (fun k hk => by rw [(lf287) 26 k rfl]; exact (hsi k hk).2.2.2.2.1) (fun k hk => by have e : k = (σ1 0 49 - 1).toNat := (by omega); subst e; have ht1 := si_top hsi (d := (σ1 0 49 - 1).toNat) (by omega); have ht2 := hj139 (σ1 0 49 - 1).toNat (by omega); have hl := hsi (σ1 0 49 - 1).toNat (by omega); have hc3 := ((hP (σ1 25 (σ1 0 49 - 1).toNat).toNat (by omega)).2 hl.2.2.1).2.2.2 a.toNat (by omega) (by omega); have hc4 := hc3.2 (by omega); omega)⟩⟩
                      exact ih7 (σ287 22 a.toNat, σ287) (by exact mud_done (σ := σ1) (σ1 := σ287) b26 (fun k => (g287).1 26 k) (by show σ287 0 46 = σ1 0 46 + 1; omega) (by omega)) hi7
                · skip
                  refine s_iload (pc := 270) C dX12_does_270 0 rfl ?_
                  refine s_iconst (pc := 272) C dX12_does_272 ?_
                  refine s_iadd (pc := 273) C dX12_does_273 ?_
                  refine s_iret (pc := 274) C dX12_does_274 ?_
                  refine ⟨_, rfl, ?_⟩
                  exact ⟨g256, f256, by first | omega | assumption | (constructor <;> omega) | (refine ⟨⟨?_, ?_⟩, ?_⟩ <;> omega) | (simp [hs_ss, hs_up]; omega) | (simp [hs_ss, hs_up]; done)⟩
            · skip
              refine s_aload_n (pc := 235) C dX12_does_235 0 rfl ?_
              refine s_callVv (pc := 236) C (c_X12_notes l) [] [] rfl rfl dX12_does_236 wlX12_312 wiX12_notes weX12_notes wcX12_notes wnX12 noX12_notes (by decide) (by decide) (Nat.le_of_ble_eq_true rfl) (gy_self g222) rfl rfl ?_
              rintro σ236 k236
              obtain ⟨kg236, kf236⟩ := k236
              have g236 := gy_trans g222 kg236
              have f236 := frm_tr f222 (frm_mono (Q := PDo) kf236 (fun c j h => by simp [PNo, PDo] at h ⊢ <;> omega))
              have lf236 := frm_tr lf222 (frm_mono (Q := PIt) kf236 (fun c j h => by simp [PNo, PIt] at h ⊢ <;> omega))
              have x236_0_45 : σ236 0 45 = (σ2 0 45) + z151 := kf236 0 45 rfl
              have x236_0_46 : σ236 0 46 = σ2 0 46 := kf236 0 46 rfl
              have x236_0_47 : σ236 0 47 = σ2 0 47 := kf236 0 47 rfl
              have x236_15_atoNat : σ236 15 a.toNat = σ2 15 a.toNat := by first | exact kf236 15 a.toNat rfl | (rw [kf236 15 a.toNat rfl]; simp [hs_ss, hs_up]; done)
              show hs_Wd _ _ _ _ _ _ _ _ _ _ _ _ _ _ _ _ _ 239 _ [] σ236
              refine s_aload_n (pc := 239) C dX12_does_239 0 rfl ?_
              refine s_getr (q := 0) (ci := 12) (N := 68) (CN := RX12) (T := TX12) (pc := 240) C 33 dX12_does_240 wlX12_59 rfl rfl rfl wfX12 (by decide) rfl ?_
              refine s_iload_n (pc := 243) C dX12_does_243 1 rfl ?_
              refine s_iald (q := 15) (n := 60) (pc := 244) C (σ236 15 a.toNat) rfl dX12_does_244 rfl (by omega) (by omega) (by decide) ?_
              have b244 : (0 : Int) ≤ σ236 15 a.toNat ∧ σ236 15 a.toNat ≤ 6 := g236.1 15 a.toNat
              refine s_iconst (pc := 245) C dX12_does_245 ?_
              refine s_icmp_ne (pc := 246) C (tgt := 275) dX12_does_246 (by decide) ⟨by omega, by omega⟩ ⟨by decide, by decide⟩ (fun h246 => ?_) (fun h246 => ?_)
              · skip
                refine s_aload_n (pc := 275) C dX12_does_275 0 rfl ?_
                refine s_getr (q := 0) (ci := 12) (N := 68) (CN := RX12) (T := TX12) (pc := 276) C 33 dX12_does_276 wlX12_59 rfl rfl rfl wfX12 (by decide) rfl ?_
                refine s_iload_n (pc := 279) C dX12_does_279 1 rfl ?_
                refine s_iald (q := 15) (n := 60) (pc := 280) C (σ236 15 a.toNat) rfl dX12_does_280 rfl (by omega) (by omega) (by decide) ?_
                have b280 : (0 : Int) ≤ σ236 15 a.toNat ∧ σ236 15 a.toNat ≤ 6 := g236.1 15 a.toNat
                refine s_iconst (pc := 281) C dX12_does_281 ?_
                refine s_icmp_lt (pc := 282) C (tgt := 338) dX12_does_282 (by decide) ⟨by omega, by omega⟩ ⟨by decide, by decide⟩ (fun h282 => ?_) (fun h282 => ?_)
                · skip
                  refine s_iinc (pc := 338) C [(1, vI (a + 1)), (0, .ref (ad 0)), (2, vI z151), (3, vI z190), (4, vI k)] dX12_does_338 1 rfl (by decide) rfl ?_
                  refine s_goto (pc := 341) C (tgt := 7) dX12_does_341 (by decide) ?_
                  refine s_sub C [1, 0] [(0, .ref (ad 0)), (1, vI (a + 1))] rfl ?_
                  have hi7 : GY σ σ236 ∧ FRM PDo σ σ236 ∧ 0 ≤ (a + 1) ∧ (a + 1) ≤ σ 0 32 ∧ σ236 0 47 ≤ σ236 0 46 ∧ SI σ dep σ236 (a + 1) := ⟨g236, f236, ⟨by omega, by omega, by show σ236 0 47 ≤ σ236 0 46; omega, si_same (τ2 := σ236) hsi ((lf236) 0 49 rfl) (fun k => (lf236) 25 k rfl) (fun k hk => by rw [(lf236) 26 k rfl]; exact (hsi k hk).2.2.2.2.1) (fun k hk => by have e : k = (σ1 0 49 - 1).toNat := (by omega); subst e; have ht1 := si_top hsi (d := (σ1 0 49 - 1).toNat) (by omega); have ht2 := hj139 (σ1 0 49 - 1).toNat (by omega); omega)⟩⟩
                  exact ih7 (a + 1, σ236) (by exact mud_done (σ := σ1) (σ1 := σ236) b26 (fun k => (g236).1 26 k) (by show σ236 0 46 = σ1 0 46 + 1; omega) (by omega)) hi7
                · skip
                  have h5a : 5 ≤ σ 15 a.toNat := by omega
                  have hca := (hP a.toNat (by omega)).2 h5a
                  have hca2 := hca.2.1
                  have hca3 := hca.2.2.1
                  have hca1 := hca.1
                  refine s_aload_n (pc := 285) C dX12_does_285 0 rfl ?_
                  refine s_iload_n (pc := 286) C dX12_does_286 1 rfl ?_
                  refine s_callVi (pc := 287) C (c_X12_timesOf l a (by first | omega | assumption | (constructor <;> omega) | (refine ⟨⟨?_, ?_⟩, ?_⟩ <;> omega) | (simp [hs_ss, hs_up]; omega) | (simp [hs_ss, hs_up]; done))) [vI a] [] rfl rfl dX12_does_287 wlX12_318 wiX12_timesOf weX12_timesOf wcX12_timesOf wnX12 noX12_timesOf (by decide) (by decide) (Nat.le_of_ble_eq_true rfl) ⟨(gy_self g236), ⟨OKA_eq ((f236) 15 a.toNat rfl) ((f236) 16 a.toNat rfl) ((f236) 17 a.toNat rfl) hoka, by show 5 ≤ σ236 15 a.toNat; omega⟩⟩ rfl rfl ?_
                  rintro z287 σ287 k287
                  obtain ⟨kg287, kf287, k287⟩ := k287
                  have g287 := gy_trans g236 kg287
                  have f287 := frm_tr f236 (frm_mono (Q := PDo) kf287 (fun c j h => by simp [PTo, PDo] at h ⊢ <;> omega))
                  have lf287 := frm_tr lf236 (frm_mono (Q := PIt) kf287 (fun c j h => by simp [PTo, PIt] at h ⊢ <;> omega))
                  have x287_0_45 : σ287 0 45 = σ236 0 45 := kf287 0 45 rfl
                  have x287_0_46 : σ287 0 46 = σ236 0 46 := kf287 0 46 rfl
                  have x287_0_47 : σ287 0 47 = σ236 0 47 := kf287 0 47 rfl
                  have x287_15_atoNat : σ287 15 a.toNat = σ236 15 a.toNat := by first | exact kf287 15 a.toNat rfl | (rw [kf287 15 a.toNat rfl]; simp [hs_ss, hs_up]; done)
                  show hs_Wd _ _ _ _ _ _ _ _ _ _ _ _ _ _ _ _ _ 290 _ [vI z287] σ287
                  refine s_istore (pc := 290) C [(4, vI z287), (0, .ref (ad 0)), (1, vI a), (2, vI z151), (3, vI z190)] dX12_does_290 (by decide) rfl ?_
                  refine s_iload (pc := 292) C dX12_does_292 0 rfl ?_
                  refine s_if_ne (pc := 294) C (tgt := 307) dX12_does_294 (by decide) ⟨by omega, by omega⟩ (fun h294 => ?_) (fun h294 => ?_)
                  · skip
                    have q49 : σ287 0 49 = σ1 0 49 := (lf287) 0 49 rfl
                    have q25 : ∀ k, σ287 25 k = σ1 25 k := fun k => (lf287) 25 k rfl
                    have q26 : ∀ k, σ287 26 k = σ1 26 k := fun k => (lf287) 26 k rfl
                    have hdp := si_depth hP hsi ha0 b49.1 hj139
                    refine s_aload_n (pc := 307) C dX12_does_307 1 rfl ?_
                    refine s_getr (q := 0) (ci := 12) (N := 68) (CN := RX12) (T := TX12) (pc := 308) C 50 dX12_does_308 wlX12_89 rfl rfl rfl wfX12 (by decide) rfl ?_
                    refine s_aload_n (pc := 311) C dX12_does_311 1 rfl ?_
                    refine s_geti (q := 0) (ci := 12) (N := 68) (CN := RX12) (T := TX12) (pc := 312) C 49 dX12_does_312 wlX12_300 rfl rfl rfl wfX12 (by decide) rfl (σ287 0 49) rfl ?_
                    have b312 : (0 : Int) ≤ σ287 0 49 ∧ σ287 0 49 ≤ 5 := g287.1 0 49
                    refine s_iload_n (pc := 315) C dX12_does_315 2 rfl ?_
                    refine s_iast (q := 25) (n := 5) (pc := 316) C dX12_does_316 rfl (by omega) (by omega) (by decide) ?_
                    have g316 := gy_set (z := a) g287 25 ((σ287 0 49).toNat) rfl (0) (59) rfl ⟨by omega, by omega⟩
                    have f316 := frm_set (P := PDo) (z := a) f287 25 ((σ287 0 49).toNat) rfl
                    refine s_aload_n (pc := 317) C dX12_does_317 1 rfl ?_
                    refine s_getr (q := 0) (ci := 12) (N := 68) (CN := RX12) (T := TX12) (pc := 318) C 51 dX12_does_318 wlX12_92 rfl rfl rfl wfX12 (by decide) rfl ?_
                    refine s_aload_n (pc := 321) C dX12_does_321 1 rfl ?_
                    refine s_geti (q := 0) (ci := 12) (N := 68) (CN := RX12) (T := TX12) (pc := 322) C 49 dX12_does_322 wlX12_300 rfl rfl rfl wfX12 (by decide) rfl (σ287 0 49) rfl ?_
                    have b322 : (0 : Int) ≤ σ287 0 49 ∧ σ287 0 49 ≤ 5 := g316.1 0 49
                    refine s_iload (pc := 325) C dX12_does_325 0 rfl ?_
                    refine s_iast (q := 26) (n := 5) (pc := 327) C dX12_does_327 rfl (by omega) (by omega) (by decide) ?_
                    have g327 := gy_set (z := z287) g316 26 ((σ287 0 49).toNat) rfl (0) (200) rfl ⟨by omega, by omega⟩
                    have f327 := frm_set (P := PDo) (z := z287) f316 26 ((σ287 0 49).toNat) rfl
                    refine s_aload_n (pc := 328) C dX12_does_328 1 rfl ?_
                    refine s_dup (pc := 329) C dX12_does_329 rfl ?_
                    refine s_geti (q := 0) (ci := 12) (N := 68) (CN := RX12) (T := TX12) (pc := 330) C 49 dX12_does_330 wlX12_300 rfl rfl rfl wfX12 (by decide) rfl (σ287 0 49) rfl ?_
                    have b330 : (0 : Int) ≤ σ287 0 49 ∧ σ287 0 49 ≤ 5 := g327.1 0 49
                    refine s_iconst (pc := 333) C dX12_does_333 ?_
                    refine s_iadd (pc := 334) C dX12_does_334 ?_
                    refine s_puti (q := 0) (ci := 12) (N := 68) (CN := RX12) (T := TX12) (ty0 := tyX12) (ty := .int) (pc := 335) C 49 dX12_does_335 wlX12_300 rfl rfl rfl wfX12 tyX12_ok nmX12 (by decide) rfl rfl rfl (vp_nar_int _) rfl ?_
                    have g335 := gy_set (z := ((σ287 0 49) + 1)) g327 0 49 rfl (0) (5) rfl ⟨by omega, by omega⟩
                    have f335 := frm_set (P := PDo) (z := ((σ287 0 49) + 1)) f327 0 49 rfl
                    refine s_iinc (pc := 338) C [(1, vI (a + 1)), (4, vI z287), (0, .ref (ad 0)), (2, vI z151), (3, vI z190)] dX12_does_338 2 rfl (by decide) rfl ?_
                    refine s_goto (pc := 341) C (tgt := 7) dX12_does_341 (by decide) ?_
                    refine s_sub C [2, 0] [(0, .ref (ad 0)), (1, vI (a + 1))] rfl ?_
                    have hi7 : GY σ ((hs_ss (hs_ss (hs_ss σ287 25 ((σ287 0 49).toNat) a) 26 ((σ287 0 49).toNat) z287) 0 49 ((σ287 0 49) + 1))) ∧ FRM PDo σ ((hs_ss (hs_ss (hs_ss σ287 25 ((σ287 0 49).toNat) a) 26 ((σ287 0 49).toNat) z287) 0 49 ((σ287 0 49) + 1))) ∧ 0 ≤ (a + 1) ∧ (a + 1) ≤ σ 0 32 ∧ ((hs_ss (hs_ss (hs_ss σ287 25 ((σ287 0 49).toNat) a) 26 ((σ287 0 49).toNat) z287) 0 49 ((σ287 0 49) + 1))) 0 47 ≤ ((hs_ss (hs_ss (hs_ss σ287 25 ((σ287 0 49).toNat) a) 26 ((σ287 0 49).toNat) z287) 0 49 ((σ287 0 49) + 1))) 0 46 ∧ SI σ dep ((hs_ss (hs_ss (hs_ss σ287 25 ((σ287 0 49).toNat) a) 26 ((σ287 0 49).toNat) z287) 0 49 ((σ287 0 49) + 1))) (a + 1) := ⟨g335, f335, ⟨by omega, by omega, by show σ287 0 47 ≤ σ287 0 46; omega, si_push (τ2 := (hs_ss (hs_ss (hs_ss σ287 25 ((σ287 0 49).toNat) a) 26 ((σ287 0 49).toNat) z287) 0 49 ((σ287 0 49) + 1))) hP hsi ha0 (by omega) (by omega) b49.1 hj139 (by show σ287 0 49 + 1 = _; omega) (by rw [← q49]; simp [hs_ss, hs_up]) (fun k hk => by rw [← q49] at hk; simp [hs_ss, hs_up, hk]; exact q25 k) (by rw [← q49]; simp [hs_ss, hs_up]; omega) (fun k hk => by rw [← q49] at hk; simp [hs_ss, hs_up, hk]; exact q26 k)⟩⟩
                    exact ih7 (a + 1, (hs_ss (hs_ss (hs_ss σ287 25 ((σ287 0 49).toNat) a) 26 ((σ287 0 49).toNat) z287) 0 49 ((σ287 0 49) + 1))) (by exact mud_done (σ := σ1) (σ1 := (hs_ss (hs_ss (hs_ss σ287 25 ((σ287 0 49).toNat) a) 26 ((σ287 0 49).toNat) z287) 0 49 ((σ287 0 49) + 1))) b26 (fun k => (g335).1 26 k) (by show σ287 0 46 = σ1 0 46 + 1; omega) (by omega)) hi7
                  · skip
                    have f22 : σ287 22 a.toNat = σ 22 a.toNat := (f287) 22 a.toNat rfl
                    refine s_aload_n (pc := 297) C dX12_does_297 1 rfl ?_
                    refine s_getr (q := 0) (ci := 12) (N := 68) (CN := RX12) (T := TX12) (pc := 298) C 40 dX12_does_298 wlX12_80 rfl rfl rfl wfX12 (by decide) rfl ?_
                    refine s_iload_n (pc := 301) C dX12_does_301 2 rfl ?_
                    refine s_iald (q := 22) (n := 60) (pc := 302) C (σ287 22 a.toNat) rfl dX12_does_302 rfl (by omega) (by omega) (by decide) ?_
                    have b302 : (0 : Int) ≤ σ287 22 a.toNat ∧ σ287 22 a.toNat ≤ 60 := g287.1 22 a.toNat
                    refine s_istore_n (pc := 303) C [(1, vI (σ287 22 a.toNat)), (4, vI z287), (0, .ref (ad 0)), (2, vI z151), (3, vI z190)] dX12_does_303 (by decide) rfl ?_
                    refine s_goto (pc := 304) C (tgt := 7) dX12_does_304 (by decide) ?_
                    refine s_sub C [2, 0] [(0, .ref (ad 0)), (1, vI (σ287 22 a.toNat))] rfl ?_
                    have hi7 : GY σ σ287 ∧ FRM PDo σ σ287 ∧ 0 ≤ (σ287 22 a.toNat) ∧ (σ287 22 a.toNat) ≤ σ 0 32 ∧ σ287 0 47 ≤ σ287 0 46 ∧ SI σ dep σ287 (σ287 22 a.toNat) := ⟨g287, f287, ⟨by omega, by omega, by show σ287 0 47 ≤ σ287 0 46; omega, si_same (τ2 := σ287) hsi ((lf287) 0 49 rfl) (fun k => (lf287) 25 k rfl) (fun k hk => by rw [(lf287) 26 k rfl]; exact (hsi k hk).2.2.2.2.1) (fun k hk => by have e : k = (σ1 0 49 - 1).toNat := (by omega); subst e; have ht1 := si_top hsi (d := (σ1 0 49 - 1).toNat) (by omega); have ht2 := hj139 (σ1 0 49 - 1).toNat (by omega); have hl := hsi (σ1 0 49 - 1).toNat (by omega); have hc3 := ((hP (σ1 25 (σ1 0 49 - 1).toNat).toNat (by omega)).2 hl.2.2.1).2.2.2 a.toNat (by omega) (by omega); have hc4 := hc3.2 (by omega); omega)⟩⟩
                    exact ih7 (σ287 22 a.toNat, σ287) (by exact mud_done (σ := σ1) (σ1 := σ287) b26 (fun k => (g287).1 26 k) (by show σ287 0 46 = σ1 0 46 + 1; omega) (by omega)) hi7
              · skip
                refine s_aload_n (pc := 249) C dX12_does_249 0 rfl ?_
                refine s_dup (pc := 250) C dX12_does_250 rfl ?_
                refine s_geti (q := 0) (ci := 12) (N := 68) (CN := RX12) (T := TX12) (pc := 251) C 47 dX12_does_251 wlX12_315 rfl rfl rfl wfX12 (by decide) rfl (σ236 0 47) rfl ?_
                have b251 : (0 : Int) ≤ σ236 0 47 ∧ σ236 0 47 ≤ 5000 := g236.1 0 47
                refine s_iconst (pc := 254) C dX12_does_254 ?_
                refine s_iadd (pc := 255) C dX12_does_255 ?_
                refine s_puti (q := 0) (ci := 12) (N := 68) (CN := RX12) (T := TX12) (ty0 := tyX12) (ty := .int) (pc := 256) C 47 dX12_does_256 wlX12_315 rfl rfl rfl wfX12 tyX12_ok nmX12 (by decide) rfl rfl rfl (vp_nar_int _) rfl ?_
                have g256 := gy_set (z := ((σ236 0 47) + 1)) g236 0 47 rfl (0) (5000) rfl ⟨by omega, by omega⟩
                have lf256 : FRM PIt σ1 ((hs_ss σ236 0 47 ((σ236 0 47) + 1))) := frm_set (P := PIt) (z := ((σ236 0 47) + 1)) lf236 0 47 rfl
                have f256 := frm_set (P := PDo) (z := ((σ236 0 47) + 1)) f236 0 47 rfl
                refine s_aload_n (pc := 259) C dX12_does_259 0 rfl ?_
                have r260_0_17 : (hs_ss σ236 0 47 ((σ236 0 47) + 1)) 0 17 = σ236 0 17 := rfl
                have r260_0_6 : (hs_ss σ236 0 47 ((σ236 0 47) + 1)) 0 6 = σ236 0 6 := rfl
                refine s_callVi (pc := 260) C (c_X12_tried l) [] [] rfl rfl dX12_does_260 wlX12_186 wiX12_tried weX12_tried wcX12_tried wnX12 noX12_tried (by decide) (by decide) (Nat.le_of_ble_eq_true rfl) (gy_self g256) rfl rfl ?_
                rintro z260 _ ⟨rfl, k260⟩
                show hs_Wd _ _ _ _ _ _ _ _ _ _ _ _ _ _ _ _ _ 263 _ [vI z260] (hs_ss σ236 0 47 ((σ236 0 47) + 1))
                refine s_istore (pc := 263) C [(4, vI z260), (0, .ref (ad 0)), (1, vI a), (2, vI z151), (3, vI z190)] dX12_does_263 (by decide) rfl ?_
                refine s_iload (pc := 265) C dX12_does_265 0 rfl ?_
                refine s_if_le (pc := 267) C (tgt := 275) dX12_does_267 (by decide) ⟨by omega, by omega⟩ (fun h267 => ?_) (fun h267 => ?_)
                · skip
                  refine s_aload_n (pc := 275) C dX12_does_275 1 rfl ?_
                  refine s_getr (q := 0) (ci := 12) (N := 68) (CN := RX12) (T := TX12) (pc := 276) C 33 dX12_does_276 wlX12_59 rfl rfl rfl wfX12 (by decide) rfl ?_
                  refine s_iload_n (pc := 279) C dX12_does_279 2 rfl ?_
                  refine s_iald (q := 15) (n := 60) (pc := 280) C (σ236 15 a.toNat) rfl dX12_does_280 rfl (by omega) (by omega) (by decide) ?_
                  have b280 : (0 : Int) ≤ σ236 15 a.toNat ∧ σ236 15 a.toNat ≤ 6 := g256.1 15 a.toNat
                  refine s_iconst (pc := 281) C dX12_does_281 ?_
                  refine s_icmp_lt (pc := 282) C (tgt := 338) dX12_does_282 (by decide) ⟨by omega, by omega⟩ ⟨by decide, by decide⟩ (fun h282 => ?_) (fun h282 => ?_)
                  · skip
                    refine s_iinc (pc := 338) C [(1, vI (a + 1)), (4, vI z260), (0, .ref (ad 0)), (2, vI z151), (3, vI z190)] dX12_does_338 2 rfl (by decide) rfl ?_
                    refine s_goto (pc := 341) C (tgt := 7) dX12_does_341 (by decide) ?_
                    refine s_sub C [2, 0] [(0, .ref (ad 0)), (1, vI (a + 1))] rfl ?_
                    have hi7 : GY σ ((hs_ss σ236 0 47 ((σ236 0 47) + 1))) ∧ FRM PDo σ ((hs_ss σ236 0 47 ((σ236 0 47) + 1))) ∧ 0 ≤ (a + 1) ∧ (a + 1) ≤ σ 0 32 ∧ ((hs_ss σ236 0 47 ((σ236 0 47) + 1))) 0 47 ≤ ((hs_ss σ236 0 47 ((σ236 0 47) + 1))) 0 46 ∧ SI σ dep ((hs_ss σ236 0 47 ((σ236 0 47) + 1))) (a + 1) := ⟨g256, f256, ⟨by omega, by omega, by show (σ236 0 47) + 1 ≤ σ236 0 46; omega, si_same (τ2 := (hs_ss σ236 0 47 ((σ236 0 47) + 1))) hsi ((lf256) 0 49 rfl) (fun k => (lf256) 25 k rfl) (fun k hk => by rw [(lf256) 26 k rfl]; exact (hsi k hk).2.2.2.2.1) (fun k hk => by have e : k = (σ1 0 49 - 1).toNat := (by omega); subst e; have ht1 := si_top hsi (d := (σ1 0 49 - 1).toNat) (by omega); have ht2 := hj139 (σ1 0 49 - 1).toNat (by omega); omega)⟩⟩
                    exact ih7 (a + 1, (hs_ss σ236 0 47 ((σ236 0 47) + 1))) (by exact mud_done (σ := σ1) (σ1 := (hs_ss σ236 0 47 ((σ236 0 47) + 1))) b26 (fun k => (g256).1 26 k) (by show σ236 0 46 = σ1 0 46 + 1; omega) (by omega)) hi7
                  · skip
                    have h5a : 5 ≤ σ 15 a.toNat := by omega
                    have hca := (hP a.toNat (by omega)).2 h5a
                    have hca2 := hca.2.1
                    have hca3 := hca.2.2.1
                    have hca1 := hca.1
                    refine s_aload_n (pc := 285) C dX12_does_285 1 rfl ?_
                    refine s_iload_n (pc := 286) C dX12_does_286 2 rfl ?_
                    refine s_callVi (pc := 287) C (c_X12_timesOf l a (by first | omega | assumption | (constructor <;> omega) | (refine ⟨⟨?_, ?_⟩, ?_⟩ <;> omega) | (simp [hs_ss, hs_up]; omega) | (simp [hs_ss, hs_up]; done))) [vI a] [] rfl rfl dX12_does_287 wlX12_318 wiX12_timesOf weX12_timesOf wcX12_timesOf wnX12 noX12_timesOf (by decide) (by decide) (Nat.le_of_ble_eq_true rfl) ⟨(gy_self g256), ⟨OKA_eq ((f256) 15 a.toNat rfl) ((f256) 16 a.toNat rfl) ((f256) 17 a.toNat rfl) hoka, by show 5 ≤ σ236 15 a.toNat; omega⟩⟩ rfl rfl ?_
                    rintro z287 σ287 k287
                    obtain ⟨kg287, kf287, k287⟩ := k287
                    have g287 := gy_trans g256 kg287
                    have f287 := frm_tr f256 (frm_mono (Q := PDo) kf287 (fun c j h => by simp [PTo, PDo] at h ⊢ <;> omega))
                    have lf287 := frm_tr lf256 (frm_mono (Q := PIt) kf287 (fun c j h => by simp [PTo, PIt] at h ⊢ <;> omega))
                    have x287_0_45 : σ287 0 45 = σ236 0 45 := kf287 0 45 rfl
                    have x287_0_46 : σ287 0 46 = σ236 0 46 := kf287 0 46 rfl
                    have x287_0_47 : σ287 0 47 = (σ236 0 47) + 1 := kf287 0 47 rfl
                    have x287_15_atoNat : σ287 15 a.toNat = σ236 15 a.toNat := by first | exact kf287 15 a.toNat rfl | (rw [kf287 15 a.toNat rfl]; simp [hs_ss, hs_up]; done)
                    show hs_Wd _ _ _ _ _ _ _ _ _ _ _ _ _ _ _ _ _ 290 _ [vI z287] σ287
                    refine s_istore (pc := 290) C [(4, vI z287), (0, .ref (ad 0)), (1, vI a), (2, vI z151), (3, vI z190)] dX12_does_290 (by decide) rfl ?_
                    refine s_iload (pc := 292) C dX12_does_292 0 rfl ?_
                    refine s_if_ne (pc := 294) C (tgt := 307) dX12_does_294 (by decide) ⟨by omega, by omega⟩ (fun h294 => ?_) (fun h294 => ?_)
                    · skip
                      have q49 : σ287 0 49 = σ1 0 49 := (lf287) 0 49 rfl
                      have q25 : ∀ k, σ287 25 k = σ1 25 k := fun k => (lf287) 25 k rfl
                      have q26 : ∀ k, σ287 26 k = σ1 26 k := fun k => (lf287) 26 k rfl
                      have hdp := si_depth hP hsi ha0 b49.1 hj139
                      refine s_aload_n (pc := 307) C dX12_does_307 1 rfl ?_
                      refine s_getr (q := 0) (ci := 12) (N := 68) (CN := RX12) (T := TX12) (pc := 308) C 50 dX12_does_308 wlX12_89 rfl rfl rfl wfX12 (by decide) rfl ?_
                      refine s_aload_n (pc := 311) C dX12_does_311 1 rfl ?_
                      refine s_geti (q := 0) (ci := 12) (N := 68) (CN := RX12) (T := TX12) (pc := 312) C 49 dX12_does_312 wlX12_300 rfl rfl rfl wfX12 (by decide) rfl (σ287 0 49) rfl ?_
                      have b312 : (0 : Int) ≤ σ287 0 49 ∧ σ287 0 49 ≤ 5 := g287.1 0 49
                      refine s_iload_n (pc := 315) C dX12_does_315 2 rfl ?_
                      refine s_iast (q := 25) (n := 5) (pc := 316) C dX12_does_316 rfl (by omega) (by omega) (by decide) ?_
                      have g316 := gy_set (z := a) g287 25 ((σ287 0 49).toNat) rfl (0) (59) rfl ⟨by omega, by omega⟩
                      have f316 := frm_set (P := PDo) (z := a) f287 25 ((σ287 0 49).toNat) rfl
                      refine s_aload_n (pc := 317) C dX12_does_317 1 rfl ?_
                      refine s_getr (q := 0) (ci := 12) (N := 68) (CN := RX12) (T := TX12) (pc := 318) C 51 dX12_does_318 wlX12_92 rfl rfl rfl wfX12 (by decide) rfl ?_
                      refine s_aload_n (pc := 321) C dX12_does_321 1 rfl ?_
                      refine s_geti (q := 0) (ci := 12) (N := 68) (CN := RX12) (T := TX12) (pc := 322) C 49 dX12_does_322 wlX12_300 rfl rfl rfl wfX12 (by decide) rfl (σ287 0 49) rfl ?_
                      have b322 : (0 : Int) ≤ σ287 0 49 ∧ σ287 0 49 ≤ 5 := g316.1 0 49
                      refine s_iload (pc := 325) C dX12_does_325 0 rfl ?_
                      refine s_iast (q := 26) (n := 5) (pc := 327) C dX12_does_327 rfl (by omega) (by omega) (by decide) ?_
                      have g327 := gy_set (z := z287) g316 26 ((σ287 0 49).toNat) rfl (0) (200) rfl ⟨by omega, by omega⟩
                      have f327 := frm_set (P := PDo) (z := z287) f316 26 ((σ287 0 49).toNat) rfl
                      refine s_aload_n (pc := 328) C dX12_does_328 1 rfl ?_
                      refine s_dup (pc := 329) C dX12_does_329 rfl ?_
                      refine s_geti (q := 0) (ci := 12) (N := 68) (CN := RX12) (T := TX12) (pc := 330) C 49 dX12_does_330 wlX12_300 rfl rfl rfl wfX12 (by decide) rfl (σ287 0 49) rfl ?_
                      have b330 : (0 : Int) ≤ σ287 0 49 ∧ σ287 0 49 ≤ 5 := g327.1 0 49
                      refine s_iconst (pc := 333) C dX12_does_333 ?_
                      refine s_iadd (pc := 334) C dX12_does_334 ?_
                      refine s_puti (q := 0) (ci := 12) (N := 68) (CN := RX12) (T := TX12) (ty0 := tyX12) (ty := .int) (pc := 335) C 49 dX12_does_335 wlX12_300 rfl rfl rfl wfX12 tyX12_ok nmX12 (by decide) rfl rfl rfl (vp_nar_int _) rfl ?_
                      have g335 := gy_set (z := ((σ287 0 49) + 1)) g327 0 49 rfl (0) (5) rfl ⟨by omega, by omega⟩
                      have f335 := frm_set (P := PDo) (z := ((σ287 0 49) + 1)) f327 0 49 rfl
                      refine s_iinc (pc := 338) C [(1, vI (a + 1)), (4, vI z287), (0, .ref (ad 0)), (2, vI z151), (3, vI z190)] dX12_does_338 2 rfl (by decide) rfl ?_
                      refine s_goto (pc := 341) C (tgt := 7) dX12_does_341 (by decide) ?_
                      refine s_sub C [2, 0] [(0, .ref (ad 0)), (1, vI (a + 1))] rfl ?_
                      have hi7 : GY σ ((hs_ss (hs_ss (hs_ss σ287 25 ((σ287 0 49).toNat) a) 26 ((σ287 0 49).toNat) z287) 0 49 ((σ287 0 49) + 1))) ∧ FRM PDo σ ((hs_ss (hs_ss (hs_ss σ287 25 ((σ287 0 49).toNat) a) 26 ((σ287 0 49).toNat) z287) 0 49 ((σ287 0 49) + 1))) ∧ 0 ≤ (a + 1) ∧ (a + 1) ≤ σ 0 32 ∧ ((hs_ss (hs_ss (hs_ss σ287 25 ((σ287 0 49).toNat) a) 26 ((σ287 0 49).toNat) z287) 0 49 ((σ287 0 49) + 1))) 0 47 ≤ ((hs_ss (hs_ss (hs_ss σ287 25 ((σ287 0 49).toNat) a) 26 ((σ287 0 49).toNat) z287) 0 49 ((σ287 0 49) + 1))) 0 46 ∧ SI σ dep ((hs_ss (hs_ss (hs_ss σ287 25 ((σ287 0 49).toNat) a) 26 ((σ287 0 49).toNat) z287) 0 49 ((σ287 0 49) + 1))) (a + 1) := ⟨g335, f335, ⟨by omega, by omega, by show σ287 0 47 ≤ σ287 0 46; omega, si_push (τ2 := (hs_ss (hs_ss (hs_ss σ287 25 ((σ287 0 49).toNat) a) 26 ((σ287 0 49).toNat) z287) 0 49 ((σ287 0 49) + 1))) hP hsi ha0 (by omega) (by omega) b49.1 hj139 (by show σ287 0 49 + 1 = _; omega) (by rw [← q49]; simp [hs_ss, hs_up]) (fun k hk => by rw [← q49] at hk; simp [hs_ss, hs_up, hk]; exact q25 k) (by rw [← q49]; simp [hs_ss, hs_up]; omega) (fun k hk => by rw [← q49] at hk; simp [hs_ss, hs_up, hk]; exact q26 k)⟩⟩
                      exact ih7 (a + 1, (hs_ss (hs_ss (hs_ss σ287 25 ((σ287 0 49).toNat) a) 26 ((σ287 0 49).toNat) z287) 0 49 ((σ287 0 49) + 1))) (by exact mud_done (σ := σ1) (σ1 := (hs_ss (hs_ss (hs_ss σ287 25 ((σ287 0 49).toNat) a) 26 ((σ287 0 49).toNat) z287) 0 49 ((σ287 0 49) + 1))) b26 (fun k => (g335).1 26 k) (by show σ287 0 46 = σ1 0 46 + 1; omega) (by omega)) hi7
                    · skip
                      have f22 : σ287 22 a.toNat = σ 22 a.toNat := (f287) 22 a.toNat rfl
                      refine s_aload_n (pc := 297) C dX12_does_297 1 rfl ?_
                      refine s_getr (q := 0) (ci := 12) (N := 68) (CN := RX12) (T := TX12) (pc := 298) C 40 dX12_does_298 wlX12_80 rfl rfl rfl wfX12 (by decide) rfl ?_
                      refine s_iload_n (pc := 301) C dX12_does_301 2 rfl ?_
                      refine s_iald (q := 22) (n := 60) (pc := 302) C (σ287 22 a.toNat) rfl dX12_does_302 rfl (by omega) (by omega) (by decide) ?_
                      have b302 : (0 : Int) ≤ σ287 22 a.toNat ∧ σ287 22 a.toNat ≤ 60 := g287.1 22 a.toNat
                      refine s_istore_n (pc := 303) C [(1, vI (σ287 22 a.toNat)), (4, vI z287), (0, .ref (ad 0)), (2, vI z151), (3, vI z190)] dX12_does_303 (by decide) rfl ?_
                      refine s_goto (pc := 304) C (tgt := 7) dX12_does_304 (by decide) ?_
                      refine s_sub C [2, 0] [(0, .ref (ad 0)), (1, vI (σ287 22 a.toNat))] rfl ?_
                      have hi7 : GY σ σ287 ∧ FRM PDo σ σ287 ∧ 0 ≤ (σ287 22 a.toNat) ∧ (σ287 22 a.toNat) ≤ σ 0 32 ∧ σ287 0 47 ≤ σ287 0 46 ∧ SI σ dep σ287 (σ287 22 a.toNat) := ⟨g287, f287, ⟨by omega, by omega, by show σ287 0 47 ≤ σ287 0 46; omega, si_same (τ2 := σ287) hsi ((lf287) 0 49 rfl) (fun k => (lf287) 25 k rfl) (fun k hk => by rw [(lf287) 26 k rfl]; exact (hsi k hk).2.2.2.2.1) (fun k hk => by have e : k = (σ1 0 49 - 1).toNat := (by omega); subst e; have ht1 := si_top hsi (d := (σ1 0 49 - 1).toNat) (by omega); have ht2 := hj139 (σ1 0 49 - 1).toNat (by omega); have hl := hsi (σ1 0 49 - 1).toNat (by omega); have hc3 := ((hP (σ1 25 (σ1 0 49 - 1).toNat).toNat (by omega)).2 hl.2.2.1).2.2.2 a.toNat (by omega) (by omega); have hc4 := hc3.2 (by omega); omega)⟩⟩
                      exact ih7 (σ287 22 a.toNat, σ287) (by exact mud_done (σ := σ1) (σ1 := σ287) b26 (fun k => (g287).1 26 k) (by show σ287 0 46 = σ1 0 46 + 1; omega) (by omega)) hi7
                · skip
                  refine s_iload (pc := 270) C dX12_does_270 0 rfl ?_
                  refine s_iconst (pc := 272) C dX12_does_272 ?_
                  refine s_iadd (pc := 273) C dX12_does_273 ?_
                  refine s_iret (pc := 274) C dX12_does_274 ?_
                  refine ⟨_, rfl, ?_⟩
                  exact ⟨g256, f256, by first | omega | assumption | (constructor <;> omega) | (refine ⟨⟨?_, ?_⟩, ?_⟩ <;> omega) | (simp [hs_ss, hs_up]; omega) | (simp [hs_ss, hs_up]; done)⟩
          · skip
            refine s_aload_n (pc := 203) C dX12_does_203 0 rfl ?_
            refine s_iload_n (pc := 204) C dX12_does_204 3 rfl ?_
            refine s_iconst (pc := 205) C dX12_does_205 ?_
            refine s_callVv (pc := 206) C (c_X12_goes l z190 0 (by first | omega | assumption | (constructor <;> omega) | (refine ⟨⟨?_, ?_⟩, ?_⟩ <;> omega) | (simp [hs_ss, hs_up]; omega) | (simp [hs_ss, hs_up]; done)) ⟨by omega, by omega⟩) [vI z190, vI 0] [] rfl rfl dX12_does_206 wlX12_213 wiX12_goes weX12_goes wcX12_goes wnX12 noX12_goes (by decide) (by decide) (Nat.le_of_ble_eq_true rfl) (gy_self hg197) rfl rfl ?_
            rintro σ206 k206
            obtain ⟨kg206, kf206, k206⟩ := k206
            have g206 := gy_trans hg197 kg206
            have f206 := frm_tr hf197 (frm_mono (Q := PDo) kf206 (fun c j h => by simp [PGs, PDo] at h ⊢ <;> omega))
            have lf206 := frm_tr hlf (frm_mono (Q := PIt) kf206 (fun c j h => by simp [PGs, PIt] at h ⊢ <;> omega))
            have x206_0_45 : σ206 0 45 = σ2 0 45 := kf206 0 45 rfl
            have x206_0_46 : σ206 0 46 = σ2 0 46 := kf206 0 46 rfl
            have x206_0_47 : σ206 0 47 = σ2 0 47 := kf206 0 47 rfl
            have x206_15_atoNat : σ206 15 a.toNat = σ2 15 a.toNat := by first | exact kf206 15 a.toNat rfl | (rw [kf206 15 a.toNat rfl]; simp [hs_ss, hs_up]; done)
            clear k206
            show hs_Wd _ _ _ _ _ _ _ _ _ _ _ _ _ _ _ _ _ 209 _ [] σ206
            refine s_iinc (pc := 209) C [(4, vI (k + 1)), (0, .ref (ad 0)), (1, vI a), (2, vI z151), (3, vI z190)] dX12_does_209 4 rfl (by decide) rfl ?_
            refine s_goto (pc := 212) C (tgt := 197) dX12_does_212 (by decide) ?_
            refine s_sub C [1, 2, 3, 4, 0] [(0, .ref (ad 0)), (1, vI a), (2, vI z151), (3, vI z190), (4, vI (k + 1))] rfl ?_
            have hi197 : GY σ σ206 ∧ FRM PDo σ σ206 ∧ 0 ≤ (k + 1) ∧ (k + 1) ≤ z151 ∧ FRM PIt σ1 σ206 ∧ σ206 0 46 = σ1 0 46 + 1 ∧ σ206 0 47 = σ1 0 47 ∧ σ206 0 45 = σ1 0 45 ∧ σ206 15 a.toNat = σ1 15 a.toNat := ⟨g206, f206, ⟨by omega, by omega, lf206, by omega, by omega, by omega, by omega⟩⟩
            exact ih197 (k + 1, σ206) (by first | omega | (simp only []; omega)) hi197
        · skip
          refine s_iconst (pc := 176) C dX12_does_176 ?_
          refine s_iret (pc := 177) C dX12_does_177 ?_
          refine ⟨_, rfl, ?_⟩
          exact ⟨hg7, hf7, by first | omega | assumption | (constructor <;> omega) | (refine ⟨⟨?_, ?_⟩, ?_⟩ <;> omega) | (simp [hs_ss, hs_up]; omega) | (simp [hs_ss, hs_up]; done)⟩
    · skip
      refine s_iconst (pc := 147) C dX12_does_147 ?_
      refine s_iret (pc := 148) C dX12_does_148 ?_
      refine ⟨_, rfl, ?_⟩
      exact ⟨hg7, hf7, by first | omega | assumption | (constructor <;> omega) | (refine ⟨⟨?_, ?_⟩, ?_⟩ <;> omega) | (simp [hs_ss, hs_up]; omega) | (simp [hs_ss, hs_up]; done)⟩
  refine s_geti (q := 0) (ci := 12) (N := 68) (CN := RX12) (T := TX12) (pc := 8) C 49 dX12_does_8 wlX12_300 rfl rfl rfl wfX12 (by decide) rfl (σ1 0 49) rfl ?_
  have b8 : (0 : Int) ≤ σ1 0 49 ∧ σ1 0 49 ≤ 5 := hg7.1 0 49
  refine s_if_le (pc := 11) C (tgt := 139) dX12_does_11 (by decide) ⟨by omega, by omega⟩ (fun h11 => ?_) (fun h11 => ?_)
  · skip
    refine s_sub C [0, 1] [(0, .ref (ad 0)), (1, vI a)] rfl ?_
    exact j139  (by intro d hd; first | (exfalso; omega) | (have e : d = (σ1 0 49 - 1).toNat := (by omega); subst e; omega))
  · skip
    have htop := hsi (σ1 0 49 - 1).toNat (by omega)
    have q22 := e22 (σ1 25 (σ1 0 49 - 1).toNat).toNat
    have q15 := e15 (σ1 25 (σ1 0 49 - 1).toNat).toNat
    have q16 := e16 (σ1 25 (σ1 0 49 - 1).toNat).toNat
    have q17 := e17 (σ1 25 (σ1 0 49 - 1).toNat).toNat
    have hcl := (hP (σ1 25 (σ1 0 49 - 1).toNat).toNat (by omega)).2 htop.2.2.1
    have hcl2 := hcl.2.1
    have hcl3 := hcl.2.2.1
    have hok := (hP (σ1 25 (σ1 0 49 - 1).toNat).toNat (by omega)).1
    unfold OKA at hok
    have b26D := b26 (σ1 0 49 - 1).toNat
    refine s_iload_n (pc := 14) C dX12_does_14 1 rfl ?_
    refine s_aload_n (pc := 15) C dX12_does_15 0 rfl ?_
    refine s_getr (q := 0) (ci := 12) (N := 68) (CN := RX12) (T := TX12) (pc := 16) C 40 dX12_does_16 wlX12_80 rfl rfl rfl wfX12 (by decide) rfl ?_
    refine s_aload_n (pc := 19) C dX12_does_19 0 rfl ?_
    refine s_getr (q := 0) (ci := 12) (N := 68) (CN := RX12) (T := TX12) (pc := 20) C 50 dX12_does_20 wlX12_89 rfl rfl rfl wfX12 (by decide) rfl ?_
    refine s_aload_n (pc := 23) C dX12_does_23 0 rfl ?_
    refine s_geti (q := 0) (ci := 12) (N := 68) (CN := RX12) (T := TX12) (pc := 24) C 49 dX12_does_24 wlX12_300 rfl rfl rfl wfX12 (by decide) rfl (σ1 0 49) rfl ?_
    have b24 : (0 : Int) ≤ σ1 0 49 ∧ σ1 0 49 ≤ 5 := hg7.1 0 49
    refine s_iconst (pc := 27) C dX12_does_27 ?_
    refine s_isub (pc := 28) C dX12_does_28 ?_
    refine s_iald (q := 25) (n := 5) (pc := 29) C (σ1 25 (((σ1 0 49) - 1).toNat)) rfl dX12_does_29 rfl (by omega) (by omega) (by decide) ?_
    have b29 : (0 : Int) ≤ σ1 25 (((σ1 0 49) - 1).toNat) ∧ σ1 25 (((σ1 0 49) - 1).toNat) ≤ 59 := hg7.1 25 (((σ1 0 49) - 1).toNat)
    refine s_iald (q := 22) (n := 60) (pc := 30) C (σ1 22 ((σ1 25 (((σ1 0 49) - 1).toNat)).toNat)) rfl dX12_does_30 rfl (by omega) (by omega) (by decide) ?_
    have b30 : (0 : Int) ≤ σ1 22 ((σ1 25 (((σ1 0 49) - 1).toNat)).toNat) ∧ σ1 22 ((σ1 25 (((σ1 0 49) - 1).toNat)).toNat) ≤ 60 := hg7.1 22 ((σ1 25 (((σ1 0 49) - 1).toNat)).toNat)
    refine s_icmp_ne (pc := 31) C (tgt := 139) dX12_does_31 (by decide) ⟨by omega, by omega⟩ ⟨by omega, by omega⟩ (fun h31 => ?_) (fun h31 => ?_)
    · skip
      refine s_sub C [0, 1] [(0, .ref (ad 0)), (1, vI a)] rfl ?_
      exact j139  (by intro d hd; first | (exfalso; omega) | (have e : d = (σ1 0 49 - 1).toNat := (by omega); subst e; omega))
    · skip
      refine s_aload_n (pc := 34) C dX12_does_34 0 rfl ?_
      refine s_getr (q := 0) (ci := 12) (N := 68) (CN := RX12) (T := TX12) (pc := 35) C 50 dX12_does_35 wlX12_89 rfl rfl rfl wfX12 (by decide) rfl ?_
      refine s_aload_n (pc := 38) C dX12_does_38 0 rfl ?_
      refine s_geti (q := 0) (ci := 12) (N := 68) (CN := RX12) (T := TX12) (pc := 39) C 49 dX12_does_39 wlX12_300 rfl rfl rfl wfX12 (by decide) rfl (σ1 0 49) rfl ?_
      have b39 : (0 : Int) ≤ σ1 0 49 ∧ σ1 0 49 ≤ 5 := hg7.1 0 49
      refine s_iconst (pc := 42) C dX12_does_42 ?_
      refine s_isub (pc := 43) C dX12_does_43 ?_
      refine s_iald (q := 25) (n := 5) (pc := 44) C (σ1 25 (((σ1 0 49) - 1).toNat)) rfl dX12_does_44 rfl (by omega) (by omega) (by decide) ?_
      have b44 : (0 : Int) ≤ σ1 25 (((σ1 0 49) - 1).toNat) ∧ σ1 25 (((σ1 0 49) - 1).toNat) ≤ 59 := hg7.1 25 (((σ1 0 49) - 1).toNat)
      refine s_istore_n (pc := 45) C [(2, vI (σ1 25 (((σ1 0 49) - 1).toNat))), (0, .ref (ad 0)), (1, vI a)] dX12_does_45 (by decide) rfl ?_
      refine s_aload_n (pc := 46) C dX12_does_46 1 rfl ?_
      refine s_getr (q := 0) (ci := 12) (N := 68) (CN := RX12) (T := TX12) (pc := 47) C 51 dX12_does_47 wlX12_92 rfl rfl rfl wfX12 (by decide) rfl ?_
      refine s_aload_n (pc := 50) C dX12_does_50 1 rfl ?_
      refine s_geti (q := 0) (ci := 12) (N := 68) (CN := RX12) (T := TX12) (pc := 51) C 49 dX12_does_51 wlX12_300 rfl rfl rfl wfX12 (by decide) rfl (σ1 0 49) rfl ?_
      have b51 : (0 : Int) ≤ σ1 0 49 ∧ σ1 0 49 ≤ 5 := hg7.1 0 49
      refine s_iconst (pc := 54) C dX12_does_54 ?_
      refine s_isub (pc := 55) C dX12_does_55 ?_
      refine s_dup2 (pc := 56) C dX12_does_56 rfl rfl ?_
      refine s_iald (q := 26) (n := 5) (pc := 57) C (σ1 26 (((σ1 0 49) - 1).toNat)) rfl dX12_does_57 rfl (by omega) (by omega) (by decide) ?_
      have b57 : (0 : Int) ≤ σ1 26 (((σ1 0 49) - 1).toNat) ∧ σ1 26 (((σ1 0 49) - 1).toNat) ≤ 200 := hg7.1 26 (((σ1 0 49) - 1).toNat)
      refine s_iconst (pc := 58) C dX12_does_58 ?_
      refine s_isub (pc := 59) C dX12_does_59 ?_
      refine s_iast (q := 26) (n := 5) (pc := 60) C dX12_does_60 rfl (by omega) (by omega) (by decide) ?_
      have g60 := gy_set (z := ((σ1 26 (((σ1 0 49) - 1).toNat)) - 1)) hg7 26 (((σ1 0 49) - 1).toNat) rfl (0) (200) rfl ⟨by omega, by omega⟩
      have f60 := frm_set (P := PDo) (z := ((σ1 26 (((σ1 0 49) - 1).toNat)) - 1)) hf7 26 (((σ1 0 49) - 1).toNat) rfl
      refine s_aload_n (pc := 61) C dX12_does_61 1 rfl ?_
      refine s_getr (q := 0) (ci := 12) (N := 68) (CN := RX12) (T := TX12) (pc := 62) C 51 dX12_does_62 wlX12_92 rfl rfl rfl wfX12 (by decide) rfl ?_
      refine s_aload_n (pc := 65) C dX12_does_65 1 rfl ?_
      refine s_geti (q := 0) (ci := 12) (N := 68) (CN := RX12) (T := TX12) (pc := 66) C 49 dX12_does_66 wlX12_300 rfl rfl rfl wfX12 (by decide) rfl (σ1 0 49) rfl ?_
      have b66 : (0 : Int) ≤ σ1 0 49 ∧ σ1 0 49 ≤ 5 := g60.1 0 49
      refine s_iconst (pc := 69) C dX12_does_69 ?_
      refine s_isub (pc := 70) C dX12_does_70 ?_
      refine s_iald (q := 26) (n := 5) (pc := 71) C ((σ1 26 (((σ1 0 49) - 1).toNat)) - 1) (by simp [hs_ss, hs_up]) dX12_does_71 rfl (by omega) (by omega) (by decide) ?_
      have b71 : (0 : Int) ≤ (σ1 26 (((σ1 0 49) - 1).toNat)) - 1 ∧ (σ1 26 (((σ1 0 49) - 1).toNat)) - 1 ≤ 200 := by have h := g60.1 26 (((σ1 0 49) - 1).toNat); rw [show (hs_ss σ1 26 (((σ1 0 49) - 1).toNat) ((σ1 26 (((σ1 0 49) - 1).toNat)) - 1)) 26 (((σ1 0 49) - 1).toNat) = (σ1 26 (((σ1 0 49) - 1).toNat)) - 1 from by simp [hs_ss, hs_up]] at h; exact h
      refine s_if_le (pc := 72) C (tgt := 126) dX12_does_72 (by decide) ⟨by omega, by omega⟩ (fun h72 => ?_) (fun h72 => ?_)
      · skip
        refine s_aload_n (pc := 126) C dX12_does_126 1 rfl ?_
        refine s_dup (pc := 127) C dX12_does_127 rfl ?_
        refine s_geti (q := 0) (ci := 12) (N := 68) (CN := RX12) (T := TX12) (pc := 128) C 49 dX12_does_128 wlX12_300 rfl rfl rfl wfX12 (by decide) rfl (σ1 0 49) rfl ?_
        have b128 : (0 : Int) ≤ σ1 0 49 ∧ σ1 0 49 ≤ 5 := g60.1 0 49
        refine s_iconst (pc := 131) C dX12_does_131 ?_
        refine s_isub (pc := 132) C dX12_does_132 ?_
        refine s_puti (q := 0) (ci := 12) (N := 68) (CN := RX12) (T := TX12) (ty0 := tyX12) (ty := .int) (pc := 133) C 49 dX12_does_133 wlX12_300 rfl rfl rfl wfX12 tyX12_ok nmX12 (by decide) rfl rfl rfl (vp_nar_int _) rfl ?_
        have g133 := gy_set (z := ((σ1 0 49) - 1)) g60 0 49 rfl (0) (5) rfl ⟨by omega, by omega⟩
        have f133 := frm_set (P := PDo) (z := ((σ1 0 49) - 1)) f60 0 49 rfl
        refine s_goto (pc := 136) C (tgt := 7) dX12_does_136 (by decide) ?_
        refine s_sub C [1, 2] [(0, .ref (ad 0)), (1, vI a)] rfl ?_
        have hi7 : GY σ ((hs_ss (hs_ss σ1 26 (((σ1 0 49) - 1).toNat) ((σ1 26 (((σ1 0 49) - 1).toNat)) - 1)) 0 49 ((σ1 0 49) - 1))) ∧ FRM PDo σ ((hs_ss (hs_ss σ1 26 (((σ1 0 49) - 1).toNat) ((σ1 26 (((σ1 0 49) - 1).toNat)) - 1)) 0 49 ((σ1 0 49) - 1))) ∧ 0 ≤ a ∧ a ≤ σ 0 32 ∧ ((hs_ss (hs_ss σ1 26 (((σ1 0 49) - 1).toNat) ((σ1 26 (((σ1 0 49) - 1).toNat)) - 1)) 0 49 ((σ1 0 49) - 1))) 0 47 ≤ ((hs_ss (hs_ss σ1 26 (((σ1 0 49) - 1).toNat) ((σ1 26 (((σ1 0 49) - 1).toNat)) - 1)) 0 49 ((σ1 0 49) - 1))) 0 46 ∧ SI σ dep ((hs_ss (hs_ss σ1 26 (((σ1 0 49) - 1).toNat) ((σ1 26 (((σ1 0 49) - 1).toNat)) - 1)) 0 49 ((σ1 0 49) - 1))) a := ⟨g133, f133, ⟨by omega, by omega, by show σ1 0 47 ≤ σ1 0 46; omega, si_pop (τ2 := (hs_ss (hs_ss σ1 26 (((σ1 0 49) - 1).toNat) ((σ1 26 (((σ1 0 49) - 1).toNat)) - 1)) 0 49 ((σ1 0 49) - 1))) (d := (σ1 0 49 - 1).toNat) hP hsi (by omega) (by omega) (by show σ1 0 49 - 1 = _; omega) (fun _ => rfl) (fun k hk => by show hs_ss σ1 26 (σ1 0 49 - 1).toNat (σ1 26 (σ1 0 49 - 1).toNat - 1) 26 k = _; exact hs_ss_j hk)⟩⟩
        exact ih7 (a, (hs_ss (hs_ss σ1 26 (((σ1 0 49) - 1).toNat) ((σ1 26 (((σ1 0 49) - 1).toNat)) - 1)) 0 49 ((σ1 0 49) - 1))) (by exact mud_less (σ := σ1) (σ1 := (hs_ss (hs_ss σ1 26 (((σ1 0 49) - 1).toNat) ((σ1 26 (((σ1 0 49) - 1).toNat)) - 1)) 0 49 ((σ1 0 49) - 1))) (d := (σ1 0 49 - 1).toNat) b26 (by omega) (by omega) rfl (by omega) (by show hs_ss σ1 26 (σ1 0 49 - 1).toNat (σ1 26 (σ1 0 49 - 1).toNat - 1) 26 (σ1 0 49 - 1).toNat = _; exact hs_ss_at) (by omega) (fun k hk => by show hs_ss σ1 26 (σ1 0 49 - 1).toNat (σ1 26 (σ1 0 49 - 1).toNat - 1) 26 k = _; exact hs_ss_j hk) (Or.inr ⟨by show σ1 0 49 - 1 = _; omega, by omega⟩)) hi7
      · skip
        refine s_aload_n (pc := 75) C dX12_does_75 1 rfl ?_
        refine s_getr (q := 0) (ci := 12) (N := 68) (CN := RX12) (T := TX12) (pc := 76) C 33 dX12_does_76 wlX12_59 rfl rfl rfl wfX12 (by decide) rfl ?_
        refine s_iload_n (pc := 79) C dX12_does_79 0 rfl ?_
        refine s_iald (q := 15) (n := 60) (pc := 80) C (σ1 15 ((σ1 25 (((σ1 0 49) - 1).toNat)).toNat)) rfl dX12_does_80 rfl (by omega) (by omega) (by decide) ?_
        have b80 : (0 : Int) ≤ σ1 15 ((σ1 25 (((σ1 0 49) - 1).toNat)).toNat) ∧ σ1 15 ((σ1 25 (((σ1 0 49) - 1).toNat)).toNat) ≤ 6 := g60.1 15 ((σ1 25 (((σ1 0 49) - 1).toNat)).toNat)
        refine s_bipush (pc := 81) C dX12_does_81 (by decide) ?_
        refine s_icmp_ne (pc := 83) C (tgt := 119) dX12_does_83 (by decide) ⟨by omega, by omega⟩ ⟨by decide, by decide⟩ (fun h83 => ?_) (fun h83 => ?_)
        · skip
          refine s_iload_n (pc := 119) C dX12_does_119 0 rfl ?_
          refine s_iconst (pc := 120) C dX12_does_120 ?_
          refine s_iadd (pc := 121) C dX12_does_121 ?_
          refine s_istore_n (pc := 122) C [(1, vI ((σ1 25 (((σ1 0 49) - 1).toNat)) + 1)), (2, vI (σ1 25 (((σ1 0 49) - 1).toNat))), (0, .ref (ad 0))] dX12_does_122 (by decide) rfl ?_
          refine s_goto (pc := 123) C (tgt := 7) dX12_does_123 (by decide) ?_
          refine s_sub C [2, 0] [(0, .ref (ad 0)), (1, vI ((σ1 25 (((σ1 0 49) - 1).toNat)) + 1))] rfl ?_
          have hi7 : GY σ ((hs_ss σ1 26 (((σ1 0 49) - 1).toNat) ((σ1 26 (((σ1 0 49) - 1).toNat)) - 1))) ∧ FRM PDo σ ((hs_ss σ1 26 (((σ1 0 49) - 1).toNat) ((σ1 26 (((σ1 0 49) - 1).toNat)) - 1))) ∧ 0 ≤ ((σ1 25 (((σ1 0 49) - 1).toNat)) + 1) ∧ ((σ1 25 (((σ1 0 49) - 1).toNat)) + 1) ≤ σ 0 32 ∧ ((hs_ss σ1 26 (((σ1 0 49) - 1).toNat) ((σ1 26 (((σ1 0 49) - 1).toNat)) - 1))) 0 47 ≤ ((hs_ss σ1 26 (((σ1 0 49) - 1).toNat) ((σ1 26 (((σ1 0 49) - 1).toNat)) - 1))) 0 46 ∧ SI σ dep ((hs_ss σ1 26 (((σ1 0 49) - 1).toNat) ((σ1 26 (((σ1 0 49) - 1).toNat)) - 1))) ((σ1 25 (((σ1 0 49) - 1).toNat)) + 1) := ⟨g60, f60, ⟨by omega, by omega, by show σ1 0 47 ≤ σ1 0 46; omega, si_same (τ2 := (hs_ss σ1 26 (((σ1 0 49) - 1).toNat) ((σ1 26 (((σ1 0 49) - 1).toNat)) - 1))) hsi rfl (fun _ => rfl) (fun k hk => by show 1 ≤ hs_ss σ1 26 (σ1 0 49 - 1).toNat (σ1 26 (σ1 0 49 - 1).toNat - 1) 26 k; by_cases e : k = (σ1 0 49 - 1).toNat; (rw [e, hs_ss_at]; omega); rw [hs_ss_j e]; exact (hsi k hk).2.2.2.2.1) (fun k hk => by have e : k = (σ1 0 49 - 1).toNat := (by omega); subst e; omega)⟩⟩
          exact ih7 ((σ1 25 (((σ1 0 49) - 1).toNat)) + 1, (hs_ss σ1 26 (((σ1 0 49) - 1).toNat) ((σ1 26 (((σ1 0 49) - 1).toNat)) - 1))) (by exact mud_less (σ := σ1) (σ1 := (hs_ss σ1 26 (((σ1 0 49) - 1).toNat) ((σ1 26 (((σ1 0 49) - 1).toNat)) - 1))) (d := (σ1 0 49 - 1).toNat) b26 (by omega) (by omega) rfl (by omega) (by show hs_ss σ1 26 (σ1 0 49 - 1).toNat (σ1 26 (σ1 0 49 - 1).toNat - 1) 26 (σ1 0 49 - 1).toNat = _; exact hs_ss_at) (by omega) (fun k hk => by show hs_ss σ1 26 (σ1 0 49 - 1).toNat (σ1 26 (σ1 0 49 - 1).toNat - 1) 26 k = _; exact hs_ss_j hk) (Or.inl (by show σ1 0 49 = _; omega))) hi7
        · skip
          refine s_aload_n (pc := 86) C dX12_does_86 1 rfl ?_
          refine s_getr (q := 0) (ci := 12) (N := 68) (CN := RX12) (T := TX12) (pc := 87) C 48 dX12_does_87 wlX12_86 rfl rfl rfl wfX12 (by decide) rfl ?_
          refine s_aload_n (pc := 90) C dX12_does_90 1 rfl ?_
          refine s_getr (q := 0) (ci := 12) (N := 68) (CN := RX12) (T := TX12) (pc := 91) C 35 dX12_does_91 wlX12_65 rfl rfl rfl wfX12 (by decide) rfl ?_
          refine s_iload_n (pc := 94) C dX12_does_94 0 rfl ?_
          refine s_iald (q := 17) (n := 60) (pc := 95) C (σ1 17 ((σ1 25 (((σ1 0 49) - 1).toNat)).toNat)) rfl dX12_does_95 rfl (by omega) (by omega) (by decide) ?_
          have b95 : (-1 : Int) ≤ σ1 17 ((σ1 25 (((σ1 0 49) - 1).toNat)).toNat) ∧ σ1 17 ((σ1 25 (((σ1 0 49) - 1).toNat)).toNat) ≤ 7 := g60.1 17 ((σ1 25 (((σ1 0 49) - 1).toNat)).toNat)
          refine s_aload_n (pc := 96) C dX12_does_96 1 rfl ?_
          refine s_aload_n (pc := 97) C dX12_does_97 1 rfl ?_
          refine s_getr (q := 0) (ci := 12) (N := 68) (CN := RX12) (T := TX12) (pc := 98) C 48 dX12_does_98 wlX12_86 rfl rfl rfl wfX12 (by decide) rfl ?_
          refine s_aload_n (pc := 101) C dX12_does_101 1 rfl ?_
          refine s_getr (q := 0) (ci := 12) (N := 68) (CN := RX12) (T := TX12) (pc := 102) C 35 dX12_does_102 wlX12_65 rfl rfl rfl wfX12 (by decide) rfl ?_
          refine s_iload_n (pc := 105) C dX12_does_105 0 rfl ?_
          refine s_iald (q := 17) (n := 60) (pc := 106) C (σ1 17 ((σ1 25 (((σ1 0 49) - 1).toNat)).toNat)) rfl dX12_does_106 rfl (by omega) (by omega) (by decide) ?_
          have b106 : (-1 : Int) ≤ σ1 17 ((σ1 25 (((σ1 0 49) - 1).toNat)).toNat) ∧ σ1 17 ((σ1 25 (((σ1 0 49) - 1).toNat)).toNat) ≤ 7 := g60.1 17 ((σ1 25 (((σ1 0 49) - 1).toNat)).toNat)
          refine s_iald (q := 24) (n := 8) (pc := 107) C (σ1 24 ((σ1 17 ((σ1 25 (((σ1 0 49) - 1).toNat)).toNat)).toNat)) rfl dX12_does_107 rfl (by omega) (by omega) (by decide) ?_
          have b107 : (0 : Int) ≤ σ1 24 ((σ1 17 ((σ1 25 (((σ1 0 49) - 1).toNat)).toNat)).toNat) ∧ σ1 24 ((σ1 17 ((σ1 25 (((σ1 0 49) - 1).toNat)).toNat)).toNat) ≤ 99 := g60.1 24 ((σ1 17 ((σ1 25 (((σ1 0 49) - 1).toNat)).toNat)).toNat)
          refine s_aload_n (pc := 108) C dX12_does_108 1 rfl ?_
          refine s_getr (q := 0) (ci := 12) (N := 68) (CN := RX12) (T := TX12) (pc := 109) C 34 dX12_does_109 wlX12_62 rfl rfl rfl wfX12 (by decide) rfl ?_
          refine s_iload_n (pc := 112) C dX12_does_112 0 rfl ?_
          refine s_iald (q := 16) (n := 60) (pc := 113) C (σ1 16 ((σ1 25 (((σ1 0 49) - 1).toNat)).toNat)) rfl dX12_does_113 rfl (by omega) (by omega) (by decide) ?_
          have b113 : (0 : Int) ≤ σ1 16 ((σ1 25 (((σ1 0 49) - 1).toNat)).toNat) ∧ σ1 16 ((σ1 25 (((σ1 0 49) - 1).toNat)).toNat) ≤ 99 := g60.1 16 ((σ1 25 (((σ1 0 49) - 1).toNat)).toNat)
          refine s_iadd (pc := 114) C dX12_does_114 ?_
          have r115_0_3 : (hs_ss σ1 26 (((σ1 0 49) - 1).toNat) ((σ1 26 (((σ1 0 49) - 1).toNat)) - 1)) 0 3 = σ1 0 3 := rfl
          refine s_callVi (pc := 115) C (c_X12_round l ((σ1 24 ((σ1 17 ((σ1 25 (((σ1 0 49) - 1).toNat)).toNat)).toNat)) + (σ1 16 ((σ1 25 (((σ1 0 49) - 1).toNat)).toNat))) ⟨by omega, by omega⟩) [vI ((σ1 24 ((σ1 17 ((σ1 25 (((σ1 0 49) - 1).toNat)).toNat)).toNat)) + (σ1 16 ((σ1 25 (((σ1 0 49) - 1).toNat)).toNat)))] [vI (σ1 17 ((σ1 25 (((σ1 0 49) - 1).toNat)).toNat)), .ref (ad 24)] rfl rfl dX12_does_115 wlX12_144 wiX12_round weX12_round wcX12_round wnX12 noX12_round (by decide) (by decide) (Nat.le_of_ble_eq_true rfl) (gy_self g60) rfl rfl ?_
          rintro z115 _ ⟨rfl, k115⟩
          show hs_Wd _ _ _ _ _ _ _ _ _ _ _ _ _ _ _ _ _ 118 _ [vI z115, vI (σ1 17 ((σ1 25 (((σ1 0 49) - 1).toNat)).toNat)), .ref (ad 24)] (hs_ss σ1 26 (((σ1 0 49) - 1).toNat) ((σ1 26 (((σ1 0 49) - 1).toNat)) - 1))
          refine s_iast (q := 24) (n := 8) (pc := 118) C dX12_does_118 rfl (by omega) (by omega) (by decide) ?_
          have g118 := gy_set (z := z115) g60 24 ((σ1 17 ((σ1 25 (((σ1 0 49) - 1).toNat)).toNat)).toNat) rfl (0) (99) rfl ⟨by omega, by omega⟩
          have f118 := frm_set (P := PDo) (z := z115) f60 24 ((σ1 17 ((σ1 25 (((σ1 0 49) - 1).toNat)).toNat)).toNat) rfl
          refine s_iload_n (pc := 119) C dX12_does_119 0 rfl ?_
          refine s_iconst (pc := 120) C dX12_does_120 ?_
          refine s_iadd (pc := 121) C dX12_does_121 ?_
          refine s_istore_n (pc := 122) C [(1, vI ((σ1 25 (((σ1 0 49) - 1).toNat)) + 1)), (2, vI (σ1 25 (((σ1 0 49) - 1).toNat))), (0, .ref (ad 0))] dX12_does_122 (by decide) rfl ?_
          refine s_goto (pc := 123) C (tgt := 7) dX12_does_123 (by decide) ?_
          refine s_sub C [2, 0] [(0, .ref (ad 0)), (1, vI ((σ1 25 (((σ1 0 49) - 1).toNat)) + 1))] rfl ?_
          have hi7 : GY σ ((hs_ss (hs_ss σ1 26 (((σ1 0 49) - 1).toNat) ((σ1 26 (((σ1 0 49) - 1).toNat)) - 1)) 24 ((σ1 17 ((σ1 25 (((σ1 0 49) - 1).toNat)).toNat)).toNat) z115)) ∧ FRM PDo σ ((hs_ss (hs_ss σ1 26 (((σ1 0 49) - 1).toNat) ((σ1 26 (((σ1 0 49) - 1).toNat)) - 1)) 24 ((σ1 17 ((σ1 25 (((σ1 0 49) - 1).toNat)).toNat)).toNat) z115)) ∧ 0 ≤ ((σ1 25 (((σ1 0 49) - 1).toNat)) + 1) ∧ ((σ1 25 (((σ1 0 49) - 1).toNat)) + 1) ≤ σ 0 32 ∧ ((hs_ss (hs_ss σ1 26 (((σ1 0 49) - 1).toNat) ((σ1 26 (((σ1 0 49) - 1).toNat)) - 1)) 24 ((σ1 17 ((σ1 25 (((σ1 0 49) - 1).toNat)).toNat)).toNat) z115)) 0 47 ≤ ((hs_ss (hs_ss σ1 26 (((σ1 0 49) - 1).toNat) ((σ1 26 (((σ1 0 49) - 1).toNat)) - 1)) 24 ((σ1 17 ((σ1 25 (((σ1 0 49) - 1).toNat)).toNat)).toNat) z115)) 0 46 ∧ SI σ dep ((hs_ss (hs_ss σ1 26 (((σ1 0 49) - 1).toNat) ((σ1 26 (((σ1 0 49) - 1).toNat)) - 1)) 24 ((σ1 17 ((σ1 25 (((σ1 0 49) - 1).toNat)).toNat)).toNat) z115)) ((σ1 25 (((σ1 0 49) - 1).toNat)) + 1) := ⟨g118, f118, ⟨by omega, by omega, by show σ1 0 47 ≤ σ1 0 46; omega, si_same (τ2 := (hs_ss (hs_ss σ1 26 (((σ1 0 49) - 1).toNat) ((σ1 26 (((σ1 0 49) - 1).toNat)) - 1)) 24 ((σ1 17 ((σ1 25 (((σ1 0 49) - 1).toNat)).toNat)).toNat) z115)) hsi rfl (fun _ => rfl) (fun k hk => by show 1 ≤ hs_ss σ1 26 (σ1 0 49 - 1).toNat (σ1 26 (σ1 0 49 - 1).toNat - 1) 26 k; by_cases e : k = (σ1 0 49 - 1).toNat; (rw [e, hs_ss_at]; omega); rw [hs_ss_j e]; exact (hsi k hk).2.2.2.2.1) (fun k hk => by have e : k = (σ1 0 49 - 1).toNat := (by omega); subst e; omega)⟩⟩
          exact ih7 ((σ1 25 (((σ1 0 49) - 1).toNat)) + 1, (hs_ss (hs_ss σ1 26 (((σ1 0 49) - 1).toNat) ((σ1 26 (((σ1 0 49) - 1).toNat)) - 1)) 24 ((σ1 17 ((σ1 25 (((σ1 0 49) - 1).toNat)).toNat)).toNat) z115)) (by exact mud_less (σ := σ1) (σ1 := (hs_ss (hs_ss σ1 26 (((σ1 0 49) - 1).toNat) ((σ1 26 (((σ1 0 49) - 1).toNat)) - 1)) 24 ((σ1 17 ((σ1 25 (((σ1 0 49) - 1).toNat)).toNat)).toNat) z115)) (d := (σ1 0 49 - 1).toNat) b26 (by omega) (by omega) rfl (by omega) (by show hs_ss σ1 26 (σ1 0 49 - 1).toNat (σ1 26 (σ1 0 49 - 1).toNat - 1) 26 (σ1 0 49 - 1).toNat = _; exact hs_ss_at) (by omega) (fun k hk => by show hs_ss σ1 26 (σ1 0 49 - 1).toNat (σ1 26 (σ1 0 49 - 1).toNat - 1) 26 k = _; exact hs_ss_j hk) (Or.inl (by show σ1 0 49 = _; omega))) hi7
set_option maxHeartbeats 4000000 in
set_option maxRecDepth 100000 in
theorem c_X12_turn (l : Launch) (n : Int) (hn : hs_R n) : hs_Met l yX12_turn cX12_turn 2 (some .int) 9 SHY (fun ad => [.ref (ad 0), vI n]) (fun σ => GY σ σ) (hs_PI (fun σ z σ1 => GY σ1 σ1 ∧ σ1 0 3 = σ 0 3 ∧ σ1 0 6 = σ 0 6 ∧ σ1 0 61 = σ 0 61 ∧ σ1 0 18 = σ 0 18 ∧ (¬ (0 ≤ n ∧ n ≤ σ 0 1) → σ1 0 1 = σ 0 1) ∧ (0 ≤ n ∧ n ≤ σ 0 1 → σ1 0 1 = 0))) := by
  refine hs_from pfX12_turn (fun _ => Nat.le_of_ble_eq_true rfl) ?_
  intro p e s m args below meth c D dA ad A σ C hpre
  have C : hs_C p s m args meth c D dA SHY ad A 2 cX12_turn RX12 (some .int) := C
  have g0 := hpre
  have b01 : (0 : Int) ≤ σ 0 1 ∧ σ 0 1 ≤ 500 := g0.1 0 1
  show hs_Wd p l e 9 s m args below meth c D dA SHY ad A 2 (hs_PI (fun σ z σ1 => GY σ1 σ1 ∧ σ1 0 3 = σ 0 3 ∧ σ1 0 6 = σ 0 6 ∧ σ1 0 61 = σ 0 61 ∧ σ1 0 18 = σ 0 18 ∧ (¬ (0 ≤ n ∧ n ≤ σ 0 1) → σ1 0 1 = σ 0 1) ∧ (0 ≤ n ∧ n ≤ σ 0 1 → σ1 0 1 = 0)) σ) 0 [(0, .ref (ad 0)), (1, vI n)] [] σ
  refine s_aload_n (pc := 0) C dX12_turn_0 0 rfl ?_
  refine s_iconst (pc := 1) C dX12_turn_1 ?_
  refine s_puti (q := 0) (ci := 12) (N := 68) (CN := RX12) (T := TX12) (ty0 := tyX12) (ty := .int) (pc := 2) C 2 dX12_turn_2 wlX12_135 rfl rfl rfl wfX12 tyX12_ok nmX12 (by decide) rfl rfl rfl (vp_nar_int _) rfl ?_
  have g2 := gy_set (z := 0) g0 0 2 rfl (0) (2) rfl ⟨by omega, by omega⟩
  refine s_iload_n (pc := 5) C dX12_turn_5 1 rfl ?_
  refine s_if_lt (pc := 6) C (tgt := 17) dX12_turn_6 (by decide) ⟨by omega, by omega⟩ (fun h6 => ?_) (fun h6 => ?_)
  · skip
    refine s_bipush (pc := 17) C dX12_turn_17 (by decide) ?_
    refine s_iret (pc := 19) C dX12_turn_19 ?_
    refine ⟨_, rfl, ?_⟩
    have hk := (g2).2
    exact ⟨gy_self g2, hk.2.1, hk.2.2.1, hk.2.2.2.1, hk.2.2.2.2, fun _ => hk.1, fun q => by exfalso; omega⟩
  · skip
    refine s_iload_n (pc := 9) C dX12_turn_9 1 rfl ?_
    refine s_aload_n (pc := 10) C dX12_turn_10 0 rfl ?_
    refine s_geti (q := 0) (ci := 12) (N := 68) (CN := RX12) (T := TX12) (pc := 11) C 1 dX12_turn_11 wlX12_138 rfl rfl rfl wfX12 (by decide) rfl (σ 0 1) rfl ?_
    have b11 : (0 : Int) ≤ σ 0 1 ∧ σ 0 1 ≤ 500 := g2.1 0 1
    refine s_icmp_le (pc := 14) C (tgt := 20) dX12_turn_14 (by decide) ⟨by omega, by omega⟩ ⟨by omega, by omega⟩ (fun h14 => ?_) (fun h14 => ?_)
    · skip
      refine s_aload_n (pc := 20) C dX12_turn_20 0 rfl ?_
      refine s_iload_n (pc := 21) C dX12_turn_21 1 rfl ?_
      refine s_puti (q := 0) (ci := 12) (N := 68) (CN := RX12) (T := TX12) (ty0 := tyX12) (ty := .int) (pc := 22) C 27 dX12_turn_22 wlX12_230 rfl rfl rfl wfX12 tyX12_ok nmX12 (by decide) rfl rfl rfl (vp_nar_int _) rfl ?_
      have g22 := gy_set (z := n) g2 0 27 rfl (0) (500) rfl ⟨by omega, by omega⟩
      refine s_aload_n (pc := 25) C dX12_turn_25 0 rfl ?_
      refine s_iconst (pc := 26) C dX12_turn_26 ?_
      refine s_puti (q := 0) (ci := 12) (N := 68) (CN := RX12) (T := TX12) (ty0 := tyX12) (ty := .int) (pc := 27) C 1 dX12_turn_27 wlX12_138 rfl rfl rfl wfX12 tyX12_ok nmX12 (by decide) rfl rfl rfl (vp_nar_int _) rfl ?_
      have g27 : GY ((hs_ss (hs_ss (hs_ss σ 0 2 0) 0 27 n) 0 1 0)) ((hs_ss (hs_ss (hs_ss σ 0 2 0) 0 27 n) 0 1 0)) := ⟨iby_set (z := 0) (g22).1 0 1 0 500 rfl (by omega), ky_rf⟩
      refine s_aload_n (pc := 30) C dX12_turn_30 0 rfl ?_
      refine s_iconst (pc := 31) C dX12_turn_31 ?_
      refine s_puti (q := 0) (ci := 12) (N := 68) (CN := RX12) (T := TX12) (ty0 := tyX12) (ty := .int) (pc := 32) C 25 dX12_turn_32 wlX12_224 rfl rfl rfl wfX12 tyX12_ok nmX12 (by decide) rfl rfl rfl (vp_nar_int _) rfl ?_
      have g32 := gy_set (z := 0) g27 0 25 rfl (0) (3) rfl ⟨by omega, by omega⟩
      refine s_aload_n (pc := 35) C dX12_turn_35 0 rfl ?_
      refine s_iconst (pc := 36) C dX12_turn_36 ?_
      refine s_puti (q := 0) (ci := 12) (N := 68) (CN := RX12) (T := TX12) (ty0 := tyX12) (ty := .int) (pc := 37) C 26 dX12_turn_37 wlX12_56 rfl rfl rfl wfX12 tyX12_ok nmX12 (by decide) rfl rfl rfl (vp_nar_int _) rfl ?_
      have g37 := gy_set (z := ((-1))) g32 0 26 rfl (-1) (500) rfl ⟨by omega, by omega⟩
      refine s_aload_n (pc := 40) C dX12_turn_40 0 rfl ?_
      refine s_iconst (pc := 41) C dX12_turn_41 ?_
      refine s_puti (q := 0) (ci := 12) (N := 68) (CN := RX12) (T := TX12) (ty0 := tyX12) (ty := .int) (pc := 42) C 45 dX12_turn_42 wlX12_309 rfl rfl rfl wfX12 tyX12_ok nmX12 (by decide) rfl rfl rfl (vp_nar_int _) rfl ?_
      have g42 := gy_set (z := 0) g37 0 45 rfl (0) (100000) rfl ⟨by omega, by omega⟩
      refine s_aload_n (pc := 45) C dX12_turn_45 0 rfl ?_
      refine s_iconst (pc := 46) C dX12_turn_46 ?_
      refine s_puti (q := 0) (ci := 12) (N := 68) (CN := RX12) (T := TX12) (ty0 := tyX12) (ty := .int) (pc := 47) C 46 dX12_turn_47 wlX12_306 rfl rfl rfl wfX12 tyX12_ok nmX12 (by decide) rfl rfl rfl (vp_nar_int _) rfl ?_
      have g47 := gy_set (z := 0) g42 0 46 rfl (0) (5000) rfl ⟨by omega, by omega⟩
      refine s_aload_n (pc := 50) C dX12_turn_50 0 rfl ?_
      refine s_iconst (pc := 51) C dX12_turn_51 ?_
      refine s_puti (q := 0) (ci := 12) (N := 68) (CN := RX12) (T := TX12) (ty0 := tyX12) (ty := .int) (pc := 52) C 47 dX12_turn_52 wlX12_315 rfl rfl rfl wfX12 tyX12_ok nmX12 (by decide) rfl rfl rfl (vp_nar_int _) rfl ?_
      have g52 := gy_set (z := 0) g47 0 47 rfl (0) (5000) rfl ⟨by omega, by omega⟩
      refine s_aload_n (pc := 55) C dX12_turn_55 0 rfl ?_
      refine s_callVi (pc := 56) C (c_X12_textRead l) [] [] rfl rfl dX12_turn_56 wlX12_321 wiX12_textRead weX12_textRead wcX12_textRead wnX12 noX12_textRead (by decide) (by decide) (Nat.le_of_ble_eq_true rfl) (gy_self g52) rfl rfl ?_
      rintro z56 σ56 k56
      obtain ⟨kg56, kf56, k56⟩ := k56
      have g56 := gy_trans g52 kg56
      have x56_0_46 : σ56 0 46 = 0 := kf56 0 46 rfl
      have x56_0_47 : σ56 0 47 = 0 := kf56 0 47 rfl
      show hs_Wd _ _ _ _ _ _ _ _ _ _ _ _ _ _ _ _ _ 59 _ [vI z56] σ56
      refine s_if_eq (pc := 59) C (tgt := 69) dX12_turn_59 (by decide) ⟨by omega, by omega⟩ (fun h59 => ?_) (fun h59 => ?_)
      · skip
        refine s_iconst (pc := 69) C dX12_turn_69 ?_
        refine s_iret (pc := 70) C dX12_turn_70 ?_
        refine ⟨_, rfl, ?_⟩
        have hk := (g56).2
        exact ⟨gy_self g56, hk.2.1, hk.2.2.1, hk.2.2.2.1, hk.2.2.2.2, fun q => by exfalso; omega, fun _ => hk.1⟩
      · skip
        refine s_aload_n (pc := 62) C dX12_turn_62 0 rfl ?_
        refine s_callVi (pc := 63) C (c_X12_does l) [] [] rfl rfl dX12_turn_63 wlX12_324 wiX12_does weX12_does wcX12_does wnX12 noX12_does (by decide) (by decide) (Nat.le_of_ble_eq_true rfl) ⟨(gy_self g56), ⟨k56.2 (by omega), by omega⟩⟩ rfl rfl ?_
        rintro z63 σ63 k63
        obtain ⟨kg63, kf63, k63⟩ := k63
        have g63 := gy_trans g56 kg63
        show hs_Wd _ _ _ _ _ _ _ _ _ _ _ _ _ _ _ _ _ 66 _ [vI z63] σ63
        refine s_goto (pc := 66) C (tgt := 70) dX12_turn_66 (by decide) ?_
        refine s_iret (pc := 70) C dX12_turn_70 ?_
        refine ⟨_, rfl, ?_⟩
        have hk := (g63).2
        exact ⟨gy_self g63, hk.2.1, hk.2.2.1, hk.2.2.2.1, hk.2.2.2.2, fun q => by exfalso; omega, fun _ => hk.1⟩
    · skip
      refine s_bipush (pc := 17) C dX12_turn_17 (by decide) ?_
      refine s_iret (pc := 19) C dX12_turn_19 ?_
      refine ⟨_, rfl, ?_⟩
      have hk := (g2).2
      exact ⟨gy_self g2, hk.2.1, hk.2.2.1, hk.2.2.2.1, hk.2.2.2.2, fun _ => hk.1, fun q => by exfalso; omega⟩
