def farY (N a b : Int) : Int := if N - (a - b) % N < (a - b) % N then N - (a - b) % N else (a - b) % N
def PGs (c j : Nat) : Bool := (c == 0 && (j == 4 || j == 5 || j == 23)) || c == 10 || c == 11
/-- what a wheel's driver must take up yet, going right (b 0) or left -/
def PLk (b : Int) (σ : hs_S) (k : Nat) : Int := if b = 0 then σ 11 k else max 0 (σ 0 3 - σ 2 k - σ 11 k)
def PLS (b n : Int) (σ : hs_S) : Int := (if 0 ≤ n then PLk b σ 0 else 0) + (if 1 ≤ n then PLk b σ 1 else 0) + (if 2 ≤ n then PLk b σ 2 else 0) + (if 3 ≤ n then PLk b σ 3 else 0)
theorem plk_nn {b : Int} {σ0 σ : hs_S} (h : GY σ0 σ) (k : Nat) : 0 ≤ PLk b σ k := by
  unfold PLk
  have b11 : (0 : Int) ≤ σ 11 k ∧ σ 11 k ≤ 100 := h.1 11 k
  split <;> omega
theorem pls_cases (b n : Int) (σ : hs_S) : (n < 0 → PLS b n σ = 0) ∧ (n = 0 → PLS b n σ = PLk b σ 0) ∧ (n = 1 → PLS b n σ = PLk b σ 0 + PLk b σ 1) ∧ (n = 2 → PLS b n σ = PLk b σ 0 + PLk b σ 1 + PLk b σ 2) ∧ (3 ≤ n → PLS b n σ = PLk b σ 0 + PLk b σ 1 + PLk b σ 2 + PLk b σ 3) := by
  unfold PLS
  refine ⟨fun h => ?_, fun h => ?_, fun h => ?_, fun h => ?_, fun h => ?_⟩
  · rw [if_neg (show ¬ 0 ≤ n by omega), if_neg (show ¬ 1 ≤ n by omega), if_neg (show ¬ 2 ≤ n by omega), if_neg (show ¬ 3 ≤ n by omega)]; omega
  · rw [if_pos (show 0 ≤ n by omega), if_neg (show ¬ 1 ≤ n by omega), if_neg (show ¬ 2 ≤ n by omega), if_neg (show ¬ 3 ≤ n by omega)]; omega
  · rw [if_pos (show 0 ≤ n by omega), if_pos (show 1 ≤ n by omega), if_neg (show ¬ 2 ≤ n by omega), if_neg (show ¬ 3 ≤ n by omega)]; omega
  · rw [if_pos (show 0 ≤ n by omega), if_pos (show 1 ≤ n by omega), if_pos (show 2 ≤ n by omega), if_neg (show ¬ 3 ≤ n by omega)]; omega
  · rw [if_pos (show 0 ≤ n by omega), if_pos (show 1 ≤ n by omega), if_pos (show 2 ≤ n by omega), if_pos (show 3 ≤ n by omega)]
theorem pls_nn {b n : Int} {σ : hs_S} (h : ∀ k, 0 ≤ PLk b σ k) : 0 ≤ PLS b n σ := by
  have h0 := h 0
  have h1 := h 1
  have h2 := h 2
  have h3 := h 3
  have q := pls_cases b n σ
  omega
theorem pls_cg {b n : Int} {σ σ1 : hs_S} (h : ∀ k, PLk b σ1 k = PLk b σ k) : PLS b n σ1 = PLS b n σ := by
  unfold PLS
  rw [h 0, h 1, h 2, h 3]
theorem pls_zero {b n w : Int} {σ : hs_S} (h : ∀ k : Nat, (k : Int) < w → PLk b σ k = 0) (hn : n < w) : PLS b n σ = 0 := by
  have h0 := h 0
  have h1 := h 1
  have h2 := h 2
  have h3 := h 3
  have q := pls_cases b n σ
  omega
theorem pls_dec {b n w : Int} {σ σ1 : hs_S} (hw0 : 0 ≤ w) (hw : w < 4) (hz : ∀ k : Nat, (k : Int) < w → PLk b σ k = 0) (hp : 0 < PLk b σ w.toNat) (hd : PLk b σ1 w.toNat = PLk b σ w.toNat - 1) (hs : ∀ k : Nat, k ≠ w.toNat → PLk b σ1 k = PLk b σ k) (hn : ∀ k, 0 ≤ PLk b σ k) : (w ≤ n → 0 < PLS b n σ ∧ PLS b n σ1 = PLS b n σ - 1) ∧ (n < w → PLS b n σ = 0 ∧ PLS b n σ1 = 0) := by
  obtain ⟨q0, q1, q2, q3, q4⟩ := pls_cases b n σ
  obtain ⟨r0, r1, r2, r3, r4⟩ := pls_cases b n σ1
  have h0 := hn 0
  have h1 := hn 1
  have h2 := hn 2
  have h3 := hn 3
  rcases (show w = 0 ∨ w = 1 ∨ w = 2 ∨ w = 3 by omega) with rfl | rfl | rfl | rfl
  · rw [show (0 : Int).toNat = 0 from rfl] at hp hd
    have s1 : PLk b σ1 1 = PLk b σ 1 := hs 1 (by decide)
    have s2 : PLk b σ1 2 = PLk b σ 2 := hs 2 (by decide)
    have s3 : PLk b σ1 3 = PLk b σ 3 := hs 3 (by decide)
    clear hz hs hn
    rcases (show n < 0 ∨ n = 0 ∨ n = 1 ∨ n = 2 ∨ 3 ≤ n by omega) with h | h | h | h | h
    · have e := q0 h
      have e1 := r0 h
      clear q0 q1 q2 q3 q4 r0 r1 r2 r3 r4
      rw [e, e1]
      omega
    · have e := q1 h
      have e1 := r1 h
      clear q0 q1 q2 q3 q4 r0 r1 r2 r3 r4
      rw [e, e1]
      omega
    · have e := q2 h
      have e1 := r2 h
      clear q0 q1 q2 q3 q4 r0 r1 r2 r3 r4
      rw [e, e1]
      omega
    · have e := q3 h
      have e1 := r3 h
      clear q0 q1 q2 q3 q4 r0 r1 r2 r3 r4
      rw [e, e1]
      omega
    · have e := q4 h
      have e1 := r4 h
      clear q0 q1 q2 q3 q4 r0 r1 r2 r3 r4
      rw [e, e1]
      omega
  · rw [show (1 : Int).toNat = 1 from rfl] at hp hd
    have z0 : PLk b σ 0 = 0 := hz 0 (by decide)
    have s0 : PLk b σ1 0 = PLk b σ 0 := hs 0 (by decide)
    have s2 : PLk b σ1 2 = PLk b σ 2 := hs 2 (by decide)
    have s3 : PLk b σ1 3 = PLk b σ 3 := hs 3 (by decide)
    clear hz hs hn
    rcases (show n < 0 ∨ n = 0 ∨ n = 1 ∨ n = 2 ∨ 3 ≤ n by omega) with h | h | h | h | h
    · have e := q0 h
      have e1 := r0 h
      clear q0 q1 q2 q3 q4 r0 r1 r2 r3 r4
      rw [e, e1]
      omega
    · have e := q1 h
      have e1 := r1 h
      clear q0 q1 q2 q3 q4 r0 r1 r2 r3 r4
      rw [e, e1]
      omega
    · have e := q2 h
      have e1 := r2 h
      clear q0 q1 q2 q3 q4 r0 r1 r2 r3 r4
      rw [e, e1]
      omega
    · have e := q3 h
      have e1 := r3 h
      clear q0 q1 q2 q3 q4 r0 r1 r2 r3 r4
      rw [e, e1]
      omega
    · have e := q4 h
      have e1 := r4 h
      clear q0 q1 q2 q3 q4 r0 r1 r2 r3 r4
      rw [e, e1]
      omega
  · rw [show (2 : Int).toNat = 2 from rfl] at hp hd
    have z0 : PLk b σ 0 = 0 := hz 0 (by decide)
    have s0 : PLk b σ1 0 = PLk b σ 0 := hs 0 (by decide)
    have z1 : PLk b σ 1 = 0 := hz 1 (by decide)
    have s1 : PLk b σ1 1 = PLk b σ 1 := hs 1 (by decide)
    have s3 : PLk b σ1 3 = PLk b σ 3 := hs 3 (by decide)
    clear hz hs hn
    rcases (show n < 0 ∨ n = 0 ∨ n = 1 ∨ n = 2 ∨ 3 ≤ n by omega) with h | h | h | h | h
    · have e := q0 h
      have e1 := r0 h
      clear q0 q1 q2 q3 q4 r0 r1 r2 r3 r4
      rw [e, e1]
      omega
    · have e := q1 h
      have e1 := r1 h
      clear q0 q1 q2 q3 q4 r0 r1 r2 r3 r4
      rw [e, e1]
      omega
    · have e := q2 h
      have e1 := r2 h
      clear q0 q1 q2 q3 q4 r0 r1 r2 r3 r4
      rw [e, e1]
      omega
    · have e := q3 h
      have e1 := r3 h
      clear q0 q1 q2 q3 q4 r0 r1 r2 r3 r4
      rw [e, e1]
      omega
    · have e := q4 h
      have e1 := r4 h
      clear q0 q1 q2 q3 q4 r0 r1 r2 r3 r4
      rw [e, e1]
      omega
  · rw [show (3 : Int).toNat = 3 from rfl] at hp hd
    have z0 : PLk b σ 0 = 0 := hz 0 (by decide)
    have s0 : PLk b σ1 0 = PLk b σ 0 := hs 0 (by decide)
    have z1 : PLk b σ 1 = 0 := hz 1 (by decide)
    have s1 : PLk b σ1 1 = PLk b σ 1 := hs 1 (by decide)
    have z2 : PLk b σ 2 = 0 := hz 2 (by decide)
    have s2 : PLk b σ1 2 = PLk b σ 2 := hs 2 (by decide)
    clear hz hs hn
    rcases (show n < 0 ∨ n = 0 ∨ n = 1 ∨ n = 2 ∨ 3 ≤ n by omega) with h | h | h | h | h
    · have e := q0 h
      have e1 := r0 h
      clear q0 q1 q2 q3 q4 r0 r1 r2 r3 r4
      rw [e, e1]
      omega
    · have e := q1 h
      have e1 := r1 h
      clear q0 q1 q2 q3 q4 r0 r1 r2 r3 r4
      rw [e, e1]
      omega
    · have e := q2 h
      have e1 := r2 h
      clear q0 q1 q2 q3 q4 r0 r1 r2 r3 r4
      rw [e, e1]
      omega
    · have e := q3 h
      have e1 := r3 h
      clear q0 q1 q2 q3 q4 r0 r1 r2 r3 r4
      rw [e, e1]
      omega
    · have e := q4 h
      have e1 := r4 h
      clear q0 q1 q2 q3 q4 r0 r1 r2 r3 r4
      rw [e, e1]
      omega
theorem hs_rnd (a : Int) {b : Int} (h : 0 < b) : (a.tmod b + b).tmod b = a % b := by
  have h1 := (tmod_bounds (a := a) h).1
  rw [Int.tmod_eq_emod_of_nonneg (by omega), Int.add_emod_right]
  have e := Int.mul_tdiv_add_tmod a b
  have e2 : a % b = (b * a.tdiv b + a.tmod b) % b := by rw [e]
  rw [e2, Int.mul_add_emod_self_left]
theorem hs_em1 (a k N : Int) : ((a % N) + k) % N = (a + k) % N := Int.emod_add_emod a N k
theorem hs_em2 (a k N : Int) : ((a % N) - k) % N = (a - k) % N := by
  rw [Int.sub_eq_add_neg, hs_em1, ← Int.sub_eq_add_neg]
theorem hs_stl {a b k N : Int} (h : (k = 0 ∧ b = a) ∨ b = (a + k) % N) : (b + 1) % N = (a + (k + 1)) % N := by
  rcases h with ⟨rfl, rfl⟩ | rfl
  · rw [Int.zero_add]
  · rw [hs_em1, Int.add_assoc]
theorem hs_str {a b k N : Int} (h : (k = 0 ∧ b = a) ∨ b = (a - k) % N) : (b - 1) % N = (a - (k + 1)) % N := by
  rcases h with ⟨rfl, rfl⟩ | rfl
  · rw [Int.zero_add]
  · rw [hs_em2, show a - k - 1 = a - (k + 1) by omega]
set_option maxHeartbeats 4000000 in
set_option maxRecDepth 100000 in
theorem c_X12_isIn (l : Launch) (a : Int) (ha : hs_R a) (b : Int) (hb : hs_R b) (d : Int) (hd : hs_R d) : hs_Met l yX12_isIn cX12_isIn 3 (some .boolean) 1 SHY (fun ad => [vI a, vI b, vI d]) (fun σ => GY σ σ) (hs_PI (fun σ z σ1 => σ = σ1 ∧ (z = 0 ∨ z = 1) ∧ (z = 1 ↔ b ≤ a ∧ a ≤ d))) := by
  refine hs_from pfX12_isIn (fun _ => Nat.le_of_ble_eq_true rfl) ?_
  intro p e s m args below meth c D dA ad A σ C hpre
  have C : hs_C p s m args meth c D dA SHY ad A 3 cX12_isIn RX12 (some .boolean) := C
  have g0 := hpre
  show hs_Wd p l e 1 s m args below meth c D dA SHY ad A 3 (hs_PI (fun σ z σ1 => σ = σ1 ∧ (z = 0 ∨ z = 1) ∧ (z = 1 ↔ b ≤ a ∧ a ≤ d)) σ) 0 [(0, vI a), (1, vI b), (2, vI d)] [] σ
  refine s_iload_n (pc := 0) C dX12_isIn_0 0 rfl ?_
  refine s_iload_n (pc := 1) C dX12_isIn_1 1 rfl ?_
  refine s_icmp_lt (pc := 2) C (tgt := 14) dX12_isIn_2 (by decide) ⟨by omega, by omega⟩ ⟨by omega, by omega⟩ (fun h2 => ?_) (fun h2 => ?_)
  · skip
    refine s_iconst (pc := 14) C dX12_isIn_14 ?_
    refine s_zret (pc := 15) C (by omega) dX12_isIn_15 ?_
    refine ⟨_, rfl, ?_⟩
    exact ⟨rfl, by first | omega | assumption | (constructor <;> omega) | (refine ⟨⟨?_, ?_⟩, ?_⟩ <;> omega) | (simp [hs_ss, hs_up]; omega) | (simp [hs_ss, hs_up]; done)⟩
  · skip
    refine s_iload_n (pc := 5) C dX12_isIn_5 0 rfl ?_
    refine s_iload_n (pc := 6) C dX12_isIn_6 2 rfl ?_
    refine s_icmp_gt (pc := 7) C (tgt := 14) dX12_isIn_7 (by decide) ⟨by omega, by omega⟩ ⟨by omega, by omega⟩ (fun h7 => ?_) (fun h7 => ?_)
    · skip
      refine s_iconst (pc := 14) C dX12_isIn_14 ?_
      refine s_zret (pc := 15) C (by omega) dX12_isIn_15 ?_
      refine ⟨_, rfl, ?_⟩
      exact ⟨rfl, by first | omega | assumption | (constructor <;> omega) | (refine ⟨⟨?_, ?_⟩, ?_⟩ <;> omega) | (simp [hs_ss, hs_up]; omega) | (simp [hs_ss, hs_up]; done)⟩
    · skip
      refine s_iconst (pc := 10) C dX12_isIn_10 ?_
      refine s_goto (pc := 11) C (tgt := 15) dX12_isIn_11 (by decide) ?_
      refine s_zret (pc := 15) C (by omega) dX12_isIn_15 ?_
      refine ⟨_, rfl, ?_⟩
      exact ⟨rfl, by first | omega | assumption | (constructor <;> omega) | (refine ⟨⟨?_, ?_⟩, ?_⟩ <;> omega) | (simp [hs_ss, hs_up]; omega) | (simp [hs_ss, hs_up]; done)⟩
set_option maxHeartbeats 4000000 in
set_option maxRecDepth 100000 in
theorem c_X12_isNumber (l : Launch) (a : Int) (ha : hs_R a) : hs_Met l yX12_isNumber cX12_isNumber 2 (some .boolean) 1 SHY (fun ad => [.ref (ad 0), vI a]) (fun σ => GY σ σ) (hs_PI (fun σ z σ1 => σ = σ1 ∧ (z = 0 ∨ z = 1) ∧ (z = 1 ↔ 0 ≤ a ∧ a < σ 0 3))) := by
  refine hs_from pfX12_isNumber (fun _ => Nat.le_of_ble_eq_true rfl) ?_
  intro p e s m args below meth c D dA ad A σ C hpre
  have C : hs_C p s m args meth c D dA SHY ad A 2 cX12_isNumber RX12 (some .boolean) := C
  have g0 := hpre
  show hs_Wd p l e 1 s m args below meth c D dA SHY ad A 2 (hs_PI (fun σ z σ1 => σ = σ1 ∧ (z = 0 ∨ z = 1) ∧ (z = 1 ↔ 0 ≤ a ∧ a < σ 0 3)) σ) 0 [(0, .ref (ad 0)), (1, vI a)] [] σ
  refine s_iload_n (pc := 0) C dX12_isNumber_0 1 rfl ?_
  refine s_if_lt (pc := 1) C (tgt := 16) dX12_isNumber_1 (by decide) ⟨by omega, by omega⟩ (fun h1 => ?_) (fun h1 => ?_)
  · skip
    refine s_iconst (pc := 16) C dX12_isNumber_16 ?_
    refine s_zret (pc := 17) C (by omega) dX12_isNumber_17 ?_
    refine ⟨_, rfl, ?_⟩
    exact ⟨rfl, by first | omega | assumption | (constructor <;> omega) | (refine ⟨⟨?_, ?_⟩, ?_⟩ <;> omega) | (simp [hs_ss, hs_up]; omega) | (simp [hs_ss, hs_up]; done)⟩
  · skip
    refine s_iload_n (pc := 4) C dX12_isNumber_4 1 rfl ?_
    refine s_aload_n (pc := 5) C dX12_isNumber_5 0 rfl ?_
    refine s_geti (q := 0) (ci := 12) (N := 68) (CN := RX12) (T := TX12) (pc := 6) C 3 dX12_isNumber_6 wlX12_13 rfl rfl rfl wfX12 (by decide) rfl (σ 0 3) rfl ?_
    have b6 : (10 : Int) ≤ σ 0 3 ∧ σ 0 3 ≤ 100 := g0.1 0 3
    refine s_icmp_ge (pc := 9) C (tgt := 16) dX12_isNumber_9 (by decide) ⟨by omega, by omega⟩ ⟨by omega, by omega⟩ (fun h9 => ?_) (fun h9 => ?_)
    · skip
      refine s_iconst (pc := 16) C dX12_isNumber_16 ?_
      refine s_zret (pc := 17) C (by omega) dX12_isNumber_17 ?_
      refine ⟨_, rfl, ?_⟩
      exact ⟨rfl, by first | omega | assumption | (constructor <;> omega) | (refine ⟨⟨?_, ?_⟩, ?_⟩ <;> omega) | (simp [hs_ss, hs_up]; omega) | (simp [hs_ss, hs_up]; done)⟩
    · skip
      refine s_iconst (pc := 12) C dX12_isNumber_12 ?_
      refine s_goto (pc := 13) C (tgt := 17) dX12_isNumber_13 (by decide) ?_
      refine s_zret (pc := 17) C (by omega) dX12_isNumber_17 ?_
      refine ⟨_, rfl, ?_⟩
      exact ⟨rfl, by first | omega | assumption | (constructor <;> omega) | (refine ⟨⟨?_, ?_⟩, ?_⟩ <;> omega) | (simp [hs_ss, hs_up]; omega) | (simp [hs_ss, hs_up]; done)⟩
set_option maxHeartbeats 4000000 in
set_option maxRecDepth 100000 in
theorem c_X12_isWheel (l : Launch) (a : Int) (ha : hs_R a) : hs_Met l yX12_isWheel cX12_isWheel 2 (some .boolean) 1 SHY (fun ad => [.ref (ad 0), vI a]) (fun σ => GY σ σ) (hs_PI (fun σ z σ1 => σ = σ1 ∧ (z = 0 ∨ z = 1) ∧ (z = 1 ↔ 0 ≤ a ∧ a < σ 0 6))) := by
  refine hs_from pfX12_isWheel (fun _ => Nat.le_of_ble_eq_true rfl) ?_
  intro p e s m args below meth c D dA ad A σ C hpre
  have C : hs_C p s m args meth c D dA SHY ad A 2 cX12_isWheel RX12 (some .boolean) := C
  have g0 := hpre
  show hs_Wd p l e 1 s m args below meth c D dA SHY ad A 2 (hs_PI (fun σ z σ1 => σ = σ1 ∧ (z = 0 ∨ z = 1) ∧ (z = 1 ↔ 0 ≤ a ∧ a < σ 0 6)) σ) 0 [(0, .ref (ad 0)), (1, vI a)] [] σ
  refine s_iload_n (pc := 0) C dX12_isWheel_0 1 rfl ?_
  refine s_if_lt (pc := 1) C (tgt := 16) dX12_isWheel_1 (by decide) ⟨by omega, by omega⟩ (fun h1 => ?_) (fun h1 => ?_)
  · skip
    refine s_iconst (pc := 16) C dX12_isWheel_16 ?_
    refine s_zret (pc := 17) C (by omega) dX12_isWheel_17 ?_
    refine ⟨_, rfl, ?_⟩
    exact ⟨rfl, by first | omega | assumption | (constructor <;> omega) | (refine ⟨⟨?_, ?_⟩, ?_⟩ <;> omega) | (simp [hs_ss, hs_up]; omega) | (simp [hs_ss, hs_up]; done)⟩
  · skip
    refine s_iload_n (pc := 4) C dX12_isWheel_4 1 rfl ?_
    refine s_aload_n (pc := 5) C dX12_isWheel_5 0 rfl ?_
    refine s_geti (q := 0) (ci := 12) (N := 68) (CN := RX12) (T := TX12) (pc := 6) C 6 dX12_isWheel_6 wlX12_141 rfl rfl rfl wfX12 (by decide) rfl (σ 0 6) rfl ?_
    have b6 : (0 : Int) ≤ σ 0 6 ∧ σ 0 6 ≤ 4 := g0.1 0 6
    refine s_icmp_ge (pc := 9) C (tgt := 16) dX12_isWheel_9 (by decide) ⟨by omega, by omega⟩ ⟨by omega, by omega⟩ (fun h9 => ?_) (fun h9 => ?_)
    · skip
      refine s_iconst (pc := 16) C dX12_isWheel_16 ?_
      refine s_zret (pc := 17) C (by omega) dX12_isWheel_17 ?_
      refine ⟨_, rfl, ?_⟩
      exact ⟨rfl, by first | omega | assumption | (constructor <;> omega) | (refine ⟨⟨?_, ?_⟩, ?_⟩ <;> omega) | (simp [hs_ss, hs_up]; omega) | (simp [hs_ss, hs_up]; done)⟩
    · skip
      refine s_iconst (pc := 12) C dX12_isWheel_12 ?_
      refine s_goto (pc := 13) C (tgt := 17) dX12_isWheel_13 (by decide) ?_
      refine s_zret (pc := 17) C (by omega) dX12_isWheel_17 ?_
      refine ⟨_, rfl, ?_⟩
      exact ⟨rfl, by first | omega | assumption | (constructor <;> omega) | (refine ⟨⟨?_, ?_⟩, ?_⟩ <;> omega) | (simp [hs_ss, hs_up]; omega) | (simp [hs_ss, hs_up]; done)⟩
set_option maxHeartbeats 4000000 in
set_option maxRecDepth 100000 in
theorem c_X12_round (l : Launch) (a : Int) (ha : hs_R a) : hs_Met l yX12_round cX12_round 2 (some .int) 1 SHY (fun ad => [.ref (ad 0), vI a]) (fun σ => GY σ σ) (hs_PI (fun σ z σ1 => σ = σ1 ∧ 0 ≤ z ∧ z ≤ 99 ∧ z < σ 0 3 ∧ z = a % (σ 0 3))) := by
  refine hs_from pfX12_round (fun _ => Nat.le_of_ble_eq_true rfl) ?_
  intro p e s m args below meth c D dA ad A σ C hpre
  have C : hs_C p s m args meth c D dA SHY ad A 2 cX12_round RX12 (some .int) := C
  have g0 := hpre
  have b3 : (10 : Int) ≤ σ 0 3 ∧ σ 0 3 ≤ 100 := g0.1 0 3
  have t1 := hs_tm_lo a (show 0 < σ 0 3 by omega)
  have t2 := hs_tm_hi a (show 0 < σ 0 3 by omega)
  have t3 := hs_rnd a (show 0 < σ 0 3 by omega)
  show hs_Wd p l e 1 s m args below meth c D dA SHY ad A 2 (hs_PI (fun σ z σ1 => σ = σ1 ∧ 0 ≤ z ∧ z ≤ 99 ∧ z < σ 0 3 ∧ z = a % (σ 0 3)) σ) 0 [(0, .ref (ad 0)), (1, vI a)] [] σ
  refine s_iload_n (pc := 0) C dX12_round_0 1 rfl ?_
  refine s_aload_n (pc := 1) C dX12_round_1 0 rfl ?_
  refine s_geti (q := 0) (ci := 12) (N := 68) (CN := RX12) (T := TX12) (pc := 2) C 3 dX12_round_2 wlX12_13 rfl rfl rfl wfX12 (by decide) rfl (σ 0 3) rfl ?_
  have b2 : (10 : Int) ≤ σ 0 3 ∧ σ 0 3 ≤ 100 := g0.1 0 3
  refine s_irem (pc := 5) C dX12_round_5 ⟨by omega, by omega⟩ ⟨by omega, by omega⟩ (by omega) ?_
  refine s_aload_n (pc := 6) C dX12_round_6 0 rfl ?_
  refine s_geti (q := 0) (ci := 12) (N := 68) (CN := RX12) (T := TX12) (pc := 7) C 3 dX12_round_7 wlX12_13 rfl rfl rfl wfX12 (by decide) rfl (σ 0 3) rfl ?_
  have b7 : (10 : Int) ≤ σ 0 3 ∧ σ 0 3 ≤ 100 := g0.1 0 3
  refine s_iadd (pc := 10) C dX12_round_10 ?_
  refine s_aload_n (pc := 11) C dX12_round_11 0 rfl ?_
  refine s_geti (q := 0) (ci := 12) (N := 68) (CN := RX12) (T := TX12) (pc := 12) C 3 dX12_round_12 wlX12_13 rfl rfl rfl wfX12 (by decide) rfl (σ 0 3) rfl ?_
  have b12 : (10 : Int) ≤ σ 0 3 ∧ σ 0 3 ≤ 100 := g0.1 0 3
  refine s_irem (pc := 15) C dX12_round_15 ⟨by omega, by omega⟩ ⟨by omega, by omega⟩ (by omega) ?_
  refine s_iret (pc := 16) C dX12_round_16 ?_
  refine ⟨_, rfl, ?_⟩
  rw [t3]
  have h1 := Int.emod_nonneg a (show σ 0 3 ≠ 0 by omega)
  have h2 := Int.emod_lt_of_pos a (show 0 < σ 0 3 by omega)
  exact ⟨rfl, h1, by omega, h2, rfl⟩
set_option maxHeartbeats 4000000 in
set_option maxRecDepth 100000 in
theorem c_X12_far (l : Launch) (a b : Int) (ha : -10000 ≤ a ∧ a ≤ 10000) (hb : -10000 ≤ b ∧ b ≤ 10000) : hs_Met l yX12_far cX12_far 4 (some .int) 2 SHY (fun ad => [.ref (ad 0), vI a, vI b]) (fun σ => GY σ σ) (hs_PI (fun σ z σ1 => σ = σ1 ∧ 0 ≤ z ∧ z ≤ 100 ∧ z = farY (σ 0 3) a b)) := by
  refine hs_from pfX12_far (fun _ => Nat.le_of_ble_eq_true rfl) ?_
  intro p e s m args below meth c D dA ad A σ C hpre
  have C : hs_C p s m args meth c D dA SHY ad A 4 cX12_far RX12 (some .int) := C
  have g0 := hpre
  show hs_Wd p l e 2 s m args below meth c D dA SHY ad A 4 (hs_PI (fun σ z σ1 => σ = σ1 ∧ 0 ≤ z ∧ z ≤ 100 ∧ z = farY (σ 0 3) a b) σ) 0 [(0, .ref (ad 0)), (1, vI a), (2, vI b)] [] σ
  refine s_aload_n (pc := 0) C dX12_far_0 0 rfl ?_
  refine s_iload_n (pc := 1) C dX12_far_1 1 rfl ?_
  refine s_iload_n (pc := 2) C dX12_far_2 2 rfl ?_
  refine s_isub (pc := 3) C dX12_far_3 ?_
  refine s_callVi (pc := 4) C (c_X12_round l (a - b) ⟨by omega, by omega⟩) [vI (a - b)] [] rfl rfl dX12_far_4 wlX12_144 wiX12_round weX12_round wcX12_round wnX12 noX12_round (by decide) (by decide) (Nat.le_of_ble_eq_true rfl) (gy_self g0) rfl rfl ?_
  rintro z4 _ ⟨rfl, k4⟩
  show hs_Wd _ _ _ _ _ _ _ _ _ _ _ _ _ _ _ _ _ 7 _ [vI z4] σ
  refine s_istore_n (pc := 7) C [(3, vI z4), (0, .ref (ad 0)), (1, vI a), (2, vI b)] dX12_far_7 (by decide) rfl ?_
  refine s_iload_n (pc := 8) C dX12_far_8 0 rfl ?_
  refine s_aload_n (pc := 9) C dX12_far_9 1 rfl ?_
  refine s_geti (q := 0) (ci := 12) (N := 68) (CN := RX12) (T := TX12) (pc := 10) C 3 dX12_far_10 wlX12_13 rfl rfl rfl wfX12 (by decide) rfl (σ 0 3) rfl ?_
  have b10 : (10 : Int) ≤ σ 0 3 ∧ σ 0 3 ≤ 100 := g0.1 0 3
  refine s_iload_n (pc := 13) C dX12_far_13 0 rfl ?_
  refine s_isub (pc := 14) C dX12_far_14 ?_
  refine s_icmp_le (pc := 15) C (tgt := 27) dX12_far_15 (by decide) ⟨by omega, by omega⟩ ⟨by omega, by omega⟩ (fun h15 => ?_) (fun h15 => ?_)
  · skip
    refine s_iload_n (pc := 27) C dX12_far_27 0 rfl ?_
    refine s_iret (pc := 28) C dX12_far_28 ?_
    refine ⟨_, rfl, ?_⟩
    exact ⟨rfl, ⟨by omega, by omega, by unfold farY; rw [← k4.2.2.2]; split <;> omega⟩⟩
  · skip
    refine s_aload_n (pc := 18) C dX12_far_18 1 rfl ?_
    refine s_geti (q := 0) (ci := 12) (N := 68) (CN := RX12) (T := TX12) (pc := 19) C 3 dX12_far_19 wlX12_13 rfl rfl rfl wfX12 (by decide) rfl (σ 0 3) rfl ?_
    have b19 : (10 : Int) ≤ σ 0 3 ∧ σ 0 3 ≤ 100 := g0.1 0 3
    refine s_iload_n (pc := 22) C dX12_far_22 0 rfl ?_
    refine s_isub (pc := 23) C dX12_far_23 ?_
    refine s_goto (pc := 24) C (tgt := 28) dX12_far_24 (by decide) ?_
    refine s_iret (pc := 28) C dX12_far_28 ?_
    refine ⟨_, rfl, ?_⟩
    exact ⟨rfl, ⟨by omega, by omega, by unfold farY; rw [← k4.2.2.2]; split <;> omega⟩⟩
set_option maxHeartbeats 4000000 in
set_option maxRecDepth 100000 in
theorem g0_X12_goes (l : Launch) (n : Int) (hn : hs_R n) : hs_Met l yX12_goes cX12_goes 4 none 3 SHY (fun ad => [.ref (ad 0), vI 0, vI n]) (fun σ => GY σ σ) (hs_PV (fun σ σ1 => GY σ σ1 ∧ FRM PGs σ σ1 ∧ σ1 0 4 = (if (0 : Int) = 0 then σ 0 4 - 1 else σ 0 4 + 1) % (σ 0 3) ∧ σ1 0 4 < σ 0 3 ∧ (n < σ 0 6 → (0 < PLS (0 : Int) n σ → PLS (0 : Int) n σ1 = PLS (0 : Int) n σ - 1 ∧ σ1 0 23 = 0) ∧ (PLS (0 : Int) n σ = 0 → PLS (0 : Int) n σ1 = 0 ∧ σ1 0 23 = 1)))) := by
  refine hs_from pfX12_goes (fun _ => Nat.le_of_ble_eq_true rfl) ?_
  intro p e s m args below meth c D dA ad A σ C hpre
  have C : hs_C p s m args meth c D dA SHY ad A 4 cX12_goes RX12 none := C
  have g0 := hpre
  have f0 : FRM PGs σ σ := frm_rf
  show hs_Wd p l e 3 s m args below meth c D dA SHY ad A 4 (hs_PV (fun σ σ1 => GY σ σ1 ∧ FRM PGs σ σ1 ∧ σ1 0 4 = (if (0 : Int) = 0 then σ 0 4 - 1 else σ 0 4 + 1) % (σ 0 3) ∧ σ1 0 4 < σ 0 3 ∧ (n < σ 0 6 → (0 < PLS (0 : Int) n σ → PLS (0 : Int) n σ1 = PLS (0 : Int) n σ - 1 ∧ σ1 0 23 = 0) ∧ (PLS (0 : Int) n σ = 0 → PLS (0 : Int) n σ1 = 0 ∧ σ1 0 23 = 1))) σ) 0 [(0, .ref (ad 0)), (1, vI 0), (2, vI n)] [] σ
  refine s_aload_n (pc := 0) C dX12_goes_0 0 rfl ?_
  refine s_aload_n (pc := 1) C dX12_goes_1 0 rfl ?_
  refine s_iload_n (pc := 2) C dX12_goes_2 1 rfl ?_
  refine s_if_eq (pc := 3) C (tgt := 15) dX12_goes_3 (by decide) ⟨by decide, by decide⟩ (fun h3 => ?_) (fun h3 => ?_)
  · skip
    refine s_aload_n (pc := 15) C dX12_goes_15 0 rfl ?_
    refine s_geti (q := 0) (ci := 12) (N := 68) (CN := RX12) (T := TX12) (pc := 16) C 4 dX12_goes_16 wlX12_148 rfl rfl rfl wfX12 (by decide) rfl (σ 0 4) rfl ?_
    have b16 : (0 : Int) ≤ σ 0 4 ∧ σ 0 4 ≤ 99 := g0.1 0 4
    refine s_iconst (pc := 19) C dX12_goes_19 ?_
    refine s_isub (pc := 20) C dX12_goes_20 ?_
    refine s_callVi (pc := 21) C (c_X12_round l ((σ 0 4) - 1) ⟨by omega, by omega⟩) [vI ((σ 0 4) - 1)] [.ref (ad 0)] rfl rfl dX12_goes_21 wlX12_144 wiX12_round weX12_round wcX12_round wnX12 noX12_round (by decide) (by decide) (Nat.le_of_ble_eq_true rfl) (gy_self g0) rfl rfl ?_
    rintro z21 _ ⟨rfl, k21⟩
    show hs_Wd _ _ _ _ _ _ _ _ _ _ _ _ _ _ _ _ _ 24 _ [vI z21, .ref (ad 0)] σ
    refine s_puti (q := 0) (ci := 12) (N := 68) (CN := RX12) (T := TX12) (ty0 := tyX12) (ty := .int) (pc := 24) C 4 dX12_goes_24 wlX12_148 rfl rfl rfl wfX12 tyX12_ok nmX12 (by decide) rfl rfl rfl (vp_nar_int _) rfl ?_
    have g24 := gy_set (z := z21) g0 0 4 rfl (0) (99) rfl ⟨by omega, by omega⟩
    have f24 := frm_set (P := PGs) (z := z21) f0 0 4 rfl
    refine s_aload_n (pc := 27) C dX12_goes_27 0 rfl ?_
    refine s_iload_n (pc := 28) C dX12_goes_28 1 rfl ?_
    refine s_if_eq (pc := 29) C (tgt := 36) dX12_goes_29 (by decide) ⟨by decide, by decide⟩ (fun h29 => ?_) (fun h29 => ?_)
    · skip
      refine s_iconst (pc := 36) C dX12_goes_36 ?_
      refine s_puti (q := 0) (ci := 12) (N := 68) (CN := RX12) (T := TX12) (ty0 := tyX12) (ty := .int) (pc := 37) C 5 dX12_goes_37 wlX12_151 rfl rfl rfl wfX12 tyX12_ok nmX12 (by decide) rfl rfl rfl (vp_nar_int _) rfl ?_
      have g37 := gy_set (z := 2) g24 0 5 rfl (0) (2) rfl ⟨by omega, by omega⟩
      have f37 := frm_set (P := PGs) (z := 2) f24 0 5 rfl
      refine s_aload_n (pc := 40) C dX12_goes_40 0 rfl ?_
      refine s_iconst (pc := 41) C dX12_goes_41 ?_
      refine s_puti (q := 0) (ci := 12) (N := 68) (CN := RX12) (T := TX12) (ty0 := tyX12) (ty := .boolean) (pc := 42) C 23 dX12_goes_42 wlX12_154 rfl rfl rfl wfX12 tyX12_ok nmX12 (by decide) rfl rfl rfl (hs_nz (by omega)) (hs_fz (by omega)) ?_
      have g42 := gy_set (z := 1) g37 0 23 rfl (0) (1) rfl ⟨by omega, by omega⟩
      have f42 := frm_set (P := PGs) (z := 1) f37 0 23 rfl
      refine s_iconst (pc := 45) C dX12_goes_45 ?_
      refine s_istore_n (pc := 46) C [(3, vI 0), (0, .ref (ad 0)), (1, vI 0), (2, vI n)] dX12_goes_46 (by decide) rfl ?_
      refine s_sub C [1, 2, 3, 0] [(0, .ref (ad 0)), (1, vI 0), (2, vI n), (3, vI 0)] rfl ?_
      have hi47 : GY σ ((hs_ss (hs_ss (hs_ss σ 0 4 z21) 0 5 2) 0 23 1)) ∧ FRM PGs σ ((hs_ss (hs_ss (hs_ss σ 0 4 z21) 0 5 2) 0 23 1)) ∧ 0 ≤ (0 : Int) ∧ (0 : Int) ≤ 4 ∧ ((hs_ss (hs_ss (hs_ss σ 0 4 z21) 0 5 2) 0 23 1)) 0 4 = (if (0 : Int) = 0 then σ 0 4 - 1 else σ 0 4 + 1) % (σ 0 3) ∧ ((hs_ss (hs_ss (hs_ss σ 0 4 z21) 0 5 2) 0 23 1)) 0 4 < σ 0 3 ∧ ((hs_ss (hs_ss (hs_ss σ 0 4 z21) 0 5 2) 0 23 1)) 0 23 = 1 ∧ (∀ j : Nat, ((hs_ss (hs_ss (hs_ss σ 0 4 z21) 0 5 2) 0 23 1)) 11 j = σ 11 j) ∧ (∀ k : Nat, (k : Int) < (0 : Int) → PLk (0 : Int) σ k = 0) := ⟨g42, f42, ⟨by omega, by omega, by first | exact k21.2.2.2 | (rw [if_pos (by omega)]; exact k21.2.2.2) | (rw [if_neg (by omega)]; exact k21.2.2.2), k21.2.2.1, rfl, fun j => rfl, fun k hk => by exfalso; omega⟩⟩
      refine hs_loop (α := Int × hs_S) (fun x_ => (GY σ x_.2 ∧ FRM PGs σ x_.2 ∧ 0 ≤ x_.1 ∧ x_.1 ≤ 4 ∧ x_.2 0 4 = (if (0 : Int) = 0 then σ 0 4 - 1 else σ 0 4 + 1) % (σ 0 3) ∧ x_.2 0 4 < σ 0 3 ∧ x_.2 0 23 = 1 ∧ (∀ j : Nat, x_.2 11 j = σ 11 j) ∧ (∀ k : Nat, (k : Int) < x_.1 → PLk (0 : Int) σ k = 0)) → hs_Wd p l e 3 s m args below meth c D dA SHY ad A 4 (hs_PV (fun σ σ1 => GY σ σ1 ∧ FRM PGs σ σ1 ∧ σ1 0 4 = (if (0 : Int) = 0 then σ 0 4 - 1 else σ 0 4 + 1) % (σ 0 3) ∧ σ1 0 4 < σ 0 3 ∧ (n < σ 0 6 → (0 < PLS (0 : Int) n σ → PLS (0 : Int) n σ1 = PLS (0 : Int) n σ - 1 ∧ σ1 0 23 = 0) ∧ (PLS (0 : Int) n σ = 0 → PLS (0 : Int) n σ1 = 0 ∧ σ1 0 23 = 1))) σ) 47 [(0, .ref (ad 0)), (1, vI 0), (2, vI n), (3, vI x_.1)] [] x_.2) (fun x_ => (5 - x_.1).toNat) ?_ (0, (hs_ss (hs_ss (hs_ss σ 0 4 z21) 0 5 2) 0 23 1)) hi47
      rintro ⟨w, σ1⟩ ih47 hinv
      replace hinv : GY σ σ1 ∧ FRM PGs σ σ1 ∧ 0 ≤ w ∧ w ≤ 4 ∧ σ1 0 4 = (if (0 : Int) = 0 then σ 0 4 - 1 else σ 0 4 + 1) % (σ 0 3) ∧ σ1 0 4 < σ 0 3 ∧ σ1 0 23 = 1 ∧ (∀ j : Nat, σ1 11 j = σ 11 j) ∧ (∀ k : Nat, (k : Int) < w → PLk (0 : Int) σ k = 0) := hinv
      obtain ⟨hg47, hf47, hv47⟩ := hinv
      show hs_Wd p l e 3 s m args below meth c D dA SHY ad A 4 (hs_PV (fun σ σ1 => GY σ σ1 ∧ FRM PGs σ σ1 ∧ σ1 0 4 = (if (0 : Int) = 0 then σ 0 4 - 1 else σ 0 4 + 1) % (σ 0 3) ∧ σ1 0 4 < σ 0 3 ∧ (n < σ 0 6 → (0 < PLS (0 : Int) n σ → PLS (0 : Int) n σ1 = PLS (0 : Int) n σ - 1 ∧ σ1 0 23 = 0) ∧ (PLS (0 : Int) n σ = 0 → PLS (0 : Int) n σ1 = 0 ∧ σ1 0 23 = 1))) σ) 47 [(0, .ref (ad 0)), (1, vI 0), (2, vI n), (3, vI w)] [] σ1
      obtain ⟨hw0, hw4, h4, h4b, h23, h11, hz⟩ := hv47
      have e3 : σ1 0 3 = σ 0 3 := hf47 0 3 rfl
      have e6 : σ1 0 6 = σ 0 6 := hf47 0 6 rfl
      have e11 := h11 w.toNat
      have e2 : σ1 2 w.toNat = σ 2 w.toNat := hf47 2 w.toNat rfl
      refine s_iload_n (pc := 47) C dX12_goes_47 3 rfl ?_
      refine s_aload_n (pc := 48) C dX12_goes_48 0 rfl ?_
      refine s_geti (q := 0) (ci := 12) (N := 68) (CN := RX12) (T := TX12) (pc := 49) C 6 dX12_goes_49 wlX12_141 rfl rfl rfl wfX12 (by decide) rfl (σ1 0 6) rfl ?_
      have b49 : (0 : Int) ≤ σ1 0 6 ∧ σ1 0 6 ≤ 4 := hg47.1 0 6
      refine s_icmp_ge (pc := 52) C (tgt := 159) dX12_goes_52 (by decide) ⟨by omega, by omega⟩ ⟨by omega, by omega⟩ (fun h52 => ?_) (fun h52 => ?_)
      · skip
        refine s_vret (pc := 159) C dX12_goes_159 ?_
        refine ⟨rfl, ?_⟩
        refine ⟨hg47, hf47, h4, h4b, fun hn6 => ?_⟩
        have q0 := pls_zero hz (show n < w by omega)
        have q1 : PLS (0 : Int) n σ1 = PLS (0 : Int) n σ := pls_cg (fun k => by simp [PLk, h11 k, (hf47 2 k rfl : σ1 2 k = σ 2 k), e3])
        exact ⟨fun q => by exfalso; omega, fun _ => ⟨by omega, h23⟩⟩
      · skip
        refine s_iload_n (pc := 55) C dX12_goes_55 1 rfl ?_
        refine s_if_eq (pc := 56) C (tgt := 82) dX12_goes_56 (by decide) ⟨by decide, by decide⟩ (fun h56 => ?_) (fun h56 => ?_)
        · skip
          refine s_aload_n (pc := 82) C dX12_goes_82 0 rfl ?_
          refine s_getr (q := 0) (ci := 12) (N := 68) (CN := RX12) (T := TX12) (pc := 83) C 16 dX12_goes_83 wlX12_44 rfl rfl rfl wfX12 (by decide) rfl ?_
          refine s_iload_n (pc := 86) C dX12_goes_86 3 rfl ?_
          refine s_iald (q := 11) (n := 4) (pc := 87) C (σ1 11 w.toNat) rfl dX12_goes_87 rfl (by omega) (by omega) (by decide) ?_
          have b87 : (0 : Int) ≤ σ1 11 w.toNat ∧ σ1 11 w.toNat ≤ 100 := hg47.1 11 w.toNat
          refine s_if_le (pc := 88) C (tgt := 120) dX12_goes_88 (by decide) ⟨by omega, by omega⟩ (fun h88 => ?_) (fun h88 => ?_)
          · skip
            refine s_aload_n (pc := 120) C dX12_goes_120 0 rfl ?_
            refine s_getr (q := 0) (ci := 12) (N := 68) (CN := RX12) (T := TX12) (pc := 121) C 15 dX12_goes_121 wlX12_41 rfl rfl rfl wfX12 (by decide) rfl ?_
            refine s_iload_n (pc := 124) C dX12_goes_124 3 rfl ?_
            refine s_aload_n (pc := 125) C dX12_goes_125 0 rfl ?_
            refine s_iload_n (pc := 126) C dX12_goes_126 1 rfl ?_
            refine s_if_eq (pc := 127) C (tgt := 141) dX12_goes_127 (by decide) ⟨by decide, by decide⟩ (fun h127 => ?_) (fun h127 => ?_)
            · skip
              refine s_aload_n (pc := 141) C dX12_goes_141 0 rfl ?_
              refine s_getr (q := 0) (ci := 12) (N := 68) (CN := RX12) (T := TX12) (pc := 142) C 15 dX12_goes_142 wlX12_41 rfl rfl rfl wfX12 (by decide) rfl ?_
              refine s_iload_n (pc := 145) C dX12_goes_145 3 rfl ?_
              refine s_iald (q := 10) (n := 4) (pc := 146) C (σ1 10 w.toNat) rfl dX12_goes_146 rfl (by omega) (by omega) (by decide) ?_
              have b146 : (0 : Int) ≤ σ1 10 w.toNat ∧ σ1 10 w.toNat ≤ 99 := hg47.1 10 w.toNat
              refine s_iconst (pc := 147) C dX12_goes_147 ?_
              refine s_isub (pc := 148) C dX12_goes_148 ?_
              refine s_callVi (pc := 149) C (c_X12_round l ((σ1 10 w.toNat) - 1) ⟨by omega, by omega⟩) [vI ((σ1 10 w.toNat) - 1)] [vI w, .ref (ad 10)] rfl rfl dX12_goes_149 wlX12_144 wiX12_round weX12_round wcX12_round wnX12 noX12_round (by decide) (by decide) (Nat.le_of_ble_eq_true rfl) (gy_self hg47) rfl rfl ?_
              rintro z149 _ ⟨rfl, k149⟩
              show hs_Wd _ _ _ _ _ _ _ _ _ _ _ _ _ _ _ _ _ 152 _ [vI z149, vI w, .ref (ad 10)] σ1
              refine s_iast (q := 10) (n := 4) (pc := 152) C dX12_goes_152 rfl (by omega) (by omega) (by decide) ?_
              have g152 := gy_set (z := z149) hg47 10 w.toNat rfl (0) (99) rfl ⟨by omega, by omega⟩
              have f152 := frm_set (P := PGs) (z := z149) hf47 10 w.toNat rfl
              refine s_iinc (pc := 153) C [(3, vI (w + 1)), (0, .ref (ad 0)), (1, vI 0), (2, vI n)] dX12_goes_153 3 rfl (by decide) rfl ?_
              refine s_goto (pc := 156) C (tgt := 47) dX12_goes_156 (by decide) ?_
              refine s_sub C [1, 2, 3, 0] [(0, .ref (ad 0)), (1, vI 0), (2, vI n), (3, vI (w + 1))] rfl ?_
              have hi47 : GY σ ((hs_ss σ1 10 w.toNat z149)) ∧ FRM PGs σ ((hs_ss σ1 10 w.toNat z149)) ∧ 0 ≤ (w + 1) ∧ (w + 1) ≤ 4 ∧ ((hs_ss σ1 10 w.toNat z149)) 0 4 = (if (0 : Int) = 0 then σ 0 4 - 1 else σ 0 4 + 1) % (σ 0 3) ∧ ((hs_ss σ1 10 w.toNat z149)) 0 4 < σ 0 3 ∧ ((hs_ss σ1 10 w.toNat z149)) 0 23 = 1 ∧ (∀ j : Nat, ((hs_ss σ1 10 w.toNat z149)) 11 j = σ 11 j) ∧ (∀ k : Nat, (k : Int) < (w + 1) → PLk (0 : Int) σ k = 0) := ⟨g152, f152, ⟨by omega, by omega, h4, h4b, h23, h11, fun k hk => by by_cases e : (k : Int) < w; (exact hz k e); have e2 : k = w.toNat := (by omega); rw [e2]; unfold PLk; split <;> omega⟩⟩
              exact ih47 (w + 1, (hs_ss σ1 10 w.toNat z149)) (by first | omega | (simp only []; omega)) hi47
            · exact absurd h127 (by decide)
          · skip
            refine s_aload_n (pc := 91) C dX12_goes_91 0 rfl ?_
            refine s_getr (q := 0) (ci := 12) (N := 68) (CN := RX12) (T := TX12) (pc := 92) C 16 dX12_goes_92 wlX12_44 rfl rfl rfl wfX12 (by decide) rfl ?_
            refine s_iload_n (pc := 95) C dX12_goes_95 3 rfl ?_
            refine s_dup2 (pc := 96) C dX12_goes_96 rfl rfl ?_
            refine s_iald (q := 11) (n := 4) (pc := 97) C (σ1 11 w.toNat) rfl dX12_goes_97 rfl (by omega) (by omega) (by decide) ?_
            have b97 : (0 : Int) ≤ σ1 11 w.toNat ∧ σ1 11 w.toNat ≤ 100 := hg47.1 11 w.toNat
            refine s_iload_n (pc := 98) C dX12_goes_98 1 rfl ?_
            refine s_if_eq (pc := 99) C (tgt := 106) dX12_goes_99 (by decide) ⟨by decide, by decide⟩ (fun h99 => ?_) (fun h99 => ?_)
            · skip
              refine s_iconst (pc := 106) C dX12_goes_106 ?_
              refine s_iadd (pc := 107) C dX12_goes_107 ?_
              refine s_iast (q := 11) (n := 4) (pc := 108) C dX12_goes_108 rfl (by omega) (by omega) (by decide) ?_
              have g108 := gy_set (z := ((σ1 11 w.toNat) + ((-1)))) hg47 11 w.toNat rfl (0) (100) rfl ⟨by omega, by omega⟩
              have f108 := frm_set (P := PGs) (z := ((σ1 11 w.toNat) + ((-1)))) hf47 11 w.toNat rfl
              refine s_iload_n (pc := 109) C dX12_goes_109 3 rfl ?_
              refine s_iload_n (pc := 110) C dX12_goes_110 2 rfl ?_
              refine s_icmp_gt (pc := 111) C (tgt := 119) dX12_goes_111 (by decide) ⟨by omega, by omega⟩ ⟨by omega, by omega⟩ (fun h111 => ?_) (fun h111 => ?_)
              · skip
                refine s_vret (pc := 119) C dX12_goes_119 ?_
                refine ⟨rfl, ?_⟩
                refine ⟨g108, f108, h4, h4b, fun hn6 => ?_⟩
                exact (by have hq := pls_dec (b := (0 : Int)) (n := n) (w := w) (σ := σ) (σ1 := (hs_ss σ1 11 w.toNat ((σ1 11 w.toNat) + ((-1))))) hw0 (by omega) hz (by unfold PLk; split <;> omega) (by simp [PLk, hs_ss, hs_up] <;> omega) (fun k hk => by simp [PLk, hs_ss, hs_up, hk, h11 k, (hf47 2 k rfl : σ1 2 k = σ 2 k), e3]) (fun k => plk_nn g0 k); exact ⟨fun q => ⟨by omega, by first | rfl | (exfalso; omega)⟩, fun q => ⟨by omega, by first | exact h23 | (exfalso; omega)⟩⟩)
              · skip
                refine s_aload_n (pc := 114) C dX12_goes_114 0 rfl ?_
                refine s_iconst (pc := 115) C dX12_goes_115 ?_
                refine s_puti (q := 0) (ci := 12) (N := 68) (CN := RX12) (T := TX12) (ty0 := tyX12) (ty := .boolean) (pc := 116) C 23 dX12_goes_116 wlX12_154 rfl rfl rfl wfX12 tyX12_ok nmX12 (by decide) rfl rfl rfl (hs_nz (by omega)) (hs_fz (by omega)) ?_
                have g116 := gy_set (z := 0) g108 0 23 rfl (0) (1) rfl ⟨by omega, by omega⟩
                have f116 := frm_set (P := PGs) (z := 0) f108 0 23 rfl
                refine s_vret (pc := 119) C dX12_goes_119 ?_
                refine ⟨rfl, ?_⟩
                refine ⟨g116, f116, h4, h4b, fun hn6 => ?_⟩
                exact (by have hq := pls_dec (b := (0 : Int)) (n := n) (w := w) (σ := σ) (σ1 := (hs_ss (hs_ss σ1 11 w.toNat ((σ1 11 w.toNat) + ((-1)))) 0 23 0)) hw0 (by omega) hz (by unfold PLk; split <;> omega) (by simp [PLk, hs_ss, hs_up] <;> omega) (fun k hk => by simp [PLk, hs_ss, hs_up, hk, h11 k, (hf47 2 k rfl : σ1 2 k = σ 2 k), e3]) (fun k => plk_nn g0 k); exact ⟨fun q => ⟨by omega, by first | rfl | (exfalso; omega)⟩, fun q => ⟨by omega, by first | exact h23 | (exfalso; omega)⟩⟩)
            · exact absurd h99 (by decide)
        · exact absurd h56 (by decide)
    · exact absurd h29 (by decide)
  · exact absurd h3 (by decide)
set_option maxHeartbeats 4000000 in
set_option maxRecDepth 100000 in
theorem g1_X12_goes (l : Launch) (n : Int) (hn : hs_R n) : hs_Met l yX12_goes cX12_goes 4 none 3 SHY (fun ad => [.ref (ad 0), vI 1, vI n]) (fun σ => GY σ σ) (hs_PV (fun σ σ1 => GY σ σ1 ∧ FRM PGs σ σ1 ∧ σ1 0 4 = (if (1 : Int) = 0 then σ 0 4 - 1 else σ 0 4 + 1) % (σ 0 3) ∧ σ1 0 4 < σ 0 3 ∧ (n < σ 0 6 → (0 < PLS (1 : Int) n σ → PLS (1 : Int) n σ1 = PLS (1 : Int) n σ - 1 ∧ σ1 0 23 = 0) ∧ (PLS (1 : Int) n σ = 0 → PLS (1 : Int) n σ1 = 0 ∧ σ1 0 23 = 1)))) := by
  refine hs_from pfX12_goes (fun _ => Nat.le_of_ble_eq_true rfl) ?_
  intro p e s m args below meth c D dA ad A σ C hpre
  have C : hs_C p s m args meth c D dA SHY ad A 4 cX12_goes RX12 none := C
  have g0 := hpre
  have f0 : FRM PGs σ σ := frm_rf
  show hs_Wd p l e 3 s m args below meth c D dA SHY ad A 4 (hs_PV (fun σ σ1 => GY σ σ1 ∧ FRM PGs σ σ1 ∧ σ1 0 4 = (if (1 : Int) = 0 then σ 0 4 - 1 else σ 0 4 + 1) % (σ 0 3) ∧ σ1 0 4 < σ 0 3 ∧ (n < σ 0 6 → (0 < PLS (1 : Int) n σ → PLS (1 : Int) n σ1 = PLS (1 : Int) n σ - 1 ∧ σ1 0 23 = 0) ∧ (PLS (1 : Int) n σ = 0 → PLS (1 : Int) n σ1 = 0 ∧ σ1 0 23 = 1))) σ) 0 [(0, .ref (ad 0)), (1, vI 1), (2, vI n)] [] σ
  refine s_aload_n (pc := 0) C dX12_goes_0 0 rfl ?_
  refine s_aload_n (pc := 1) C dX12_goes_1 0 rfl ?_
  refine s_iload_n (pc := 2) C dX12_goes_2 1 rfl ?_
  refine s_if_eq (pc := 3) C (tgt := 15) dX12_goes_3 (by decide) ⟨by decide, by decide⟩ (fun h3 => ?_) (fun h3 => ?_)
  · exact absurd h3 (by decide)
  · skip
    refine s_aload_n (pc := 6) C dX12_goes_6 0 rfl ?_
    refine s_geti (q := 0) (ci := 12) (N := 68) (CN := RX12) (T := TX12) (pc := 7) C 4 dX12_goes_7 wlX12_148 rfl rfl rfl wfX12 (by decide) rfl (σ 0 4) rfl ?_
    have b7 : (0 : Int) ≤ σ 0 4 ∧ σ 0 4 ≤ 99 := g0.1 0 4
    refine s_iconst (pc := 10) C dX12_goes_10 ?_
    refine s_iadd (pc := 11) C dX12_goes_11 ?_
    refine s_goto (pc := 12) C (tgt := 21) dX12_goes_12 (by decide) ?_
    refine s_callVi (pc := 21) C (c_X12_round l ((σ 0 4) + 1) ⟨by omega, by omega⟩) [vI ((σ 0 4) + 1)] [.ref (ad 0)] rfl rfl dX12_goes_21 wlX12_144 wiX12_round weX12_round wcX12_round wnX12 noX12_round (by decide) (by decide) (Nat.le_of_ble_eq_true rfl) (gy_self g0) rfl rfl ?_
    rintro z21 _ ⟨rfl, k21⟩
    show hs_Wd _ _ _ _ _ _ _ _ _ _ _ _ _ _ _ _ _ 24 _ [vI z21, .ref (ad 0)] σ
    refine s_puti (q := 0) (ci := 12) (N := 68) (CN := RX12) (T := TX12) (ty0 := tyX12) (ty := .int) (pc := 24) C 4 dX12_goes_24 wlX12_148 rfl rfl rfl wfX12 tyX12_ok nmX12 (by decide) rfl rfl rfl (vp_nar_int _) rfl ?_
    have g24 := gy_set (z := z21) g0 0 4 rfl (0) (99) rfl ⟨by omega, by omega⟩
    have f24 := frm_set (P := PGs) (z := z21) f0 0 4 rfl
    refine s_aload_n (pc := 27) C dX12_goes_27 0 rfl ?_
    refine s_iload_n (pc := 28) C dX12_goes_28 1 rfl ?_
    refine s_if_eq (pc := 29) C (tgt := 36) dX12_goes_29 (by decide) ⟨by decide, by decide⟩ (fun h29 => ?_) (fun h29 => ?_)
    · exact absurd h29 (by decide)
    · skip
      refine s_iconst (pc := 32) C dX12_goes_32 ?_
      refine s_goto (pc := 33) C (tgt := 37) dX12_goes_33 (by decide) ?_
      refine s_puti (q := 0) (ci := 12) (N := 68) (CN := RX12) (T := TX12) (ty0 := tyX12) (ty := .int) (pc := 37) C 5 dX12_goes_37 wlX12_151 rfl rfl rfl wfX12 tyX12_ok nmX12 (by decide) rfl rfl rfl (vp_nar_int _) rfl ?_
      have g37 := gy_set (z := 1) g24 0 5 rfl (0) (2) rfl ⟨by omega, by omega⟩
      have f37 := frm_set (P := PGs) (z := 1) f24 0 5 rfl
      refine s_aload_n (pc := 40) C dX12_goes_40 0 rfl ?_
      refine s_iconst (pc := 41) C dX12_goes_41 ?_
      refine s_puti (q := 0) (ci := 12) (N := 68) (CN := RX12) (T := TX12) (ty0 := tyX12) (ty := .boolean) (pc := 42) C 23 dX12_goes_42 wlX12_154 rfl rfl rfl wfX12 tyX12_ok nmX12 (by decide) rfl rfl rfl (hs_nz (by omega)) (hs_fz (by omega)) ?_
      have g42 := gy_set (z := 1) g37 0 23 rfl (0) (1) rfl ⟨by omega, by omega⟩
      have f42 := frm_set (P := PGs) (z := 1) f37 0 23 rfl
      refine s_iconst (pc := 45) C dX12_goes_45 ?_
      refine s_istore_n (pc := 46) C [(3, vI 0), (0, .ref (ad 0)), (1, vI 1), (2, vI n)] dX12_goes_46 (by decide) rfl ?_
      refine s_sub C [1, 2, 3, 0] [(0, .ref (ad 0)), (1, vI 1), (2, vI n), (3, vI 0)] rfl ?_
      have hi47 : GY σ ((hs_ss (hs_ss (hs_ss σ 0 4 z21) 0 5 1) 0 23 1)) ∧ FRM PGs σ ((hs_ss (hs_ss (hs_ss σ 0 4 z21) 0 5 1) 0 23 1)) ∧ 0 ≤ (0 : Int) ∧ (0 : Int) ≤ 4 ∧ ((hs_ss (hs_ss (hs_ss σ 0 4 z21) 0 5 1) 0 23 1)) 0 4 = (if (1 : Int) = 0 then σ 0 4 - 1 else σ 0 4 + 1) % (σ 0 3) ∧ ((hs_ss (hs_ss (hs_ss σ 0 4 z21) 0 5 1) 0 23 1)) 0 4 < σ 0 3 ∧ ((hs_ss (hs_ss (hs_ss σ 0 4 z21) 0 5 1) 0 23 1)) 0 23 = 1 ∧ (∀ j : Nat, ((hs_ss (hs_ss (hs_ss σ 0 4 z21) 0 5 1) 0 23 1)) 11 j = σ 11 j) ∧ (∀ k : Nat, (k : Int) < (0 : Int) → PLk (1 : Int) σ k = 0) := ⟨g42, f42, ⟨by omega, by omega, by first | exact k21.2.2.2 | (rw [if_pos (by omega)]; exact k21.2.2.2) | (rw [if_neg (by omega)]; exact k21.2.2.2), k21.2.2.1, rfl, fun j => rfl, fun k hk => by exfalso; omega⟩⟩
      refine hs_loop (α := Int × hs_S) (fun x_ => (GY σ x_.2 ∧ FRM PGs σ x_.2 ∧ 0 ≤ x_.1 ∧ x_.1 ≤ 4 ∧ x_.2 0 4 = (if (1 : Int) = 0 then σ 0 4 - 1 else σ 0 4 + 1) % (σ 0 3) ∧ x_.2 0 4 < σ 0 3 ∧ x_.2 0 23 = 1 ∧ (∀ j : Nat, x_.2 11 j = σ 11 j) ∧ (∀ k : Nat, (k : Int) < x_.1 → PLk (1 : Int) σ k = 0)) → hs_Wd p l e 3 s m args below meth c D dA SHY ad A 4 (hs_PV (fun σ σ1 => GY σ σ1 ∧ FRM PGs σ σ1 ∧ σ1 0 4 = (if (1 : Int) = 0 then σ 0 4 - 1 else σ 0 4 + 1) % (σ 0 3) ∧ σ1 0 4 < σ 0 3 ∧ (n < σ 0 6 → (0 < PLS (1 : Int) n σ → PLS (1 : Int) n σ1 = PLS (1 : Int) n σ - 1 ∧ σ1 0 23 = 0) ∧ (PLS (1 : Int) n σ = 0 → PLS (1 : Int) n σ1 = 0 ∧ σ1 0 23 = 1))) σ) 47 [(0, .ref (ad 0)), (1, vI 1), (2, vI n), (3, vI x_.1)] [] x_.2) (fun x_ => (5 - x_.1).toNat) ?_ (0, (hs_ss (hs_ss (hs_ss σ 0 4 z21) 0 5 1) 0 23 1)) hi47
      rintro ⟨w, σ1⟩ ih47 hinv
      replace hinv : GY σ σ1 ∧ FRM PGs σ σ1 ∧ 0 ≤ w ∧ w ≤ 4 ∧ σ1 0 4 = (if (1 : Int) = 0 then σ 0 4 - 1 else σ 0 4 + 1) % (σ 0 3) ∧ σ1 0 4 < σ 0 3 ∧ σ1 0 23 = 1 ∧ (∀ j : Nat, σ1 11 j = σ 11 j) ∧ (∀ k : Nat, (k : Int) < w → PLk (1 : Int) σ k = 0) := hinv
      obtain ⟨hg47, hf47, hv47⟩ := hinv
      show hs_Wd p l e 3 s m args below meth c D dA SHY ad A 4 (hs_PV (fun σ σ1 => GY σ σ1 ∧ FRM PGs σ σ1 ∧ σ1 0 4 = (if (1 : Int) = 0 then σ 0 4 - 1 else σ 0 4 + 1) % (σ 0 3) ∧ σ1 0 4 < σ 0 3 ∧ (n < σ 0 6 → (0 < PLS (1 : Int) n σ → PLS (1 : Int) n σ1 = PLS (1 : Int) n σ - 1 ∧ σ1 0 23 = 0) ∧ (PLS (1 : Int) n σ = 0 → PLS (1 : Int) n σ1 = 0 ∧ σ1 0 23 = 1))) σ) 47 [(0, .ref (ad 0)), (1, vI 1), (2, vI n), (3, vI w)] [] σ1
      obtain ⟨hw0, hw4, h4, h4b, h23, h11, hz⟩ := hv47
      have e3 : σ1 0 3 = σ 0 3 := hf47 0 3 rfl
      have e6 : σ1 0 6 = σ 0 6 := hf47 0 6 rfl
      have e11 := h11 w.toNat
      have e2 : σ1 2 w.toNat = σ 2 w.toNat := hf47 2 w.toNat rfl
      refine s_iload_n (pc := 47) C dX12_goes_47 3 rfl ?_
      refine s_aload_n (pc := 48) C dX12_goes_48 0 rfl ?_
      refine s_geti (q := 0) (ci := 12) (N := 68) (CN := RX12) (T := TX12) (pc := 49) C 6 dX12_goes_49 wlX12_141 rfl rfl rfl wfX12 (by decide) rfl (σ1 0 6) rfl ?_
      have b49 : (0 : Int) ≤ σ1 0 6 ∧ σ1 0 6 ≤ 4 := hg47.1 0 6
      refine s_icmp_ge (pc := 52) C (tgt := 159) dX12_goes_52 (by decide) ⟨by omega, by omega⟩ ⟨by omega, by omega⟩ (fun h52 => ?_) (fun h52 => ?_)
      · skip
        refine s_vret (pc := 159) C dX12_goes_159 ?_
        refine ⟨rfl, ?_⟩
        refine ⟨hg47, hf47, h4, h4b, fun hn6 => ?_⟩
        have q0 := pls_zero hz (show n < w by omega)
        have q1 : PLS (1 : Int) n σ1 = PLS (1 : Int) n σ := pls_cg (fun k => by simp [PLk, h11 k, (hf47 2 k rfl : σ1 2 k = σ 2 k), e3])
        exact ⟨fun q => by exfalso; omega, fun _ => ⟨by omega, h23⟩⟩
      · skip
        refine s_iload_n (pc := 55) C dX12_goes_55 1 rfl ?_
        refine s_if_eq (pc := 56) C (tgt := 82) dX12_goes_56 (by decide) ⟨by decide, by decide⟩ (fun h56 => ?_) (fun h56 => ?_)
        · exact absurd h56 (by decide)
        · skip
          refine s_aload_n (pc := 59) C dX12_goes_59 0 rfl ?_
          refine s_getr (q := 0) (ci := 12) (N := 68) (CN := RX12) (T := TX12) (pc := 60) C 16 dX12_goes_60 wlX12_44 rfl rfl rfl wfX12 (by decide) rfl ?_
          refine s_iload_n (pc := 63) C dX12_goes_63 3 rfl ?_
          refine s_iald (q := 11) (n := 4) (pc := 64) C (σ1 11 w.toNat) rfl dX12_goes_64 rfl (by omega) (by omega) (by decide) ?_
          have b64 : (0 : Int) ≤ σ1 11 w.toNat ∧ σ1 11 w.toNat ≤ 100 := hg47.1 11 w.toNat
          refine s_aload_n (pc := 65) C dX12_goes_65 0 rfl ?_
          refine s_geti (q := 0) (ci := 12) (N := 68) (CN := RX12) (T := TX12) (pc := 66) C 3 dX12_goes_66 wlX12_13 rfl rfl rfl wfX12 (by decide) rfl (σ1 0 3) rfl ?_
          have b66 : (10 : Int) ≤ σ1 0 3 ∧ σ1 0 3 ≤ 100 := hg47.1 0 3
          refine s_aload_n (pc := 69) C dX12_goes_69 0 rfl ?_
          refine s_getr (q := 0) (ci := 12) (N := 68) (CN := RX12) (T := TX12) (pc := 70) C 7 dX12_goes_70 wlX12_17 rfl rfl rfl wfX12 (by decide) rfl ?_
          refine s_iload_n (pc := 73) C dX12_goes_73 3 rfl ?_
          refine s_iald (q := 2) (n := 4) (pc := 74) C (σ1 2 w.toNat) rfl dX12_goes_74 rfl (by omega) (by omega) (by decide) ?_
          have b74 : (0 : Int) ≤ σ1 2 w.toNat ∧ σ1 2 w.toNat ≤ 9 := hg47.1 2 w.toNat
          refine s_isub (pc := 75) C dX12_goes_75 ?_
          refine s_icmp_ge (pc := 76) C (tgt := 120) dX12_goes_76 (by decide) ⟨by omega, by omega⟩ ⟨by omega, by omega⟩ (fun h76 => ?_) (fun h76 => ?_)
          · skip
            refine s_aload_n (pc := 120) C dX12_goes_120 0 rfl ?_
            refine s_getr (q := 0) (ci := 12) (N := 68) (CN := RX12) (T := TX12) (pc := 121) C 15 dX12_goes_121 wlX12_41 rfl rfl rfl wfX12 (by decide) rfl ?_
            refine s_iload_n (pc := 124) C dX12_goes_124 3 rfl ?_
            refine s_aload_n (pc := 125) C dX12_goes_125 0 rfl ?_
            refine s_iload_n (pc := 126) C dX12_goes_126 1 rfl ?_
            refine s_if_eq (pc := 127) C (tgt := 141) dX12_goes_127 (by decide) ⟨by decide, by decide⟩ (fun h127 => ?_) (fun h127 => ?_)
            · exact absurd h127 (by decide)
            · skip
              refine s_aload_n (pc := 130) C dX12_goes_130 0 rfl ?_
              refine s_getr (q := 0) (ci := 12) (N := 68) (CN := RX12) (T := TX12) (pc := 131) C 15 dX12_goes_131 wlX12_41 rfl rfl rfl wfX12 (by decide) rfl ?_
              refine s_iload_n (pc := 134) C dX12_goes_134 3 rfl ?_
              refine s_iald (q := 10) (n := 4) (pc := 135) C (σ1 10 w.toNat) rfl dX12_goes_135 rfl (by omega) (by omega) (by decide) ?_
              have b135 : (0 : Int) ≤ σ1 10 w.toNat ∧ σ1 10 w.toNat ≤ 99 := hg47.1 10 w.toNat
              refine s_iconst (pc := 136) C dX12_goes_136 ?_
              refine s_iadd (pc := 137) C dX12_goes_137 ?_
              refine s_goto (pc := 138) C (tgt := 149) dX12_goes_138 (by decide) ?_
              refine s_callVi (pc := 149) C (c_X12_round l ((σ1 10 w.toNat) + 1) ⟨by omega, by omega⟩) [vI ((σ1 10 w.toNat) + 1)] [vI w, .ref (ad 10)] rfl rfl dX12_goes_149 wlX12_144 wiX12_round weX12_round wcX12_round wnX12 noX12_round (by decide) (by decide) (Nat.le_of_ble_eq_true rfl) (gy_self hg47) rfl rfl ?_
              rintro z149 _ ⟨rfl, k149⟩
              show hs_Wd _ _ _ _ _ _ _ _ _ _ _ _ _ _ _ _ _ 152 _ [vI z149, vI w, .ref (ad 10)] σ1
              refine s_iast (q := 10) (n := 4) (pc := 152) C dX12_goes_152 rfl (by omega) (by omega) (by decide) ?_
              have g152 := gy_set (z := z149) hg47 10 w.toNat rfl (0) (99) rfl ⟨by omega, by omega⟩
              have f152 := frm_set (P := PGs) (z := z149) hf47 10 w.toNat rfl
              refine s_iinc (pc := 153) C [(3, vI (w + 1)), (0, .ref (ad 0)), (1, vI 1), (2, vI n)] dX12_goes_153 3 rfl (by decide) rfl ?_
              refine s_goto (pc := 156) C (tgt := 47) dX12_goes_156 (by decide) ?_
              refine s_sub C [1, 2, 3, 0] [(0, .ref (ad 0)), (1, vI 1), (2, vI n), (3, vI (w + 1))] rfl ?_
              have hi47 : GY σ ((hs_ss σ1 10 w.toNat z149)) ∧ FRM PGs σ ((hs_ss σ1 10 w.toNat z149)) ∧ 0 ≤ (w + 1) ∧ (w + 1) ≤ 4 ∧ ((hs_ss σ1 10 w.toNat z149)) 0 4 = (if (1 : Int) = 0 then σ 0 4 - 1 else σ 0 4 + 1) % (σ 0 3) ∧ ((hs_ss σ1 10 w.toNat z149)) 0 4 < σ 0 3 ∧ ((hs_ss σ1 10 w.toNat z149)) 0 23 = 1 ∧ (∀ j : Nat, ((hs_ss σ1 10 w.toNat z149)) 11 j = σ 11 j) ∧ (∀ k : Nat, (k : Int) < (w + 1) → PLk (1 : Int) σ k = 0) := ⟨g152, f152, ⟨by omega, by omega, h4, h4b, h23, h11, fun k hk => by by_cases e : (k : Int) < w; (exact hz k e); have e2 : k = w.toNat := (by omega); rw [e2]; unfold PLk; split <;> omega⟩⟩
              exact ih47 (w + 1, (hs_ss σ1 10 w.toNat z149)) (by first | omega | (simp only []; omega)) hi47
          · skip
            refine s_goto (pc := 79) C (tgt := 91) dX12_goes_79 (by decide) ?_
            refine s_aload_n (pc := 91) C dX12_goes_91 0 rfl ?_
            refine s_getr (q := 0) (ci := 12) (N := 68) (CN := RX12) (T := TX12) (pc := 92) C 16 dX12_goes_92 wlX12_44 rfl rfl rfl wfX12 (by decide) rfl ?_
            refine s_iload_n (pc := 95) C dX12_goes_95 3 rfl ?_
            refine s_dup2 (pc := 96) C dX12_goes_96 rfl rfl ?_
            refine s_iald (q := 11) (n := 4) (pc := 97) C (σ1 11 w.toNat) rfl dX12_goes_97 rfl (by omega) (by omega) (by decide) ?_
            have b97 : (0 : Int) ≤ σ1 11 w.toNat ∧ σ1 11 w.toNat ≤ 100 := hg47.1 11 w.toNat
            refine s_iload_n (pc := 98) C dX12_goes_98 1 rfl ?_
            refine s_if_eq (pc := 99) C (tgt := 106) dX12_goes_99 (by decide) ⟨by decide, by decide⟩ (fun h99 => ?_) (fun h99 => ?_)
            · exact absurd h99 (by decide)
            · skip
              refine s_iconst (pc := 102) C dX12_goes_102 ?_
              refine s_goto (pc := 103) C (tgt := 107) dX12_goes_103 (by decide) ?_
              refine s_iadd (pc := 107) C dX12_goes_107 ?_
              refine s_iast (q := 11) (n := 4) (pc := 108) C dX12_goes_108 rfl (by omega) (by omega) (by decide) ?_
              have g108 := gy_set (z := ((σ1 11 w.toNat) + 1)) hg47 11 w.toNat rfl (0) (100) rfl ⟨by omega, by omega⟩
              have f108 := frm_set (P := PGs) (z := ((σ1 11 w.toNat) + 1)) hf47 11 w.toNat rfl
              refine s_iload_n (pc := 109) C dX12_goes_109 3 rfl ?_
              refine s_iload_n (pc := 110) C dX12_goes_110 2 rfl ?_
              refine s_icmp_gt (pc := 111) C (tgt := 119) dX12_goes_111 (by decide) ⟨by omega, by omega⟩ ⟨by omega, by omega⟩ (fun h111 => ?_) (fun h111 => ?_)
              · skip
                refine s_vret (pc := 119) C dX12_goes_119 ?_
                refine ⟨rfl, ?_⟩
                refine ⟨g108, f108, h4, h4b, fun hn6 => ?_⟩
                exact (by have hq := pls_dec (b := (1 : Int)) (n := n) (w := w) (σ := σ) (σ1 := (hs_ss σ1 11 w.toNat ((σ1 11 w.toNat) + 1))) hw0 (by omega) hz (by unfold PLk; split <;> omega) (by simp [PLk, hs_ss, hs_up] <;> omega) (fun k hk => by simp [PLk, hs_ss, hs_up, hk, h11 k, (hf47 2 k rfl : σ1 2 k = σ 2 k), e3]) (fun k => plk_nn g0 k); exact ⟨fun q => ⟨by omega, by first | rfl | (exfalso; omega)⟩, fun q => ⟨by omega, by first | exact h23 | (exfalso; omega)⟩⟩)
              · skip
                refine s_aload_n (pc := 114) C dX12_goes_114 0 rfl ?_
                refine s_iconst (pc := 115) C dX12_goes_115 ?_
                refine s_puti (q := 0) (ci := 12) (N := 68) (CN := RX12) (T := TX12) (ty0 := tyX12) (ty := .boolean) (pc := 116) C 23 dX12_goes_116 wlX12_154 rfl rfl rfl wfX12 tyX12_ok nmX12 (by decide) rfl rfl rfl (hs_nz (by omega)) (hs_fz (by omega)) ?_
                have g116 := gy_set (z := 0) g108 0 23 rfl (0) (1) rfl ⟨by omega, by omega⟩
                have f116 := frm_set (P := PGs) (z := 0) f108 0 23 rfl
                refine s_vret (pc := 119) C dX12_goes_119 ?_
                refine ⟨rfl, ?_⟩
                refine ⟨g116, f116, h4, h4b, fun hn6 => ?_⟩
                exact (by have hq := pls_dec (b := (1 : Int)) (n := n) (w := w) (σ := σ) (σ1 := (hs_ss (hs_ss σ1 11 w.toNat ((σ1 11 w.toNat) + 1)) 0 23 0)) hw0 (by omega) hz (by unfold PLk; split <;> omega) (by simp [PLk, hs_ss, hs_up] <;> omega) (fun k hk => by simp [PLk, hs_ss, hs_up, hk, h11 k, (hf47 2 k rfl : σ1 2 k = σ 2 k), e3]) (fun k => plk_nn g0 k); exact ⟨fun q => ⟨by omega, by first | rfl | (exfalso; omega)⟩, fun q => ⟨by omega, by first | exact h23 | (exfalso; omega)⟩⟩)
theorem c_X12_goes (l : Launch) (b n : Int) (hb : b = 0 ∨ b = 1) (hn : hs_R n) : hs_Met l yX12_goes cX12_goes 4 none 3 SHY (fun ad => [.ref (ad 0), vI b, vI n]) (fun σ => GY σ σ) (hs_PV (fun σ σ1 => GY σ σ1 ∧ FRM PGs σ σ1 ∧ σ1 0 4 = (if b = 0 then σ 0 4 - 1 else σ 0 4 + 1) % (σ 0 3) ∧ σ1 0 4 < σ 0 3 ∧ (n < σ 0 6 → (0 < PLS b n σ → PLS b n σ1 = PLS b n σ - 1 ∧ σ1 0 23 = 0) ∧ (PLS b n σ = 0 → PLS b n σ1 = 0 ∧ σ1 0 23 = 1)))) := by
  rcases hb with rfl | rfl
  · exact g0_X12_goes l n hn
  · exact g1_X12_goes l n hn
set_option maxHeartbeats 4000000 in
set_option maxRecDepth 100000 in
theorem c_X12_plain (l : Launch) (w a : Int) (hw : 0 ≤ w ∧ w < 4) (ha : -10000 ≤ a ∧ a ≤ 10000) : hs_Met l yX12_plain cX12_plain 3 (some .int) 3 SHY (fun ad => [.ref (ad 0), vI w, vI a]) (fun σ => GY σ σ) (hs_PI (fun σ z σ1 => σ = σ1 ∧ -6000 ≤ z ∧ z ≤ 7000)) := by
  refine hs_from pfX12_plain (fun _ => Nat.le_of_ble_eq_true rfl) ?_
  intro p e s m args below meth c D dA ad A σ C hpre
  have C : hs_C p s m args meth c D dA SHY ad A 3 cX12_plain RX12 (some .int) := C
  have g0 := hpre
  show hs_Wd p l e 3 s m args below meth c D dA SHY ad A 3 (hs_PI (fun σ z σ1 => σ = σ1 ∧ -6000 ≤ z ∧ z ≤ 7000) σ) 0 [(0, .ref (ad 0)), (1, vI w), (2, vI a)] [] σ
  refine s_aload_n (pc := 0) C dX12_plain_0 0 rfl ?_
  refine s_getr (q := 0) (ci := 12) (N := 68) (CN := RX12) (T := TX12) (pc := 1) C 11 dX12_plain_1 wlX12_29 rfl rfl rfl wfX12 (by decide) rfl ?_
  refine s_iload_n (pc := 4) C dX12_plain_4 1 rfl ?_
  refine s_iald (q := 6) (n := 4) (pc := 5) C (σ 6 w.toNat) rfl dX12_plain_5 rfl (by omega) (by omega) (by decide) ?_
  have b5 : (0 : Int) ≤ σ 6 w.toNat ∧ σ 6 w.toNat ≤ 900 := g0.1 6 w.toNat
  refine s_aload_n (pc := 6) C dX12_plain_6 0 rfl ?_
  refine s_getr (q := 0) (ci := 12) (N := 68) (CN := RX12) (T := TX12) (pc := 7) C 12 dX12_plain_7 wlX12_32 rfl rfl rfl wfX12 (by decide) rfl ?_
  refine s_iload_n (pc := 10) C dX12_plain_10 1 rfl ?_
  refine s_iald (q := 7) (n := 4) (pc := 11) C (σ 7 w.toNat) rfl dX12_plain_11 rfl (by omega) (by omega) (by decide) ?_
  have b11 : (0 : Int) ≤ σ 7 w.toNat ∧ σ 7 w.toNat ≤ 50 := g0.1 7 w.toNat
  refine s_aload_n (pc := 12) C dX12_plain_12 0 rfl ?_
  refine s_iload_n (pc := 13) C dX12_plain_13 2 rfl ?_
  refine s_aload_n (pc := 14) C dX12_plain_14 0 rfl ?_
  refine s_getr (q := 0) (ci := 12) (N := 68) (CN := RX12) (T := TX12) (pc := 15) C 13 dX12_plain_15 wlX12_35 rfl rfl rfl wfX12 (by decide) rfl ?_
  refine s_iload_n (pc := 18) C dX12_plain_18 1 rfl ?_
  refine s_iald (q := 8) (n := 4) (pc := 19) C (σ 8 w.toNat) rfl dX12_plain_19 rfl (by omega) (by omega) (by decide) ?_
  have b19 : (0 : Int) ≤ σ 8 w.toNat ∧ σ 8 w.toNat ≤ 99 := g0.1 8 w.toNat
  refine s_callVi (pc := 20) C (c_X12_far l a (σ 8 w.toNat) (by first | omega | assumption | (constructor <;> omega) | (refine ⟨⟨?_, ?_⟩, ?_⟩ <;> omega) | (simp [hs_ss, hs_up]; omega) | (simp [hs_ss, hs_up]; done)) (by first | omega | assumption | (constructor <;> omega) | (refine ⟨⟨?_, ?_⟩, ?_⟩ <;> omega) | (simp [hs_ss, hs_up]; omega) | (simp [hs_ss, hs_up]; done))) [vI a, vI (σ 8 w.toNat)] [vI (σ 7 w.toNat), vI (σ 6 w.toNat)] rfl rfl dX12_plain_20 wlX12_158 wiX12_far weX12_far wcX12_far wnX12 noX12_far (by decide) (by decide) (Nat.le_of_ble_eq_true rfl) (gy_self g0) rfl rfl ?_
  rintro z20 _ ⟨rfl, k20⟩
  show hs_Wd _ _ _ _ _ _ _ _ _ _ _ _ _ _ _ _ _ 23 _ [vI z20, vI (σ 7 w.toNat), vI (σ 6 w.toNat)] σ
  have hm : 0 ≤ σ 7 w.toNat * z20 ∧ σ 7 w.toNat * z20 ≤ 50 * 100 := ⟨Int.mul_nonneg (by omega) (by omega), (hs_mulb (a := σ 7 w.toNat) (b := z20) (lo := 0) (hi := 50) (B := 100) (by omega) (by omega) (by omega) (by omega) (by omega) (by omega)).2⟩
  refine s_imul (pc := 23) C dX12_plain_23 ?_
  refine s_aload_n (pc := 24) C dX12_plain_24 0 rfl ?_
  refine s_geti (q := 0) (ci := 12) (N := 68) (CN := RX12) (T := TX12) (pc := 25) C 3 dX12_plain_25 wlX12_13 rfl rfl rfl wfX12 (by decide) rfl (σ 0 3) rfl ?_
  have b25 : (10 : Int) ≤ σ 0 3 ∧ σ 0 3 ≤ 100 := g0.1 0 3
  refine s_iconst (pc := 28) C dX12_plain_28 ?_
  refine s_idiv (pc := 29) C dX12_plain_29 ⟨by omega, by omega⟩ ⟨by decide, by decide⟩ (by omega) ?_
  rw [show (σ 0 3).tdiv 2 = σ 0 3 / 2 from Int.tdiv_eq_ediv_of_nonneg (by omega)]
  refine s_idiv (pc := 30) C dX12_plain_30 ⟨by omega, by omega⟩ ⟨by omega, by omega⟩ (by omega) ?_
  have hq := hs_tdivb (a := σ 7 w.toNat * z20) (b := σ 0 3 / 2) (M := 5000) (by omega) (by omega) (by omega)
  refine s_isub (pc := 31) C dX12_plain_31 ?_
  refine s_iret (pc := 32) C dX12_plain_32 ?_
  refine ⟨_, rfl, ?_⟩
  exact ⟨rfl, by first | omega | assumption | (constructor <;> omega) | (refine ⟨⟨?_, ?_⟩, ?_⟩ <;> omega) | (simp [hs_ss, hs_up]; omega) | (simp [hs_ss, hs_up]; done)⟩
set_option maxHeartbeats 4000000 in
set_option maxRecDepth 100000 in
theorem c_X12_isAt (l : Launch) (w : Int) (hw : 0 ≤ w ∧ w < 4) (a : Int) (ha : -1 ≤ a ∧ a ≤ 99) : hs_Met l yX12_isAt cX12_isAt 3 (some .boolean) 3 SHY (fun ad => [.ref (ad 0), vI w, vI a]) (fun σ => GY σ σ) (hs_PI (fun σ z σ1 => σ = σ1 ∧ (z = 0 ∨ z = 1))) := by
  refine hs_from pfX12_isAt (fun _ => Nat.le_of_ble_eq_true rfl) ?_
  intro p e s m args below meth c D dA ad A σ C hpre
  have C : hs_C p s m args meth c D dA SHY ad A 3 cX12_isAt RX12 (some .boolean) := C
  have g0 := hpre
  show hs_Wd p l e 3 s m args below meth c D dA SHY ad A 3 (hs_PI (fun σ z σ1 => σ = σ1 ∧ (z = 0 ∨ z = 1)) σ) 0 [(0, .ref (ad 0)), (1, vI w), (2, vI a)] [] σ
  refine s_iload_n (pc := 0) C dX12_isAt_0 2 rfl ?_
  refine s_iconst (pc := 1) C dX12_isAt_1 ?_
  refine s_icmp_eq (pc := 2) C (tgt := 29) dX12_isAt_2 (by decide) ⟨by omega, by omega⟩ ⟨by decide, by decide⟩ (fun h2 => ?_) (fun h2 => ?_)
  · skip
    refine s_iconst (pc := 29) C dX12_isAt_29 ?_
    refine s_zret (pc := 30) C (by omega) dX12_isAt_30 ?_
    refine ⟨_, rfl, ?_⟩
    exact ⟨rfl, by first | omega | assumption | (constructor <;> omega) | (refine ⟨⟨?_, ?_⟩, ?_⟩ <;> omega) | (simp [hs_ss, hs_up]; omega) | (simp [hs_ss, hs_up]; done)⟩
  · skip
    refine s_aload_n (pc := 5) C dX12_isAt_5 0 rfl ?_
    refine s_aload_n (pc := 6) C dX12_isAt_6 0 rfl ?_
    refine s_getr (q := 0) (ci := 12) (N := 68) (CN := RX12) (T := TX12) (pc := 7) C 15 dX12_isAt_7 wlX12_41 rfl rfl rfl wfX12 (by decide) rfl ?_
    refine s_iload_n (pc := 10) C dX12_isAt_10 1 rfl ?_
    refine s_iald (q := 10) (n := 4) (pc := 11) C (σ 10 w.toNat) rfl dX12_isAt_11 rfl (by omega) (by omega) (by decide) ?_
    have b11 : (0 : Int) ≤ σ 10 w.toNat ∧ σ 10 w.toNat ≤ 99 := g0.1 10 w.toNat
    refine s_iload_n (pc := 12) C dX12_isAt_12 2 rfl ?_
    refine s_callVi (pc := 13) C (c_X12_far l (σ 10 w.toNat) a (by first | omega | assumption | (constructor <;> omega) | (refine ⟨⟨?_, ?_⟩, ?_⟩ <;> omega) | (simp [hs_ss, hs_up]; omega) | (simp [hs_ss, hs_up]; done)) (by first | omega | assumption | (constructor <;> omega) | (refine ⟨⟨?_, ?_⟩, ?_⟩ <;> omega) | (simp [hs_ss, hs_up]; omega) | (simp [hs_ss, hs_up]; done))) [vI (σ 10 w.toNat), vI a] [] rfl rfl dX12_isAt_13 wlX12_158 wiX12_far weX12_far wcX12_far wnX12 noX12_far (by decide) (by decide) (Nat.le_of_ble_eq_true rfl) (gy_self g0) rfl rfl ?_
    rintro z13 _ ⟨rfl, k13⟩
    show hs_Wd _ _ _ _ _ _ _ _ _ _ _ _ _ _ _ _ _ 16 _ [vI z13] σ
    refine s_aload_n (pc := 16) C dX12_isAt_16 0 rfl ?_
    refine s_getr (q := 0) (ci := 12) (N := 68) (CN := RX12) (T := TX12) (pc := 17) C 10 dX12_isAt_17 wlX12_26 rfl rfl rfl wfX12 (by decide) rfl ?_
    refine s_iload_n (pc := 20) C dX12_isAt_20 1 rfl ?_
    refine s_iald (q := 5) (n := 4) (pc := 21) C (σ 5 w.toNat) rfl dX12_isAt_21 rfl (by omega) (by omega) (by decide) ?_
    have b21 : (0 : Int) ≤ σ 5 w.toNat ∧ σ 5 w.toNat ≤ 3 := g0.1 5 w.toNat
    refine s_icmp_gt (pc := 22) C (tgt := 29) dX12_isAt_22 (by decide) ⟨by omega, by omega⟩ ⟨by omega, by omega⟩ (fun h22 => ?_) (fun h22 => ?_)
    · skip
      refine s_iconst (pc := 29) C dX12_isAt_29 ?_
      refine s_zret (pc := 30) C (by omega) dX12_isAt_30 ?_
      refine ⟨_, rfl, ?_⟩
      exact ⟨rfl, by first | omega | assumption | (constructor <;> omega) | (refine ⟨⟨?_, ?_⟩, ?_⟩ <;> omega) | (simp [hs_ss, hs_up]; omega) | (simp [hs_ss, hs_up]; done)⟩
    · skip
      refine s_iconst (pc := 25) C dX12_isAt_25 ?_
      refine s_goto (pc := 26) C (tgt := 30) dX12_isAt_26 (by decide) ?_
      refine s_zret (pc := 30) C (by omega) dX12_isAt_30 ?_
      refine ⟨_, rfl, ?_⟩
      exact ⟨rfl, by first | omega | assumption | (constructor <;> omega) | (refine ⟨⟨?_, ?_⟩, ?_⟩ <;> omega) | (simp [hs_ss, hs_up]; omega) | (simp [hs_ss, hs_up]; done)⟩
set_option maxHeartbeats 4000000 in
set_option maxRecDepth 100000 in
theorem c_X12_isBeside (l : Launch) (w : Int) (hw : 0 ≤ w ∧ w < 4) (a : Int) (ha : -1 ≤ a ∧ a ≤ 99) : hs_Met l yX12_isBeside cX12_isBeside 3 (some .boolean) 3 SHY (fun ad => [.ref (ad 0), vI w, vI a]) (fun σ => GY σ σ) (hs_PI (fun σ z σ1 => σ = σ1 ∧ (z = 0 ∨ z = 1))) := by
  refine hs_from pfX12_isBeside (fun _ => Nat.le_of_ble_eq_true rfl) ?_
  intro p e s m args below meth c D dA ad A σ C hpre
  have C : hs_C p s m args meth c D dA SHY ad A 3 cX12_isBeside RX12 (some .boolean) := C
  have g0 := hpre
  show hs_Wd p l e 3 s m args below meth c D dA SHY ad A 3 (hs_PI (fun σ z σ1 => σ = σ1 ∧ (z = 0 ∨ z = 1)) σ) 0 [(0, .ref (ad 0)), (1, vI w), (2, vI a)] [] σ
  refine s_iload_n (pc := 0) C dX12_isBeside_0 2 rfl ?_
  refine s_iconst (pc := 1) C dX12_isBeside_1 ?_
  refine s_icmp_eq (pc := 2) C (tgt := 31) dX12_isBeside_2 (by decide) ⟨by omega, by omega⟩ ⟨by decide, by decide⟩ (fun h2 => ?_) (fun h2 => ?_)
  · skip
    refine s_iconst (pc := 31) C dX12_isBeside_31 ?_
    refine s_zret (pc := 32) C (by omega) dX12_isBeside_32 ?_
    refine ⟨_, rfl, ?_⟩
    exact ⟨rfl, by first | omega | assumption | (constructor <;> omega) | (refine ⟨⟨?_, ?_⟩, ?_⟩ <;> omega) | (simp [hs_ss, hs_up]; omega) | (simp [hs_ss, hs_up]; done)⟩
  · skip
    refine s_aload_n (pc := 5) C dX12_isBeside_5 0 rfl ?_
    refine s_aload_n (pc := 6) C dX12_isBeside_6 0 rfl ?_
    refine s_getr (q := 0) (ci := 12) (N := 68) (CN := RX12) (T := TX12) (pc := 7) C 15 dX12_isBeside_7 wlX12_41 rfl rfl rfl wfX12 (by decide) rfl ?_
    refine s_iload_n (pc := 10) C dX12_isBeside_10 1 rfl ?_
    refine s_iald (q := 10) (n := 4) (pc := 11) C (σ 10 w.toNat) rfl dX12_isBeside_11 rfl (by omega) (by omega) (by decide) ?_
    have b11 : (0 : Int) ≤ σ 10 w.toNat ∧ σ 10 w.toNat ≤ 99 := g0.1 10 w.toNat
    refine s_iload_n (pc := 12) C dX12_isBeside_12 2 rfl ?_
    refine s_callVi (pc := 13) C (c_X12_far l (σ 10 w.toNat) a (by first | omega | assumption | (constructor <;> omega) | (refine ⟨⟨?_, ?_⟩, ?_⟩ <;> omega) | (simp [hs_ss, hs_up]; omega) | (simp [hs_ss, hs_up]; done)) (by first | omega | assumption | (constructor <;> omega) | (refine ⟨⟨?_, ?_⟩, ?_⟩ <;> omega) | (simp [hs_ss, hs_up]; omega) | (simp [hs_ss, hs_up]; done))) [vI (σ 10 w.toNat), vI a] [] rfl rfl dX12_isBeside_13 wlX12_158 wiX12_far weX12_far wcX12_far wnX12 noX12_far (by decide) (by decide) (Nat.le_of_ble_eq_true rfl) (gy_self g0) rfl rfl ?_
    rintro z13 _ ⟨rfl, k13⟩
    show hs_Wd _ _ _ _ _ _ _ _ _ _ _ _ _ _ _ _ _ 16 _ [vI z13] σ
    refine s_aload_n (pc := 16) C dX12_isBeside_16 0 rfl ?_
    refine s_getr (q := 0) (ci := 12) (N := 68) (CN := RX12) (T := TX12) (pc := 17) C 10 dX12_isBeside_17 wlX12_26 rfl rfl rfl wfX12 (by decide) rfl ?_
    refine s_iload_n (pc := 20) C dX12_isBeside_20 1 rfl ?_
    refine s_iald (q := 5) (n := 4) (pc := 21) C (σ 5 w.toNat) rfl dX12_isBeside_21 rfl (by omega) (by omega) (by decide) ?_
    have b21 : (0 : Int) ≤ σ 5 w.toNat ∧ σ 5 w.toNat ≤ 3 := g0.1 5 w.toNat
    refine s_iconst (pc := 22) C dX12_isBeside_22 ?_
    refine s_iadd (pc := 23) C dX12_isBeside_23 ?_
    refine s_icmp_ne (pc := 24) C (tgt := 31) dX12_isBeside_24 (by decide) ⟨by omega, by omega⟩ ⟨by omega, by omega⟩ (fun h24 => ?_) (fun h24 => ?_)
    · skip
      refine s_iconst (pc := 31) C dX12_isBeside_31 ?_
      refine s_zret (pc := 32) C (by omega) dX12_isBeside_32 ?_
      refine ⟨_, rfl, ?_⟩
      exact ⟨rfl, by first | omega | assumption | (constructor <;> omega) | (refine ⟨⟨?_, ?_⟩, ?_⟩ <;> omega) | (simp [hs_ss, hs_up]; omega) | (simp [hs_ss, hs_up]; done)⟩
    · skip
      refine s_iconst (pc := 27) C dX12_isBeside_27 ?_
      refine s_goto (pc := 28) C (tgt := 32) dX12_isBeside_28 (by decide) ?_
      refine s_zret (pc := 32) C (by omega) dX12_isBeside_32 ?_
      refine ⟨_, rfl, ?_⟩
      exact ⟨rfl, by first | omega | assumption | (constructor <;> omega) | (refine ⟨⟨?_, ?_⟩, ?_⟩ <;> omega) | (simp [hs_ss, hs_up]; omega) | (simp [hs_ss, hs_up]; done)⟩
set_option maxHeartbeats 4000000 in
set_option maxRecDepth 100000 in
theorem c_X12_isInside (l : Launch) (w : Int) (hw : 0 ≤ w ∧ w < 4) : hs_Met l yX12_isInside cX12_isInside 2 (some .boolean) 4 SHY (fun ad => [.ref (ad 0), vI w]) (fun σ => GY σ σ) (hs_PI (fun σ z σ1 => σ = σ1 ∧ (z = 0 ∨ z = 1))) := by
  refine hs_from pfX12_isInside (fun _ => Nat.le_of_ble_eq_true rfl) ?_
  intro p e s m args below meth c D dA ad A σ C hpre
  have C : hs_C p s m args meth c D dA SHY ad A 2 cX12_isInside RX12 (some .boolean) := C
  have g0 := hpre
  show hs_Wd p l e 4 s m args below meth c D dA SHY ad A 2 (hs_PI (fun σ z σ1 => σ = σ1 ∧ (z = 0 ∨ z = 1)) σ) 0 [(0, .ref (ad 0)), (1, vI w)] [] σ
  refine s_aload_n (pc := 0) C dX12_isInside_0 0 rfl ?_
  refine s_iload_n (pc := 1) C dX12_isInside_1 1 rfl ?_
  refine s_aload_n (pc := 2) C dX12_isInside_2 0 rfl ?_
  refine s_getr (q := 0) (ci := 12) (N := 68) (CN := RX12) (T := TX12) (pc := 3) C 8 dX12_isInside_3 wlX12_20 rfl rfl rfl wfX12 (by decide) rfl ?_
  refine s_iload_n (pc := 6) C dX12_isInside_6 1 rfl ?_
  refine s_iald (q := 3) (n := 4) (pc := 7) C (σ 3 w.toNat) rfl dX12_isInside_7 rfl (by omega) (by omega) (by decide) ?_
  have b7 : (0 : Int) ≤ σ 3 w.toNat ∧ σ 3 w.toNat ≤ 99 := g0.1 3 w.toNat
  refine s_callVi (pc := 8) C (c_X12_isAt l w (by first | omega | assumption | (constructor <;> omega) | (refine ⟨⟨?_, ?_⟩, ?_⟩ <;> omega) | (simp [hs_ss, hs_up]; omega) | (simp [hs_ss, hs_up]; done)) (σ 3 w.toNat) (by first | omega | assumption | (constructor <;> omega) | (refine ⟨⟨?_, ?_⟩, ?_⟩ <;> omega) | (simp [hs_ss, hs_up]; omega) | (simp [hs_ss, hs_up]; done))) [vI w, vI (σ 3 w.toNat)] [] rfl rfl dX12_isInside_8 wlX12_162 wiX12_isAt weX12_isAt wcX12_isAt wnX12 noX12_isAt (by decide) (by decide) (Nat.le_of_ble_eq_true rfl) (gy_self g0) rfl rfl ?_
  rintro z8 _ ⟨rfl, k8⟩
  show hs_Wd _ _ _ _ _ _ _ _ _ _ _ _ _ _ _ _ _ 11 _ [vI z8] σ
  refine s_if_ne (pc := 11) C (tgt := 28) dX12_isInside_11 (by decide) ⟨by omega, by omega⟩ (fun h11 => ?_) (fun h11 => ?_)
  · skip
    refine s_iconst (pc := 28) C dX12_isInside_28 ?_
    refine s_goto (pc := 29) C (tgt := 33) dX12_isInside_29 (by decide) ?_
    refine s_zret (pc := 33) C (by omega) dX12_isInside_33 ?_
    refine ⟨_, rfl, ?_⟩
    exact ⟨rfl, by first | omega | assumption | (constructor <;> omega) | (refine ⟨⟨?_, ?_⟩, ?_⟩ <;> omega) | (simp [hs_ss, hs_up]; omega) | (simp [hs_ss, hs_up]; done)⟩
  · skip
    refine s_aload_n (pc := 14) C dX12_isInside_14 0 rfl ?_
    refine s_iload_n (pc := 15) C dX12_isInside_15 1 rfl ?_
    refine s_aload_n (pc := 16) C dX12_isInside_16 0 rfl ?_
    refine s_getr (q := 0) (ci := 12) (N := 68) (CN := RX12) (T := TX12) (pc := 17) C 9 dX12_isInside_17 wlX12_23 rfl rfl rfl wfX12 (by decide) rfl ?_
    refine s_iload_n (pc := 20) C dX12_isInside_20 1 rfl ?_
    refine s_iald (q := 4) (n := 4) (pc := 21) C (σ 4 w.toNat) rfl dX12_isInside_21 rfl (by omega) (by omega) (by decide) ?_
    have b21 : (-1 : Int) ≤ σ 4 w.toNat ∧ σ 4 w.toNat ≤ 99 := g0.1 4 w.toNat
    refine s_callVi (pc := 22) C (c_X12_isAt l w (by first | omega | assumption | (constructor <;> omega) | (refine ⟨⟨?_, ?_⟩, ?_⟩ <;> omega) | (simp [hs_ss, hs_up]; omega) | (simp [hs_ss, hs_up]; done)) (σ 4 w.toNat) (by first | omega | assumption | (constructor <;> omega) | (refine ⟨⟨?_, ?_⟩, ?_⟩ <;> omega) | (simp [hs_ss, hs_up]; omega) | (simp [hs_ss, hs_up]; done))) [vI w, vI (σ 4 w.toNat)] [] rfl rfl dX12_isInside_22 wlX12_162 wiX12_isAt weX12_isAt wcX12_isAt wnX12 noX12_isAt (by decide) (by decide) (Nat.le_of_ble_eq_true rfl) (gy_self g0) rfl rfl ?_
    rintro z22 _ ⟨rfl, k22⟩
    show hs_Wd _ _ _ _ _ _ _ _ _ _ _ _ _ _ _ _ _ 25 _ [vI z22] σ
    refine s_if_eq (pc := 25) C (tgt := 32) dX12_isInside_25 (by decide) ⟨by omega, by omega⟩ (fun h25 => ?_) (fun h25 => ?_)
    · skip
      refine s_iconst (pc := 32) C dX12_isInside_32 ?_
      refine s_zret (pc := 33) C (by omega) dX12_isInside_33 ?_
      refine ⟨_, rfl, ?_⟩
      exact ⟨rfl, by first | omega | assumption | (constructor <;> omega) | (refine ⟨⟨?_, ?_⟩, ?_⟩ <;> omega) | (simp [hs_ss, hs_up]; omega) | (simp [hs_ss, hs_up]; done)⟩
    · skip
      refine s_iconst (pc := 28) C dX12_isInside_28 ?_
      refine s_goto (pc := 29) C (tgt := 33) dX12_isInside_29 (by decide) ?_
      refine s_zret (pc := 33) C (by omega) dX12_isInside_33 ?_
      refine ⟨_, rfl, ?_⟩
      exact ⟨rfl, by first | omega | assumption | (constructor <;> omega) | (refine ⟨⟨?_, ?_⟩, ?_⟩ <;> omega) | (simp [hs_ss, hs_up]; omega) | (simp [hs_ss, hs_up]; done)⟩
set_option maxHeartbeats 4000000 in
set_option maxRecDepth 100000 in
theorem c_X12_radius (l : Launch) (w : Int) (hw : 0 ≤ w ∧ w < 4) : hs_Met l yX12_radius cX12_radius 2 (some .int) 5 SHY (fun ad => [.ref (ad 0), vI w]) (fun σ => GY σ σ) (hs_PI (fun σ z σ1 => σ = σ1 ∧ -7000 ≤ z ∧ z ≤ 7000)) := by
  refine hs_from pfX12_radius (fun _ => Nat.le_of_ble_eq_true rfl) ?_
  intro p e s m args below meth c D dA ad A σ C hpre
  have C : hs_C p s m args meth c D dA SHY ad A 2 cX12_radius RX12 (some .int) := C
  have g0 := hpre
  show hs_Wd p l e 5 s m args below meth c D dA SHY ad A 2 (hs_PI (fun σ z σ1 => σ = σ1 ∧ -7000 ≤ z ∧ z ≤ 7000) σ) 0 [(0, .ref (ad 0)), (1, vI w)] [] σ
  refine s_aload_n (pc := 0) C dX12_radius_0 0 rfl ?_
  refine s_iload_n (pc := 1) C dX12_radius_1 1 rfl ?_
  refine s_callVi (pc := 2) C (c_X12_isInside l w (by first | omega | assumption | (constructor <;> omega) | (refine ⟨⟨?_, ?_⟩, ?_⟩ <;> omega) | (simp [hs_ss, hs_up]; omega) | (simp [hs_ss, hs_up]; done))) [vI w] [] rfl rfl dX12_radius_2 wlX12_166 wiX12_isInside weX12_isInside wcX12_isInside wnX12 noX12_isInside (by decide) (by decide) (Nat.le_of_ble_eq_true rfl) (gy_self g0) rfl rfl ?_
  rintro z2 _ ⟨rfl, k2⟩
  show hs_Wd _ _ _ _ _ _ _ _ _ _ _ _ _ _ _ _ _ 5 _ [vI z2] σ
  refine s_if_eq (pc := 5) C (tgt := 10) dX12_radius_5 (by decide) ⟨by omega, by omega⟩ (fun h5 => ?_) (fun h5 => ?_)
  · skip
    refine s_aload_n (pc := 10) C dX12_radius_10 0 rfl ?_
    refine s_iload_n (pc := 11) C dX12_radius_11 1 rfl ?_
    refine s_aload_n (pc := 12) C dX12_radius_12 0 rfl ?_
    refine s_getr (q := 0) (ci := 12) (N := 68) (CN := RX12) (T := TX12) (pc := 13) C 15 dX12_radius_13 wlX12_41 rfl rfl rfl wfX12 (by decide) rfl ?_
    refine s_iload_n (pc := 16) C dX12_radius_16 1 rfl ?_
    refine s_iald (q := 10) (n := 4) (pc := 17) C (σ 10 w.toNat) rfl dX12_radius_17 rfl (by omega) (by omega) (by decide) ?_
    have b17 : (0 : Int) ≤ σ 10 w.toNat ∧ σ 10 w.toNat ≤ 99 := g0.1 10 w.toNat
    refine s_callVi (pc := 18) C (c_X12_plain l w (σ 10 w.toNat) (by first | omega | assumption | (constructor <;> omega) | (refine ⟨⟨?_, ?_⟩, ?_⟩ <;> omega) | (simp [hs_ss, hs_up]; omega) | (simp [hs_ss, hs_up]; done)) (by first | omega | assumption | (constructor <;> omega) | (refine ⟨⟨?_, ?_⟩, ?_⟩ <;> omega) | (simp [hs_ss, hs_up]; omega) | (simp [hs_ss, hs_up]; done))) [vI w, vI (σ 10 w.toNat)] [] rfl rfl dX12_radius_18 wlX12_170 wiX12_plain weX12_plain wcX12_plain wnX12 noX12_plain (by decide) (by decide) (Nat.le_of_ble_eq_true rfl) (gy_self g0) rfl rfl ?_
    rintro z18 _ ⟨rfl, k18⟩
    show hs_Wd _ _ _ _ _ _ _ _ _ _ _ _ _ _ _ _ _ 21 _ [vI z18] σ
    refine s_aload_n (pc := 21) C dX12_radius_21 0 rfl ?_
    refine s_iload_n (pc := 22) C dX12_radius_22 1 rfl ?_
    refine s_aload_n (pc := 23) C dX12_radius_23 0 rfl ?_
    refine s_getr (q := 0) (ci := 12) (N := 68) (CN := RX12) (T := TX12) (pc := 24) C 8 dX12_radius_24 wlX12_20 rfl rfl rfl wfX12 (by decide) rfl ?_
    refine s_iload_n (pc := 27) C dX12_radius_27 1 rfl ?_
    refine s_iald (q := 3) (n := 4) (pc := 28) C (σ 3 w.toNat) rfl dX12_radius_28 rfl (by omega) (by omega) (by decide) ?_
    have b28 : (0 : Int) ≤ σ 3 w.toNat ∧ σ 3 w.toNat ≤ 99 := g0.1 3 w.toNat
    refine s_callVi (pc := 29) C (c_X12_isBeside l w (by first | omega | assumption | (constructor <;> omega) | (refine ⟨⟨?_, ?_⟩, ?_⟩ <;> omega) | (simp [hs_ss, hs_up]; omega) | (simp [hs_ss, hs_up]; done)) (σ 3 w.toNat) (by first | omega | assumption | (constructor <;> omega) | (refine ⟨⟨?_, ?_⟩, ?_⟩ <;> omega) | (simp [hs_ss, hs_up]; omega) | (simp [hs_ss, hs_up]; done))) [vI w, vI (σ 3 w.toNat)] [vI z18] rfl rfl dX12_radius_29 wlX12_173 wiX12_isBeside weX12_isBeside wcX12_isBeside wnX12 noX12_isBeside (by decide) (by decide) (Nat.le_of_ble_eq_true rfl) (gy_self g0) rfl rfl ?_
    rintro z29 _ ⟨rfl, k29⟩
    show hs_Wd _ _ _ _ _ _ _ _ _ _ _ _ _ _ _ _ _ 32 _ [vI z29, vI z18] σ
    refine s_if_ne (pc := 32) C (tgt := 49) dX12_radius_32 (by decide) ⟨by omega, by omega⟩ (fun h32 => ?_) (fun h32 => ?_)
    · skip
      refine s_aload_n (pc := 49) C dX12_radius_49 0 rfl ?_
      refine s_getr (q := 0) (ci := 12) (N := 68) (CN := RX12) (T := TX12) (pc := 50) C 14 dX12_radius_50 wlX12_38 rfl rfl rfl wfX12 (by decide) rfl ?_
      refine s_iload_n (pc := 53) C dX12_radius_53 1 rfl ?_
      refine s_iald (q := 9) (n := 4) (pc := 54) C (σ 9 w.toNat) rfl dX12_radius_54 rfl (by omega) (by omega) (by decide) ?_
      have b54 : (0 : Int) ≤ σ 9 w.toNat ∧ σ 9 w.toNat ≤ 60 := g0.1 9 w.toNat
      refine s_goto (pc := 55) C (tgt := 59) dX12_radius_55 (by decide) ?_
      refine s_isub (pc := 59) C dX12_radius_59 ?_
      refine s_iret (pc := 60) C dX12_radius_60 ?_
      refine ⟨_, rfl, ?_⟩
      exact ⟨rfl, by first | omega | assumption | (constructor <;> omega) | (refine ⟨⟨?_, ?_⟩, ?_⟩ <;> omega) | (simp [hs_ss, hs_up]; omega) | (simp [hs_ss, hs_up]; done)⟩
    · skip
      refine s_aload_n (pc := 35) C dX12_radius_35 0 rfl ?_
      refine s_iload_n (pc := 36) C dX12_radius_36 1 rfl ?_
      refine s_aload_n (pc := 37) C dX12_radius_37 0 rfl ?_
      refine s_getr (q := 0) (ci := 12) (N := 68) (CN := RX12) (T := TX12) (pc := 38) C 9 dX12_radius_38 wlX12_23 rfl rfl rfl wfX12 (by decide) rfl ?_
      refine s_iload_n (pc := 41) C dX12_radius_41 1 rfl ?_
      refine s_iald (q := 4) (n := 4) (pc := 42) C (σ 4 w.toNat) rfl dX12_radius_42 rfl (by omega) (by omega) (by decide) ?_
      have b42 : (-1 : Int) ≤ σ 4 w.toNat ∧ σ 4 w.toNat ≤ 99 := g0.1 4 w.toNat
      refine s_callVi (pc := 43) C (c_X12_isBeside l w (by first | omega | assumption | (constructor <;> omega) | (refine ⟨⟨?_, ?_⟩, ?_⟩ <;> omega) | (simp [hs_ss, hs_up]; omega) | (simp [hs_ss, hs_up]; done)) (σ 4 w.toNat) (by first | omega | assumption | (constructor <;> omega) | (refine ⟨⟨?_, ?_⟩, ?_⟩ <;> omega) | (simp [hs_ss, hs_up]; omega) | (simp [hs_ss, hs_up]; done))) [vI w, vI (σ 4 w.toNat)] [vI z18] rfl rfl dX12_radius_43 wlX12_173 wiX12_isBeside weX12_isBeside wcX12_isBeside wnX12 noX12_isBeside (by decide) (by decide) (Nat.le_of_ble_eq_true rfl) (gy_self g0) rfl rfl ?_
      rintro z43 _ ⟨rfl, k43⟩
      show hs_Wd _ _ _ _ _ _ _ _ _ _ _ _ _ _ _ _ _ 46 _ [vI z43, vI z18] σ
      refine s_if_eq (pc := 46) C (tgt := 58) dX12_radius_46 (by decide) ⟨by omega, by omega⟩ (fun h46 => ?_) (fun h46 => ?_)
      · skip
        refine s_iconst (pc := 58) C dX12_radius_58 ?_
        refine s_isub (pc := 59) C dX12_radius_59 ?_
        refine s_iret (pc := 60) C dX12_radius_60 ?_
        refine ⟨_, rfl, ?_⟩
        exact ⟨rfl, by first | omega | assumption | (constructor <;> omega) | (refine ⟨⟨?_, ?_⟩, ?_⟩ <;> omega) | (simp [hs_ss, hs_up]; omega) | (simp [hs_ss, hs_up]; done)⟩
      · skip
        refine s_aload_n (pc := 49) C dX12_radius_49 0 rfl ?_
        refine s_getr (q := 0) (ci := 12) (N := 68) (CN := RX12) (T := TX12) (pc := 50) C 14 dX12_radius_50 wlX12_38 rfl rfl rfl wfX12 (by decide) rfl ?_
        refine s_iload_n (pc := 53) C dX12_radius_53 1 rfl ?_
        refine s_iald (q := 9) (n := 4) (pc := 54) C (σ 9 w.toNat) rfl dX12_radius_54 rfl (by omega) (by omega) (by decide) ?_
        have b54 : (0 : Int) ≤ σ 9 w.toNat ∧ σ 9 w.toNat ≤ 60 := g0.1 9 w.toNat
        refine s_goto (pc := 55) C (tgt := 59) dX12_radius_55 (by decide) ?_
        refine s_isub (pc := 59) C dX12_radius_59 ?_
        refine s_iret (pc := 60) C dX12_radius_60 ?_
        refine ⟨_, rfl, ?_⟩
        exact ⟨rfl, by first | omega | assumption | (constructor <;> omega) | (refine ⟨⟨?_, ?_⟩, ?_⟩ <;> omega) | (simp [hs_ss, hs_up]; omega) | (simp [hs_ss, hs_up]; done)⟩
  · skip
    refine s_iconst (pc := 8) C dX12_radius_8 ?_
    refine s_iret (pc := 9) C dX12_radius_9 ?_
    refine ⟨_, rfl, ?_⟩
    exact ⟨rfl, by first | omega | assumption | (constructor <;> omega) | (refine ⟨⟨?_, ?_⟩, ?_⟩ <;> omega) | (simp [hs_ss, hs_up]; omega) | (simp [hs_ss, hs_up]; done)⟩
set_option maxHeartbeats 4000000 in
set_option maxRecDepth 100000 in
theorem c_X12_ridesNow (l : Launch)  : hs_Met l yX12_ridesNow cX12_ridesNow 3 (some .int) 6 SHY (fun ad => [.ref (ad 0)]) (fun σ => GY σ σ) (hs_PI (fun σ z σ1 => σ = σ1 ∧ -7000 ≤ z ∧ z ≤ 7000 ∧ (σ 0 6 = 0 → z = 0))) := by
  refine hs_from pfX12_ridesNow (fun _ => Nat.le_of_ble_eq_true rfl) ?_
  intro p e s m args below meth c D dA ad A σ C hpre
  have C : hs_C p s m args meth c D dA SHY ad A 3 cX12_ridesNow RX12 (some .int) := C
  have g0 := hpre
  show hs_Wd p l e 6 s m args below meth c D dA SHY ad A 3 (hs_PI (fun σ z σ1 => σ = σ1 ∧ -7000 ≤ z ∧ z ≤ 7000 ∧ (σ 0 6 = 0 → z = 0)) σ) 0 [(0, .ref (ad 0))] [] σ
  refine s_iconst (pc := 0) C dX12_ridesNow_0 ?_
  refine s_istore_n (pc := 1) C [(1, vI 0), (0, .ref (ad 0))] dX12_ridesNow_1 (by decide) rfl ?_
  refine s_iconst (pc := 2) C dX12_ridesNow_2 ?_
  refine s_istore_n (pc := 3) C [(2, vI 0), (1, vI 0), (0, .ref (ad 0))] dX12_ridesNow_3 (by decide) rfl ?_
  refine s_sub C [2, 1, 0] [(0, .ref (ad 0)), (1, vI 0), (2, vI 0)] rfl ?_
  have hi4 : 0 ≤ (0 : Int) ∧ (0 : Int) ≤ 4 ∧ -7000 ≤ (0 : Int) ∧ (0 : Int) ≤ 7000 ∧ (σ 0 6 = 0 → (0 : Int) = 0) := (by first | omega | assumption | (constructor <;> omega) | (refine ⟨⟨?_, ?_⟩, ?_⟩ <;> omega) | (simp [hs_ss, hs_up]; omega) | (simp [hs_ss, hs_up]; done))
  refine hs_loop (α := Int × Int) (fun x_ => (0 ≤ x_.1 ∧ x_.1 ≤ 4 ∧ -7000 ≤ x_.2 ∧ x_.2 ≤ 7000 ∧ (σ 0 6 = 0 → x_.2 = 0)) → hs_Wd p l e 6 s m args below meth c D dA SHY ad A 3 (hs_PI (fun σ z σ1 => σ = σ1 ∧ -7000 ≤ z ∧ z ≤ 7000 ∧ (σ 0 6 = 0 → z = 0)) σ) 4 [(0, .ref (ad 0)), (1, vI x_.2), (2, vI x_.1)] [] σ) (fun x_ => (5 - x_.1).toNat) ?_ (0, 0) hi4
  rintro ⟨w, gr⟩ ih4 hinv
  replace hinv : 0 ≤ w ∧ w ≤ 4 ∧ -7000 ≤ gr ∧ gr ≤ 7000 ∧ (σ 0 6 = 0 → gr = 0) := hinv
  show hs_Wd p l e 6 s m args below meth c D dA SHY ad A 3 (hs_PI (fun σ z σ1 => σ = σ1 ∧ -7000 ≤ z ∧ z ≤ 7000 ∧ (σ 0 6 = 0 → z = 0)) σ) 4 [(0, .ref (ad 0)), (1, vI gr), (2, vI w)] [] σ
  refine s_iload_n (pc := 4) C dX12_ridesNow_4 2 rfl ?_
  refine s_aload_n (pc := 5) C dX12_ridesNow_5 0 rfl ?_
  refine s_geti (q := 0) (ci := 12) (N := 68) (CN := RX12) (T := TX12) (pc := 6) C 6 dX12_ridesNow_6 wlX12_141 rfl rfl rfl wfX12 (by decide) rfl (σ 0 6) rfl ?_
  have b6 : (0 : Int) ≤ σ 0 6 ∧ σ 0 6 ≤ 4 := g0.1 0 6
  refine s_icmp_ge (pc := 9) C (tgt := 37) dX12_ridesNow_9 (by decide) ⟨by omega, by omega⟩ ⟨by omega, by omega⟩ (fun h9 => ?_) (fun h9 => ?_)
  · skip
    refine s_iload_n (pc := 37) C dX12_ridesNow_37 1 rfl ?_
    refine s_iret (pc := 38) C dX12_ridesNow_38 ?_
    refine ⟨_, rfl, ?_⟩
    exact ⟨rfl, by first | omega | assumption | (constructor <;> omega) | (refine ⟨⟨?_, ?_⟩, ?_⟩ <;> omega) | (simp [hs_ss, hs_up]; omega) | (simp [hs_ss, hs_up]; done)⟩
  · skip
    refine s_aload_n (pc := 12) C dX12_ridesNow_12 0 rfl ?_
    refine s_iload_n (pc := 13) C dX12_ridesNow_13 2 rfl ?_
    refine s_callVi (pc := 14) C (c_X12_radius l w (by first | omega | assumption | (constructor <;> omega) | (refine ⟨⟨?_, ?_⟩, ?_⟩ <;> omega) | (simp [hs_ss, hs_up]; omega) | (simp [hs_ss, hs_up]; done))) [vI w] [] rfl rfl dX12_ridesNow_14 wlX12_176 wiX12_radius weX12_radius wcX12_radius wnX12 noX12_radius (by decide) (by decide) (Nat.le_of_ble_eq_true rfl) (gy_self g0) rfl rfl ?_
    rintro z14 _ ⟨rfl, k14⟩
    show hs_Wd _ _ _ _ _ _ _ _ _ _ _ _ _ _ _ _ _ 17 _ [vI z14] σ
    refine s_iload_n (pc := 17) C dX12_ridesNow_17 1 rfl ?_
    refine s_icmp_le (pc := 18) C (tgt := 29) dX12_ridesNow_18 (by decide) ⟨by omega, by omega⟩ ⟨by omega, by omega⟩ (fun h18 => ?_) (fun h18 => ?_)
    · skip
      refine s_iload_n (pc := 29) C dX12_ridesNow_29 1 rfl ?_
      refine s_istore_n (pc := 30) C [(1, vI gr), (0, .ref (ad 0)), (2, vI w)] dX12_ridesNow_30 (by decide) rfl ?_
      refine s_iinc (pc := 31) C [(2, vI (w + 1)), (1, vI gr), (0, .ref (ad 0))] dX12_ridesNow_31 2 rfl (by decide) rfl ?_
      refine s_goto (pc := 34) C (tgt := 4) dX12_ridesNow_34 (by decide) ?_
      refine s_sub C [2, 1, 0] [(0, .ref (ad 0)), (1, vI gr), (2, vI (w + 1))] rfl ?_
      have hi4 : 0 ≤ (w + 1) ∧ (w + 1) ≤ 4 ∧ -7000 ≤ gr ∧ gr ≤ 7000 ∧ (σ 0 6 = 0 → gr = 0) := (by first | omega | assumption | (constructor <;> omega) | (refine ⟨⟨?_, ?_⟩, ?_⟩ <;> omega) | (simp [hs_ss, hs_up]; omega) | (simp [hs_ss, hs_up]; done))
      exact ih4 (w + 1, gr) (by first | omega | (simp only []; omega)) hi4
    · skip
      refine s_aload_n (pc := 21) C dX12_ridesNow_21 0 rfl ?_
      refine s_iload_n (pc := 22) C dX12_ridesNow_22 2 rfl ?_
      refine s_callVi (pc := 23) C (c_X12_radius l w (by first | omega | assumption | (constructor <;> omega) | (refine ⟨⟨?_, ?_⟩, ?_⟩ <;> omega) | (simp [hs_ss, hs_up]; omega) | (simp [hs_ss, hs_up]; done))) [vI w] [] rfl rfl dX12_ridesNow_23 wlX12_176 wiX12_radius weX12_radius wcX12_radius wnX12 noX12_radius (by decide) (by decide) (Nat.le_of_ble_eq_true rfl) (gy_self g0) rfl rfl ?_
      rintro z23 _ ⟨rfl, k23⟩
      show hs_Wd _ _ _ _ _ _ _ _ _ _ _ _ _ _ _ _ _ 26 _ [vI z23] σ
      refine s_goto (pc := 26) C (tgt := 30) dX12_ridesNow_26 (by decide) ?_
      refine s_istore_n (pc := 30) C [(1, vI z23), (0, .ref (ad 0)), (2, vI w)] dX12_ridesNow_30 (by decide) rfl ?_
      refine s_iinc (pc := 31) C [(2, vI (w + 1)), (1, vI z23), (0, .ref (ad 0))] dX12_ridesNow_31 2 rfl (by decide) rfl ?_
      refine s_goto (pc := 34) C (tgt := 4) dX12_ridesNow_34 (by decide) ?_
      refine s_sub C [2, 1, 0] [(0, .ref (ad 0)), (1, vI z23), (2, vI (w + 1))] rfl ?_
      have hi4 : 0 ≤ (w + 1) ∧ (w + 1) ≤ 4 ∧ -7000 ≤ z23 ∧ z23 ≤ 7000 ∧ (σ 0 6 = 0 → z23 = 0) := (by first | omega | assumption | (constructor <;> omega) | (refine ⟨⟨?_, ?_⟩, ?_⟩ <;> omega) | (simp [hs_ss, hs_up]; omega) | (simp [hs_ss, hs_up]; done))
      exact ih4 (w + 1, z23) (by first | omega | (simp only []; omega)) hi4
set_option maxHeartbeats 4000000 in
set_option maxRecDepth 100000 in
theorem c_X12_tried (l : Launch)  : hs_Met l yX12_tried cX12_tried 2 (some .int) 7 SHY (fun ad => [.ref (ad 0)]) (fun σ => GY σ σ) (hs_PI (fun σ z σ1 => σ = σ1 ∧ 0 ≤ z ∧ z ≤ 2 ∧ (σ 0 6 = 0 → σ 0 17 = 0 → z = 1))) := by
  refine hs_from pfX12_tried (fun _ => Nat.le_of_ble_eq_true rfl) ?_
  intro p e s m args below meth c D dA ad A σ C hpre
  have C : hs_C p s m args meth c D dA SHY ad A 2 cX12_tried RX12 (some .int) := C
  have g0 := hpre
  show hs_Wd p l e 7 s m args below meth c D dA SHY ad A 2 (hs_PI (fun σ z σ1 => σ = σ1 ∧ 0 ≤ z ∧ z ≤ 2 ∧ (σ 0 6 = 0 → σ 0 17 = 0 → z = 1)) σ) 0 [(0, .ref (ad 0))] [] σ
  refine s_aload_n (pc := 0) C dX12_tried_0 0 rfl ?_
  refine s_callVi (pc := 1) C (c_X12_ridesNow l) [] [] rfl rfl dX12_tried_1 wlX12_179 wiX12_ridesNow weX12_ridesNow wcX12_ridesNow wnX12 noX12_ridesNow (by decide) (by decide) (Nat.le_of_ble_eq_true rfl) (gy_self g0) rfl rfl ?_
  rintro z1 _ ⟨rfl, k1⟩
  show hs_Wd _ _ _ _ _ _ _ _ _ _ _ _ _ _ _ _ _ 4 _ [vI z1] σ
  refine s_if_ne (pc := 4) C (tgt := 14) dX12_tried_4 (by decide) ⟨by omega, by omega⟩ (fun h4 => ?_) (fun h4 => ?_)
  · skip
    refine s_iconst (pc := 14) C dX12_tried_14 ?_
    refine s_iret (pc := 15) C dX12_tried_15 ?_
    refine ⟨_, rfl, ?_⟩
    exact ⟨rfl, by first | omega | assumption | (constructor <;> omega) | (refine ⟨⟨?_, ?_⟩, ?_⟩ <;> omega) | (simp [hs_ss, hs_up]; omega) | (simp [hs_ss, hs_up]; done)⟩
  · skip
    refine s_aload_n (pc := 7) C dX12_tried_7 0 rfl ?_
    refine s_geti (q := 0) (ci := 12) (N := 68) (CN := RX12) (T := TX12) (pc := 8) C 17 dX12_tried_8 wlX12_183 rfl rfl rfl wfX12 (by decide) rfl (σ 0 17) rfl ?_
    have b8 : (0 : Int) ≤ σ 0 17 ∧ σ 0 17 ≤ 999 := g0.1 0 17
    refine s_if_le (pc := 11) C (tgt := 16) dX12_tried_11 (by decide) ⟨by omega, by omega⟩ (fun h11 => ?_) (fun h11 => ?_)
    · skip
      refine s_iconst (pc := 16) C dX12_tried_16 ?_
      refine s_istore_n (pc := 17) C [(1, vI 0), (0, .ref (ad 0))] dX12_tried_17 (by decide) rfl ?_
      refine s_sub C [1, 0] [(0, .ref (ad 0)), (1, vI 0)] rfl ?_
      have hi18 : 0 ≤ (0 : Int) ∧ (0 : Int) ≤ 4 := (by first | omega | assumption | (constructor <;> omega) | (refine ⟨⟨?_, ?_⟩, ?_⟩ <;> omega) | (simp [hs_ss, hs_up]; omega) | (simp [hs_ss, hs_up]; done))
      refine hs_loop (α := Int) (fun x_ => (0 ≤ x_ ∧ x_ ≤ 4) → hs_Wd p l e 7 s m args below meth c D dA SHY ad A 2 (hs_PI (fun σ z σ1 => σ = σ1 ∧ 0 ≤ z ∧ z ≤ 2 ∧ (σ 0 6 = 0 → σ 0 17 = 0 → z = 1)) σ) 18 [(0, .ref (ad 0)), (1, vI x_)] [] σ) (fun x_ => (5 - x_).toNat) ?_ (0) hi18
      rintro w ih18 hinv
      replace hinv : 0 ≤ w ∧ w ≤ 4 := hinv
      show hs_Wd p l e 7 s m args below meth c D dA SHY ad A 2 (hs_PI (fun σ z σ1 => σ = σ1 ∧ 0 ≤ z ∧ z ≤ 2 ∧ (σ 0 6 = 0 → σ 0 17 = 0 → z = 1)) σ) 18 [(0, .ref (ad 0)), (1, vI w)] [] σ
      refine s_iload_n (pc := 18) C dX12_tried_18 1 rfl ?_
      refine s_aload_n (pc := 19) C dX12_tried_19 0 rfl ?_
      refine s_geti (q := 0) (ci := 12) (N := 68) (CN := RX12) (T := TX12) (pc := 20) C 6 dX12_tried_20 wlX12_141 rfl rfl rfl wfX12 (by decide) rfl (σ 0 6) rfl ?_
      have b20 : (0 : Int) ≤ σ 0 6 ∧ σ 0 6 ≤ 4 := g0.1 0 6
      refine s_icmp_ge (pc := 23) C (tgt := 48) dX12_tried_23 (by decide) ⟨by omega, by omega⟩ ⟨by omega, by omega⟩ (fun h23 => ?_) (fun h23 => ?_)
      · skip
        refine s_iconst (pc := 48) C dX12_tried_48 ?_
        refine s_iret (pc := 49) C dX12_tried_49 ?_
        refine ⟨_, rfl, ?_⟩
        exact ⟨rfl, by first | omega | assumption | (constructor <;> omega) | (refine ⟨⟨?_, ?_⟩, ?_⟩ <;> omega) | (simp [hs_ss, hs_up]; omega) | (simp [hs_ss, hs_up]; done)⟩
      · skip
        refine s_aload_n (pc := 26) C dX12_tried_26 0 rfl ?_
        refine s_iload_n (pc := 27) C dX12_tried_27 1 rfl ?_
        refine s_aload_n (pc := 28) C dX12_tried_28 0 rfl ?_
        refine s_getr (q := 0) (ci := 12) (N := 68) (CN := RX12) (T := TX12) (pc := 29) C 8 dX12_tried_29 wlX12_20 rfl rfl rfl wfX12 (by decide) rfl ?_
        refine s_iload_n (pc := 32) C dX12_tried_32 1 rfl ?_
        refine s_iald (q := 3) (n := 4) (pc := 33) C (σ 3 w.toNat) rfl dX12_tried_33 rfl (by omega) (by omega) (by decide) ?_
        have b33 : (0 : Int) ≤ σ 3 w.toNat ∧ σ 3 w.toNat ≤ 99 := g0.1 3 w.toNat
        refine s_callVi (pc := 34) C (c_X12_isAt l w (by first | omega | assumption | (constructor <;> omega) | (refine ⟨⟨?_, ?_⟩, ?_⟩ <;> omega) | (simp [hs_ss, hs_up]; omega) | (simp [hs_ss, hs_up]; done)) (σ 3 w.toNat) (by first | omega | assumption | (constructor <;> omega) | (refine ⟨⟨?_, ?_⟩, ?_⟩ <;> omega) | (simp [hs_ss, hs_up]; omega) | (simp [hs_ss, hs_up]; done))) [vI w, vI (σ 3 w.toNat)] [] rfl rfl dX12_tried_34 wlX12_162 wiX12_isAt weX12_isAt wcX12_isAt wnX12 noX12_isAt (by decide) (by decide) (Nat.le_of_ble_eq_true rfl) (gy_self g0) rfl rfl ?_
        rintro z34 _ ⟨rfl, k34⟩
        show hs_Wd _ _ _ _ _ _ _ _ _ _ _ _ _ _ _ _ _ 37 _ [vI z34] σ
        refine s_if_ne (pc := 37) C (tgt := 42) dX12_tried_37 (by decide) ⟨by omega, by omega⟩ (fun h37 => ?_) (fun h37 => ?_)
        · skip
          refine s_iinc (pc := 42) C [(1, vI (w + 1)), (0, .ref (ad 0))] dX12_tried_42 1 rfl (by decide) rfl ?_
          refine s_goto (pc := 45) C (tgt := 18) dX12_tried_45 (by decide) ?_
          refine s_sub C [1, 0] [(0, .ref (ad 0)), (1, vI (w + 1))] rfl ?_
          have hi18 : 0 ≤ (w + 1) ∧ (w + 1) ≤ 4 := (by first | omega | assumption | (constructor <;> omega) | (refine ⟨⟨?_, ?_⟩, ?_⟩ <;> omega) | (simp [hs_ss, hs_up]; omega) | (simp [hs_ss, hs_up]; done))
          exact ih18 (w + 1) (by first | omega | (simp only []; omega)) hi18
        · skip
          refine s_iconst (pc := 40) C dX12_tried_40 ?_
          refine s_iret (pc := 41) C dX12_tried_41 ?_
          refine ⟨_, rfl, ?_⟩
          exact ⟨rfl, by first | omega | assumption | (constructor <;> omega) | (refine ⟨⟨?_, ?_⟩, ?_⟩ <;> omega) | (simp [hs_ss, hs_up]; omega) | (simp [hs_ss, hs_up]; done)⟩
    · skip
      refine s_iconst (pc := 14) C dX12_tried_14 ?_
      refine s_iret (pc := 15) C dX12_tried_15 ?_
      refine ⟨_, rfl, ?_⟩
      exact ⟨rfl, by first | omega | assumption | (constructor <;> omega) | (refine ⟨⟨?_, ?_⟩, ?_⟩ <;> omega) | (simp [hs_ss, hs_up]; omega) | (simp [hs_ss, hs_up]; done)⟩
