def PSp (t c j : Nat) : Bool := c == t + 2 || c == t + 3 || (c == t && (j == 5 || j == 6))
theorem hs_xs {a b : Int} (ha : hs_R a) (hb : hs_R b) (h0 : 0 < b) : (Int32.ofInt a ^^^ Int32.ofInt b).toInt < 0 ↔ a < 0 := by
  have key : ∀ x : Int32, (x.toInt < 0) ↔ x.toBitVec.msb = true := fun x => by
    rw [BitVec.msb_eq_toInt]
    exact (decide_eq_true_iff (p := x.toBitVec.toInt < 0)).symm
  rw [key, Int32.toBitVec_xor, BitVec.msb_xor]
  have h1 := key (Int32.ofInt a)
  have h2 := key (Int32.ofInt b)
  rw [hs_ti ha] at h1
  rw [hs_ti hb] at h2
  have h3 : (Int32.ofInt b).toBitVec.msb = false := by
    cases h : (Int32.ofInt b).toBitVec.msb
    · rfl
    · exact absurd (h2.mpr h) (by omega)
  rw [h3, Bool.xor_false]
  exact h1.symm
theorem hs_tm_lo (a : Int) {b : Int} (h : 0 < b) : -b < a.tmod b := (tmod_bounds h).1
theorem hs_tm_hi (a : Int) {b : Int} (h : 0 < b) : a.tmod b < b := (tmod_bounds h).2
theorem hs_fm (a : Int) {b : Int} (h : 0 < b) : a % b = if a < 0 ∧ a.tmod b ≠ 0 then a.tmod b + b else a.tmod b := by
  rcases Int.le_total 0 a with h0 | h0
  · rw [Int.tmod_eq_emod_of_nonneg h0, if_neg (by omega)]
  · have e : a.tmod b = -((-a) % b) := by
      rw [← Int.tmod_eq_emod_of_nonneg (by omega), Int.neg_tmod, Int.neg_neg]
    have h1 := Int.emod_nonneg a (by omega : b ≠ 0)
    have h2 := Int.emod_lt_of_pos a h
    have h3 := Int.emod_nonneg (-a) (by omega : b ≠ 0)
    have h4 := Int.emod_lt_of_pos (-a) h
    have h5 : (a + (-a)) % b = (a % b + (-a) % b) % b := Int.add_emod a (-a) b
    rw [show a + (-a) = 0 by omega, Int.zero_emod] at h5
    have h6 : (a % b + (-a) % b) = 0 ∨ (a % b + (-a) % b) = b := by
      have hd : b ∣ (a % b + (-a) % b) := Int.dvd_of_emod_eq_zero h5.symm
      obtain ⟨k, hk⟩ := hd
      have : k = 0 ∨ k = 1 := by
        rcases Int.lt_trichotomy k 0 with q | q | q
        · have : b * k ≤ b * (-1) := Int.mul_le_mul_of_nonneg_left (by omega) (by omega)
          omega
        · exact Or.inl q
        · rcases Int.lt_trichotomy k 2 with q2 | q2 | q2
          · right; omega
          · subst q2; omega
          · have : b * 2 ≤ b * k := Int.mul_le_mul_of_nonneg_left (by omega) (by omega)
            omega
      rcases this with rfl | rfl
      · left; rw [hk]; omega
      · right; rw [hk]; omega
    rw [e]
    by_cases hz : a < 0 ∧ -(-a % b) ≠ 0
    · rw [if_pos hz]; omega
    · rw [if_neg hz]
      rcases Int.lt_or_eq_of_le h0 with q | q
      · have : -(-a % b) = 0 := Classical.not_not.mp (fun r => hz ⟨q, r⟩)
        omega
      · subst q; simp
theorem hs_nz {z : Int} (h : z = 0 ∨ z = 1) : narrow .boolean (vI z) = vI z := by rcases h with rfl | rfl <;> decide
theorem hs_fz {z : Int} (h : z = 0 ∨ z = 1) : fits .boolean (vI z) = true := by rcases h with rfl | rfl <;> decide
theorem hs_mulb {a b lo hi B : Int} (h0 : lo ≤ a) (h1 : a ≤ hi) (hb0 : 0 ≤ b) (hb : b ≤ B) (hlo : lo ≤ 0) (hhi : 0 ≤ hi) : lo * B ≤ a * b ∧ a * b ≤ hi * B := by
  constructor
  · calc lo * B ≤ lo * b := Int.mul_le_mul_of_nonpos_left (by omega) hb
      _ ≤ a * b := Int.mul_le_mul_of_nonneg_right h0 hb0
  · calc a * b ≤ hi * b := Int.mul_le_mul_of_nonneg_right h1 hb0
      _ ≤ hi * B := Int.mul_le_mul_of_nonneg_left hb hhi
theorem hs_tdivb {a b M : Int} (hb : 0 < b) (h1 : -M ≤ a) (h2 : a ≤ M) : -M ≤ a.tdiv b ∧ a.tdiv b ≤ M := by
  have e := Int.mul_tdiv_add_tmod a b
  have t1 := (tmod_bounds (a := a) hb).1
  have t2 := (tmod_bounds (a := a) hb).2
  rcases Int.le_total 0 a with q | q
  · have h3 := Int.tdiv_nonneg q (Int.le_of_lt hb)
    have h4 : a.tdiv b ≤ a := by
      rw [Int.tdiv_eq_ediv_of_nonneg q]
      exact Int.ediv_le_self b q
    omega
  · have h3 : (-a).tdiv b = -(a.tdiv b) := Int.neg_tdiv a b
    have h4 : 0 ≤ (-a).tdiv b := Int.tdiv_nonneg (by omega) (Int.le_of_lt hb)
    have h5 : (-a).tdiv b ≤ -a := by
      rw [Int.tdiv_eq_ediv_of_nonneg (by omega)]
      exact Int.ediv_le_self b (by omega)
    omega
set_option maxHeartbeats 4000000 in
set_option maxRecDepth 100000 in
theorem c_J9_max_7cf53 (l : Launch) (a b : Int) (ha : hs_R a) (hb : hs_R b) : hs_Met l yJ9_max_7cf53 cJ9_max_7cf53 2 (some .int) 1 SHX (fun ad => [vI a, vI b]) (fun σ => True) (hs_PI (fun σ z σ1 => max a b = z ∧ σ = σ1)) := by
  refine hs_from pfJ9_max_7cf53 (fun _ => Nat.le_of_ble_eq_true rfl) ?_
  intro p e s m args below meth c D dA ad A σ C hpre
  have C : hs_C p s m args meth c D dA SHX ad A 2 cJ9_max_7cf53 RJ9 (some .int) := C
  show hs_Wd p l e 1 s m args below meth c D dA SHX ad A 2 (hs_PI (fun σ z σ1 => max a b = z ∧ σ = σ1) σ) 0 [(0, vI a), (1, vI b)] [] σ
  refine s_iload_n (pc := 0) C dJ9_max_7cf53_0 0 rfl ?_
  refine s_iload_n (pc := 1) C dJ9_max_7cf53_1 1 rfl ?_
  refine s_icmp_lt (pc := 2) C (tgt := 9) dJ9_max_7cf53_2 (by decide) ⟨by omega, by omega⟩ ⟨by omega, by omega⟩ (fun h2 => ?_) (fun h2 => ?_)
  · skip
    refine s_iload_n (pc := 9) C dJ9_max_7cf53_9 1 rfl ?_
    refine s_iret (pc := 10) C dJ9_max_7cf53_10 ?_
    refine ⟨_, rfl, ?_⟩
    exact ⟨by omega, rfl⟩
  · skip
    refine s_iload_n (pc := 5) C dJ9_max_7cf53_5 0 rfl ?_
    refine s_goto (pc := 6) C (tgt := 10) dJ9_max_7cf53_6 (by decide) ?_
    refine s_iret (pc := 10) C dJ9_max_7cf53_10 ?_
    refine ⟨_, rfl, ?_⟩
    exact ⟨by omega, rfl⟩
set_option maxHeartbeats 4000000 in
set_option maxRecDepth 100000 in
theorem c_J9_min_7cf53 (l : Launch) (a b : Int) (ha : hs_R a) (hb : hs_R b) : hs_Met l yJ9_min_7cf53 cJ9_min_7cf53 2 (some .int) 1 SHX (fun ad => [vI a, vI b]) (fun σ => True) (hs_PI (fun σ z σ1 => min a b = z ∧ σ = σ1)) := by
  refine hs_from pfJ9_min_7cf53 (fun _ => Nat.le_of_ble_eq_true rfl) ?_
  intro p e s m args below meth c D dA ad A σ C hpre
  have C : hs_C p s m args meth c D dA SHX ad A 2 cJ9_min_7cf53 RJ9 (some .int) := C
  show hs_Wd p l e 1 s m args below meth c D dA SHX ad A 2 (hs_PI (fun σ z σ1 => min a b = z ∧ σ = σ1) σ) 0 [(0, vI a), (1, vI b)] [] σ
  refine s_iload_n (pc := 0) C dJ9_min_7cf53_0 0 rfl ?_
  refine s_iload_n (pc := 1) C dJ9_min_7cf53_1 1 rfl ?_
  refine s_icmp_gt (pc := 2) C (tgt := 9) dJ9_min_7cf53_2 (by decide) ⟨by omega, by omega⟩ ⟨by omega, by omega⟩ (fun h2 => ?_) (fun h2 => ?_)
  · skip
    refine s_iload_n (pc := 9) C dJ9_min_7cf53_9 1 rfl ?_
    refine s_iret (pc := 10) C dJ9_min_7cf53_10 ?_
    refine ⟨_, rfl, ?_⟩
    exact ⟨by omega, rfl⟩
  · skip
    refine s_iload_n (pc := 5) C dJ9_min_7cf53_5 0 rfl ?_
    refine s_goto (pc := 6) C (tgt := 10) dJ9_min_7cf53_6 (by decide) ?_
    refine s_iret (pc := 10) C dJ9_min_7cf53_10 ?_
    refine ⟨_, rfl, ?_⟩
    exact ⟨by omega, rfl⟩
set_option maxHeartbeats 4000000 in
set_option maxRecDepth 100000 in
theorem c_J9_abs_0f7a4 (l : Launch) (a : Int) (ha : hs_R a) : hs_Met l yJ9_abs_0f7a4 cJ9_abs_0f7a4 1 (some .int) 1 SHX (fun ad => [vI a]) (fun σ => True) (hs_PI (fun σ z σ1 => (if a < 0 then -a else a) = z ∧ σ = σ1)) := by
  refine hs_from pfJ9_abs_0f7a4 (fun _ => Nat.le_of_ble_eq_true rfl) ?_
  intro p e s m args below meth c D dA ad A σ C hpre
  have C : hs_C p s m args meth c D dA SHX ad A 1 cJ9_abs_0f7a4 RJ9 (some .int) := C
  show hs_Wd p l e 1 s m args below meth c D dA SHX ad A 1 (hs_PI (fun σ z σ1 => (if a < 0 then -a else a) = z ∧ σ = σ1) σ) 0 [(0, vI a)] [] σ
  refine s_iload_n (pc := 0) C dJ9_abs_0f7a4_0 0 rfl ?_
  refine s_if_ge (pc := 1) C (tgt := 9) dJ9_abs_0f7a4_1 (by decide) ⟨by omega, by omega⟩ (fun h1 => ?_) (fun h1 => ?_)
  · skip
    refine s_iload_n (pc := 9) C dJ9_abs_0f7a4_9 0 rfl ?_
    refine s_iret (pc := 10) C dJ9_abs_0f7a4_10 ?_
    refine ⟨_, rfl, ?_⟩
    exact ⟨by split <;> omega, rfl⟩
  · skip
    refine s_iload_n (pc := 4) C dJ9_abs_0f7a4_4 0 rfl ?_
    refine s_ineg (pc := 5) C dJ9_abs_0f7a4_5 ?_
    refine s_goto (pc := 6) C (tgt := 10) dJ9_abs_0f7a4_6 (by decide) ?_
    refine s_iret (pc := 10) C dJ9_abs_0f7a4_10 ?_
    refine ⟨_, rfl, ?_⟩
    exact ⟨by split <;> omega, rfl⟩
set_option maxHeartbeats 4000000 in
set_option maxRecDepth 100000 in
theorem c_J9_floorMod_7cf53 (l : Launch) (a b : Int) (ha : hs_R a) (hb : hs_R b) (h0 : 0 < b) : hs_Met l yJ9_floorMod_7cf53 cJ9_floorMod_7cf53 3 (some .int) 1 SHX (fun ad => [vI a, vI b]) (fun σ => True) (hs_PI (fun σ z σ1 => a % b = z ∧ σ = σ1)) := by
  refine hs_from pfJ9_floorMod_7cf53 (fun _ => Nat.le_of_ble_eq_true rfl) ?_
  intro p e s m args below meth c D dA ad A σ C hpre
  have C : hs_C p s m args meth c D dA SHX ad A 3 cJ9_floorMod_7cf53 RJ9 (some .int) := C
  have hm := hs_fm a h0
  have hm1 := hs_tm_lo a h0
  have hm2 := hs_tm_hi a h0
  show hs_Wd p l e 1 s m args below meth c D dA SHX ad A 3 (hs_PI (fun σ z σ1 => a % b = z ∧ σ = σ1) σ) 0 [(0, vI a), (1, vI b)] [] σ
  refine s_iload_n (pc := 0) C dJ9_floorMod_7cf53_0 0 rfl ?_
  refine s_iload_n (pc := 1) C dJ9_floorMod_7cf53_1 1 rfl ?_
  refine s_irem (pc := 2) C dJ9_floorMod_7cf53_2 ⟨by omega, by omega⟩ ⟨by omega, by omega⟩ (by omega) ?_
  refine s_istore_n (pc := 3) C [(2, vI (a.tmod b)), (0, vI a), (1, vI b)] dJ9_floorMod_7cf53_3 (by decide) rfl ?_
  refine s_iload_n (pc := 4) C dJ9_floorMod_7cf53_4 1 rfl ?_
  refine s_iload_n (pc := 5) C dJ9_floorMod_7cf53_5 2 rfl ?_
  refine s_ixor (pc := 6) C dJ9_floorMod_7cf53_6 (fun z6 hz6 ez6 => ?_)
  have hx := hs_xs ha hb h0
  rw [← ez6] at hx
  refine s_if_ge (pc := 7) C (tgt := 18) dJ9_floorMod_7cf53_7 (by decide) ⟨by omega, by omega⟩ (fun h7 => ?_) (fun h7 => ?_)
  · skip
    refine s_iload_n (pc := 18) C dJ9_floorMod_7cf53_18 0 rfl ?_
    refine s_iret (pc := 19) C dJ9_floorMod_7cf53_19 ?_
    refine ⟨_, rfl, ?_⟩
    refine ⟨?_, rfl⟩
    rw [hm]; split <;> omega
  · skip
    refine s_iload_n (pc := 10) C dJ9_floorMod_7cf53_10 0 rfl ?_
    refine s_if_eq (pc := 11) C (tgt := 18) dJ9_floorMod_7cf53_11 (by decide) ⟨by omega, by omega⟩ (fun h11 => ?_) (fun h11 => ?_)
    · skip
      refine s_iload_n (pc := 18) C dJ9_floorMod_7cf53_18 0 rfl ?_
      refine s_iret (pc := 19) C dJ9_floorMod_7cf53_19 ?_
      refine ⟨_, rfl, ?_⟩
      refine ⟨?_, rfl⟩
      rw [hm]; split <;> omega
    · skip
      refine s_iload_n (pc := 14) C dJ9_floorMod_7cf53_14 0 rfl ?_
      refine s_iload_n (pc := 15) C dJ9_floorMod_7cf53_15 2 rfl ?_
      refine s_iadd (pc := 16) C dJ9_floorMod_7cf53_16 ?_
      refine s_iret (pc := 17) C dJ9_floorMod_7cf53_17 ?_
      refine ⟨_, rfl, ?_⟩
      refine ⟨?_, rfl⟩
      rw [hm]; split <;> omega
