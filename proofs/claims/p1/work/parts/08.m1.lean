theorem hs_xs {a b : Int} (ha : hs_R a) (hb : hs_R b) (h0 : 0 < b) : (Int32.ofInt a ^^^ Int32.ofInt b).toInt < 0 ↔ a < 0 := by
  have key : ∀ x : Int32, (x.toInt < 0) ↔ x.toBitVec.msb = true := fun x => by
    rw [BitVec.msb_eq_toInt]
    exact (decide_eq_true_iff (p := x.toBitVec.toInt < 0)).symm
  rw [key, Int32.toBitVec_xor, BitVec.msb_xor]
  have h1 := key (Int32.ofInt a)
  have h2 := key (Int32.ofInt b)
  rw [hs_ti ha] at h1
  rw [hs_ti hb] at h2
  have h3 : (Int32.ofInt b).toBitVec.msb = false := by
    cases h : (Int32.ofInt b).toBitVec.msb
    · rfl
    · exact absurd (h2.mpr h) (by omega)
  rw [h3, Bool.xor_false]
  exact h1.symm
theorem hs_tm_lo (a : Int) {b : Int} (h : 0 < b) : -b < a.tmod b := (tmod_bounds h).1
theorem hs_tm_hi (a : Int) {b : Int} (h : 0 < b) : a.tmod b < b := (tmod_bounds h).2
theorem hs_fm (a : Int) {b : Int} (h : 0 < b) : a % b = if a < 0 ∧ a.tmod b ≠ 0 then a.tmod b + b else a.tmod b := by
  rcases Int.le_total 0 a with h0 | h0
  · rw [Int.tmod_eq_emod_of_nonneg h0, if_neg (by omega)]
  · have e : a.tmod b = -((-a) % b) := by
      rw [← Int.tmod_eq_emod_of_nonneg (by omega), Int.neg_tmod, Int.neg_neg]
    have h1 := Int.emod_nonneg a (by omega : b ≠ 0)
    have h2 := Int.emod_lt_of_pos a h
    have h3 := Int.emod_nonneg (-a) (by omega : b ≠ 0)
    have h4 := Int.emod_lt_of_pos (-a) h
    have h5 : (a + (-a)) % b = (a % b + (-a) % b) % b := Int.add_emod a (-a) b
    rw [show a + (-a) = 0 by omega, Int.zero_emod] at h5
    have h6 : (a % b + (-a) % b) = 0 ∨ (a % b + (-a) % b) = b := by
      have hd : b ∣ (a % b + (-a) % b) := Int.dvd_of_emod_eq_zero h5.symm
      obtain ⟨k, hk⟩ := hd
      have : k = 0 ∨ k = 1 := by
        rcases Int.lt_trichotomy k 0 with q | q | q
        · have : b * k ≤ b * (-1) := Int.mul_le_mul_of_nonneg_left (by omega) (by omega)
          omega
        · exact Or.inl q
        · rcases Int.lt_trichotomy k 2 with q2 | q2 | q2
          · right; omega
          · subst q2; omega
          · have : b * 2 ≤ b * k := Int.mul_le_mul_of_nonneg_left (by omega) (by omega)
            omega
      rcases this with rfl | rfl
      · left; rw [hk]; omega
      · right; rw [hk]; omega
    rw [e]
    by_cases hz : a < 0 ∧ -(-a % b) ≠ 0
    · rw [if_pos hz]; omega
    · rw [if_neg hz]
      rcases Int.lt_or_eq_of_le h0 with q | q
      · have : -(-a % b) = 0 := Classical.not_not.mp (fun r => hz ⟨q, r⟩)
        omega
      · subst q; simp
theorem hs_nz {z : Int} (h : z = 0 ∨ z = 1) : narrow .boolean (vI z) = vI z := by rcases h with rfl | rfl <;> decide
theorem hs_fz {z : Int} (h : z = 0 ∨ z = 1) : fits .boolean (vI z) = true := by rcases h with rfl | rfl <;> decide
set_option maxHeartbeats 4000000 in
set_option maxRecDepth 100000 in
theorem c_J9_max_7cf53 (l : Launch) (a b : Int) (ha : hs_R a) (hb : hs_R b) : hs_Met l yJ9_max_7cf53 cJ9_max_7cf53 2 (some .int) 1 SHX (fun ad => [vI a, vI b]) (fun σ => True) (hs_PI (fun σ z σ1 => max a b = z ∧ σ = σ1)) := by
  refine hs_from pfJ9_max_7cf53 (fun _ => Nat.le_of_ble_eq_true rfl) ?_
  intro p e s m args below meth c D dA ad A σ C hpre
  have C : hs_C p s m args meth c D dA SHX ad A 2 cJ9_max_7cf53 RJ9 (some .int) := C
  show hs_Wd p l e 1 s m args below meth c D dA SHX ad A 2 (hs_PI (fun σ z σ1 => max a b = z ∧ σ = σ1) σ) 0 [(0, vI a), (1, vI b)] [] σ
  refine s_iload_n (pc := 0) C dJ9_max_7cf53_0 0 rfl ?_
  refine s_iload_n (pc := 1) C dJ9_max_7cf53_1 1 rfl ?_
  refine s_icmp_lt (pc := 2) C (tgt := 9) dJ9_max_7cf53_2 (by decide) ⟨by omega, by omega⟩ ⟨by omega, by omega⟩ (fun h2 => ?_) (fun h2 => ?_)
  · skip
    refine s_iload_n (pc := 9) C dJ9_max_7cf53_9 1 rfl ?_
    refine s_iret (pc := 10) C dJ9_max_7cf53_10 ?_
    refine ⟨_, rfl, ?_⟩
    exact ⟨by omega, rfl⟩
  · skip
    refine s_iload_n (pc := 5) C dJ9_max_7cf53_5 0 rfl ?_
    refine s_goto (pc := 6) C (tgt := 10) dJ9_max_7cf53_6 (by decide) ?_
    refine s_iret (pc := 10) C dJ9_max_7cf53_10 ?_
    refine ⟨_, rfl, ?_⟩
    exact ⟨by omega, rfl⟩
set_option maxHeartbeats 4000000 in
set_option maxRecDepth 100000 in
theorem c_J9_min_7cf53 (l : Launch) (a b : Int) (ha : hs_R a) (hb : hs_R b) : hs_Met l yJ9_min_7cf53 cJ9_min_7cf53 2 (some .int) 1 SHX (fun ad => [vI a, vI b]) (fun σ => True) (hs_PI (fun σ z σ1 => min a b = z ∧ σ = σ1)) := by
  refine hs_from pfJ9_min_7cf53 (fun _ => Nat.le_of_ble_eq_true rfl) ?_
  intro p e s m args below meth c D dA ad A σ C hpre
  have C : hs_C p s m args meth c D dA SHX ad A 2 cJ9_min_7cf53 RJ9 (some .int) := C
  show hs_Wd p l e 1 s m args below meth c D dA SHX ad A 2 (hs_PI (fun σ z σ1 => min a b = z ∧ σ = σ1) σ) 0 [(0, vI a), (1, vI b)] [] σ
  refine s_iload_n (pc := 0) C dJ9_min_7cf53_0 0 rfl ?_
  refine s_iload_n (pc := 1) C dJ9_min_7cf53_1 1 rfl ?_
  refine s_icmp_gt (pc := 2) C (tgt := 9) dJ9_min_7cf53_2 (by decide) ⟨by omega, by omega⟩ ⟨by omega, by omega⟩ (fun h2 => ?_) (fun h2 => ?_)
  · skip
    refine s_iload_n (pc := 9) C dJ9_min_7cf53_9 1 rfl ?_
    refine s_iret (pc := 10) C dJ9_min_7cf53_10 ?_
    refine ⟨_, rfl, ?_⟩
    exact ⟨by omega, rfl⟩
  · skip
    refine s_iload_n (pc := 5) C dJ9_min_7cf53_5 0 rfl ?_
    refine s_goto (pc := 6) C (tgt := 10) dJ9_min_7cf53_6 (by decide) ?_
    refine s_iret (pc := 10) C dJ9_min_7cf53_10 ?_
    refine ⟨_, rfl, ?_⟩
    exact ⟨by omega, rfl⟩
set_option maxHeartbeats 4000000 in
set_option maxRecDepth 100000 in
theorem c_J9_abs_0f7a4 (l : Launch) (a : Int) (ha : hs_R a) : hs_Met l yJ9_abs_0f7a4 cJ9_abs_0f7a4 1 (some .int) 1 SHX (fun ad => [vI a]) (fun σ => True) (hs_PI (fun σ z σ1 => (if a < 0 then -a else a) = z ∧ σ = σ1)) := by
  refine hs_from pfJ9_abs_0f7a4 (fun _ => Nat.le_of_ble_eq_true rfl) ?_
  intro p e s m args below meth c D dA ad A σ C hpre
  have C : hs_C p s m args meth c D dA SHX ad A 1 cJ9_abs_0f7a4 RJ9 (some .int) := C
  show hs_Wd p l e 1 s m args below meth c D dA SHX ad A 1 (hs_PI (fun σ z σ1 => (if a < 0 then -a else a) = z ∧ σ = σ1) σ) 0 [(0, vI a)] [] σ
  refine s_iload_n (pc := 0) C dJ9_abs_0f7a4_0 0 rfl ?_
  refine s_if_ge (pc := 1) C (tgt := 9) dJ9_abs_0f7a4_1 (by decide) ⟨by omega, by omega⟩ (fun h1 => ?_) (fun h1 => ?_)
  · skip
    refine s_iload_n (pc := 9) C dJ9_abs_0f7a4_9 0 rfl ?_
    refine s_iret (pc := 10) C dJ9_abs_0f7a4_10 ?_
    refine ⟨_, rfl, ?_⟩
    exact ⟨by split <;> omega, rfl⟩
  · skip
    refine s_iload_n (pc := 4) C dJ9_abs_0f7a4_4 0 rfl ?_
    refine s_ineg (pc := 5) C dJ9_abs_0f7a4_5 ?_
    refine s_goto (pc := 6) C (tgt := 10) dJ9_abs_0f7a4_6 (by decide) ?_
    refine s_iret (pc := 10) C dJ9_abs_0f7a4_10 ?_
    refine ⟨_, rfl, ?_⟩
    exact ⟨by split <;> omega, rfl⟩
set_option maxHeartbeats 4000000 in
set_option maxRecDepth 100000 in
theorem c_J9_floorMod_7cf53 (l : Launch) (a b : Int) (ha : hs_R a) (hb : hs_R b) (h0 : 0 < b) : hs_Met l yJ9_floorMod_7cf53 cJ9_floorMod_7cf53 3 (some .int) 1 SHX (fun ad => [vI a, vI b]) (fun σ => True) (hs_PI (fun σ z σ1 => a % b = z ∧ σ = σ1)) := by
  refine hs_from pfJ9_floorMod_7cf53 (fun _ => Nat.le_of_ble_eq_true rfl) ?_
  intro p e s m args below meth c D dA ad A σ C hpre
  have C : hs_C p s m args meth c D dA SHX ad A 3 cJ9_floorMod_7cf53 RJ9 (some .int) := C
  have hm := hs_fm a h0
  have hm1 := hs_tm_lo a h0
  have hm2 := hs_tm_hi a h0
  show hs_Wd p l e 1 s m args below meth c D dA SHX ad A 3 (hs_PI (fun σ z σ1 => a % b = z ∧ σ = σ1) σ) 0 [(0, vI a), (1, vI b)] [] σ
  refine s_iload_n (pc := 0) C dJ9_floorMod_7cf53_0 0 rfl ?_
  refine s_iload_n (pc := 1) C dJ9_floorMod_7cf53_1 1 rfl ?_
  refine s_irem (pc := 2) C dJ9_floorMod_7cf53_2 ⟨by omega, by omega⟩ ⟨by omega, by omega⟩ (by omega) ?_
  refine s_istore_n (pc := 3) C [(2, vI (a.tmod b)), (0, vI a), (1, vI b)] dJ9_floorMod_7cf53_3 (by decide) rfl ?_
  refine s_iload_n (pc := 4) C dJ9_floorMod_7cf53_4 1 rfl ?_
  refine s_iload_n (pc := 5) C dJ9_floorMod_7cf53_5 2 rfl ?_
  refine s_ixor (pc := 6) C dJ9_floorMod_7cf53_6 (fun z6 hz6 ez6 => ?_)
  have hx := hs_xs ha hb h0
  rw [← ez6] at hx
  refine s_if_ge (pc := 7) C (tgt := 18) dJ9_floorMod_7cf53_7 (by decide) ⟨by omega, by omega⟩ (fun h7 => ?_) (fun h7 => ?_)
  · skip
    refine s_iload_n (pc := 18) C dJ9_floorMod_7cf53_18 0 rfl ?_
    refine s_iret (pc := 19) C dJ9_floorMod_7cf53_19 ?_
    refine ⟨_, rfl, ?_⟩
    refine ⟨?_, rfl⟩
    rw [hm]; split <;> omega
  · skip
    refine s_iload_n (pc := 10) C dJ9_floorMod_7cf53_10 0 rfl ?_
    refine s_if_eq (pc := 11) C (tgt := 18) dJ9_floorMod_7cf53_11 (by decide) ⟨by omega, by omega⟩ (fun h11 => ?_) (fun h11 => ?_)
    · skip
      refine s_iload_n (pc := 18) C dJ9_floorMod_7cf53_18 0 rfl ?_
      refine s_iret (pc := 19) C dJ9_floorMod_7cf53_19 ?_
      refine ⟨_, rfl, ?_⟩
      refine ⟨?_, rfl⟩
      rw [hm]; split <;> omega
    · skip
      refine s_iload_n (pc := 14) C dJ9_floorMod_7cf53_14 0 rfl ?_
      refine s_iload_n (pc := 15) C dJ9_floorMod_7cf53_15 2 rfl ?_
      refine s_iadd (pc := 16) C dJ9_floorMod_7cf53_16 ?_
      refine s_iret (pc := 17) C dJ9_floorMod_7cf53_17 ?_
      refine ⟨_, rfl, ?_⟩
      refine ⟨?_, rfl⟩
      rw [hm]; split <;> omega
set_option maxHeartbeats 4000000 in
set_option maxRecDepth 100000 in
theorem c_X8_wrap (l : Launch) (t : Nat) (ht : hs_T t) (x : Int) (hx : hs_R x) : hs_Met l yX8_wrap cX8_wrap 2 (some .int) 2 SHX (fun ad => [.ref (ad t), vI x]) (fun σ => 1 ≤ σ t 3 ∧ σ t 3 ≤ 100) (hs_PI (fun σ z σ1 => σ = σ1 ∧ 0 ≤ z ∧ z < σ t 3 ∧ z = x % (σ t 3))) := by
  refine hs_from pfX8_wrap (fun _ => Nat.le_of_ble_eq_true rfl) ?_
  intro p e s m args below meth c D dA ad A σ C hpre
  have C : hs_C p s m args meth c D dA SHX ad A 2 cX8_wrap RX8 (some .int) := C
  obtain ⟨hN1, hN2⟩ := hpre
  show hs_Wd p l e 2 s m args below meth c D dA SHX ad A 2 (hs_PI (fun σ z σ1 => σ = σ1 ∧ 0 ≤ z ∧ z < σ t 3 ∧ z = x % (σ t 3)) σ) 0 [(0, .ref (ad t)), (1, vI x)] [] σ
  refine s_iload_n (pc := 0) C dX8_wrap_0 1 rfl ?_
  refine s_iconst (pc := 1) C dX8_wrap_1 ?_
  refine s_aload_n (pc := 2) C dX8_wrap_2 0 rfl ?_
  refine s_geti (q := t) (ci := 8) (N := 7) (CN := RX8) (T := TX8) (pc := 3) C 3 dX8_wrap_3 wlX8_21 (sh_T ht) rfl rfl wfX8 (by decide) rfl (σ t 3) rfl ?_
  refine s_callSi (pc := 6) C (c_J9_max_7cf53 l 1 (σ t 3) ⟨by omega, by omega⟩ ⟨by omega, by omega⟩) [vI 1, vI (σ t 3)] [vI x] rfl rfl dX8_wrap_6 wlX8_31 wtJ9_max_7cf53 wcJ9_max_7cf53 wnJ9 noJ9_max_7cf53 (by decide) (by decide) (Nat.le_of_ble_eq_true rfl) (by first | omega | assumption | (constructor <;> omega) | (simp [hs_ss, hs_up]; omega) | (simp [hs_ss, hs_up]; done)) ?_
  rintro _ _ ⟨rfl, rfl⟩
  rw [show max 1 (σ t 3) = σ t 3 by omega]
  show hs_Wd _ _ _ _ _ _ _ _ _ _ _ _ _ _ _ _ _ 9 _ [vI (σ t 3), vI x] σ
  refine s_callSi (pc := 9) C (c_J9_floorMod_7cf53 l x (σ t 3) ⟨by omega, by omega⟩ ⟨by omega, by omega⟩ (by first | omega | assumption | (constructor <;> omega) | (simp [hs_ss, hs_up]; omega) | (simp [hs_ss, hs_up]; done))) [vI x, vI (σ t 3)] [] rfl rfl dX8_wrap_9 wlX8_37 wtJ9_floorMod_7cf53 wcJ9_floorMod_7cf53 wnJ9 noJ9_floorMod_7cf53 (by decide) (by decide) (Nat.le_of_ble_eq_true rfl) (by first | omega | assumption | (constructor <;> omega) | (simp [hs_ss, hs_up]; omega) | (simp [hs_ss, hs_up]; done)) ?_
  rintro _ _ ⟨rfl, rfl⟩
  show hs_Wd _ _ _ _ _ _ _ _ _ _ _ _ _ _ _ _ _ 12 _ [vI (x % ((σ t 3)))] σ
  refine s_iret (pc := 12) C dX8_wrap_12 ?_
  refine ⟨_, rfl, ?_⟩
  have h1 := Int.emod_nonneg x (show σ t 3 ≠ 0 by omega)
  have h2 := Int.emod_lt_of_pos x (show 0 < σ t 3 by omega)
  exact ⟨rfl, h1, h2, rfl⟩
set_option maxHeartbeats 4000000 in
set_option maxRecDepth 100000 in
theorem c_X8_far (l : Launch) (t : Nat) (ht : hs_T t) (a b : Int) (ha : 0 ≤ a ∧ a ≤ 1000) (hb : 0 ≤ b ∧ b ≤ 1000) : hs_Met l yX8_far cX8_far 4 (some .int) 1 SHX (fun ad => [.ref (ad t), vI a, vI b]) (fun σ => 1 ≤ σ t 3 ∧ σ t 3 ≤ 100) (hs_PI (fun σ z σ1 => σ = σ1 ∧ -1000 ≤ z ∧ z ≤ 1000)) := by
  refine hs_from pfX8_far (fun _ => Nat.le_of_ble_eq_true rfl) ?_
  intro p e s m args below meth c D dA ad A σ C hpre
  have C : hs_C p s m args meth c D dA SHX ad A 4 cX8_far RX8 (some .int) := C
  obtain ⟨hN1, hN2⟩ := hpre
  show hs_Wd p l e 1 s m args below meth c D dA SHX ad A 4 (hs_PI (fun σ z σ1 => σ = σ1 ∧ -1000 ≤ z ∧ z ≤ 1000) σ) 0 [(0, .ref (ad t)), (1, vI a), (2, vI b)] [] σ
  refine s_iload_n (pc := 0) C dX8_far_0 1 rfl ?_
  refine s_iload_n (pc := 1) C dX8_far_1 2 rfl ?_
  refine s_icmp_ge (pc := 2) C (tgt := 11) dX8_far_2 (by decide) ⟨by omega, by omega⟩ ⟨by omega, by omega⟩ (fun h2 => ?_) (fun h2 => ?_)
  · skip
    refine s_iload_n (pc := 11) C dX8_far_11 1 rfl ?_
    refine s_iload_n (pc := 12) C dX8_far_12 2 rfl ?_
    refine s_isub (pc := 13) C dX8_far_13 ?_
    refine s_istore_n (pc := 14) C [(3, vI (a - b)), (0, .ref (ad t)), (1, vI a), (2, vI b)] dX8_far_14 (by decide) rfl ?_
    refine s_iconst (pc := 15) C dX8_far_15 ?_
    refine s_iload_n (pc := 16) C dX8_far_16 0 rfl ?_
    refine s_imul (pc := 17) C dX8_far_17 ?_
    refine s_aload_n (pc := 18) C dX8_far_18 1 rfl ?_
    refine s_geti (q := t) (ci := 8) (N := 7) (CN := RX8) (T := TX8) (pc := 19) C 3 dX8_far_19 wlX8_21 (sh_T ht) rfl rfl wfX8 (by decide) rfl (σ t 3) rfl ?_
    refine s_icmp_le (pc := 22) C (tgt := 34) dX8_far_22 (by decide) ⟨by omega, by omega⟩ ⟨by omega, by omega⟩ (fun h22 => ?_) (fun h22 => ?_)
    · skip
      refine s_iload_n (pc := 34) C dX8_far_34 0 rfl ?_
      refine s_iret (pc := 35) C dX8_far_35 ?_
      refine ⟨_, rfl, ?_⟩
      exact ⟨rfl, by omega, by omega⟩
    · skip
      refine s_aload_n (pc := 25) C dX8_far_25 1 rfl ?_
      refine s_geti (q := t) (ci := 8) (N := 7) (CN := RX8) (T := TX8) (pc := 26) C 3 dX8_far_26 wlX8_21 (sh_T ht) rfl rfl wfX8 (by decide) rfl (σ t 3) rfl ?_
      refine s_iload_n (pc := 29) C dX8_far_29 0 rfl ?_
      refine s_isub (pc := 30) C dX8_far_30 ?_
      refine s_goto (pc := 31) C (tgt := 35) dX8_far_31 (by decide) ?_
      refine s_iret (pc := 35) C dX8_far_35 ?_
      refine ⟨_, rfl, ?_⟩
      exact ⟨rfl, by omega, by omega⟩
  · skip
    refine s_iload_n (pc := 5) C dX8_far_5 2 rfl ?_
    refine s_iload_n (pc := 6) C dX8_far_6 1 rfl ?_
    refine s_isub (pc := 7) C dX8_far_7 ?_
    refine s_goto (pc := 8) C (tgt := 14) dX8_far_8 (by decide) ?_
    refine s_istore_n (pc := 14) C [(3, vI (b - a)), (0, .ref (ad t)), (1, vI a), (2, vI b)] dX8_far_14 (by decide) rfl ?_
    refine s_iconst (pc := 15) C dX8_far_15 ?_
    refine s_iload_n (pc := 16) C dX8_far_16 0 rfl ?_
    refine s_imul (pc := 17) C dX8_far_17 ?_
    refine s_aload_n (pc := 18) C dX8_far_18 1 rfl ?_
    refine s_geti (q := t) (ci := 8) (N := 7) (CN := RX8) (T := TX8) (pc := 19) C 3 dX8_far_19 wlX8_21 (sh_T ht) rfl rfl wfX8 (by decide) rfl (σ t 3) rfl ?_
    refine s_icmp_le (pc := 22) C (tgt := 34) dX8_far_22 (by decide) ⟨by omega, by omega⟩ ⟨by omega, by omega⟩ (fun h22 => ?_) (fun h22 => ?_)
    · skip
      refine s_iload_n (pc := 34) C dX8_far_34 0 rfl ?_
      refine s_iret (pc := 35) C dX8_far_35 ?_
      refine ⟨_, rfl, ?_⟩
      exact ⟨rfl, by omega, by omega⟩
    · skip
      refine s_aload_n (pc := 25) C dX8_far_25 1 rfl ?_
      refine s_geti (q := t) (ci := 8) (N := 7) (CN := RX8) (T := TX8) (pc := 26) C 3 dX8_far_26 wlX8_21 (sh_T ht) rfl rfl wfX8 (by decide) rfl (σ t 3) rfl ?_
      refine s_iload_n (pc := 29) C dX8_far_29 0 rfl ?_
      refine s_isub (pc := 30) C dX8_far_30 ?_
      refine s_goto (pc := 31) C (tgt := 35) dX8_far_31 (by decide) ?_
      refine s_iret (pc := 35) C dX8_far_35 ?_
      refine ⟨_, rfl, ?_⟩
      exact ⟨rfl, by omega, by omega⟩
set_option maxHeartbeats 4000000 in
set_option maxRecDepth 100000 in
theorem c_X8_play (l : Launch) (t : Nat) (ht : hs_T t) (w b : Int) (hw : 0 ≤ w ∧ w < 4) (hb : b = 0 ∨ b = 1) : hs_Met l yX8_play cX8_play 3 (some .int) 1 SHX (fun ad => [.ref (ad t), vI w, vI b]) (fun σ => True) (hs_PI (fun σ z σ1 => (if b = 0 then σ (t + 2) w.toNat else σ (t + 1) w.toNat - σ (t + 2) w.toNat) = z ∧ σ = σ1)) := by
  refine hs_from pfX8_play (fun _ => Nat.le_of_ble_eq_true rfl) ?_
  intro p e s m args below meth c D dA ad A σ C hpre
  have C : hs_C p s m args meth c D dA SHX ad A 3 cX8_play RX8 (some .int) := C
  show hs_Wd p l e 1 s m args below meth c D dA SHX ad A 3 (hs_PI (fun σ z σ1 => (if b = 0 then σ (t + 2) w.toNat else σ (t + 1) w.toNat - σ (t + 2) w.toNat) = z ∧ σ = σ1) σ) 0 [(0, .ref (ad t)), (1, vI w), (2, vI b)] [] σ
  refine s_iload_n (pc := 0) C dX8_play_0 2 rfl ?_
  refine s_if_eq (pc := 1) C (tgt := 20) dX8_play_1 (by decide) ⟨by omega, by omega⟩ (fun h1 => ?_) (fun h1 => ?_)
  · skip
    refine s_aload_n (pc := 20) C dX8_play_20 0 rfl ?_
    refine s_getr (q := t) (ci := 8) (N := 7) (CN := RX8) (T := TX8) (pc := 21) C 1 dX8_play_21 wlX8_15 (sh_T ht) rfl rfl wfX8 (by decide) rfl ?_
    refine s_iload_n (pc := 24) C dX8_play_24 1 rfl ?_
    refine s_iald (q := (t + 2)) (n := 4) (pc := 25) C (σ (t + 2) w.toNat) rfl dX8_play_25 (sh_T2 ht) (by omega) (by omega) (by decide) ?_
    refine s_iret (pc := 26) C dX8_play_26 ?_
    refine ⟨_, rfl, ?_⟩
    refine ⟨?_, rfl⟩
    split <;> omega
  · skip
    refine s_aload_n (pc := 4) C dX8_play_4 0 rfl ?_
    refine s_getr (q := t) (ci := 8) (N := 7) (CN := RX8) (T := TX8) (pc := 5) C 0 dX8_play_5 wlX8_9 (sh_T ht) rfl rfl wfX8 (by decide) rfl ?_
    refine s_iload_n (pc := 8) C dX8_play_8 1 rfl ?_
    refine s_iald (q := (t + 1)) (n := 4) (pc := 9) C (σ (t + 1) w.toNat) rfl dX8_play_9 (sh_T1 ht) (by omega) (by omega) (by decide) ?_
    refine s_aload_n (pc := 10) C dX8_play_10 0 rfl ?_
    refine s_getr (q := t) (ci := 8) (N := 7) (CN := RX8) (T := TX8) (pc := 11) C 1 dX8_play_11 wlX8_15 (sh_T ht) rfl rfl wfX8 (by decide) rfl ?_
    refine s_iload_n (pc := 14) C dX8_play_14 1 rfl ?_
    refine s_iald (q := (t + 2)) (n := 4) (pc := 15) C (σ (t + 2) w.toNat) rfl dX8_play_15 (sh_T2 ht) (by omega) (by omega) (by decide) ?_
    refine s_isub (pc := 16) C dX8_play_16 ?_
    refine s_goto (pc := 17) C (tgt := 26) dX8_play_17 (by decide) ?_
    refine s_iret (pc := 26) C dX8_play_26 ?_
    refine ⟨_, rfl, ?_⟩
    refine ⟨?_, rfl⟩
    split <;> omega
