set_option maxHeartbeats 4000000 in
set_option maxRecDepth 100000 in
theorem c_X11_isWithin (l : Launch) (a : Int) (ha : hs_R a) (b : Int) (hb : hs_R b) (d : Int) (hd : hs_R d) : hs_Met l yX11_isWithin cX11_isWithin 3 (some .boolean) 1 SHX (fun ad => [vI a, vI b, vI d]) (fun σ => GX σ σ) (hs_PI (fun σ z σ1 => σ = σ1 ∧ (z = 0 ∨ z = 1) ∧ (z = 1 ↔ b ≤ a ∧ a ≤ d))) := by
  refine hs_from pfX11_isWithin (fun _ => Nat.le_of_ble_eq_true rfl) ?_
  intro p e s m args below meth c D dA ad A σ C hpre
  have C : hs_C p s m args meth c D dA SHX ad A 3 cX11_isWithin RX11 (some .boolean) := C
  have g0 := hpre
  show hs_Wd p l e 1 s m args below meth c D dA SHX ad A 3 (hs_PI (fun σ z σ1 => σ = σ1 ∧ (z = 0 ∨ z = 1) ∧ (z = 1 ↔ b ≤ a ∧ a ≤ d)) σ) 0 [(0, vI a), (1, vI b), (2, vI d)] [] σ
  refine s_iload_n (pc := 0) C dX11_isWithin_0 0 rfl ?_
  refine s_iload_n (pc := 1) C dX11_isWithin_1 1 rfl ?_
  refine s_icmp_lt (pc := 2) C (tgt := 14) dX11_isWithin_2 (by decide) ⟨by omega, by omega⟩ ⟨by omega, by omega⟩ (fun h2 => ?_) (fun h2 => ?_)
  · skip
    refine s_iconst (pc := 14) C dX11_isWithin_14 ?_
    refine s_zret (pc := 15) C (by omega) dX11_isWithin_15 ?_
    refine ⟨_, rfl, ?_⟩
    exact ⟨rfl, by first | omega | assumption | (constructor <;> omega) | (refine ⟨⟨?_, ?_⟩, ?_⟩ <;> omega) | (simp [hs_ss, hs_up]; omega) | (simp [hs_ss, hs_up]; done)⟩
  · skip
    refine s_iload_n (pc := 5) C dX11_isWithin_5 0 rfl ?_
    refine s_iload_n (pc := 6) C dX11_isWithin_6 2 rfl ?_
    refine s_icmp_gt (pc := 7) C (tgt := 14) dX11_isWithin_7 (by decide) ⟨by omega, by omega⟩ ⟨by omega, by omega⟩ (fun h7 => ?_) (fun h7 => ?_)
    · skip
      refine s_iconst (pc := 14) C dX11_isWithin_14 ?_
      refine s_zret (pc := 15) C (by omega) dX11_isWithin_15 ?_
      refine ⟨_, rfl, ?_⟩
      exact ⟨rfl, by first | omega | assumption | (constructor <;> omega) | (refine ⟨⟨?_, ?_⟩, ?_⟩ <;> omega) | (simp [hs_ss, hs_up]; omega) | (simp [hs_ss, hs_up]; done)⟩
    · skip
      refine s_iconst (pc := 10) C dX11_isWithin_10 ?_
      refine s_goto (pc := 11) C (tgt := 15) dX11_isWithin_11 (by decide) ?_
      refine s_zret (pc := 15) C (by omega) dX11_isWithin_15 ?_
      refine ⟨_, rfl, ?_⟩
      exact ⟨rfl, by first | omega | assumption | (constructor <;> omega) | (refine ⟨⟨?_, ?_⟩, ?_⟩ <;> omega) | (simp [hs_ss, hs_up]; omega) | (simp [hs_ss, hs_up]; done)⟩
set_option maxHeartbeats 4000000 in
set_option maxRecDepth 100000 in
theorem c_X11_isPerson (l : Launch) (a : Int) (ha : hs_R a) : hs_Met l yX11_isPerson cX11_isPerson 1 (some .boolean) 2 SHX (fun ad => [vI a]) (fun σ => GX σ σ) (hs_PI (fun σ z σ1 => σ = σ1 ∧ (z = 0 ∨ z = 1) ∧ (z = 1 ↔ 0 ≤ a ∧ a ≤ 5))) := by
  refine hs_from pfX11_isPerson (fun _ => Nat.le_of_ble_eq_true rfl) ?_
  intro p e s m args below meth c D dA ad A σ C hpre
  have C : hs_C p s m args meth c D dA SHX ad A 1 cX11_isPerson RX11 (some .boolean) := C
  have g0 := hpre
  show hs_Wd p l e 2 s m args below meth c D dA SHX ad A 1 (hs_PI (fun σ z σ1 => σ = σ1 ∧ (z = 0 ∨ z = 1) ∧ (z = 1 ↔ 0 ≤ a ∧ a ≤ 5)) σ) 0 [(0, vI a)] [] σ
  refine s_iload_n (pc := 0) C dX11_isPerson_0 0 rfl ?_
  refine s_iconst (pc := 1) C dX11_isPerson_1 ?_
  refine s_iconst (pc := 2) C dX11_isPerson_2 ?_
  refine s_callSi (pc := 3) C (c_X11_isWithin l a ⟨by omega, by omega⟩ 0 ⟨by omega, by omega⟩ 5 ⟨by omega, by omega⟩) [vI a, vI 0, vI 5] [] rfl rfl dX11_isPerson_3 wlX11_123 wtX11_isWithin wcX11_isWithin wnX11 noX11_isWithin (by decide) (by decide) (Nat.le_of_ble_eq_true rfl) (gx_self g0) ?_
  rintro z3 _ ⟨rfl, k3⟩
  show hs_Wd _ _ _ _ _ _ _ _ _ _ _ _ _ _ _ _ _ 6 _ [vI z3] σ
  refine s_zret (pc := 6) C (by omega) dX11_isPerson_6 ?_
  refine ⟨_, rfl, ?_⟩
  exact ⟨rfl, by first | omega | assumption | (constructor <;> omega) | (refine ⟨⟨?_, ?_⟩, ?_⟩ <;> omega) | (simp [hs_ss, hs_up]; omega) | (simp [hs_ss, hs_up]; done)⟩
set_option maxHeartbeats 4000000 in
set_option maxRecDepth 100000 in
theorem c_X11_isDay (l : Launch) (a : Int) (ha : hs_R a) : hs_Met l yX11_isDay cX11_isDay 1 (some .boolean) 2 SHX (fun ad => [vI a]) (fun σ => GX σ σ) (hs_PI (fun σ z σ1 => σ = σ1 ∧ (z = 0 ∨ z = 1) ∧ (z = 1 ↔ 0 ≤ a ∧ a ≤ 999))) := by
  refine hs_from pfX11_isDay (fun _ => Nat.le_of_ble_eq_true rfl) ?_
  intro p e s m args below meth c D dA ad A σ C hpre
  have C : hs_C p s m args meth c D dA SHX ad A 1 cX11_isDay RX11 (some .boolean) := C
  have g0 := hpre
  show hs_Wd p l e 2 s m args below meth c D dA SHX ad A 1 (hs_PI (fun σ z σ1 => σ = σ1 ∧ (z = 0 ∨ z = 1) ∧ (z = 1 ↔ 0 ≤ a ∧ a ≤ 999)) σ) 0 [(0, vI a)] [] σ
  refine s_iload_n (pc := 0) C dX11_isDay_0 0 rfl ?_
  refine s_iconst (pc := 1) C dX11_isDay_1 ?_
  refine s_sipush (pc := 2) C dX11_isDay_2 (by decide) ?_
  refine s_callSi (pc := 5) C (c_X11_isWithin l a ⟨by omega, by omega⟩ 0 ⟨by omega, by omega⟩ 999 ⟨by omega, by omega⟩) [vI a, vI 0, vI 999] [] rfl rfl dX11_isDay_5 wlX11_123 wtX11_isWithin wcX11_isWithin wnX11 noX11_isWithin (by decide) (by decide) (Nat.le_of_ble_eq_true rfl) (gx_self g0) ?_
  rintro z5 _ ⟨rfl, k5⟩
  show hs_Wd _ _ _ _ _ _ _ _ _ _ _ _ _ _ _ _ _ 8 _ [vI z5] σ
  refine s_zret (pc := 8) C (by omega) dX11_isDay_8 ?_
  refine ⟨_, rfl, ?_⟩
  exact ⟨rfl, by first | omega | assumption | (constructor <;> omega) | (refine ⟨⟨?_, ?_⟩, ?_⟩ <;> omega) | (simp [hs_ss, hs_up]; omega) | (simp [hs_ss, hs_up]; done)⟩
set_option maxHeartbeats 4000000 in
set_option maxRecDepth 100000 in
theorem c_X11_putFour (l : Launch) (a : Int) (ha : hs_R a) : hs_Met l yX11_putFour cX11_putFour 3 none 1 SHX (fun ad => [.ref (ad 0), vI a]) (fun σ => IBX σ ∧ σ 0 9 + 4 ≤ 500) (hs_PV (fun σ σ1 => FRX σ σ1 ∧ σ1 0 9 = σ 0 9 + 4)) := by
  refine hs_from pfX11_putFour (fun _ => Nat.le_of_ble_eq_true rfl) ?_
  intro p e s m args below meth c D dA ad A σ C hpre
  have C : hs_C p s m args meth c D dA SHX ad A 3 cX11_putFour RX11 none := C
  have b9 : (0 : Int) ≤ σ 0 9 ∧ σ 0 9 ≤ 500 := hpre.1 0 9
  show hs_Wd p l e 1 s m args below meth c D dA SHX ad A 3 (hs_PV (fun σ σ1 => FRX σ σ1 ∧ σ1 0 9 = σ 0 9 + 4) σ) 0 [(0, .ref (ad 0)), (1, vI a)] [] σ
  refine s_bipush (pc := 0) C dX11_putFour_0 (by decide) ?_
  refine s_istore_n (pc := 2) C [(2, vI 24), (0, .ref (ad 0)), (1, vI a)] dX11_putFour_2 (by decide) rfl ?_
  refine s_sub C [1, 2, 0] [(0, .ref (ad 0)), (1, vI a), (2, vI 24)] rfl ?_
  have hi3 : FRX σ σ ∧ -8 ≤ (24 : Int) ∧ (24 : Int) ≤ 24 ∧ 8 * (σ 0 9 - σ 0 9) = 24 - (24 : Int) ∧ (∃ m : Nat, (24 : Int) + 8 = 8 * (m : Int)) := ⟨⟨hpre.1, fun _ _ _ _ => rfl⟩, by omega, by omega, by omega, 4, by omega⟩
  refine hs_loop (α := Int × hs_S) (fun x_ => (FRX σ x_.2 ∧ -8 ≤ x_.1 ∧ x_.1 ≤ 24 ∧ 8 * (x_.2 0 9 - σ 0 9) = 24 - x_.1 ∧ (∃ m : Nat, x_.1 + 8 = 8 * (m : Int))) → hs_Wd p l e 1 s m args below meth c D dA SHX ad A 3 (hs_PV (fun σ σ1 => FRX σ σ1 ∧ σ1 0 9 = σ 0 9 + 4) σ) 3 [(0, .ref (ad 0)), (1, vI a), (2, vI x_.1)] [] x_.2) (fun x_ => (x_.1 + 8).toNat) ?_ (24, σ) hi3
  rintro ⟨k, σ1⟩ ih3 hinv
  replace hinv : FRX σ σ1 ∧ -8 ≤ k ∧ k ≤ 24 ∧ 8 * (σ1 0 9 - σ 0 9) = 24 - k ∧ (∃ m : Nat, k + 8 = 8 * (m : Int)) := hinv
  show hs_Wd p l e 1 s m args below meth c D dA SHX ad A 3 (hs_PV (fun σ σ1 => FRX σ σ1 ∧ σ1 0 9 = σ 0 9 + 4) σ) 3 [(0, .ref (ad 0)), (1, vI a), (2, vI k)] [] σ1
  obtain ⟨hF, hk0, hk1, hk2, n0, hn0⟩ := hinv
  have b9b : (0 : Int) ≤ σ1 0 9 ∧ σ1 0 9 ≤ 500 := hF.1 0 9
  refine s_iload_n (pc := 3) C dX11_putFour_3 2 rfl ?_
  refine s_if_lt (pc := 4) C (tgt := 46) dX11_putFour_4 (by decide) ⟨by omega, by omega⟩ (fun h4 => ?_) (fun h4 => ?_)
  · skip
    refine s_vret (pc := 46) C dX11_putFour_46 ?_
    refine ⟨rfl, ?_⟩
    exact ⟨hF, by omega⟩
  · skip
    refine s_aload_n (pc := 7) C dX11_putFour_7 0 rfl ?_
    refine s_geti (q := 0) (ci := 11) (N := 11) (CN := RX11) (T := TX11) (pc := 8) C 9 dX11_putFour_8 wlX11_77 rfl rfl rfl wfX11 (by decide) rfl (σ1 0 9) rfl ?_
    refine s_sipush (pc := 11) C dX11_putFour_11 (by decide) ?_
    refine s_icmp_ge (pc := 14) C (tgt := 46) dX11_putFour_14 (by decide) ⟨by omega, by omega⟩ ⟨by decide, by decide⟩ (fun h14 => ?_) (fun h14 => ?_)
    · skip
      refine s_vret (pc := 46) C dX11_putFour_46 ?_
      refine ⟨rfl, ?_⟩
      exact ⟨hF, by omega⟩
    · skip
      refine s_aload_n (pc := 17) C dX11_putFour_17 0 rfl ?_
      refine s_getr (q := 0) (ci := 11) (N := 11) (CN := RX11) (T := TX11) (pc := 18) C 0 dX11_putFour_18 wlX11_9 rfl rfl rfl wfX11 (by decide) rfl ?_
      refine s_aload_n (pc := 21) C dX11_putFour_21 0 rfl ?_
      refine s_geti (q := 0) (ci := 11) (N := 11) (CN := RX11) (T := TX11) (pc := 22) C 9 dX11_putFour_22 wlX11_77 rfl rfl rfl wfX11 (by decide) rfl (σ1 0 9) rfl ?_
      refine s_iload_n (pc := 25) C dX11_putFour_25 1 rfl ?_
      refine s_iload_n (pc := 26) C dX11_putFour_26 2 rfl ?_
      refine s_ishr (pc := 27) C dX11_putFour_27 (fun z27 hz27 ez27 => ?_)
      refine s_i2b (pc := 28) C dX11_putFour_28 ?_
      refine s_bast (q := 1) (n := 500) (pc := 29) C dX11_putFour_29 rfl (by omega) (by omega) (by decide) ?_
      refine s_aload_n (pc := 30) C dX11_putFour_30 0 rfl ?_
      refine s_dup (pc := 31) C dX11_putFour_31 rfl ?_
      refine s_geti (q := 0) (ci := 11) (N := 11) (CN := RX11) (T := TX11) (pc := 32) C 9 dX11_putFour_32 wlX11_77 rfl rfl rfl wfX11 (by decide) rfl (σ1 0 9) rfl ?_
      refine s_iconst (pc := 35) C dX11_putFour_35 ?_
      refine s_iadd (pc := 36) C dX11_putFour_36 ?_
      refine s_puti (q := 0) (ci := 11) (N := 11) (CN := RX11) (T := TX11) (ty0 := tyX11) (ty := .int) (pc := 37) C 9 dX11_putFour_37 wlX11_77 rfl rfl rfl wfX11 tyX11_ok nmX11 (by decide) rfl rfl rfl (vp_nar_int _) rfl ?_
      refine s_iinc (pc := 40) C [(2, vI (k + (-8))), (0, .ref (ad 0)), (1, vI a)] dX11_putFour_40 2 rfl (by decide) rfl ?_
      refine s_goto (pc := 43) C (tgt := 3) dX11_putFour_43 (by decide) ?_
      refine s_sub C [1, 2, 0] [(0, .ref (ad 0)), (1, vI a), (2, vI (k + (-8)))] rfl ?_
      have hi3 : FRX σ ((hs_ss (hs_ss σ1 1 ((σ1 0 9).toNat) ((Int8.ofInt ((Int8.ofInt z27).toInt)).toInt)) 0 9 ((σ1 0 9) + 1))) ∧ -8 ≤ (k + (-8)) ∧ (k + (-8)) ≤ 24 ∧ 8 * (((hs_ss (hs_ss σ1 1 ((σ1 0 9).toNat) ((Int8.ofInt ((Int8.ofInt z27).toInt)).toInt)) 0 9 ((σ1 0 9) + 1))) 0 9 - σ 0 9) = 24 - (k + (-8)) ∧ (∃ m : Nat, (k + (-8)) + 8 = 8 * (m : Int)) := ⟨⟨ibx_set (z := σ1 0 9 + 1) (ibx_set hF.1 1 (σ1 0 9).toNat (-128) 127 rfl (hs_b8 _)) 0 9 0 500 rfl (by omega), fun c j h1 h2 => by rw [← hF.2 c j h1 h2]; by_cases q : c = 0 <;> simp_all [hs_ss, hs_up]⟩, by omega, by omega, by rw [hs_ss_at]; omega, n0 - 1, by omega⟩
      exact ih3 (k + (-8), (hs_ss (hs_ss σ1 1 ((σ1 0 9).toNat) ((Int8.ofInt ((Int8.ofInt z27).toInt)).toInt)) 0 9 ((σ1 0 9) + 1))) (by first | omega | (simp only []; omega)) hi3
set_option maxHeartbeats 4000000 in
set_option maxRecDepth 100000 in
theorem c_X11_feed (l : Launch) (a0 : Int) (ha0 : hs_R a0) (a1 : Int) (ha1 : hs_R a1) (a2 : Int) (ha2 : hs_R a2) (a3 : Int) (ha3 : hs_R a3) (a4 : Int) (ha4 : hs_R a4) : hs_Met l yX11_feed cX11_feed 6 (some .int) 3 SHX (fun ad => [.ref (ad 0), vI a0, vI a1, vI a2, vI a3, vI a4]) (fun σ => GX σ σ) (hs_PI (fun σ z σ1 => (500 < σ 0 9 + 20 → z = -1 ∧ σ1 = σ) ∧ (σ 0 9 + 20 ≤ 500 → z = σ 0 9 + 20 ∧ σ1 0 9 = σ 0 9 + 20 ∧ FRX σ σ1))) := by
  refine hs_from pfX11_feed (fun _ => Nat.le_of_ble_eq_true rfl) ?_
  intro p e s m args below meth c D dA ad A σ C hpre
  have C : hs_C p s m args meth c D dA SHX ad A 6 cX11_feed RX11 (some .int) := C
  have g0 := hpre
  have b9 : (0 : Int) ≤ σ 0 9 ∧ σ 0 9 ≤ 500 := g0.1 0 9
  show hs_Wd p l e 3 s m args below meth c D dA SHX ad A 6 (hs_PI (fun σ z σ1 => (500 < σ 0 9 + 20 → z = -1 ∧ σ1 = σ) ∧ (σ 0 9 + 20 ≤ 500 → z = σ 0 9 + 20 ∧ σ1 0 9 = σ 0 9 + 20 ∧ FRX σ σ1)) σ) 0 [(0, .ref (ad 0)), (1, vI a0), (2, vI a1), (3, vI a2), (4, vI a3), (5, vI a4)] [] σ
  refine s_aload_n (pc := 0) C dX11_feed_0 0 rfl ?_
  refine s_geti (q := 0) (ci := 11) (N := 11) (CN := RX11) (T := TX11) (pc := 1) C 9 dX11_feed_1 wlX11_77 rfl rfl rfl wfX11 (by decide) rfl (σ 0 9) rfl ?_
  refine s_bipush (pc := 4) C dX11_feed_4 (by decide) ?_
  refine s_iadd (pc := 6) C dX11_feed_6 ?_
  refine s_sipush (pc := 7) C dX11_feed_7 (by decide) ?_
  refine s_icmp_le (pc := 10) C (tgt := 15) dX11_feed_10 (by decide) ⟨by omega, by omega⟩ ⟨by decide, by decide⟩ (fun h10 => ?_) (fun h10 => ?_)
  · skip
    refine s_aload_n (pc := 15) C dX11_feed_15 0 rfl ?_
    refine s_iload_n (pc := 16) C dX11_feed_16 1 rfl ?_
    refine s_callVv (pc := 17) C (c_X11_putFour l a0 ⟨by omega, by omega⟩) [vI a0] [] rfl rfl dX11_feed_17 wlX11_81 wiX11_putFour weX11_putFour wcX11_putFour wnX11 noX11_putFour (by decide) (by decide) (Nat.le_of_ble_eq_true rfl) ⟨g0.1, by omega⟩ rfl rfl ?_
    rintro σ17 k17
    show hs_Wd _ _ _ _ _ _ _ _ _ _ _ _ _ _ _ _ _ 20 _ [] σ17
    refine s_aload_n (pc := 20) C dX11_feed_20 0 rfl ?_
    refine s_iload_n (pc := 21) C dX11_feed_21 2 rfl ?_
    refine s_callVv (pc := 22) C (c_X11_putFour l a1 ⟨by omega, by omega⟩) [vI a1] [] rfl rfl dX11_feed_22 wlX11_81 wiX11_putFour weX11_putFour wcX11_putFour wnX11 noX11_putFour (by decide) (by decide) (Nat.le_of_ble_eq_true rfl) ⟨k17.1.1, by omega⟩ rfl rfl ?_
    rintro σ22 k22
    show hs_Wd _ _ _ _ _ _ _ _ _ _ _ _ _ _ _ _ _ 25 _ [] σ22
    refine s_aload_n (pc := 25) C dX11_feed_25 0 rfl ?_
    refine s_iload_n (pc := 26) C dX11_feed_26 3 rfl ?_
    refine s_callVv (pc := 27) C (c_X11_putFour l a2 ⟨by omega, by omega⟩) [vI a2] [] rfl rfl dX11_feed_27 wlX11_81 wiX11_putFour weX11_putFour wcX11_putFour wnX11 noX11_putFour (by decide) (by decide) (Nat.le_of_ble_eq_true rfl) ⟨k22.1.1, by omega⟩ rfl rfl ?_
    rintro σ27 k27
    show hs_Wd _ _ _ _ _ _ _ _ _ _ _ _ _ _ _ _ _ 30 _ [] σ27
    refine s_aload_n (pc := 30) C dX11_feed_30 0 rfl ?_
    refine s_iload (pc := 31) C dX11_feed_31 4 rfl ?_
    refine s_callVv (pc := 33) C (c_X11_putFour l a3 ⟨by omega, by omega⟩) [vI a3] [] rfl rfl dX11_feed_33 wlX11_81 wiX11_putFour weX11_putFour wcX11_putFour wnX11 noX11_putFour (by decide) (by decide) (Nat.le_of_ble_eq_true rfl) ⟨k27.1.1, by omega⟩ rfl rfl ?_
    rintro σ33 k33
    show hs_Wd _ _ _ _ _ _ _ _ _ _ _ _ _ _ _ _ _ 36 _ [] σ33
    refine s_aload_n (pc := 36) C dX11_feed_36 0 rfl ?_
    refine s_iload (pc := 37) C dX11_feed_37 5 rfl ?_
    refine s_callVv (pc := 39) C (c_X11_putFour l a4 ⟨by omega, by omega⟩) [vI a4] [] rfl rfl dX11_feed_39 wlX11_81 wiX11_putFour weX11_putFour wcX11_putFour wnX11 noX11_putFour (by decide) (by decide) (Nat.le_of_ble_eq_true rfl) ⟨k33.1.1, by omega⟩ rfl rfl ?_
    rintro σ39 k39
    show hs_Wd _ _ _ _ _ _ _ _ _ _ _ _ _ _ _ _ _ 42 _ [] σ39
    refine s_aload_n (pc := 42) C dX11_feed_42 0 rfl ?_
    refine s_geti (q := 0) (ci := 11) (N := 11) (CN := RX11) (T := TX11) (pc := 43) C 9 dX11_feed_43 wlX11_77 rfl rfl rfl wfX11 (by decide) rfl (σ39 0 9) rfl ?_
    refine s_iret (pc := 46) C dX11_feed_46 ?_
    refine ⟨_, rfl, ?_⟩
    exact ⟨fun q => absurd q (by omega), fun _ => ⟨by omega, by omega, frx_tr (frx_tr (frx_tr (frx_tr k17.1 k22.1) k27.1) k33.1) k39.1⟩⟩
  · skip
    refine s_iconst (pc := 13) C dX11_feed_13 ?_
    refine s_iret (pc := 14) C dX11_feed_14 ?_
    refine ⟨_, rfl, ?_⟩
    exact ⟨fun _ => ⟨rfl, rfl⟩, fun q => absurd q (by omega)⟩
set_option maxHeartbeats 4000000 in
set_option maxRecDepth 100000 in
theorem c_X11_turned (l : Launch) (a : Int) (ha : hs_R a) : hs_Met l yX11_turned cX11_turned 2 (some .int) 1 SHX (fun ad => [.ref (ad 0), vI a]) (fun σ => GX σ σ) (hs_PI (fun σ z σ1 => σ = σ1 ∧ hs_R z ∧ (a = 0 → z = σ 15 13) ∧ (a = 1 → z = σ 15 14) ∧ (a = 2 → z = σ 27 4) ∧ (a = 3 → z = σ 27 5) ∧ (a = 4 → z = σ 27 6) ∧ (a < 0 ∨ 4 < a → z = -1))) := by
  refine hs_from pfX11_turned (fun _ => Nat.le_of_ble_eq_true rfl) ?_
  intro p e s m args below meth c D dA ad A σ C hpre
  have C : hs_C p s m args meth c D dA SHX ad A 2 cX11_turned RX11 (some .int) := C
  have g0 := hpre
  show hs_Wd p l e 1 s m args below meth c D dA SHX ad A 2 (hs_PI (fun σ z σ1 => σ = σ1 ∧ hs_R z ∧ (a = 0 → z = σ 15 13) ∧ (a = 1 → z = σ 15 14) ∧ (a = 2 → z = σ 27 4) ∧ (a = 3 → z = σ 27 5) ∧ (a = 4 → z = σ 27 6) ∧ (a < 0 ∨ 4 < a → z = -1)) σ) 0 [(0, .ref (ad 0)), (1, vI a)] [] σ
  refine s_iload_n (pc := 0) C dX11_turned_0 1 rfl ?_
  by_cases sw1 : a < 0 ∨ 4 < a
  · refine s_swOut (pc := 1) C (tgt := 76) dX11_turned_1 ⟨by omega, by omega⟩ sw1 (by decide) ?_
    refine s_iconst (pc := 76) C dX11_turned_76 ?_
    refine s_iret (pc := 77) C dX11_turned_77 ?_
    refine ⟨_, rfl, ?_⟩
    exact ⟨rfl, ⟨by omega, by omega⟩, by omega⟩
  · rcases (show a = 0 ∨ a = 1 ∨ a = 2 ∨ a = 3 ∨ a = 4 by omega) with sv1 | sv1 | sv1 | sv1 | sv1
    · refine s_swIn (pc := 1) (off := 35) C (tgt := 36) dX11_turned_1 ⟨by omega, by omega⟩ (by omega) (by omega) (by rw [sv1]; decide) (by decide) ?_
      refine s_aload_n (pc := 36) C dX11_turned_36 0 rfl ?_
      refine s_getr (q := 0) (ci := 11) (N := 11) (CN := RX11) (T := TX11) (pc := 37) C 3 dX11_turned_37 wlX11_30 rfl rfl rfl wfX11 (by decide) rfl ?_
      refine s_getiN (q := 15) (ci := 3) (N := 15) (CN := RX3) (T := TX3) (pc := 40) C 13 dX11_turned_40 wlX11_92 rfl rfl rfl wfX3 (by decide) rfl (σ 15 13) rfl ?_
      have b40 : (0 : Int) ≤ σ 15 13 ∧ σ 15 13 ≤ 3 := g0.1 15 13
      refine s_iret (pc := 43) C dX11_turned_43 ?_
      refine ⟨_, rfl, ?_⟩
      exact ⟨rfl, ⟨by omega, by omega⟩, by omega⟩
    · refine s_swIn (pc := 1) (off := 43) C (tgt := 44) dX11_turned_1 ⟨by omega, by omega⟩ (by omega) (by omega) (by rw [sv1]; decide) (by decide) ?_
      refine s_aload_n (pc := 44) C dX11_turned_44 0 rfl ?_
      refine s_getr (q := 0) (ci := 11) (N := 11) (CN := RX11) (T := TX11) (pc := 45) C 3 dX11_turned_45 wlX11_30 rfl rfl rfl wfX11 (by decide) rfl ?_
      refine s_getiN (q := 15) (ci := 3) (N := 15) (CN := RX3) (T := TX3) (pc := 48) C 14 dX11_turned_48 wlX11_102 rfl rfl rfl wfX3 (by decide) rfl (σ 15 14) rfl ?_
      have b48 : (-1 : Int) ≤ σ 15 14 ∧ σ 15 14 ≤ 500 := g0.1 15 14
      refine s_iret (pc := 51) C dX11_turned_51 ?_
      refine ⟨_, rfl, ?_⟩
      exact ⟨rfl, ⟨by omega, by omega⟩, by omega⟩
    · refine s_swIn (pc := 1) (off := 51) C (tgt := 52) dX11_turned_1 ⟨by omega, by omega⟩ (by omega) (by omega) (by rw [sv1]; decide) (by decide) ?_
      refine s_aload_n (pc := 52) C dX11_turned_52 0 rfl ?_
      refine s_getr (q := 0) (ci := 11) (N := 11) (CN := RX11) (T := TX11) (pc := 53) C 4 dX11_turned_53 wlX11_39 rfl rfl rfl wfX11 (by decide) rfl ?_
      refine s_getiN (q := 27) (ci := 4) (N := 7) (CN := RX4) (T := TX4) (pc := 56) C 4 dX11_turned_56 wlX11_105 rfl rfl rfl wfX4 (by decide) rfl (σ 27 4) rfl ?_
      have b56 : (-500000 : Int) ≤ σ 27 4 ∧ σ 27 4 ≤ 100000 := g0.1 27 4
      refine s_iret (pc := 59) C dX11_turned_59 ?_
      refine ⟨_, rfl, ?_⟩
      exact ⟨rfl, ⟨by omega, by omega⟩, by omega⟩
    · refine s_swIn (pc := 1) (off := 59) C (tgt := 60) dX11_turned_1 ⟨by omega, by omega⟩ (by omega) (by omega) (by rw [sv1]; decide) (by decide) ?_
      refine s_aload_n (pc := 60) C dX11_turned_60 0 rfl ?_
      refine s_getr (q := 0) (ci := 11) (N := 11) (CN := RX11) (T := TX11) (pc := 61) C 4 dX11_turned_61 wlX11_39 rfl rfl rfl wfX11 (by decide) rfl ?_
      refine s_getiN (q := 27) (ci := 4) (N := 7) (CN := RX4) (T := TX4) (pc := 64) C 5 dX11_turned_64 wlX11_108 rfl rfl rfl wfX4 (by decide) rfl (σ 27 5) rfl ?_
      have b64 : (0 : Int) ≤ σ 27 5 ∧ σ 27 5 ≤ 5000 := g0.1 27 5
      refine s_iret (pc := 67) C dX11_turned_67 ?_
      refine ⟨_, rfl, ?_⟩
      exact ⟨rfl, ⟨by omega, by omega⟩, by omega⟩
    · refine s_swIn (pc := 1) (off := 67) C (tgt := 68) dX11_turned_1 ⟨by omega, by omega⟩ (by omega) (by omega) (by rw [sv1]; decide) (by decide) ?_
      refine s_aload_n (pc := 68) C dX11_turned_68 0 rfl ?_
      refine s_getr (q := 0) (ci := 11) (N := 11) (CN := RX11) (T := TX11) (pc := 69) C 4 dX11_turned_69 wlX11_39 rfl rfl rfl wfX11 (by decide) rfl ?_
      refine s_getiN (q := 27) (ci := 4) (N := 7) (CN := RX4) (T := TX4) (pc := 72) C 6 dX11_turned_72 wlX11_111 rfl rfl rfl wfX4 (by decide) rfl (σ 27 6) rfl ?_
      have b72 : (0 : Int) ≤ σ 27 6 ∧ σ 27 6 ≤ 5000 := g0.1 27 6
      refine s_iret (pc := 75) C dX11_turned_75 ?_
      refine ⟨_, rfl, ?_⟩
      exact ⟨rfl, ⟨by omega, by omega⟩, by omega⟩
set_option maxHeartbeats 4000000 in
set_option maxRecDepth 100000 in
theorem c_X11_count (l : Launch) (a : Int) (ha : hs_R a) : hs_Met l yX11_count cX11_count 2 (some .int) 1 SHX (fun ad => [.ref (ad 0), vI a]) (fun σ => GX σ σ) (hs_PI (fun σ z σ1 => σ = σ1 ∧ hs_R z ∧ (a = 0 → z = σ 3 3) ∧ (a = 1 → z = σ 3 4) ∧ (a = 2 → z = σ 12 2) ∧ (a = 3 → z = σ 48 8) ∧ (a = 4 → z = σ 3 5) ∧ (a = 5 → z = σ 2 2) ∧ (a = 6 → z = σ 0 10) ∧ (a = 7 → z = σ 12 3) ∧ (a < 0 ∨ 7 < a → z = -1))) := by
  refine hs_from pfX11_count (fun _ => Nat.le_of_ble_eq_true rfl) ?_
  intro p e s m args below meth c D dA ad A σ C hpre
  have C : hs_C p s m args meth c D dA SHX ad A 2 cX11_count RX11 (some .int) := C
  have g0 := hpre
  show hs_Wd p l e 1 s m args below meth c D dA SHX ad A 2 (hs_PI (fun σ z σ1 => σ = σ1 ∧ hs_R z ∧ (a = 0 → z = σ 3 3) ∧ (a = 1 → z = σ 3 4) ∧ (a = 2 → z = σ 12 2) ∧ (a = 3 → z = σ 48 8) ∧ (a = 4 → z = σ 3 5) ∧ (a = 5 → z = σ 2 2) ∧ (a = 6 → z = σ 0 10) ∧ (a = 7 → z = σ 12 3) ∧ (a < 0 ∨ 7 < a → z = -1)) σ) 0 [(0, .ref (ad 0)), (1, vI a)] [] σ
  refine s_iload_n (pc := 0) C dX11_count_0 1 rfl ?_
  by_cases sw1 : a < 0 ∨ 7 < a
  · refine s_swOut (pc := 1) C (tgt := 118) dX11_count_1 ⟨by omega, by omega⟩ sw1 (by decide) ?_
    refine s_iconst (pc := 118) C dX11_count_118 ?_
    refine s_iret (pc := 119) C dX11_count_119 ?_
    refine ⟨_, rfl, ?_⟩
    exact ⟨rfl, ⟨by omega, by omega⟩, by omega⟩
  · rcases (show a = 0 ∨ a = 1 ∨ a = 2 ∨ a = 3 ∨ a = 4 ∨ a = 5 ∨ a = 6 ∨ a = 7 by omega) with sv1 | sv1 | sv1 | sv1 | sv1 | sv1 | sv1 | sv1
    · refine s_swIn (pc := 1) (off := 47) C (tgt := 48) dX11_count_1 ⟨by omega, by omega⟩ (by omega) (by omega) (by rw [sv1]; decide) (by decide) ?_
      refine s_aload_n (pc := 48) C dX11_count_48 0 rfl ?_
      refine s_getr (q := 0) (ci := 11) (N := 11) (CN := RX11) (T := TX11) (pc := 49) C 1 dX11_count_49 wlX11_16 rfl rfl rfl wfX11 (by decide) rfl ?_
      refine s_getrN (q := 2) (ci := 5) (N := 3) (CN := RX5) (T := TX5) (pc := 52) C 0 dX11_count_52 wlX11_131 rfl rfl rfl wfX5 (by decide) rfl ?_
      refine s_getiN (q := 3) (ci := 8) (N := 7) (CN := RX8) (T := TX8) (pc := 55) C 3 dX11_count_55 wlX11_311 rfl rfl rfl wfX8 (by decide) rfl (σ 3 3) rfl ?_
      have b55 : (10 : Int) ≤ σ 3 3 ∧ σ 3 3 ≤ 100 := g0.1 3 3
      refine s_iret (pc := 58) C dX11_count_58 ?_
      refine ⟨_, rfl, ?_⟩
      exact ⟨rfl, ⟨by omega, by omega⟩, by omega⟩
    · refine s_swIn (pc := 1) (off := 58) C (tgt := 59) dX11_count_1 ⟨by omega, by omega⟩ (by omega) (by omega) (by rw [sv1]; decide) (by decide) ?_
      refine s_aload_n (pc := 59) C dX11_count_59 0 rfl ?_
      refine s_getr (q := 0) (ci := 11) (N := 11) (CN := RX11) (T := TX11) (pc := 60) C 1 dX11_count_60 wlX11_16 rfl rfl rfl wfX11 (by decide) rfl ?_
      refine s_getrN (q := 2) (ci := 5) (N := 3) (CN := RX5) (T := TX5) (pc := 63) C 0 dX11_count_63 wlX11_131 rfl rfl rfl wfX5 (by decide) rfl ?_
      refine s_getiN (q := 3) (ci := 8) (N := 7) (CN := RX8) (T := TX8) (pc := 66) C 4 dX11_count_66 wlX11_135 rfl rfl rfl wfX8 (by decide) rfl (σ 3 4) rfl ?_
      have b66 : (0 : Int) ≤ σ 3 4 ∧ σ 3 4 ≤ 4 := g0.1 3 4
      refine s_iret (pc := 69) C dX11_count_69 ?_
      refine ⟨_, rfl, ?_⟩
      exact ⟨rfl, ⟨by omega, by omega⟩, by omega⟩
    · refine s_swIn (pc := 1) (off := 69) C (tgt := 70) dX11_count_1 ⟨by omega, by omega⟩ (by omega) (by omega) (by rw [sv1]; decide) (by decide) ?_
      refine s_aload_n (pc := 70) C dX11_count_70 0 rfl ?_
      refine s_getr (q := 0) (ci := 11) (N := 11) (CN := RX11) (T := TX11) (pc := 71) C 2 dX11_count_71 wlX11_23 rfl rfl rfl wfX11 (by decide) rfl ?_
      refine s_getiN (q := 12) (ci := 1) (N := 4) (CN := RX1) (T := TX1) (pc := 74) C 2 dX11_count_74 wlX11_117 rfl rfl rfl wfX1 (by decide) rfl (σ 12 2) rfl ?_
      have b74 : (0 : Int) ≤ σ 12 2 ∧ σ 12 2 ≤ 100 := g0.1 12 2
      refine s_iret (pc := 77) C dX11_count_77 ?_
      refine ⟨_, rfl, ?_⟩
      exact ⟨rfl, ⟨by omega, by omega⟩, by omega⟩
    · refine s_swIn (pc := 1) (off := 77) C (tgt := 78) dX11_count_1 ⟨by omega, by omega⟩ (by omega) (by omega) (by rw [sv1]; decide) (by decide) ?_
      refine s_aload_n (pc := 78) C dX11_count_78 0 rfl ?_
      refine s_getr (q := 0) (ci := 11) (N := 11) (CN := RX11) (T := TX11) (pc := 79) C 8 dX11_count_79 wlX11_73 rfl rfl rfl wfX11 (by decide) rfl ?_
      refine s_getiN (q := 48) (ci := 10) (N := 9) (CN := RX10) (T := TX10) (pc := 82) C 8 dX11_count_82 wlX11_119 rfl rfl rfl wfX10 (by decide) rfl (σ 48 8) rfl ?_
      have b82 : (0 : Int) ≤ σ 48 8 ∧ σ 48 8 ≤ 80 := g0.1 48 8
      refine s_iret (pc := 85) C dX11_count_85 ?_
      refine ⟨_, rfl, ?_⟩
      exact ⟨rfl, ⟨by omega, by omega⟩, by omega⟩
    · refine s_swIn (pc := 1) (off := 85) C (tgt := 86) dX11_count_1 ⟨by omega, by omega⟩ (by omega) (by omega) (by rw [sv1]; decide) (by decide) ?_
      refine s_aload_n (pc := 86) C dX11_count_86 0 rfl ?_
      refine s_getr (q := 0) (ci := 11) (N := 11) (CN := RX11) (T := TX11) (pc := 87) C 1 dX11_count_87 wlX11_16 rfl rfl rfl wfX11 (by decide) rfl ?_
      refine s_getrN (q := 2) (ci := 5) (N := 3) (CN := RX5) (T := TX5) (pc := 90) C 0 dX11_count_90 wlX11_131 rfl rfl rfl wfX5 (by decide) rfl ?_
      refine s_getiN (q := 3) (ci := 8) (N := 7) (CN := RX8) (T := TX8) (pc := 93) C 5 dX11_count_93 wlX11_172 rfl rfl rfl wfX8 (by decide) rfl (σ 3 5) rfl ?_
      have b93 : (0 : Int) ≤ σ 3 5 ∧ σ 3 5 ≤ 99 := g0.1 3 5
      refine s_iret (pc := 96) C dX11_count_96 ?_
      refine ⟨_, rfl, ?_⟩
      exact ⟨rfl, ⟨by omega, by omega⟩, by omega⟩
    · refine s_swIn (pc := 1) (off := 96) C (tgt := 97) dX11_count_1 ⟨by omega, by omega⟩ (by omega) (by omega) (by rw [sv1]; decide) (by decide) ?_
      refine s_aload_n (pc := 97) C dX11_count_97 0 rfl ?_
      refine s_getr (q := 0) (ci := 11) (N := 11) (CN := RX11) (T := TX11) (pc := 98) C 1 dX11_count_98 wlX11_16 rfl rfl rfl wfX11 (by decide) rfl ?_
      refine s_getiN (q := 2) (ci := 5) (N := 3) (CN := RX5) (T := TX5) (pc := 101) C 2 dX11_count_101 wlX11_216 rfl rfl rfl wfX5 (by decide) rfl (σ 2 2) rfl ?_
      have b101 : (0 : Int) ≤ σ 2 2 ∧ σ 2 2 ≤ 999 := g0.1 2 2
      refine s_iret (pc := 104) C dX11_count_104 ?_
      refine ⟨_, rfl, ?_⟩
      exact ⟨rfl, ⟨by omega, by omega⟩, by omega⟩
    · refine s_swIn (pc := 1) (off := 104) C (tgt := 105) dX11_count_1 ⟨by omega, by omega⟩ (by omega) (by omega) (by rw [sv1]; decide) (by decide) ?_
      refine s_aload_n (pc := 105) C dX11_count_105 0 rfl ?_
      refine s_geti (q := 0) (ci := 11) (N := 11) (CN := RX11) (T := TX11) (pc := 106) C 10 dX11_count_106 wlX11_120 rfl rfl rfl wfX11 (by decide) rfl (σ 0 10) rfl ?_
      have b106 : (0 : Int) ≤ σ 0 10 ∧ σ 0 10 ≤ 999 := g0.1 0 10
      refine s_iret (pc := 109) C dX11_count_109 ?_
      refine ⟨_, rfl, ?_⟩
      exact ⟨rfl, ⟨by omega, by omega⟩, by omega⟩
    · refine s_swIn (pc := 1) (off := 109) C (tgt := 110) dX11_count_1 ⟨by omega, by omega⟩ (by omega) (by omega) (by rw [sv1]; decide) (by decide) ?_
      refine s_aload_n (pc := 110) C dX11_count_110 0 rfl ?_
      refine s_getr (q := 0) (ci := 11) (N := 11) (CN := RX11) (T := TX11) (pc := 111) C 2 dX11_count_111 wlX11_23 rfl rfl rfl wfX11 (by decide) rfl ?_
      refine s_getiN (q := 12) (ci := 1) (N := 4) (CN := RX1) (T := TX1) (pc := 114) C 3 dX11_count_114 wlX11_236 rfl rfl rfl wfX1 (by decide) rfl (σ 12 3) rfl ?_
      have b114 : (0 : Int) ≤ σ 12 3 ∧ σ 12 3 ≤ 99 := g0.1 12 3
      refine s_iret (pc := 117) C dX11_count_117 ?_
      refine ⟨_, rfl, ?_⟩
      exact ⟨rfl, ⟨by omega, by omega⟩, by omega⟩
set_option maxHeartbeats 4000000 in
set_option maxRecDepth 100000 in
theorem c_X5_renew (l : Launch) (n : Int) (hn : 10 ≤ n ∧ n ≤ 100) : hs_Met l yX5_renew cX5_renew 2 none 3 SHX (fun ad => [.ref (ad 2), vI n]) (fun σ => GX σ σ) (hs_PV (fun σ σ1 => GX σ1 σ1 ∧ σ1 3 3 = n ∧ σ1 3 4 = 0 ∧ (∀ c j : Nat, c ≠ 5 → c ≠ 6 → ¬ (c = 3 ∧ (j = 3 ∨ j = 4 ∨ j = 5 ∨ j = 6)) → ¬ (c = 2 ∧ j = 2) → σ1 c j = σ c j))) := by
  refine hs_from pfX5_renew (fun _ => Nat.le_of_ble_eq_true rfl) ?_
  intro p e s m args below meth c D dA ad A σ C hpre
  have C : hs_C p s m args meth c D dA SHX ad A 2 cX5_renew RX5 none := C
  show hs_Wd p l e 3 s m args below meth c D dA SHX ad A 2 (hs_PV (fun σ σ1 => GX σ1 σ1 ∧ σ1 3 3 = n ∧ σ1 3 4 = 0 ∧ (∀ c j : Nat, c ≠ 5 → c ≠ 6 → ¬ (c = 3 ∧ (j = 3 ∨ j = 4 ∨ j = 5 ∨ j = 6)) → ¬ (c = 2 ∧ j = 2) → σ1 c j = σ c j)) σ) 0 [(0, .ref (ad 2)), (1, vI n)] [] σ
  refine s_aload_n (pc := 0) C dX5_renew_0 0 rfl ?_
  refine s_getr (q := 2) (ci := 5) (N := 3) (CN := RX5) (T := TX5) (pc := 1) C 0 dX5_renew_1 wlX5_12 rfl rfl rfl wfX5 (by decide) rfl ?_
  refine s_iload_n (pc := 4) C dX5_renew_4 1 rfl ?_
  refine s_putiN (q := 3) (ci := 8) (N := 7) (CN := RX8) (T := TX8) (ty0 := tyX8) (ty := .int) (pc := 5) C 3 dX5_renew_5 wlX5_25 rfl rfl rfl wfX8 tyX8_ok nmX8 (by decide) rfl rfl rfl (vp_nar_int _) rfl ?_
  refine s_aload_n (pc := 8) C dX5_renew_8 0 rfl ?_
  refine s_getr (q := 2) (ci := 5) (N := 3) (CN := RX5) (T := TX5) (pc := 9) C 0 dX5_renew_9 wlX5_12 rfl rfl rfl wfX5 (by decide) rfl ?_
  refine s_iconst (pc := 12) C dX5_renew_12 ?_
  refine s_putiN (q := 3) (ci := 8) (N := 7) (CN := RX8) (T := TX8) (ty0 := tyX8) (ty := .int) (pc := 13) C 4 dX5_renew_13 wlX5_29 rfl rfl rfl wfX8 tyX8_ok nmX8 (by decide) rfl rfl rfl (vp_nar_int _) rfl ?_
  refine s_aload_n (pc := 16) C dX5_renew_16 0 rfl ?_
  refine s_getr (q := 2) (ci := 5) (N := 3) (CN := RX5) (T := TX5) (pc := 17) C 0 dX5_renew_17 wlX5_12 rfl rfl rfl wfX5 (by decide) rfl ?_
  refine s_callVNv (pc := 20) C (c_X8_goHome l 3 (Or.inl rfl)) [] [] rfl rfl dX5_renew_20 wlX5_32 wiX8_goHome weX8_goHome wcX8_goHome wnX8 noX8_goHome (by decide) (by decide) (Nat.le_of_ble_eq_true rfl) (ibx_set (ibx_set hpre.1 3 3 10 100 rfl hn) 3 4 0 4 rfl (by omega)) rfl rfl ?_
  rintro σ20 k20
  show hs_Wd _ _ _ _ _ _ _ _ _ _ _ _ _ _ _ _ _ 23 _ [] σ20
  refine s_aload_n (pc := 23) C dX5_renew_23 0 rfl ?_
  refine s_getr (q := 2) (ci := 5) (N := 3) (CN := RX5) (T := TX5) (pc := 24) C 0 dX5_renew_24 wlX5_12 rfl rfl rfl wfX5 (by decide) rfl ?_
  refine s_iconst (pc := 27) C dX5_renew_27 ?_
  refine s_putiN (q := 3) (ci := 8) (N := 7) (CN := RX8) (T := TX8) (ty0 := tyX8) (ty := .boolean) (pc := 28) C 6 dX5_renew_28 wlX5_35 rfl rfl rfl wfX8 tyX8_ok nmX8 (by decide) rfl rfl rfl (hs_nz (by omega)) (hs_fz (by omega)) ?_
  refine s_aload_n (pc := 31) C dX5_renew_31 0 rfl ?_
  refine s_iconst (pc := 32) C dX5_renew_32 ?_
  refine s_puti (q := 2) (ci := 5) (N := 3) (CN := RX5) (T := TX5) (ty0 := tyX5) (ty := .int) (pc := 33) C 2 dX5_renew_33 wlX5_39 rfl rfl rfl wfX5 tyX5_ok nmX5 (by decide) rfl rfl rfl (vp_nar_int _) rfl ?_
  refine s_vret (pc := 36) C dX5_renew_36 ?_
  refine ⟨rfl, ?_⟩
  obtain ⟨kI, k5, kz, kf⟩ := k20
  have hI : IBX (hs_ss (hs_ss σ20 3 6 0) 2 2 0) := ibx_set (ibx_set kI 3 6 0 1 rfl (by omega)) 2 2 0 999 rfl (by omega)
  have kf2 : ∀ c j : Nat, c ≠ 5 → c ≠ 6 → c ≠ 3 → σ20 c j = σ c j := fun c j h1 h2 h3 => by rw [kf c j h1 h2 (fun q => h3 q.1)]; simp [hs_ss, h3]
  refine ⟨⟨hI, kx_rf, lt_make hpre.2.2 hI (fun w hw => (kz w hw).1) (fun w => kf2 34 w (by decide) (by decide) (by decide)) (fun w => kf2 35 w (by decide) (by decide) (by decide)) (fun w => kf2 49 w (by decide) (by decide) (by decide)) (fun w => kf2 51 w (by decide) (by decide) (by decide))⟩, ?_, ?_, ?_⟩
  · show σ20 3 3 = n
    rw [kf 3 3 (by decide) (by decide) (by decide)]; rfl
  · show σ20 3 4 = 0
    rw [kf 3 4 (by decide) (by decide) (by decide)]; rfl
  · intro c j h1 h2 h3 h4
    have e1 : hs_ss (hs_ss σ20 3 6 0) 2 2 0 c j = σ20 c j := by by_cases q : c = 2 <;> by_cases q2 : c = 3 <;> simp_all [hs_ss, hs_up]
    rw [e1, kf c j h1 h2 (by omega)]
    by_cases q2 : c = 3 <;> simp_all [hs_ss, hs_up]
set_option maxHeartbeats 4000000 in
set_option maxRecDepth 100000 in
theorem c_X11_dial (l : Launch) (n : Int) (hn : hs_R n) : hs_Met l yX11_dial cX11_dial 2 (some .boolean) 4 SHX (fun ad => [.ref (ad 0), vI n]) (fun σ => GX σ σ) (hs_PI (fun σ z σ1 => (z = 0 ∨ z = 1) ∧ (z = 1 ↔ 10 ≤ n ∧ n ≤ 100) ∧ σ1 0 9 = σ 0 9 ∧ GX σ1 σ1 ∧ (z = 0 → σ1 = σ) ∧ (z = 1 → σ1 3 3 = n ∧ σ1 3 4 = 0 ∧ σ1 48 8 = 0 ∧ σ1 0 10 = 0))) := by
  refine hs_from pfX11_dial (fun _ => Nat.le_of_ble_eq_true rfl) ?_
  intro p e s m args below meth c D dA ad A σ C hpre
  have C : hs_C p s m args meth c D dA SHX ad A 2 cX11_dial RX11 (some .boolean) := C
  show hs_Wd p l e 4 s m args below meth c D dA SHX ad A 2 (hs_PI (fun σ z σ1 => (z = 0 ∨ z = 1) ∧ (z = 1 ↔ 10 ≤ n ∧ n ≤ 100) ∧ σ1 0 9 = σ 0 9 ∧ GX σ1 σ1 ∧ (z = 0 → σ1 = σ) ∧ (z = 1 → σ1 3 3 = n ∧ σ1 3 4 = 0 ∧ σ1 48 8 = 0 ∧ σ1 0 10 = 0)) σ) 0 [(0, .ref (ad 0)), (1, vI n)] [] σ
  refine s_iload_n (pc := 0) C dX11_dial_0 1 rfl ?_
  refine s_bipush (pc := 1) C dX11_dial_1 (by decide) ?_
  refine s_icmp_lt (pc := 3) C (tgt := 12) dX11_dial_3 (by decide) ⟨by omega, by omega⟩ ⟨by decide, by decide⟩ (fun h3 => ?_) (fun h3 => ?_)
  · skip
    refine s_iconst (pc := 12) C dX11_dial_12 ?_
    refine s_zret (pc := 13) C (by omega) dX11_dial_13 ?_
    refine ⟨_, rfl, ?_⟩
    exact ⟨Or.inl rfl, by omega, rfl, hpre, fun _ => rfl, by omega⟩
  · skip
    refine s_iload_n (pc := 6) C dX11_dial_6 1 rfl ?_
    refine s_bipush (pc := 7) C dX11_dial_7 (by decide) ?_
    refine s_icmp_le (pc := 9) C (tgt := 14) dX11_dial_9 (by decide) ⟨by omega, by omega⟩ ⟨by decide, by decide⟩ (fun h9 => ?_) (fun h9 => ?_)
    · skip
      refine s_aload_n (pc := 14) C dX11_dial_14 0 rfl ?_
      refine s_getr (q := 0) (ci := 11) (N := 11) (CN := RX11) (T := TX11) (pc := 15) C 1 dX11_dial_15 wlX11_16 rfl rfl rfl wfX11 (by decide) rfl ?_
      refine s_iload_n (pc := 18) C dX11_dial_18 1 rfl ?_
      refine s_callVNv (pc := 19) C (c_X5_renew l n (by first | omega | assumption | (constructor <;> omega) | (refine ⟨⟨?_, ?_⟩, ?_⟩ <;> omega) | (simp [hs_ss, hs_up]; omega) | (simp [hs_ss, hs_up]; done))) [vI n] [] rfl rfl dX11_dial_19 wlX11_114 wiX5_renew weX5_renew wcX5_renew wnX5 noX5_renew (by decide) (by decide) (Nat.le_of_ble_eq_true rfl) hpre rfl rfl ?_
      rintro σ19 k19
      show hs_Wd _ _ _ _ _ _ _ _ _ _ _ _ _ _ _ _ _ 22 _ [] σ19
      refine s_aload_n (pc := 22) C dX11_dial_22 0 rfl ?_
      refine s_getr (q := 0) (ci := 11) (N := 11) (CN := RX11) (T := TX11) (pc := 23) C 2 dX11_dial_23 wlX11_23 rfl rfl rfl wfX11 (by decide) rfl ?_
      refine s_iconst (pc := 26) C dX11_dial_26 ?_
      refine s_putiN (q := 12) (ci := 1) (N := 4) (CN := RX1) (T := TX1) (ty0 := tyX1) (ty := .int) (pc := 27) C 2 dX11_dial_27 wlX11_117 rfl rfl rfl wfX1 tyX1_ok nmX1 (by decide) rfl rfl rfl (vp_nar_int _) rfl ?_
      refine s_aload_n (pc := 30) C dX11_dial_30 0 rfl ?_
      refine s_getr (q := 0) (ci := 11) (N := 11) (CN := RX11) (T := TX11) (pc := 31) C 7 dX11_dial_31 wlX11_64 rfl rfl rfl wfX11 (by decide) rfl ?_
      refine s_iconst (pc := 34) C dX11_dial_34 ?_
      refine s_putiN (q := 44) (ci := 0) (N := 4) (CN := RX0) (T := TX0) (ty0 := tyX0) (ty := .int) (pc := 35) C 3 dX11_dial_35 wlX11_118 rfl rfl rfl wfX0 tyX0_ok nmX0 (by decide) rfl rfl rfl (vp_nar_int _) rfl ?_
      refine s_aload_n (pc := 38) C dX11_dial_38 0 rfl ?_
      refine s_getr (q := 0) (ci := 11) (N := 11) (CN := RX11) (T := TX11) (pc := 39) C 8 dX11_dial_39 wlX11_73 rfl rfl rfl wfX11 (by decide) rfl ?_
      refine s_iconst (pc := 42) C dX11_dial_42 ?_
      refine s_putiN (q := 48) (ci := 10) (N := 9) (CN := RX10) (T := TX10) (ty0 := tyX10) (ty := .int) (pc := 43) C 8 dX11_dial_43 wlX11_119 rfl rfl rfl wfX10 tyX10_ok nmX10 (by decide) rfl rfl rfl (vp_nar_int _) rfl ?_
      refine s_aload_n (pc := 46) C dX11_dial_46 0 rfl ?_
      refine s_iconst (pc := 47) C dX11_dial_47 ?_
      refine s_puti (q := 0) (ci := 11) (N := 11) (CN := RX11) (T := TX11) (ty0 := tyX11) (ty := .int) (pc := 48) C 10 dX11_dial_48 wlX11_120 rfl rfl rfl wfX11 tyX11_ok nmX11 (by decide) rfl rfl rfl (vp_nar_int _) rfl ?_
      refine s_iconst (pc := 51) C dX11_dial_51 ?_
      refine s_zret (pc := 52) C (by omega) dX11_dial_52 ?_
      refine ⟨_, rfl, ?_⟩
      obtain ⟨kg, k3, k4, kf⟩ := k19
      have e0 : σ19 0 9 = σ 0 9 := kf 0 9 (by decide) (by decide) (by decide) (by decide)
      have hg : GX (hs_ss (hs_ss (hs_ss (hs_ss σ19 12 2 0) 44 3 0) 48 8 0) 0 10 0) (hs_ss (hs_ss (hs_ss (hs_ss σ19 12 2 0) 44 3 0) 48 8 0) 0 10 0) := ⟨ibx_set (ibx_set (ibx_set (ibx_set kg.1 12 2 0 100 rfl (by omega)) 44 3 0 512 rfl (by omega)) 48 8 0 80 rfl (by omega)) 0 10 0 999 rfl (by omega), kx_rf, kg.2.2⟩
      exact ⟨Or.inr rfl, by omega, e0, hg, fun q => absurd q (by decide), fun _ => ⟨k3, k4, rfl, rfl⟩⟩
    · skip
      refine s_iconst (pc := 12) C dX11_dial_12 ?_
      refine s_zret (pc := 13) C (by omega) dX11_dial_13 ?_
      refine ⟨_, rfl, ?_⟩
      exact ⟨Or.inl rfl, by omega, rfl, hpre, fun _ => rfl, by omega⟩
set_option maxHeartbeats 4000000 in
set_option maxRecDepth 100000 in
theorem c_X11_wheel (l : Launch) (a0 : Int) (ha0 : hs_R a0) (a1 : Int) (ha1 : hs_R a1) (a2 : Int) (ha2 : hs_R a2) (a3 : Int) (ha3 : hs_R a3) (a4 : Int) (ha4 : hs_R a4) (a5 : Int) (ha5 : hs_R a5) (a6 : Int) (ha6 : hs_R a6) : hs_Met l yX11_wheel cX11_wheel 10 (some .int) 4 SHX (fun ad => [.ref (ad 0), vI a0, vI a1, vI a2, vI a3, vI a4, vI a5, vI a6]) (fun σ => GX σ σ) (hs_PI (fun σ z σ1 => (¬ (1 ≤ a0 ∧ a0 ≤ 9 ∧ 0 ≤ a1 ∧ a1 < σ 3 3 ∧ 0 ≤ a2 ∧ a2 ≤ 3 ∧ 200 ≤ a3 ∧ a3 ≤ 900 ∧ 0 ≤ a4 ∧ a4 ≤ 50 ∧ 0 ≤ a5 ∧ a5 < σ 3 3 ∧ 0 ≤ a6 ∧ a6 ≤ 60 ∧ σ 3 4 < 4) → z = -1 ∧ σ1 = σ) ∧ ((1 ≤ a0 ∧ a0 ≤ 9 ∧ 0 ≤ a1 ∧ a1 < σ 3 3 ∧ 0 ≤ a2 ∧ a2 ≤ 3 ∧ 200 ≤ a3 ∧ a3 ≤ 900 ∧ 0 ≤ a4 ∧ a4 ≤ 50 ∧ 0 ≤ a5 ∧ a5 < σ 3 3 ∧ 0 ≤ a6 ∧ a6 ≤ 60 ∧ σ 3 4 < 4) → z = σ 3 4 ∧ GX σ1 σ1 ∧ σ1 3 4 = σ 3 4 + 1 ∧ σ1 0 9 = σ 0 9 ∧ σ1 0 10 = σ 0 10 ∧ σ1 3 3 = σ 3 3 ∧ σ1 48 8 = σ 48 8))) := by
  refine hs_from pfX11_wheel (fun _ => Nat.le_of_ble_eq_true rfl) ?_
  intro p e s m args below meth c D dA ad A σ C hpre
  have C : hs_C p s m args meth c D dA SHX ad A 10 cX11_wheel RX11 (some .int) := C
  have b34 : (0 : Int) ≤ σ 3 4 ∧ σ 3 4 ≤ 4 := hpre.1 3 4
  have b33 : (10 : Int) ≤ σ 3 3 ∧ σ 3 3 ≤ 100 := hpre.1 3 3
  show hs_Wd p l e 4 s m args below meth c D dA SHX ad A 10 (hs_PI (fun σ z σ1 => (¬ (1 ≤ a0 ∧ a0 ≤ 9 ∧ 0 ≤ a1 ∧ a1 < σ 3 3 ∧ 0 ≤ a2 ∧ a2 ≤ 3 ∧ 200 ≤ a3 ∧ a3 ≤ 900 ∧ 0 ≤ a4 ∧ a4 ≤ 50 ∧ 0 ≤ a5 ∧ a5 < σ 3 3 ∧ 0 ≤ a6 ∧ a6 ≤ 60 ∧ σ 3 4 < 4) → z = -1 ∧ σ1 = σ) ∧ ((1 ≤ a0 ∧ a0 ≤ 9 ∧ 0 ≤ a1 ∧ a1 < σ 3 3 ∧ 0 ≤ a2 ∧ a2 ≤ 3 ∧ 200 ≤ a3 ∧ a3 ≤ 900 ∧ 0 ≤ a4 ∧ a4 ≤ 50 ∧ 0 ≤ a5 ∧ a5 < σ 3 3 ∧ 0 ≤ a6 ∧ a6 ≤ 60 ∧ σ 3 4 < 4) → z = σ 3 4 ∧ GX σ1 σ1 ∧ σ1 3 4 = σ 3 4 + 1 ∧ σ1 0 9 = σ 0 9 ∧ σ1 0 10 = σ 0 10 ∧ σ1 3 3 = σ 3 3 ∧ σ1 48 8 = σ 48 8)) σ) 0 [(0, .ref (ad 0)), (1, vI a0), (2, vI a1), (3, vI a2), (4, vI a3), (5, vI a4), (6, vI a5), (7, vI a6)] [] σ
  refine s_iload_n (pc := 0) C dX11_wheel_0 1 rfl ?_
  refine s_iconst (pc := 1) C dX11_wheel_1 ?_
  refine s_bipush (pc := 2) C dX11_wheel_2 (by decide) ?_
  refine s_callSi (pc := 4) C (c_X11_isWithin l a0 ⟨by omega, by omega⟩ 1 ⟨by omega, by omega⟩ 9 ⟨by omega, by omega⟩) [vI a0, vI 1, vI 9] [] rfl rfl dX11_wheel_4 wlX11_123 wtX11_isWithin wcX11_isWithin wnX11 noX11_isWithin (by decide) (by decide) (Nat.le_of_ble_eq_true rfl) hpre ?_
  rintro z4 _ ⟨rfl, k4⟩
  show hs_Wd _ _ _ _ _ _ _ _ _ _ _ _ _ _ _ _ _ 7 _ [vI z4] σ
  refine s_if_eq (pc := 7) C (tgt := 82) dX11_wheel_7 (by decide) ⟨by omega, by omega⟩ (fun h7 => ?_) (fun h7 => ?_)
  · skip
    refine s_iconst (pc := 82) C dX11_wheel_82 ?_
    refine s_istore (pc := 83) C [(8, vI 0), (0, .ref (ad 0)), (1, vI a0), (2, vI a1), (3, vI a2), (4, vI a3), (5, vI a4), (6, vI a5), (7, vI a6)] dX11_wheel_83 (by decide) rfl ?_
    refine s_iload (pc := 85) C dX11_wheel_85 0 rfl ?_
    refine s_if_eq (pc := 87) C (tgt := 104) dX11_wheel_87 (by decide) ⟨by decide, by decide⟩ (fun h87 => ?_) (fun h87 => ?_)
    · skip
      refine s_iconst (pc := 104) C dX11_wheel_104 ?_
      refine s_iret (pc := 105) C dX11_wheel_105 ?_
      refine ⟨_, rfl, ?_⟩
      exact ⟨fun _ => ⟨rfl, rfl⟩, fun q => by exfalso; omega⟩
    · exact absurd h87 (by decide)
  · skip
    refine s_aload_n (pc := 10) C dX11_wheel_10 0 rfl ?_
    refine s_getr (q := 0) (ci := 11) (N := 11) (CN := RX11) (T := TX11) (pc := 11) C 1 dX11_wheel_11 wlX11_16 rfl rfl rfl wfX11 (by decide) rfl ?_
    refine s_iload_n (pc := 14) C dX11_wheel_14 2 rfl ?_
    refine s_callVNi (pc := 15) C (c_X5_hasNumber l a1 ⟨by omega, by omega⟩) [vI a1] [] rfl rfl dX11_wheel_15 wlX11_127 wiX5_hasNumber weX5_hasNumber wcX5_hasNumber wnX5 noX5_hasNumber (by decide) (by decide) (Nat.le_of_ble_eq_true rfl) hpre rfl rfl ?_
    rintro z15 _ ⟨rfl, k15⟩
    show hs_Wd _ _ _ _ _ _ _ _ _ _ _ _ _ _ _ _ _ 18 _ [vI z15] σ
    refine s_if_eq (pc := 18) C (tgt := 82) dX11_wheel_18 (by decide) ⟨by omega, by omega⟩ (fun h18 => ?_) (fun h18 => ?_)
    · skip
      refine s_iconst (pc := 82) C dX11_wheel_82 ?_
      refine s_istore (pc := 83) C [(8, vI 0), (0, .ref (ad 0)), (1, vI a0), (2, vI a1), (3, vI a2), (4, vI a3), (5, vI a4), (6, vI a5), (7, vI a6)] dX11_wheel_83 (by decide) rfl ?_
      refine s_iload (pc := 85) C dX11_wheel_85 0 rfl ?_
      refine s_if_eq (pc := 87) C (tgt := 104) dX11_wheel_87 (by decide) ⟨by decide, by decide⟩ (fun h87 => ?_) (fun h87 => ?_)
      · skip
        refine s_iconst (pc := 104) C dX11_wheel_104 ?_
        refine s_iret (pc := 105) C dX11_wheel_105 ?_
        refine ⟨_, rfl, ?_⟩
        exact ⟨fun _ => ⟨rfl, rfl⟩, fun q => by exfalso; omega⟩
      · exact absurd h87 (by decide)
    · skip
      refine s_iload_n (pc := 21) C dX11_wheel_21 3 rfl ?_
      refine s_iconst (pc := 22) C dX11_wheel_22 ?_
      refine s_iconst (pc := 23) C dX11_wheel_23 ?_
      refine s_callSi (pc := 24) C (c_X11_isWithin l a2 ⟨by omega, by omega⟩ 0 ⟨by omega, by omega⟩ 3 ⟨by omega, by omega⟩) [vI a2, vI 0, vI 3] [] rfl rfl dX11_wheel_24 wlX11_123 wtX11_isWithin wcX11_isWithin wnX11 noX11_isWithin (by decide) (by decide) (Nat.le_of_ble_eq_true rfl) hpre ?_
      rintro z24 _ ⟨rfl, k24⟩
      show hs_Wd _ _ _ _ _ _ _ _ _ _ _ _ _ _ _ _ _ 27 _ [vI z24] σ
      refine s_if_eq (pc := 27) C (tgt := 82) dX11_wheel_27 (by decide) ⟨by omega, by omega⟩ (fun h27 => ?_) (fun h27 => ?_)
      · skip
        refine s_iconst (pc := 82) C dX11_wheel_82 ?_
        refine s_istore (pc := 83) C [(8, vI 0), (0, .ref (ad 0)), (1, vI a0), (2, vI a1), (3, vI a2), (4, vI a3), (5, vI a4), (6, vI a5), (7, vI a6)] dX11_wheel_83 (by decide) rfl ?_
        refine s_iload (pc := 85) C dX11_wheel_85 0 rfl ?_
        refine s_if_eq (pc := 87) C (tgt := 104) dX11_wheel_87 (by decide) ⟨by decide, by decide⟩ (fun h87 => ?_) (fun h87 => ?_)
        · skip
          refine s_iconst (pc := 104) C dX11_wheel_104 ?_
          refine s_iret (pc := 105) C dX11_wheel_105 ?_
          refine ⟨_, rfl, ?_⟩
          exact ⟨fun _ => ⟨rfl, rfl⟩, fun q => by exfalso; omega⟩
        · exact absurd h87 (by decide)
      · skip
        refine s_iload (pc := 30) C dX11_wheel_30 4 rfl ?_
        refine s_sipush (pc := 32) C dX11_wheel_32 (by decide) ?_
        refine s_sipush (pc := 35) C dX11_wheel_35 (by decide) ?_
        refine s_callSi (pc := 38) C (c_X11_isWithin l a3 ⟨by omega, by omega⟩ 200 ⟨by omega, by omega⟩ 900 ⟨by omega, by omega⟩) [vI a3, vI 200, vI 900] [] rfl rfl dX11_wheel_38 wlX11_123 wtX11_isWithin wcX11_isWithin wnX11 noX11_isWithin (by decide) (by decide) (Nat.le_of_ble_eq_true rfl) hpre ?_
        rintro z38 _ ⟨rfl, k38⟩
        show hs_Wd _ _ _ _ _ _ _ _ _ _ _ _ _ _ _ _ _ 41 _ [vI z38] σ
        refine s_if_eq (pc := 41) C (tgt := 82) dX11_wheel_41 (by decide) ⟨by omega, by omega⟩ (fun h41 => ?_) (fun h41 => ?_)
        · skip
          refine s_iconst (pc := 82) C dX11_wheel_82 ?_
          refine s_istore (pc := 83) C [(8, vI 0), (0, .ref (ad 0)), (1, vI a0), (2, vI a1), (3, vI a2), (4, vI a3), (5, vI a4), (6, vI a5), (7, vI a6)] dX11_wheel_83 (by decide) rfl ?_
          refine s_iload (pc := 85) C dX11_wheel_85 0 rfl ?_
          refine s_if_eq (pc := 87) C (tgt := 104) dX11_wheel_87 (by decide) ⟨by decide, by decide⟩ (fun h87 => ?_) (fun h87 => ?_)
          · skip
            refine s_iconst (pc := 104) C dX11_wheel_104 ?_
            refine s_iret (pc := 105) C dX11_wheel_105 ?_
            refine ⟨_, rfl, ?_⟩
            exact ⟨fun _ => ⟨rfl, rfl⟩, fun q => by exfalso; omega⟩
          · exact absurd h87 (by decide)
        · skip
          refine s_iload (pc := 44) C dX11_wheel_44 5 rfl ?_
          refine s_iconst (pc := 46) C dX11_wheel_46 ?_
          refine s_bipush (pc := 47) C dX11_wheel_47 (by decide) ?_
          refine s_callSi (pc := 49) C (c_X11_isWithin l a4 ⟨by omega, by omega⟩ 0 ⟨by omega, by omega⟩ 50 ⟨by omega, by omega⟩) [vI a4, vI 0, vI 50] [] rfl rfl dX11_wheel_49 wlX11_123 wtX11_isWithin wcX11_isWithin wnX11 noX11_isWithin (by decide) (by decide) (Nat.le_of_ble_eq_true rfl) hpre ?_
          rintro z49 _ ⟨rfl, k49⟩
          show hs_Wd _ _ _ _ _ _ _ _ _ _ _ _ _ _ _ _ _ 52 _ [vI z49] σ
          refine s_if_eq (pc := 52) C (tgt := 82) dX11_wheel_52 (by decide) ⟨by omega, by omega⟩ (fun h52 => ?_) (fun h52 => ?_)
          · skip
            refine s_iconst (pc := 82) C dX11_wheel_82 ?_
            refine s_istore (pc := 83) C [(8, vI 0), (0, .ref (ad 0)), (1, vI a0), (2, vI a1), (3, vI a2), (4, vI a3), (5, vI a4), (6, vI a5), (7, vI a6)] dX11_wheel_83 (by decide) rfl ?_
            refine s_iload (pc := 85) C dX11_wheel_85 0 rfl ?_
            refine s_if_eq (pc := 87) C (tgt := 104) dX11_wheel_87 (by decide) ⟨by decide, by decide⟩ (fun h87 => ?_) (fun h87 => ?_)
            · skip
              refine s_iconst (pc := 104) C dX11_wheel_104 ?_
              refine s_iret (pc := 105) C dX11_wheel_105 ?_
              refine ⟨_, rfl, ?_⟩
              exact ⟨fun _ => ⟨rfl, rfl⟩, fun q => by exfalso; omega⟩
            · exact absurd h87 (by decide)
          · skip
            refine s_aload_n (pc := 55) C dX11_wheel_55 0 rfl ?_
            refine s_getr (q := 0) (ci := 11) (N := 11) (CN := RX11) (T := TX11) (pc := 56) C 1 dX11_wheel_56 wlX11_16 rfl rfl rfl wfX11 (by decide) rfl ?_
            refine s_iload (pc := 59) C dX11_wheel_59 6 rfl ?_
            refine s_callVNi (pc := 61) C (c_X5_hasNumber l a5 ⟨by omega, by omega⟩) [vI a5] [] rfl rfl dX11_wheel_61 wlX11_127 wiX5_hasNumber weX5_hasNumber wcX5_hasNumber wnX5 noX5_hasNumber (by decide) (by decide) (Nat.le_of_ble_eq_true rfl) hpre rfl rfl ?_
            rintro z61 _ ⟨rfl, k61⟩
            show hs_Wd _ _ _ _ _ _ _ _ _ _ _ _ _ _ _ _ _ 64 _ [vI z61] σ
            refine s_if_eq (pc := 64) C (tgt := 82) dX11_wheel_64 (by decide) ⟨by omega, by omega⟩ (fun h64 => ?_) (fun h64 => ?_)
            · skip
              refine s_iconst (pc := 82) C dX11_wheel_82 ?_
              refine s_istore (pc := 83) C [(8, vI 0), (0, .ref (ad 0)), (1, vI a0), (2, vI a1), (3, vI a2), (4, vI a3), (5, vI a4), (6, vI a5), (7, vI a6)] dX11_wheel_83 (by decide) rfl ?_
              refine s_iload (pc := 85) C dX11_wheel_85 0 rfl ?_
              refine s_if_eq (pc := 87) C (tgt := 104) dX11_wheel_87 (by decide) ⟨by decide, by decide⟩ (fun h87 => ?_) (fun h87 => ?_)
              · skip
                refine s_iconst (pc := 104) C dX11_wheel_104 ?_
                refine s_iret (pc := 105) C dX11_wheel_105 ?_
                refine ⟨_, rfl, ?_⟩
                exact ⟨fun _ => ⟨rfl, rfl⟩, fun q => by exfalso; omega⟩
              · exact absurd h87 (by decide)
            · skip
              refine s_iload (pc := 67) C dX11_wheel_67 7 rfl ?_
              refine s_iconst (pc := 69) C dX11_wheel_69 ?_
              refine s_bipush (pc := 70) C dX11_wheel_70 (by decide) ?_
              refine s_callSi (pc := 72) C (c_X11_isWithin l a6 ⟨by omega, by omega⟩ 0 ⟨by omega, by omega⟩ 60 ⟨by omega, by omega⟩) [vI a6, vI 0, vI 60] [] rfl rfl dX11_wheel_72 wlX11_123 wtX11_isWithin wcX11_isWithin wnX11 noX11_isWithin (by decide) (by decide) (Nat.le_of_ble_eq_true rfl) hpre ?_
              rintro z72 _ ⟨rfl, k72⟩
              show hs_Wd _ _ _ _ _ _ _ _ _ _ _ _ _ _ _ _ _ 75 _ [vI z72] σ
              refine s_if_eq (pc := 75) C (tgt := 82) dX11_wheel_75 (by decide) ⟨by omega, by omega⟩ (fun h75 => ?_) (fun h75 => ?_)
              · skip
                refine s_iconst (pc := 82) C dX11_wheel_82 ?_
                refine s_istore (pc := 83) C [(8, vI 0), (0, .ref (ad 0)), (1, vI a0), (2, vI a1), (3, vI a2), (4, vI a3), (5, vI a4), (6, vI a5), (7, vI a6)] dX11_wheel_83 (by decide) rfl ?_
                refine s_iload (pc := 85) C dX11_wheel_85 0 rfl ?_
                refine s_if_eq (pc := 87) C (tgt := 104) dX11_wheel_87 (by decide) ⟨by decide, by decide⟩ (fun h87 => ?_) (fun h87 => ?_)
                · skip
                  refine s_iconst (pc := 104) C dX11_wheel_104 ?_
                  refine s_iret (pc := 105) C dX11_wheel_105 ?_
                  refine ⟨_, rfl, ?_⟩
                  exact ⟨fun _ => ⟨rfl, rfl⟩, fun q => by exfalso; omega⟩
                · exact absurd h87 (by decide)
              · skip
                refine s_iconst (pc := 78) C dX11_wheel_78 ?_
                refine s_goto (pc := 79) C (tgt := 83) dX11_wheel_79 (by decide) ?_
                refine s_istore (pc := 83) C [(8, vI 1), (0, .ref (ad 0)), (1, vI a0), (2, vI a1), (3, vI a2), (4, vI a3), (5, vI a4), (6, vI a5), (7, vI a6)] dX11_wheel_83 (by decide) rfl ?_
                refine s_iload (pc := 85) C dX11_wheel_85 0 rfl ?_
                refine s_if_eq (pc := 87) C (tgt := 104) dX11_wheel_87 (by decide) ⟨by decide, by decide⟩ (fun h87 => ?_) (fun h87 => ?_)
                · exact absurd h87 (by decide)
                · skip
                  refine s_aload_n (pc := 90) C dX11_wheel_90 1 rfl ?_
                  refine s_getr (q := 0) (ci := 11) (N := 11) (CN := RX11) (T := TX11) (pc := 91) C 1 dX11_wheel_91 wlX11_16 rfl rfl rfl wfX11 (by decide) rfl ?_
                  refine s_getrN (q := 2) (ci := 5) (N := 3) (CN := RX5) (T := TX5) (pc := 94) C 0 dX11_wheel_94 wlX11_131 rfl rfl rfl wfX5 (by decide) rfl ?_
                  refine s_getiN (q := 3) (ci := 8) (N := 7) (CN := RX8) (T := TX8) (pc := 97) C 4 dX11_wheel_97 wlX11_135 rfl rfl rfl wfX8 (by decide) rfl (σ 3 4) rfl ?_
                  refine s_iconst (pc := 100) C dX11_wheel_100 ?_
                  refine s_icmp_lt (pc := 101) C (tgt := 106) dX11_wheel_101 (by decide) ⟨by omega, by omega⟩ ⟨by decide, by decide⟩ (fun h101 => ?_) (fun h101 => ?_)
                  · skip
                    refine s_aload_n (pc := 106) C dX11_wheel_106 1 rfl ?_
                    refine s_getr (q := 0) (ci := 11) (N := 11) (CN := RX11) (T := TX11) (pc := 107) C 1 dX11_wheel_107 wlX11_16 rfl rfl rfl wfX11 (by decide) rfl ?_
                    refine s_getrN (q := 2) (ci := 5) (N := 3) (CN := RX5) (T := TX5) (pc := 110) C 0 dX11_wheel_110 wlX11_131 rfl rfl rfl wfX5 (by decide) rfl ?_
                    refine s_getiN (q := 3) (ci := 8) (N := 7) (CN := RX8) (T := TX8) (pc := 113) C 4 dX11_wheel_113 wlX11_135 rfl rfl rfl wfX8 (by decide) rfl (σ 3 4) rfl ?_
                    refine s_istore (pc := 116) C [(9, vI (σ 3 4)), (8, vI 1), (0, .ref (ad 0)), (1, vI a0), (2, vI a1), (3, vI a2), (4, vI a3), (5, vI a4), (6, vI a5), (7, vI a6)] dX11_wheel_116 (by decide) rfl ?_
                    refine s_aload_n (pc := 118) C dX11_wheel_118 2 rfl ?_
                    refine s_getr (q := 0) (ci := 11) (N := 11) (CN := RX11) (T := TX11) (pc := 119) C 1 dX11_wheel_119 wlX11_16 rfl rfl rfl wfX11 (by decide) rfl ?_
                    refine s_getrN (q := 2) (ci := 5) (N := 3) (CN := RX5) (T := TX5) (pc := 122) C 1 dX11_wheel_122 wlX11_138 rfl rfl rfl wfX5 (by decide) rfl ?_
                    refine s_iload (pc := 125) C dX11_wheel_125 0 rfl ?_
                    refine s_aldq (q := 7) (pc := 127) C dX11_wheel_127 rfl (by omega) (by show _ < (4 : Int); omega) (by decide) ?_
                    rw [show ((_ : List (Nat × Nat)).getD (σ 3 4).toNat (0, 0)).2 = 8 + (σ 3 4).toNat from hs_ref4 (by omega) (by omega)]
                    refine s_iload_n (pc := 128) C dX11_wheel_128 3 rfl ?_
                    refine s_iload_n (pc := 129) C dX11_wheel_129 4 rfl ?_
                    refine s_iload_n (pc := 130) C dX11_wheel_130 5 rfl ?_
                    refine s_iload (pc := 131) C dX11_wheel_131 6 rfl ?_
                    refine s_iload (pc := 133) C dX11_wheel_133 7 rfl ?_
                    refine s_iload (pc := 135) C dX11_wheel_135 8 rfl ?_
                    refine s_iload (pc := 137) C dX11_wheel_137 9 rfl ?_
                    refine s_callVNv (pc := 139) C (c_X9_form l (σ 3 4) (by first | omega | assumption | (constructor <;> omega) | (refine ⟨⟨?_, ?_⟩, ?_⟩ <;> omega) | (simp [hs_ss, hs_up]; omega) | (simp [hs_ss, hs_up]; done)) a0 a1 a2 a3 a4 a5 a6 (by first | omega | assumption | (constructor <;> omega) | (refine ⟨⟨?_, ?_⟩, ?_⟩ <;> omega) | (simp [hs_ss, hs_up]; omega) | (simp [hs_ss, hs_up]; done)) (by first | omega | assumption | (constructor <;> omega) | (refine ⟨⟨?_, ?_⟩, ?_⟩ <;> omega) | (simp [hs_ss, hs_up]; omega) | (simp [hs_ss, hs_up]; done)) (by first | omega | assumption | (constructor <;> omega) | (refine ⟨⟨?_, ?_⟩, ?_⟩ <;> omega) | (simp [hs_ss, hs_up]; omega) | (simp [hs_ss, hs_up]; done)) (by first | omega | assumption | (constructor <;> omega) | (refine ⟨⟨?_, ?_⟩, ?_⟩ <;> omega) | (simp [hs_ss, hs_up]; omega) | (simp [hs_ss, hs_up]; done)) (by first | omega | assumption | (constructor <;> omega) | (refine ⟨⟨?_, ?_⟩, ?_⟩ <;> omega) | (simp [hs_ss, hs_up]; omega) | (simp [hs_ss, hs_up]; done)) (by first | omega | assumption | (constructor <;> omega) | (refine ⟨⟨?_, ?_⟩, ?_⟩ <;> omega) | (simp [hs_ss, hs_up]; omega) | (simp [hs_ss, hs_up]; done)) (by first | omega | assumption | (constructor <;> omega) | (refine ⟨⟨?_, ?_⟩, ?_⟩ <;> omega) | (simp [hs_ss, hs_up]; omega) | (simp [hs_ss, hs_up]; done))) [vI a0, vI a1, vI a2, vI a3, vI a4, vI a5, vI a6] [] rfl rfl dX11_wheel_139 wlX11_142 wiX9_form weX9_form wcX9_form wnX9 noX9_form (by decide) (by decide) (Nat.le_of_ble_eq_true rfl) hpre (sh_Wh (by omega)) rfl ?_
                    rintro σ139 k139
                    have g139 := k139
                    have e34 : σ139 3 4 = σ 3 4 := g139.2.1.2.2.2.1
                    have e33 : σ139 3 3 = σ 3 3 := g139.2.1.2.2.1
                    show hs_Wd _ _ _ _ _ _ _ _ _ _ _ _ _ _ _ _ _ 142 _ [] σ139
                    refine s_aload_n (pc := 142) C dX11_wheel_142 2 rfl ?_
                    refine s_getr (q := 0) (ci := 11) (N := 11) (CN := RX11) (T := TX11) (pc := 143) C 1 dX11_wheel_143 wlX11_16 rfl rfl rfl wfX11 (by decide) rfl ?_
                    refine s_getrN (q := 2) (ci := 5) (N := 3) (CN := RX5) (T := TX5) (pc := 146) C 0 dX11_wheel_146 wlX11_131 rfl rfl rfl wfX5 (by decide) rfl ?_
                    refine s_iload_n (pc := 149) C dX11_wheel_149 3 rfl ?_
                    refine s_callVNv (pc := 150) C (c_X8_addWheel l a0 (by first | omega | assumption | (constructor <;> omega) | (refine ⟨⟨?_, ?_⟩, ?_⟩ <;> omega) | (simp [hs_ss, hs_up]; omega) | (simp [hs_ss, hs_up]; done))) [vI a0] [] rfl rfl dX11_wheel_150 wlX11_148 wiX8_addWheel weX8_addWheel wcX8_addWheel wnX8 noX8_addWheel (by decide) (by decide) (Nat.le_of_ble_eq_true rfl) ⟨g139.1, by omega⟩ rfl rfl ?_
                    rintro σ150 k150
                    show hs_Wd _ _ _ _ _ _ _ _ _ _ _ _ _ _ _ _ _ 153 _ [] σ150
                    refine s_aload_n (pc := 153) C dX11_wheel_153 2 rfl ?_
                    refine s_getr (q := 0) (ci := 11) (N := 11) (CN := RX11) (T := TX11) (pc := 154) C 1 dX11_wheel_154 wlX11_16 rfl rfl rfl wfX11 (by decide) rfl ?_
                    refine s_getrN (q := 2) (ci := 5) (N := 3) (CN := RX5) (T := TX5) (pc := 157) C 0 dX11_wheel_157 wlX11_131 rfl rfl rfl wfX5 (by decide) rfl ?_
                    refine s_callVNv (pc := 160) C (c_X8_goHome l 3 (Or.inl rfl)) [] [] rfl rfl dX11_wheel_160 wlX11_151 wiX8_goHome weX8_goHome wcX8_goHome wnX8 noX8_goHome (by decide) (by decide) (Nat.le_of_ble_eq_true rfl) (k150 ▸ ibx_set (z := σ139 3 4 + 1) (ibx_set (z := σ139 3 3 - a0) g139.1 4 (σ139 3 4).toNat 0 99 rfl (by omega)) 3 4 0 4 rfl (by omega)) rfl rfl ?_
                    rintro σ160 k160
                    show hs_Wd _ _ _ _ _ _ _ _ _ _ _ _ _ _ _ _ _ 163 _ [] σ160
                    refine s_aload_n (pc := 163) C dX11_wheel_163 2 rfl ?_
                    refine s_getr (q := 0) (ci := 11) (N := 11) (CN := RX11) (T := TX11) (pc := 164) C 2 dX11_wheel_164 wlX11_23 rfl rfl rfl wfX11 (by decide) rfl ?_
                    refine s_iconst (pc := 167) C dX11_wheel_167 ?_
                    refine s_putiN (q := 12) (ci := 1) (N := 4) (CN := RX1) (T := TX1) (ty0 := tyX1) (ty := .int) (pc := 168) C 2 dX11_wheel_168 wlX11_117 rfl rfl rfl wfX1 tyX1_ok nmX1 (by decide) rfl rfl rfl (vp_nar_int _) rfl ?_
                    refine s_iload (pc := 171) C dX11_wheel_171 0 rfl ?_
                    refine s_iret (pc := 173) C dX11_wheel_173 ?_
                    refine ⟨_, rfl, ?_⟩
                    obtain ⟨kI, k5, kz, kf⟩ := k160
                    have hI : IBX (hs_ss σ160 12 2 0) := ibx_set kI 12 2 0 100 rfl (by omega)
                    have kf2 : ∀ c j : Nat, c ≠ 5 → c ≠ 6 → c ≠ 3 → c ≠ 4 → σ160 c j = σ139 c j := fun c j h1 h2 h3 h4 => by rw [kf c j h1 h2 (fun q => h3 q.1), ← k150]; simp [hs_ss, h3, h4]
                    have e43 : σ160 3 3 = σ139 3 3 := by rw [kf 3 3 (by decide) (by decide) (by decide), ← k150]; rfl
                    have e44 : σ160 3 4 = σ139 3 4 + 1 := by rw [kf 3 4 (by decide) (by decide) (by decide), ← k150]; rfl
                    refine ⟨fun q => absurd (by omega) q, fun _ => ⟨rfl, ⟨hI, kx_rf, lt_make g139.2.2 hI (fun w hw => (kz w hw).1) (fun w => kf2 34 w (by decide) (by decide) (by decide) (by decide)) (fun w => kf2 35 w (by decide) (by decide) (by decide) (by decide)) (fun w => kf2 49 w (by decide) (by decide) (by decide) (by decide)) (fun w => kf2 51 w (by decide) (by decide) (by decide) (by decide))⟩, ?_, ?_, ?_, ?_, ?_⟩⟩
                    · show σ160 3 4 = _
                      omega
                    · show σ160 0 9 = _
                      rw [kf2 0 9 (by decide) (by decide) (by decide) (by decide)]; exact g139.2.1.1
                    · show σ160 0 10 = _
                      rw [kf2 0 10 (by decide) (by decide) (by decide) (by decide)]; exact g139.2.1.2.1
                    · show σ160 3 3 = _
                      omega
                    · show σ160 48 8 = _
                      rw [kf2 48 8 (by decide) (by decide) (by decide) (by decide)]; exact g139.2.1.2.2.2.2
                  · skip
                    refine s_iconst (pc := 104) C dX11_wheel_104 ?_
                    refine s_iret (pc := 105) C dX11_wheel_105 ?_
                    refine ⟨_, rfl, ?_⟩
                    exact ⟨fun _ => ⟨rfl, rfl⟩, fun q => by exfalso; omega⟩
set_option maxHeartbeats 4000000 in
set_option maxRecDepth 100000 in
theorem c_X11_second (l : Launch) (w : Int) (hw : hs_R w) (n : Int) (hn : hs_R n) : hs_Met l yX11_second cX11_second 3 (some .boolean) 2 SHX (fun ad => [.ref (ad 0), vI w, vI n]) (fun σ => GX σ σ) (hs_PI (fun σ z σ1 => GX σ σ1 ∧ (z = 0 ∨ z = 1) ∧ (z = 1 ↔ (0 ≤ w ∧ w < σ 3 4 ∧ (n = -1 ∨ (0 ≤ n ∧ n < σ 3 3)))))) := by
  refine hs_from pfX11_second (fun _ => Nat.le_of_ble_eq_true rfl) ?_
  intro p e s m args below meth c D dA ad A σ C hpre
  have C : hs_C p s m args meth c D dA SHX ad A 3 cX11_second RX11 (some .boolean) := C
  have g0 := hpre
  have b34 : (0 : Int) ≤ σ 3 4 ∧ σ 3 4 ≤ 4 := g0.1 3 4
  have b33 : (10 : Int) ≤ σ 3 3 ∧ σ 3 3 ≤ 100 := g0.1 3 3
  show hs_Wd p l e 2 s m args below meth c D dA SHX ad A 3 (hs_PI (fun σ z σ1 => GX σ σ1 ∧ (z = 0 ∨ z = 1) ∧ (z = 1 ↔ (0 ≤ w ∧ w < σ 3 4 ∧ (n = -1 ∨ (0 ≤ n ∧ n < σ 3 3))))) σ) 0 [(0, .ref (ad 0)), (1, vI w), (2, vI n)] [] σ
  refine s_aload_n (pc := 0) C dX11_second_0 0 rfl ?_
  refine s_getr (q := 0) (ci := 11) (N := 11) (CN := RX11) (T := TX11) (pc := 1) C 1 dX11_second_1 wlX11_16 rfl rfl rfl wfX11 (by decide) rfl ?_
  refine s_iload_n (pc := 4) C dX11_second_4 1 rfl ?_
  refine s_callVNi (pc := 5) C (c_X5_hasWheel l w ⟨by omega, by omega⟩) [vI w] [] rfl rfl dX11_second_5 wlX11_154 wiX5_hasWheel weX5_hasWheel wcX5_hasWheel wnX5 noX5_hasWheel (by decide) (by decide) (Nat.le_of_ble_eq_true rfl) (gx_self g0) rfl rfl ?_
  rintro z5 _ ⟨rfl, k5⟩
  show hs_Wd _ _ _ _ _ _ _ _ _ _ _ _ _ _ _ _ _ 8 _ [vI z5] σ
  refine s_if_eq (pc := 8) C (tgt := 27) dX11_second_8 (by decide) ⟨by omega, by omega⟩ (fun h8 => ?_) (fun h8 => ?_)
  · skip
    refine s_iconst (pc := 27) C dX11_second_27 ?_
    refine s_zret (pc := 28) C (by omega) dX11_second_28 ?_
    refine ⟨_, rfl, ?_⟩
    exact ⟨g0, by first | omega | assumption | (constructor <;> omega) | (refine ⟨⟨?_, ?_⟩, ?_⟩ <;> omega) | (simp [hs_ss, hs_up]; omega) | (simp [hs_ss, hs_up]; done)⟩
  · skip
    refine s_iload_n (pc := 11) C dX11_second_11 2 rfl ?_
    refine s_iconst (pc := 12) C dX11_second_12 ?_
    refine s_icmp_eq (pc := 13) C (tgt := 29) dX11_second_13 (by decide) ⟨by omega, by omega⟩ ⟨by decide, by decide⟩ (fun h13 => ?_) (fun h13 => ?_)
    · skip
      refine s_aload_n (pc := 29) C dX11_second_29 0 rfl ?_
      refine s_getr (q := 0) (ci := 11) (N := 11) (CN := RX11) (T := TX11) (pc := 30) C 1 dX11_second_30 wlX11_16 rfl rfl rfl wfX11 (by decide) rfl ?_
      refine s_getrN (q := 2) (ci := 5) (N := 3) (CN := RX5) (T := TX5) (pc := 33) C 1 dX11_second_33 wlX11_138 rfl rfl rfl wfX5 (by decide) rfl ?_
      refine s_iload_n (pc := 36) C dX11_second_36 1 rfl ?_
      refine s_aldq (q := 7) (pc := 37) C dX11_second_37 rfl (by omega) (by show _ < (4 : Int); omega) (by decide) ?_
      rw [show ((_ : List (Nat × Nat)).getD w.toNat (0, 0)).2 = 8 + w.toNat from hs_ref4 (by omega) (by omega)]
      refine s_iload_n (pc := 38) C dX11_second_38 2 rfl ?_
      refine s_putiN (q := (8 + w.toNat)) (ci := 9) (N := 9) (CN := RX9) (T := TX9) (ty0 := tyX9) (ty := .int) (pc := 39) C 3 dX11_second_39 wlX11_157 (sh_Wh (by omega)) rfl rfl wfX9 tyX9_ok nmX9 (by decide) rfl rfl rfl (vp_nar_int _) rfl ?_
      have g39 := gx_setw (z := n) g0 (show (w).toNat < 4 by omega) 3 (-1) (99) rfl ⟨by omega, by omega⟩
      refine s_iconst (pc := 42) C dX11_second_42 ?_
      refine s_zret (pc := 43) C (by omega) dX11_second_43 ?_
      refine ⟨_, rfl, ?_⟩
      exact ⟨g39, by first | omega | assumption | (constructor <;> omega) | (refine ⟨⟨?_, ?_⟩, ?_⟩ <;> omega) | (simp [hs_ss, hs_up]; omega) | (simp [hs_ss, hs_up]; done)⟩
    · skip
      refine s_aload_n (pc := 16) C dX11_second_16 0 rfl ?_
      refine s_getr (q := 0) (ci := 11) (N := 11) (CN := RX11) (T := TX11) (pc := 17) C 1 dX11_second_17 wlX11_16 rfl rfl rfl wfX11 (by decide) rfl ?_
      refine s_iload_n (pc := 20) C dX11_second_20 2 rfl ?_
      refine s_callVNi (pc := 21) C (c_X5_hasNumber l n ⟨by omega, by omega⟩) [vI n] [] rfl rfl dX11_second_21 wlX11_127 wiX5_hasNumber weX5_hasNumber wcX5_hasNumber wnX5 noX5_hasNumber (by decide) (by decide) (Nat.le_of_ble_eq_true rfl) (gx_self g0) rfl rfl ?_
      rintro z21 _ ⟨rfl, k21⟩
      show hs_Wd _ _ _ _ _ _ _ _ _ _ _ _ _ _ _ _ _ 24 _ [vI z21] σ
      refine s_if_ne (pc := 24) C (tgt := 29) dX11_second_24 (by decide) ⟨by omega, by omega⟩ (fun h24 => ?_) (fun h24 => ?_)
      · skip
        refine s_aload_n (pc := 29) C dX11_second_29 0 rfl ?_
        refine s_getr (q := 0) (ci := 11) (N := 11) (CN := RX11) (T := TX11) (pc := 30) C 1 dX11_second_30 wlX11_16 rfl rfl rfl wfX11 (by decide) rfl ?_
        refine s_getrN (q := 2) (ci := 5) (N := 3) (CN := RX5) (T := TX5) (pc := 33) C 1 dX11_second_33 wlX11_138 rfl rfl rfl wfX5 (by decide) rfl ?_
        refine s_iload_n (pc := 36) C dX11_second_36 1 rfl ?_
        refine s_aldq (q := 7) (pc := 37) C dX11_second_37 rfl (by omega) (by show _ < (4 : Int); omega) (by decide) ?_
        rw [show ((_ : List (Nat × Nat)).getD w.toNat (0, 0)).2 = 8 + w.toNat from hs_ref4 (by omega) (by omega)]
        refine s_iload_n (pc := 38) C dX11_second_38 2 rfl ?_
        refine s_putiN (q := (8 + w.toNat)) (ci := 9) (N := 9) (CN := RX9) (T := TX9) (ty0 := tyX9) (ty := .int) (pc := 39) C 3 dX11_second_39 wlX11_157 (sh_Wh (by omega)) rfl rfl wfX9 tyX9_ok nmX9 (by decide) rfl rfl rfl (vp_nar_int _) rfl ?_
        have g39 := gx_setw (z := n) g0 (show (w).toNat < 4 by omega) 3 (-1) (99) rfl ⟨by omega, by omega⟩
        refine s_iconst (pc := 42) C dX11_second_42 ?_
        refine s_zret (pc := 43) C (by omega) dX11_second_43 ?_
        refine ⟨_, rfl, ?_⟩
        exact ⟨g39, by first | omega | assumption | (constructor <;> omega) | (refine ⟨⟨?_, ?_⟩, ?_⟩ <;> omega) | (simp [hs_ss, hs_up]; omega) | (simp [hs_ss, hs_up]; done)⟩
      · skip
        refine s_iconst (pc := 27) C dX11_second_27 ?_
        refine s_zret (pc := 28) C (by omega) dX11_second_28 ?_
        refine ⟨_, rfl, ?_⟩
        exact ⟨g0, by first | omega | assumption | (constructor <;> omega) | (refine ⟨⟨?_, ?_⟩, ?_⟩ <;> omega) | (simp [hs_ss, hs_up]; omega) | (simp [hs_ss, hs_up]; done)⟩
set_option maxHeartbeats 4000000 in
set_option maxRecDepth 100000 in
theorem c_X11_step (l : Launch) (n : Int) (hn : hs_R n) : hs_Met l yX11_step cX11_step 2 (some .int) 5 SHX (fun ad => [.ref (ad 0), vI n]) (fun σ => GX σ σ) (hs_PI (fun σ z σ1 => GX σ σ1 ∧ hs_R z ∧ (¬ (-100000 ≤ n ∧ n ≤ 100000) → z = -1) ∧ (-100000 ≤ n ∧ n ≤ 100000 → n ≠ 0 → z = (σ 3 5 + n) % (σ 3 3)) ∧ (n = 0 → z = σ 3 5))) := by
  refine hs_from pfX11_step (fun _ => Nat.le_of_ble_eq_true rfl) ?_
  intro p e s m args below meth c D dA ad A σ C hpre
  have C : hs_C p s m args meth c D dA SHX ad A 2 cX11_step RX11 (some .int) := C
  have g0 := hpre
  show hs_Wd p l e 5 s m args below meth c D dA SHX ad A 2 (hs_PI (fun σ z σ1 => GX σ σ1 ∧ hs_R z ∧ (¬ (-100000 ≤ n ∧ n ≤ 100000) → z = -1) ∧ (-100000 ≤ n ∧ n ≤ 100000 → n ≠ 0 → z = (σ 3 5 + n) % (σ 3 3)) ∧ (n = 0 → z = σ 3 5)) σ) 0 [(0, .ref (ad 0)), (1, vI n)] [] σ
  refine s_iload_n (pc := 0) C dX11_step_0 1 rfl ?_
  refine s_ldc (z := (-100000)) (pc := 1) C dX11_step_1 wlX11_160 (by decide) ?_
  refine s_ldc (z := 100000) (pc := 3) C dX11_step_3 wlX11_161 (by decide) ?_
  refine s_callSi (pc := 5) C (c_X11_isWithin l n ⟨by omega, by omega⟩ ((-100000)) ⟨by omega, by omega⟩ 100000 ⟨by omega, by omega⟩) [vI n, vI ((-100000)), vI 100000] [] rfl rfl dX11_step_5 wlX11_123 wtX11_isWithin wcX11_isWithin wnX11 noX11_isWithin (by decide) (by decide) (Nat.le_of_ble_eq_true rfl) (gx_self g0) ?_
  rintro z5 _ ⟨rfl, k5⟩
  show hs_Wd _ _ _ _ _ _ _ _ _ _ _ _ _ _ _ _ _ 8 _ [vI z5] σ
  refine s_if_ne (pc := 8) C (tgt := 13) dX11_step_8 (by decide) ⟨by omega, by omega⟩ (fun h8 => ?_) (fun h8 => ?_)
  · skip
    refine s_aload_n (pc := 13) C dX11_step_13 0 rfl ?_
    refine s_getr (q := 0) (ci := 11) (N := 11) (CN := RX11) (T := TX11) (pc := 14) C 1 dX11_step_14 wlX11_16 rfl rfl rfl wfX11 (by decide) rfl ?_
    refine s_getrN (q := 2) (ci := 5) (N := 3) (CN := RX5) (T := TX5) (pc := 17) C 0 dX11_step_17 wlX11_131 rfl rfl rfl wfX5 (by decide) rfl ?_
    refine s_iload_n (pc := 20) C dX11_step_20 1 rfl ?_
    refine s_callSi (pc := 21) C (c_J9_abs_0f7a4 l n ⟨by omega, by omega⟩) [vI n] [.ref (ad 3)] rfl rfl dX11_step_21 wlX11_162 wtJ9_abs_0f7a4 wcJ9_abs_0f7a4 wnJ9 noJ9_abs_0f7a4 (by decide) (by decide) (Nat.le_of_ble_eq_true rfl) (by first | omega | assumption | (constructor <;> omega) | (refine ⟨⟨?_, ?_⟩, ?_⟩ <;> omega) | (simp [hs_ss, hs_up]; omega) | (simp [hs_ss, hs_up]; done)) ?_
    rintro _ _ ⟨rfl, rfl⟩
    show hs_Wd _ _ _ _ _ _ _ _ _ _ _ _ _ _ _ _ _ 24 _ [vI (if n < 0 then -n else n), .ref (ad 3)] σ
    refine s_iload_n (pc := 24) C dX11_step_24 1 rfl ?_
    refine s_if_le (pc := 25) C (tgt := 32) dX11_step_25 (by decide) ⟨by omega, by omega⟩ (fun h25 => ?_) (fun h25 => ?_)
    · skip
      refine s_iconst (pc := 32) C dX11_step_32 ?_
      refine s_callVNv (pc := 33) C (c_X8_spin l 3 (Or.inl rfl) (if n < 0 then -n else n) 0 (by first | omega | assumption | (constructor <;> omega) | (refine ⟨⟨?_, ?_⟩, ?_⟩ <;> omega) | (simp [hs_ss, hs_up]; omega) | (simp [hs_ss, hs_up]; done)) (by first | omega | assumption | (constructor <;> omega) | (refine ⟨⟨?_, ?_⟩, ?_⟩ <;> omega) | (simp [hs_ss, hs_up]; omega) | (simp [hs_ss, hs_up]; done))) [vI (if n < 0 then -n else n), vI 0] [] rfl rfl dX11_step_33 wlX11_168 wiX8_spin weX8_spin wcX8_spin wnX8 noX8_spin (by decide) (by decide) (Nat.le_of_ble_eq_true rfl) (gx_self g0) rfl rfl ?_
      rintro σ33 k33
      obtain ⟨kg33, kf33, k33⟩ := k33
      have g33 := gx_trans g0 kg33
      show hs_Wd _ _ _ _ _ _ _ _ _ _ _ _ _ _ _ _ _ 36 _ [] σ33
      refine s_aload_n (pc := 36) C dX11_step_36 0 rfl ?_
      refine s_getr (q := 0) (ci := 11) (N := 11) (CN := RX11) (T := TX11) (pc := 37) C 1 dX11_step_37 wlX11_16 rfl rfl rfl wfX11 (by decide) rfl ?_
      refine s_getrN (q := 2) (ci := 5) (N := 3) (CN := RX5) (T := TX5) (pc := 40) C 0 dX11_step_40 wlX11_131 rfl rfl rfl wfX5 (by decide) rfl ?_
      refine s_getiN (q := 3) (ci := 8) (N := 7) (CN := RX8) (T := TX8) (pc := 43) C 5 dX11_step_43 wlX11_172 rfl rfl rfl wfX8 (by decide) rfl (σ33 3 5) rfl ?_
      have b43 : (0 : Int) ≤ σ33 3 5 ∧ σ33 3 5 ≤ 99 := g33.1 3 5
      refine s_iret (pc := 46) C dX11_step_46 ?_
      refine ⟨_, rfl, ?_⟩
      refine ⟨g33, ⟨by omega, by omega⟩, by omega, fun _ hn0 => ?_, fun hn0 => ?_⟩
      · first
        | (rw [if_pos (show n < 0 by omega)] at k33; rw [k33.1 (by omega), if_pos rfl, show σ 3 5 - -n = σ 3 5 + n by omega]; done)
        | (rw [if_neg (show ¬ n < 0 by omega)] at k33; rw [k33.1 (by omega), if_neg (by decide)]; done)
      · subst hn0
        first
        | (rw [k33.2 (by decide)]; done)
        | (exfalso; omega)
    · skip
      refine s_iconst (pc := 28) C dX11_step_28 ?_
      refine s_goto (pc := 29) C (tgt := 33) dX11_step_29 (by decide) ?_
      refine s_callVNv (pc := 33) C (c_X8_spin l 3 (Or.inl rfl) (if n < 0 then -n else n) 1 (by first | omega | assumption | (constructor <;> omega) | (refine ⟨⟨?_, ?_⟩, ?_⟩ <;> omega) | (simp [hs_ss, hs_up]; omega) | (simp [hs_ss, hs_up]; done)) (by first | omega | assumption | (constructor <;> omega) | (refine ⟨⟨?_, ?_⟩, ?_⟩ <;> omega) | (simp [hs_ss, hs_up]; omega) | (simp [hs_ss, hs_up]; done))) [vI (if n < 0 then -n else n), vI 1] [] rfl rfl dX11_step_33 wlX11_168 wiX8_spin weX8_spin wcX8_spin wnX8 noX8_spin (by decide) (by decide) (Nat.le_of_ble_eq_true rfl) (gx_self g0) rfl rfl ?_
      rintro σ33 k33
      obtain ⟨kg33, kf33, k33⟩ := k33
      have g33 := gx_trans g0 kg33
      show hs_Wd _ _ _ _ _ _ _ _ _ _ _ _ _ _ _ _ _ 36 _ [] σ33
      refine s_aload_n (pc := 36) C dX11_step_36 0 rfl ?_
      refine s_getr (q := 0) (ci := 11) (N := 11) (CN := RX11) (T := TX11) (pc := 37) C 1 dX11_step_37 wlX11_16 rfl rfl rfl wfX11 (by decide) rfl ?_
      refine s_getrN (q := 2) (ci := 5) (N := 3) (CN := RX5) (T := TX5) (pc := 40) C 0 dX11_step_40 wlX11_131 rfl rfl rfl wfX5 (by decide) rfl ?_
      refine s_getiN (q := 3) (ci := 8) (N := 7) (CN := RX8) (T := TX8) (pc := 43) C 5 dX11_step_43 wlX11_172 rfl rfl rfl wfX8 (by decide) rfl (σ33 3 5) rfl ?_
      have b43 : (0 : Int) ≤ σ33 3 5 ∧ σ33 3 5 ≤ 99 := g33.1 3 5
      refine s_iret (pc := 46) C dX11_step_46 ?_
      refine ⟨_, rfl, ?_⟩
      refine ⟨g33, ⟨by omega, by omega⟩, by omega, fun _ hn0 => ?_, fun hn0 => ?_⟩
      · first
        | (rw [if_pos (show n < 0 by omega)] at k33; rw [k33.1 (by omega), if_pos rfl, show σ 3 5 - -n = σ 3 5 + n by omega]; done)
        | (rw [if_neg (show ¬ n < 0 by omega)] at k33; rw [k33.1 (by omega), if_neg (by decide)]; done)
      · subst hn0
        first
        | (rw [k33.2 (by decide)]; done)
        | (exfalso; omega)
  · skip
    refine s_iconst (pc := 11) C dX11_step_11 ?_
    refine s_iret (pc := 12) C dX11_step_12 ?_
    refine ⟨_, rfl, ?_⟩
    exact ⟨g0, ⟨by omega, by omega⟩, by omega, by omega, by omega⟩
set_option maxHeartbeats 4000000 in
set_option maxRecDepth 100000 in
theorem c_X11_rides (l : Launch)  : hs_Met l yX11_rides cX11_rides 1 (some .int) 7 SHX (fun ad => [.ref (ad 0)]) (fun σ => GX σ σ) (hs_PI (fun σ z σ1 => σ = σ1 ∧ 0 ≤ z ∧ z ≤ 7000 ∧ (σ 3 4 = 0 → z = 0))) := by
  refine hs_from pfX11_rides (fun _ => Nat.le_of_ble_eq_true rfl) ?_
  intro p e s m args below meth c D dA ad A σ C hpre
  have C : hs_C p s m args meth c D dA SHX ad A 1 cX11_rides RX11 (some .int) := C
  have g0 := hpre
  show hs_Wd p l e 7 s m args below meth c D dA SHX ad A 1 (hs_PI (fun σ z σ1 => σ = σ1 ∧ 0 ≤ z ∧ z ≤ 7000 ∧ (σ 3 4 = 0 → z = 0)) σ) 0 [(0, .ref (ad 0))] [] σ
  refine s_aload_n (pc := 0) C dX11_rides_0 0 rfl ?_
  refine s_getr (q := 0) (ci := 11) (N := 11) (CN := RX11) (T := TX11) (pc := 1) C 1 dX11_rides_1 wlX11_16 rfl rfl rfl wfX11 (by decide) rfl ?_
  refine s_callVNi (pc := 4) C (c_X5_leverHeight l) [] [] rfl rfl dX11_rides_4 wlX11_209 wiX5_leverHeight weX5_leverHeight wcX5_leverHeight wnX5 noX5_leverHeight (by decide) (by decide) (Nat.le_of_ble_eq_true rfl) (gx_self g0) rfl rfl ?_
  rintro z4 _ ⟨rfl, k4⟩
  show hs_Wd _ _ _ _ _ _ _ _ _ _ _ _ _ _ _ _ _ 7 _ [vI z4] σ
  refine s_iret (pc := 7) C dX11_rides_7 ?_
  refine ⟨_, rfl, ?_⟩
  exact ⟨rfl, by first | omega | assumption | (constructor <;> omega) | (refine ⟨⟨?_, ?_⟩, ?_⟩ <;> omega) | (simp [hs_ss, hs_up]; omega) | (simp [hs_ss, hs_up]; done)⟩
set_option maxHeartbeats 4000000 in
set_option maxRecDepth 100000 in
theorem c_X11_open (l : Launch)  : hs_Met l yX11_open cX11_open 1 (some .int) 8 SHX (fun ad => [.ref (ad 0)]) (fun σ => GX σ σ) (hs_PI (fun σ z σ1 => σ = σ1 ∧ 0 ≤ z ∧ z ≤ 2 ∧ (σ 3 4 = 0 → σ 2 2 = 0 → z = 1))) := by
  refine hs_from pfX11_open (fun _ => Nat.le_of_ble_eq_true rfl) ?_
  intro p e s m args below meth c D dA ad A σ C hpre
  have C : hs_C p s m args meth c D dA SHX ad A 1 cX11_open RX11 (some .int) := C
  have g0 := hpre
  show hs_Wd p l e 8 s m args below meth c D dA SHX ad A 1 (hs_PI (fun σ z σ1 => σ = σ1 ∧ 0 ≤ z ∧ z ≤ 2 ∧ (σ 3 4 = 0 → σ 2 2 = 0 → z = 1)) σ) 0 [(0, .ref (ad 0))] [] σ
  refine s_aload_n (pc := 0) C dX11_open_0 0 rfl ?_
  refine s_getr (q := 0) (ci := 11) (N := 11) (CN := RX11) (T := TX11) (pc := 1) C 1 dX11_open_1 wlX11_16 rfl rfl rfl wfX11 (by decide) rfl ?_
  refine s_callVNi (pc := 4) C (c_X5_tryLever l) [] [] rfl rfl dX11_open_4 wlX11_213 wiX5_tryLever weX5_tryLever wcX5_tryLever wnX5 noX5_tryLever (by decide) (by decide) (Nat.le_of_ble_eq_true rfl) (gx_self g0) rfl rfl ?_
  rintro z4 _ ⟨rfl, k4⟩
  show hs_Wd _ _ _ _ _ _ _ _ _ _ _ _ _ _ _ _ _ 7 _ [vI z4] σ
  refine s_iret (pc := 7) C dX11_open_7 ?_
  refine ⟨_, rfl, ?_⟩
  exact ⟨rfl, by first | omega | assumption | (constructor <;> omega) | (refine ⟨⟨?_, ?_⟩, ?_⟩ <;> omega) | (simp [hs_ss, hs_up]; omega) | (simp [hs_ss, hs_up]; done)⟩
set_option maxHeartbeats 4000000 in
set_option maxRecDepth 100000 in
theorem c_X11_clock (l : Launch) (n : Int) (hn : hs_R n) : hs_Met l yX11_clock cX11_clock 2 (some .boolean) 7 SHX (fun ad => [.ref (ad 0), vI n]) (fun σ => GX σ σ) (hs_PI (fun σ z σ1 => GX σ σ1 ∧ (z = 0 ∨ z = 1) ∧ (σ 3 4 = 0 → (z = 1 ↔ 0 ≤ n ∧ n ≤ 999)))) := by
  refine hs_from pfX11_clock (fun _ => Nat.le_of_ble_eq_true rfl) ?_
  intro p e s m args below meth c D dA ad A σ C hpre
  have C : hs_C p s m args meth c D dA SHX ad A 2 cX11_clock RX11 (some .boolean) := C
  have g0 := hpre
  show hs_Wd p l e 7 s m args below meth c D dA SHX ad A 2 (hs_PI (fun σ z σ1 => GX σ σ1 ∧ (z = 0 ∨ z = 1) ∧ (σ 3 4 = 0 → (z = 1 ↔ 0 ≤ n ∧ n ≤ 999))) σ) 0 [(0, .ref (ad 0)), (1, vI n)] [] σ
  refine s_iload_n (pc := 0) C dX11_clock_0 1 rfl ?_
  refine s_iconst (pc := 1) C dX11_clock_1 ?_
  refine s_sipush (pc := 2) C dX11_clock_2 (by decide) ?_
  refine s_callSi (pc := 5) C (c_X11_isWithin l n ⟨by omega, by omega⟩ 0 ⟨by omega, by omega⟩ 999 ⟨by omega, by omega⟩) [vI n, vI 0, vI 999] [] rfl rfl dX11_clock_5 wlX11_123 wtX11_isWithin wcX11_isWithin wnX11 noX11_isWithin (by decide) (by decide) (Nat.le_of_ble_eq_true rfl) (gx_self g0) ?_
  rintro z5 _ ⟨rfl, k5⟩
  show hs_Wd _ _ _ _ _ _ _ _ _ _ _ _ _ _ _ _ _ 8 _ [vI z5] σ
  refine s_if_eq (pc := 8) C (tgt := 21) dX11_clock_8 (by decide) ⟨by omega, by omega⟩ (fun h8 => ?_) (fun h8 => ?_)
  · skip
    refine s_iconst (pc := 21) C dX11_clock_21 ?_
    refine s_zret (pc := 22) C (by omega) dX11_clock_22 ?_
    refine ⟨_, rfl, ?_⟩
    exact ⟨g0, by first | omega | assumption | (constructor <;> omega) | (refine ⟨⟨?_, ?_⟩, ?_⟩ <;> omega) | (simp [hs_ss, hs_up]; omega) | (simp [hs_ss, hs_up]; done)⟩
  · skip
    refine s_aload_n (pc := 11) C dX11_clock_11 0 rfl ?_
    refine s_getr (q := 0) (ci := 11) (N := 11) (CN := RX11) (T := TX11) (pc := 12) C 1 dX11_clock_12 wlX11_16 rfl rfl rfl wfX11 (by decide) rfl ?_
    refine s_callVNi (pc := 15) C (c_X5_leverHeight l) [] [] rfl rfl dX11_clock_15 wlX11_209 wiX5_leverHeight weX5_leverHeight wcX5_leverHeight wnX5 noX5_leverHeight (by decide) (by decide) (Nat.le_of_ble_eq_true rfl) (gx_self g0) rfl rfl ?_
    rintro z15 _ ⟨rfl, k15⟩
    show hs_Wd _ _ _ _ _ _ _ _ _ _ _ _ _ _ _ _ _ 18 _ [vI z15] σ
    refine s_if_eq (pc := 18) C (tgt := 23) dX11_clock_18 (by decide) ⟨by omega, by omega⟩ (fun h18 => ?_) (fun h18 => ?_)
    · skip
      refine s_aload_n (pc := 23) C dX11_clock_23 0 rfl ?_
      refine s_getr (q := 0) (ci := 11) (N := 11) (CN := RX11) (T := TX11) (pc := 24) C 1 dX11_clock_24 wlX11_16 rfl rfl rfl wfX11 (by decide) rfl ?_
      refine s_iload_n (pc := 27) C dX11_clock_27 1 rfl ?_
      refine s_putiN (q := 2) (ci := 5) (N := 3) (CN := RX5) (T := TX5) (ty0 := tyX5) (ty := .int) (pc := 28) C 2 dX11_clock_28 wlX11_216 rfl rfl rfl wfX5 tyX5_ok nmX5 (by decide) rfl rfl rfl (vp_nar_int _) rfl ?_
      have g28 := gx_set (z := n) g0 2 2 rfl (0) (999) rfl ⟨by omega, by omega⟩
      refine s_iconst (pc := 31) C dX11_clock_31 ?_
      refine s_zret (pc := 32) C (by omega) dX11_clock_32 ?_
      refine ⟨_, rfl, ?_⟩
      exact ⟨g28, by first | omega | assumption | (constructor <;> omega) | (refine ⟨⟨?_, ?_⟩, ?_⟩ <;> omega) | (simp [hs_ss, hs_up]; omega) | (simp [hs_ss, hs_up]; done)⟩
    · skip
      refine s_iconst (pc := 21) C dX11_clock_21 ?_
      refine s_zret (pc := 22) C (by omega) dX11_clock_22 ?_
      refine ⟨_, rfl, ?_⟩
      exact ⟨g0, by first | omega | assumption | (constructor <;> omega) | (refine ⟨⟨?_, ?_⟩, ?_⟩ <;> omega) | (simp [hs_ss, hs_up]; omega) | (simp [hs_ss, hs_up]; done)⟩
set_option maxHeartbeats 4000000 in
set_option maxRecDepth 100000 in
theorem c_X11_hours (l : Launch) (n : Int) (hn : hs_R n) : hs_Met l yX11_hours cX11_hours 2 (some .int) 2 SHX (fun ad => [.ref (ad 0), vI n]) (fun σ => GX σ σ) (hs_PI (fun σ z σ1 => GX σ σ1 ∧ hs_R z ∧ (¬ (0 ≤ n ∧ n ≤ 9999) → z = -1) ∧ (0 ≤ n ∧ n ≤ 9999 → z = max 0 (σ 2 2 - n)))) := by
  refine hs_from pfX11_hours (fun _ => Nat.le_of_ble_eq_true rfl) ?_
  intro p e s m args below meth c D dA ad A σ C hpre
  have C : hs_C p s m args meth c D dA SHX ad A 2 cX11_hours RX11 (some .int) := C
  have g0 := hpre
  show hs_Wd p l e 2 s m args below meth c D dA SHX ad A 2 (hs_PI (fun σ z σ1 => GX σ σ1 ∧ hs_R z ∧ (¬ (0 ≤ n ∧ n ≤ 9999) → z = -1) ∧ (0 ≤ n ∧ n ≤ 9999 → z = max 0 (σ 2 2 - n))) σ) 0 [(0, .ref (ad 0)), (1, vI n)] [] σ
  refine s_iload_n (pc := 0) C dX11_hours_0 1 rfl ?_
  refine s_iconst (pc := 1) C dX11_hours_1 ?_
  refine s_sipush (pc := 2) C dX11_hours_2 (by decide) ?_
  refine s_callSi (pc := 5) C (c_X11_isWithin l n ⟨by omega, by omega⟩ 0 ⟨by omega, by omega⟩ 9999 ⟨by omega, by omega⟩) [vI n, vI 0, vI 9999] [] rfl rfl dX11_hours_5 wlX11_123 wtX11_isWithin wcX11_isWithin wnX11 noX11_isWithin (by decide) (by decide) (Nat.le_of_ble_eq_true rfl) (gx_self g0) ?_
  rintro z5 _ ⟨rfl, k5⟩
  show hs_Wd _ _ _ _ _ _ _ _ _ _ _ _ _ _ _ _ _ 8 _ [vI z5] σ
  refine s_if_ne (pc := 8) C (tgt := 13) dX11_hours_8 (by decide) ⟨by omega, by omega⟩ (fun h8 => ?_) (fun h8 => ?_)
  · skip
    refine s_aload_n (pc := 13) C dX11_hours_13 0 rfl ?_
    refine s_getr (q := 0) (ci := 11) (N := 11) (CN := RX11) (T := TX11) (pc := 14) C 1 dX11_hours_14 wlX11_16 rfl rfl rfl wfX11 (by decide) rfl ?_
    refine s_iconst (pc := 17) C dX11_hours_17 ?_
    refine s_aload_n (pc := 18) C dX11_hours_18 0 rfl ?_
    refine s_getr (q := 0) (ci := 11) (N := 11) (CN := RX11) (T := TX11) (pc := 19) C 1 dX11_hours_19 wlX11_16 rfl rfl rfl wfX11 (by decide) rfl ?_
    refine s_getiN (q := 2) (ci := 5) (N := 3) (CN := RX5) (T := TX5) (pc := 22) C 2 dX11_hours_22 wlX11_216 rfl rfl rfl wfX5 (by decide) rfl (σ 2 2) rfl ?_
    have b22 : (0 : Int) ≤ σ 2 2 ∧ σ 2 2 ≤ 999 := g0.1 2 2
    refine s_iload_n (pc := 25) C dX11_hours_25 1 rfl ?_
    refine s_isub (pc := 26) C dX11_hours_26 ?_
    refine s_callSi (pc := 27) C (c_J9_max_7cf53 l 0 ((σ 2 2) - n) ⟨by omega, by omega⟩ ⟨by omega, by omega⟩) [vI 0, vI ((σ 2 2) - n)] [.ref (ad 2)] rfl rfl dX11_hours_27 wlX11_219 wtJ9_max_7cf53 wcJ9_max_7cf53 wnJ9 noJ9_max_7cf53 (by decide) (by decide) (Nat.le_of_ble_eq_true rfl) (by first | omega | assumption | (constructor <;> omega) | (refine ⟨⟨?_, ?_⟩, ?_⟩ <;> omega) | (simp [hs_ss, hs_up]; omega) | (simp [hs_ss, hs_up]; done)) ?_
    rintro _ _ ⟨rfl, rfl⟩
    show hs_Wd _ _ _ _ _ _ _ _ _ _ _ _ _ _ _ _ _ 30 _ [vI (max 0 (((σ 2 2)) - n)), .ref (ad 2)] σ
    refine s_putiN (q := 2) (ci := 5) (N := 3) (CN := RX5) (T := TX5) (ty0 := tyX5) (ty := .int) (pc := 30) C 2 dX11_hours_30 wlX11_216 rfl rfl rfl wfX5 tyX5_ok nmX5 (by decide) rfl rfl rfl (vp_nar_int _) rfl ?_
    have g30 := gx_set (z := (max 0 (((σ 2 2)) - n))) g0 2 2 rfl (0) (999) rfl ⟨by omega, by omega⟩
    refine s_aload_n (pc := 33) C dX11_hours_33 0 rfl ?_
    refine s_getr (q := 0) (ci := 11) (N := 11) (CN := RX11) (T := TX11) (pc := 34) C 1 dX11_hours_34 wlX11_16 rfl rfl rfl wfX11 (by decide) rfl ?_
    refine s_getiN (q := 2) (ci := 5) (N := 3) (CN := RX5) (T := TX5) (pc := 37) C 2 dX11_hours_37 wlX11_216 rfl rfl rfl wfX5 (by decide) rfl (max 0 (((σ 2 2)) - n)) rfl ?_
    have b37 : (0 : Int) ≤ max 0 (((σ 2 2)) - n) ∧ max 0 (((σ 2 2)) - n) ≤ 999 := g30.1 2 2
    refine s_iret (pc := 40) C dX11_hours_40 ?_
    refine ⟨_, rfl, ?_⟩
    exact ⟨g30, by first | omega | assumption | (constructor <;> omega) | (refine ⟨⟨?_, ?_⟩, ?_⟩ <;> omega) | (simp [hs_ss, hs_up]; omega) | (simp [hs_ss, hs_up]; done)⟩
  · skip
    refine s_iconst (pc := 11) C dX11_hours_11 ?_
    refine s_iret (pc := 12) C dX11_hours_12 ?_
    refine ⟨_, rfl, ?_⟩
    exact ⟨g0, by first | omega | assumption | (constructor <;> omega) | (refine ⟨⟨?_, ?_⟩, ?_⟩ <;> omega) | (simp [hs_ss, hs_up]; omega) | (simp [hs_ss, hs_up]; done)⟩
set_option maxHeartbeats 4000000 in
set_option maxRecDepth 100000 in
theorem c_X11_comes (l : Launch) (w b : Int) (hw : hs_R w) (hb : b = 0 ∨ b = 1) : hs_Met l yX11_comes cX11_comes 3 (some .int) 5 SHX (fun ad => [.ref (ad 0), vI w, vI b]) (fun σ => GX σ σ) (hs_PI (fun σ z σ1 => σ = σ1 ∧ -1 ≤ z ∧ z ≤ 99 ∧ (σ 3 4 = 0 → z = -1))) := by
  refine hs_from pfX11_comes (fun _ => Nat.le_of_ble_eq_true rfl) ?_
  intro p e s m args below meth c D dA ad A σ C hpre
  have C : hs_C p s m args meth c D dA SHX ad A 3 cX11_comes RX11 (some .int) := C
  have g0 := hpre
  have b34 : (0 : Int) ≤ σ 3 4 ∧ σ 3 4 ≤ 4 := g0.1 3 4
  show hs_Wd p l e 5 s m args below meth c D dA SHX ad A 3 (hs_PI (fun σ z σ1 => σ = σ1 ∧ -1 ≤ z ∧ z ≤ 99 ∧ (σ 3 4 = 0 → z = -1)) σ) 0 [(0, .ref (ad 0)), (1, vI w), (2, vI b)] [] σ
  refine s_aload_n (pc := 0) C dX11_comes_0 0 rfl ?_
  refine s_getr (q := 0) (ci := 11) (N := 11) (CN := RX11) (T := TX11) (pc := 1) C 1 dX11_comes_1 wlX11_16 rfl rfl rfl wfX11 (by decide) rfl ?_
  refine s_iload_n (pc := 4) C dX11_comes_4 1 rfl ?_
  refine s_callVNi (pc := 5) C (c_X5_hasWheel l w ⟨by omega, by omega⟩) [vI w] [] rfl rfl dX11_comes_5 wlX11_154 wiX5_hasWheel weX5_hasWheel wcX5_hasWheel wnX5 noX5_hasWheel (by decide) (by decide) (Nat.le_of_ble_eq_true rfl) (gx_self g0) rfl rfl ?_
  rintro z5 _ ⟨rfl, k5⟩
  show hs_Wd _ _ _ _ _ _ _ _ _ _ _ _ _ _ _ _ _ 8 _ [vI z5] σ
  refine s_if_eq (pc := 8) C (tgt := 38) dX11_comes_8 (by decide) ⟨by omega, by omega⟩ (fun h8 => ?_) (fun h8 => ?_)
  · skip
    refine s_iconst (pc := 38) C dX11_comes_38 ?_
    refine s_iret (pc := 39) C dX11_comes_39 ?_
    refine ⟨_, rfl, ?_⟩
    exact ⟨rfl, by first | omega | assumption | (constructor <;> omega) | (refine ⟨⟨?_, ?_⟩, ?_⟩ <;> omega) | (simp [hs_ss, hs_up]; omega) | (simp [hs_ss, hs_up]; done)⟩
  · skip
    refine s_aload_n (pc := 11) C dX11_comes_11 0 rfl ?_
    refine s_getr (q := 0) (ci := 11) (N := 11) (CN := RX11) (T := TX11) (pc := 12) C 1 dX11_comes_12 wlX11_16 rfl rfl rfl wfX11 (by decide) rfl ?_
    refine s_getrN (q := 2) (ci := 5) (N := 3) (CN := RX5) (T := TX5) (pc := 15) C 0 dX11_comes_15 wlX11_131 rfl rfl rfl wfX5 (by decide) rfl ?_
    refine s_iload_n (pc := 18) C dX11_comes_18 1 rfl ?_
    refine s_aload_n (pc := 19) C dX11_comes_19 0 rfl ?_
    refine s_getr (q := 0) (ci := 11) (N := 11) (CN := RX11) (T := TX11) (pc := 20) C 1 dX11_comes_20 wlX11_16 rfl rfl rfl wfX11 (by decide) rfl ?_
    refine s_getrN (q := 2) (ci := 5) (N := 3) (CN := RX5) (T := TX5) (pc := 23) C 1 dX11_comes_23 wlX11_138 rfl rfl rfl wfX5 (by decide) rfl ?_
    refine s_iload_n (pc := 26) C dX11_comes_26 1 rfl ?_
    refine s_aldq (q := 7) (pc := 27) C dX11_comes_27 rfl (by omega) (by show _ < (4 : Int); omega) (by decide) ?_
    rw [show ((_ : List (Nat × Nat)).getD w.toNat (0, 0)).2 = 8 + w.toNat from hs_ref4 (by omega) (by omega)]
    refine s_getiN (q := (8 + w.toNat)) (ci := 9) (N := 9) (CN := RX9) (T := TX9) (pc := 28) C 2 dX11_comes_28 wlX11_195 (sh_Wh (by omega)) rfl rfl wfX9 (by decide) rfl (σ (8 + w.toNat) 2) rfl ?_
    have b28 : (0 : Int) ≤ σ (8 + w.toNat) 2 ∧ σ (8 + w.toNat) 2 ≤ 99 := gx_w g0 (show (w).toNat < 4 by omega) 2
    refine s_iload_n (pc := 31) C dX11_comes_31 2 rfl ?_
    refine s_callVNi (pc := 32) C (c_X8_numberFor l 3 (Or.inl rfl) w (σ (8 + w.toNat) 2) b (by first | omega | assumption | (constructor <;> omega) | (refine ⟨⟨?_, ?_⟩, ?_⟩ <;> omega) | (simp [hs_ss, hs_up]; omega) | (simp [hs_ss, hs_up]; done)) (by first | omega | assumption | (constructor <;> omega) | (refine ⟨⟨?_, ?_⟩, ?_⟩ <;> omega) | (simp [hs_ss, hs_up]; omega) | (simp [hs_ss, hs_up]; done)) (by first | omega | assumption | (constructor <;> omega) | (refine ⟨⟨?_, ?_⟩, ?_⟩ <;> omega) | (simp [hs_ss, hs_up]; omega) | (simp [hs_ss, hs_up]; done))) [vI w, vI (σ (8 + w.toNat) 2), vI b] [] rfl rfl dX11_comes_32 wlX11_223 wiX8_numberFor weX8_numberFor wcX8_numberFor wnX8 noX8_numberFor (by decide) (by decide) (Nat.le_of_ble_eq_true rfl) (gx_self g0) rfl rfl ?_
    rintro z32 _ ⟨rfl, k32⟩
    show hs_Wd _ _ _ _ _ _ _ _ _ _ _ _ _ _ _ _ _ 35 _ [vI z32] σ
    refine s_goto (pc := 35) C (tgt := 39) dX11_comes_35 (by decide) ?_
    refine s_iret (pc := 39) C dX11_comes_39 ?_
    refine ⟨_, rfl, ?_⟩
    exact ⟨rfl, by first | omega | assumption | (constructor <;> omega) | (refine ⟨⟨?_, ?_⟩, ?_⟩ <;> omega) | (simp [hs_ss, hs_up]; omega) | (simp [hs_ss, hs_up]; done)⟩
set_option maxHeartbeats 4000000 in
set_option maxRecDepth 100000 in
theorem c_X11_change (l : Launch) (w : Int) (hw : hs_R w) (n : Int) (hn : hs_R n) : hs_Met l yX11_change cX11_change 3 (some .boolean) 7 SHX (fun ad => [.ref (ad 0), vI w, vI n]) (fun σ => GX σ σ) (hs_PI (fun σ z σ1 => GX σ σ1 ∧ (z = 0 ∨ z = 1) ∧ (σ 3 4 = 0 → z = 0))) := by
  refine hs_from pfX11_change (fun _ => Nat.le_of_ble_eq_true rfl) ?_
  intro p e s m args below meth c D dA ad A σ C hpre
  have C : hs_C p s m args meth c D dA SHX ad A 3 cX11_change RX11 (some .boolean) := C
  have g0 := hpre
  have b34 : (0 : Int) ≤ σ 3 4 ∧ σ 3 4 ≤ 4 := g0.1 3 4
  have b33 : (10 : Int) ≤ σ 3 3 ∧ σ 3 3 ≤ 100 := g0.1 3 3
  show hs_Wd p l e 7 s m args below meth c D dA SHX ad A 3 (hs_PI (fun σ z σ1 => GX σ σ1 ∧ (z = 0 ∨ z = 1) ∧ (σ 3 4 = 0 → z = 0)) σ) 0 [(0, .ref (ad 0)), (1, vI w), (2, vI n)] [] σ
  refine s_aload_n (pc := 0) C dX11_change_0 0 rfl ?_
  refine s_getr (q := 0) (ci := 11) (N := 11) (CN := RX11) (T := TX11) (pc := 1) C 1 dX11_change_1 wlX11_16 rfl rfl rfl wfX11 (by decide) rfl ?_
  refine s_iload_n (pc := 4) C dX11_change_4 1 rfl ?_
  refine s_callVNi (pc := 5) C (c_X5_hasWheel l w ⟨by omega, by omega⟩) [vI w] [] rfl rfl dX11_change_5 wlX11_154 wiX5_hasWheel weX5_hasWheel wcX5_hasWheel wnX5 noX5_hasWheel (by decide) (by decide) (Nat.le_of_ble_eq_true rfl) (gx_self g0) rfl rfl ?_
  rintro z5 _ ⟨rfl, k5⟩
  show hs_Wd _ _ _ _ _ _ _ _ _ _ _ _ _ _ _ _ _ 8 _ [vI z5] σ
  refine s_if_eq (pc := 8) C (tgt := 32) dX11_change_8 (by decide) ⟨by omega, by omega⟩ (fun h8 => ?_) (fun h8 => ?_)
  · skip
    refine s_iconst (pc := 32) C dX11_change_32 ?_
    refine s_zret (pc := 33) C (by omega) dX11_change_33 ?_
    refine ⟨_, rfl, ?_⟩
    exact ⟨g0, by first | omega | assumption | (constructor <;> omega) | (refine ⟨⟨?_, ?_⟩, ?_⟩ <;> omega) | (simp [hs_ss, hs_up]; omega) | (simp [hs_ss, hs_up]; done)⟩
  · skip
    refine s_aload_n (pc := 11) C dX11_change_11 0 rfl ?_
    refine s_getr (q := 0) (ci := 11) (N := 11) (CN := RX11) (T := TX11) (pc := 12) C 1 dX11_change_12 wlX11_16 rfl rfl rfl wfX11 (by decide) rfl ?_
    refine s_iload_n (pc := 15) C dX11_change_15 2 rfl ?_
    refine s_callVNi (pc := 16) C (c_X5_hasNumber l n ⟨by omega, by omega⟩) [vI n] [] rfl rfl dX11_change_16 wlX11_127 wiX5_hasNumber weX5_hasNumber wcX5_hasNumber wnX5 noX5_hasNumber (by decide) (by decide) (Nat.le_of_ble_eq_true rfl) (gx_self g0) rfl rfl ?_
    rintro z16 _ ⟨rfl, k16⟩
    show hs_Wd _ _ _ _ _ _ _ _ _ _ _ _ _ _ _ _ _ 19 _ [vI z16] σ
    refine s_if_eq (pc := 19) C (tgt := 32) dX11_change_19 (by decide) ⟨by omega, by omega⟩ (fun h19 => ?_) (fun h19 => ?_)
    · skip
      refine s_iconst (pc := 32) C dX11_change_32 ?_
      refine s_zret (pc := 33) C (by omega) dX11_change_33 ?_
      refine ⟨_, rfl, ?_⟩
      exact ⟨g0, by first | omega | assumption | (constructor <;> omega) | (refine ⟨⟨?_, ?_⟩, ?_⟩ <;> omega) | (simp [hs_ss, hs_up]; omega) | (simp [hs_ss, hs_up]; done)⟩
    · skip
      refine s_aload_n (pc := 22) C dX11_change_22 0 rfl ?_
      refine s_getr (q := 0) (ci := 11) (N := 11) (CN := RX11) (T := TX11) (pc := 23) C 1 dX11_change_23 wlX11_16 rfl rfl rfl wfX11 (by decide) rfl ?_
      refine s_callVNi (pc := 26) C (c_X5_leverHeight l) [] [] rfl rfl dX11_change_26 wlX11_209 wiX5_leverHeight weX5_leverHeight wcX5_leverHeight wnX5 noX5_leverHeight (by decide) (by decide) (Nat.le_of_ble_eq_true rfl) (gx_self g0) rfl rfl ?_
      rintro z26 _ ⟨rfl, k26⟩
      show hs_Wd _ _ _ _ _ _ _ _ _ _ _ _ _ _ _ _ _ 29 _ [vI z26] σ
      refine s_if_eq (pc := 29) C (tgt := 34) dX11_change_29 (by decide) ⟨by omega, by omega⟩ (fun h29 => ?_) (fun h29 => ?_)
      · skip
        refine s_aload_n (pc := 34) C dX11_change_34 0 rfl ?_
        refine s_getr (q := 0) (ci := 11) (N := 11) (CN := RX11) (T := TX11) (pc := 35) C 7 dX11_change_35 wlX11_64 rfl rfl rfl wfX11 (by decide) rfl ?_
        refine s_iload_n (pc := 38) C dX11_change_38 1 rfl ?_
        refine s_aload_n (pc := 39) C dX11_change_39 0 rfl ?_
        refine s_geti (q := 0) (ci := 11) (N := 11) (CN := RX11) (T := TX11) (pc := 40) C 10 dX11_change_40 wlX11_120 rfl rfl rfl wfX11 (by decide) rfl (σ 0 10) rfl ?_
        have b40 : (0 : Int) ≤ σ 0 10 ∧ σ 0 10 ≤ 999 := g0.1 0 10
        refine s_iload_n (pc := 43) C dX11_change_43 2 rfl ?_
        refine s_callVNi (pc := 44) C (c_X0_note l w (σ 0 10) n (by first | omega | assumption | (constructor <;> omega) | (refine ⟨⟨?_, ?_⟩, ?_⟩ <;> omega) | (simp [hs_ss, hs_up]; omega) | (simp [hs_ss, hs_up]; done)) (by first | omega | assumption | (constructor <;> omega) | (refine ⟨⟨?_, ?_⟩, ?_⟩ <;> omega) | (simp [hs_ss, hs_up]; omega) | (simp [hs_ss, hs_up]; done)) (by first | omega | assumption | (constructor <;> omega) | (refine ⟨⟨?_, ?_⟩, ?_⟩ <;> omega) | (simp [hs_ss, hs_up]; omega) | (simp [hs_ss, hs_up]; done))) [vI w, vI (σ 0 10), vI n] [] rfl rfl dX11_change_44 wlX11_227 wiX0_note weX0_note wcX0_note wnX0 noX0_note (by decide) (by decide) (Nat.le_of_ble_eq_true rfl) (gx_self g0) rfl rfl ?_
        rintro z44 σ44 k44
        obtain ⟨kg44, k44⟩ := k44
        have g44 := gx_trans g0 kg44
        show hs_Wd _ _ _ _ _ _ _ _ _ _ _ _ _ _ _ _ _ 47 _ [vI z44] σ44
        refine s_if_ne (pc := 47) C (tgt := 52) dX11_change_47 (by decide) ⟨by omega, by omega⟩ (fun h47 => ?_) (fun h47 => ?_)
        · skip
          refine s_aload_n (pc := 52) C dX11_change_52 0 rfl ?_
          refine s_getr (q := 0) (ci := 11) (N := 11) (CN := RX11) (T := TX11) (pc := 53) C 1 dX11_change_53 wlX11_16 rfl rfl rfl wfX11 (by decide) rfl ?_
          refine s_getrN (q := 2) (ci := 5) (N := 3) (CN := RX5) (T := TX5) (pc := 56) C 1 dX11_change_56 wlX11_138 rfl rfl rfl wfX5 (by decide) rfl ?_
          refine s_iload_n (pc := 59) C dX11_change_59 1 rfl ?_
          refine s_aldq (q := 7) (pc := 60) C dX11_change_60 rfl (by omega) (by show _ < (4 : Int); omega) (by decide) ?_
          rw [show ((_ : List (Nat × Nat)).getD w.toNat (0, 0)).2 = 8 + w.toNat from hs_ref4 (by omega) (by omega)]
          refine s_iload_n (pc := 61) C dX11_change_61 2 rfl ?_
          refine s_putiN (q := (8 + w.toNat)) (ci := 9) (N := 9) (CN := RX9) (T := TX9) (ty0 := tyX9) (ty := .int) (pc := 62) C 2 dX11_change_62 wlX11_195 (sh_Wh (by omega)) rfl rfl wfX9 tyX9_ok nmX9 (by decide) rfl rfl rfl (vp_nar_int _) rfl ?_
          have g62 := gx_setw (z := n) g44 (show (w).toNat < 4 by omega) 2 (0) (99) rfl ⟨by omega, by omega⟩
          refine s_iconst (pc := 65) C dX11_change_65 ?_
          refine s_zret (pc := 66) C (by omega) dX11_change_66 ?_
          refine ⟨_, rfl, ?_⟩
          exact ⟨g62, by first | omega | assumption | (constructor <;> omega) | (refine ⟨⟨?_, ?_⟩, ?_⟩ <;> omega) | (simp [hs_ss, hs_up]; omega) | (simp [hs_ss, hs_up]; done)⟩
        · skip
          refine s_iconst (pc := 50) C dX11_change_50 ?_
          refine s_zret (pc := 51) C (by omega) dX11_change_51 ?_
          refine ⟨_, rfl, ?_⟩
          exact ⟨g44, by first | omega | assumption | (constructor <;> omega) | (refine ⟨⟨?_, ?_⟩, ?_⟩ <;> omega) | (simp [hs_ss, hs_up]; omega) | (simp [hs_ss, hs_up]; done)⟩
      · skip
        refine s_iconst (pc := 32) C dX11_change_32 ?_
        refine s_zret (pc := 33) C (by omega) dX11_change_33 ?_
        refine ⟨_, rfl, ?_⟩
        exact ⟨g0, by first | omega | assumption | (constructor <;> omega) | (refine ⟨⟨?_, ?_⟩, ?_⟩ <;> omega) | (simp [hs_ss, hs_up]; omega) | (simp [hs_ss, hs_up]; done)⟩
set_option maxHeartbeats 4000000 in
set_option maxRecDepth 100000 in
theorem c_X11_feel (l : Launch) (k : Int) (hk : hs_R k) (n : Int) (hn : hs_R n) : hs_Met l yX11_feel cX11_feel 3 (some .int) 2 SHX (fun ad => [.ref (ad 0), vI k, vI n]) (fun σ => GX σ σ) (hs_PI (fun σ z σ1 => σ = σ1 ∧ -10000 ≤ z ∧ z ≤ 10000 ∧ (σ 12 2 = 0 → z = -1))) := by
  refine hs_from pfX11_feel (fun _ => Nat.le_of_ble_eq_true rfl) ?_
  intro p e s m args below meth c D dA ad A σ C hpre
  have C : hs_C p s m args meth c D dA SHX ad A 3 cX11_feel RX11 (some .int) := C
  have g0 := hpre
  show hs_Wd p l e 2 s m args below meth c D dA SHX ad A 3 (hs_PI (fun σ z σ1 => σ = σ1 ∧ -10000 ≤ z ∧ z ≤ 10000 ∧ (σ 12 2 = 0 → z = -1)) σ) 0 [(0, .ref (ad 0)), (1, vI k), (2, vI n)] [] σ
  refine s_iload_n (pc := 0) C dX11_feel_0 1 rfl ?_
  refine s_if_lt (pc := 1) C (tgt := 33) dX11_feel_1 (by decide) ⟨by omega, by omega⟩ (fun h1 => ?_) (fun h1 => ?_)
  · skip
    refine s_iconst (pc := 33) C dX11_feel_33 ?_
    refine s_iret (pc := 34) C dX11_feel_34 ?_
    refine ⟨_, rfl, ?_⟩
    exact ⟨rfl, by first | omega | assumption | (constructor <;> omega) | (refine ⟨⟨?_, ?_⟩, ?_⟩ <;> omega) | (simp [hs_ss, hs_up]; omega) | (simp [hs_ss, hs_up]; done)⟩
  · skip
    refine s_iload_n (pc := 4) C dX11_feel_4 1 rfl ?_
    refine s_aload_n (pc := 5) C dX11_feel_5 0 rfl ?_
    refine s_getr (q := 0) (ci := 11) (N := 11) (CN := RX11) (T := TX11) (pc := 6) C 2 dX11_feel_6 wlX11_23 rfl rfl rfl wfX11 (by decide) rfl ?_
    refine s_getiN (q := 12) (ci := 1) (N := 4) (CN := RX1) (T := TX1) (pc := 9) C 2 dX11_feel_9 wlX11_117 rfl rfl rfl wfX1 (by decide) rfl (σ 12 2) rfl ?_
    have b9 : (0 : Int) ≤ σ 12 2 ∧ σ 12 2 ≤ 100 := g0.1 12 2
    refine s_icmp_ge (pc := 12) C (tgt := 33) dX11_feel_12 (by decide) ⟨by omega, by omega⟩ ⟨by omega, by omega⟩ (fun h12 => ?_) (fun h12 => ?_)
    · skip
      refine s_iconst (pc := 33) C dX11_feel_33 ?_
      refine s_iret (pc := 34) C dX11_feel_34 ?_
      refine ⟨_, rfl, ?_⟩
      exact ⟨rfl, by first | omega | assumption | (constructor <;> omega) | (refine ⟨⟨?_, ?_⟩, ?_⟩ <;> omega) | (simp [hs_ss, hs_up]; omega) | (simp [hs_ss, hs_up]; done)⟩
    · skip
      refine s_iload_n (pc := 15) C dX11_feel_15 2 rfl ?_
      refine s_if_lt (pc := 16) C (tgt := 33) dX11_feel_16 (by decide) ⟨by omega, by omega⟩ (fun h16 => ?_) (fun h16 => ?_)
      · skip
        refine s_iconst (pc := 33) C dX11_feel_33 ?_
        refine s_iret (pc := 34) C dX11_feel_34 ?_
        refine ⟨_, rfl, ?_⟩
        exact ⟨rfl, by first | omega | assumption | (constructor <;> omega) | (refine ⟨⟨?_, ?_⟩, ?_⟩ <;> omega) | (simp [hs_ss, hs_up]; omega) | (simp [hs_ss, hs_up]; done)⟩
      · skip
        refine s_iload_n (pc := 19) C dX11_feel_19 2 rfl ?_
        refine s_aload_n (pc := 20) C dX11_feel_20 0 rfl ?_
        refine s_getr (q := 0) (ci := 11) (N := 11) (CN := RX11) (T := TX11) (pc := 21) C 1 dX11_feel_21 wlX11_16 rfl rfl rfl wfX11 (by decide) rfl ?_
        refine s_getrN (q := 2) (ci := 5) (N := 3) (CN := RX5) (T := TX5) (pc := 24) C 0 dX11_feel_24 wlX11_131 rfl rfl rfl wfX5 (by decide) rfl ?_
        refine s_getiN (q := 3) (ci := 8) (N := 7) (CN := RX8) (T := TX8) (pc := 27) C 4 dX11_feel_27 wlX11_135 rfl rfl rfl wfX8 (by decide) rfl (σ 3 4) rfl ?_
        have b27 : (0 : Int) ≤ σ 3 4 ∧ σ 3 4 ≤ 4 := g0.1 3 4
        refine s_icmp_le (pc := 30) C (tgt := 35) dX11_feel_30 (by decide) ⟨by omega, by omega⟩ ⟨by omega, by omega⟩ (fun h30 => ?_) (fun h30 => ?_)
        · skip
          refine s_iload_n (pc := 35) C dX11_feel_35 2 rfl ?_
          refine s_if_ne (pc := 36) C (tgt := 51) dX11_feel_36 (by decide) ⟨by omega, by omega⟩ (fun h36 => ?_) (fun h36 => ?_)
          · skip
            refine s_aload_n (pc := 51) C dX11_feel_51 0 rfl ?_
            refine s_getr (q := 0) (ci := 11) (N := 11) (CN := RX11) (T := TX11) (pc := 52) C 2 dX11_feel_52 wlX11_23 rfl rfl rfl wfX11 (by decide) rfl ?_
            refine s_iload_n (pc := 55) C dX11_feel_55 1 rfl ?_
            refine s_iload_n (pc := 56) C dX11_feel_56 2 rfl ?_
            refine s_iconst (pc := 57) C dX11_feel_57 ?_
            refine s_isub (pc := 58) C dX11_feel_58 ?_
            refine s_callVNi (pc := 59) C (c_X1_placeOf l k (n - 1) (by first | omega | assumption | (constructor <;> omega) | (refine ⟨⟨?_, ?_⟩, ?_⟩ <;> omega) | (simp [hs_ss, hs_up]; omega) | (simp [hs_ss, hs_up]; done)) (by first | omega | assumption | (constructor <;> omega) | (refine ⟨⟨?_, ?_⟩, ?_⟩ <;> omega) | (simp [hs_ss, hs_up]; omega) | (simp [hs_ss, hs_up]; done))) [vI k, vI (n - 1)] [] rfl rfl dX11_feel_59 wlX11_233 wiX1_placeOf weX1_placeOf wcX1_placeOf wnX1 noX1_placeOf (by decide) (by decide) (Nat.le_of_ble_eq_true rfl) (gx_self g0) rfl rfl ?_
            rintro z59 _ ⟨rfl, k59⟩
            show hs_Wd _ _ _ _ _ _ _ _ _ _ _ _ _ _ _ _ _ 62 _ [vI z59] σ
            refine s_iret (pc := 62) C dX11_feel_62 ?_
            refine ⟨_, rfl, ?_⟩
            exact ⟨rfl, by first | omega | assumption | (constructor <;> omega) | (refine ⟨⟨?_, ?_⟩, ?_⟩ <;> omega) | (simp [hs_ss, hs_up]; omega) | (simp [hs_ss, hs_up]; done)⟩
          · skip
            refine s_aload_n (pc := 39) C dX11_feel_39 0 rfl ?_
            refine s_getr (q := 0) (ci := 11) (N := 11) (CN := RX11) (T := TX11) (pc := 40) C 2 dX11_feel_40 wlX11_23 rfl rfl rfl wfX11 (by decide) rfl ?_
            refine s_getrN (q := 12) (ci := 1) (N := 4) (CN := RX1) (T := TX1) (pc := 43) C 0 dX11_feel_43 wlX11_230 rfl rfl rfl wfX1 (by decide) rfl ?_
            refine s_iload_n (pc := 46) C dX11_feel_46 1 rfl ?_
            refine s_iald (q := 13) (n := 100) (pc := 47) C (σ 13 k.toNat) rfl dX11_feel_47 rfl (by omega) (by omega) (by decide) ?_
            have b47 : (-10000 : Int) ≤ σ 13 k.toNat ∧ σ 13 k.toNat ≤ 10000 := g0.1 13 k.toNat
            refine s_goto (pc := 48) C (tgt := 62) dX11_feel_48 (by decide) ?_
            refine s_iret (pc := 62) C dX11_feel_62 ?_
            refine ⟨_, rfl, ?_⟩
            exact ⟨rfl, by first | omega | assumption | (constructor <;> omega) | (refine ⟨⟨?_, ?_⟩, ?_⟩ <;> omega) | (simp [hs_ss, hs_up]; omega) | (simp [hs_ss, hs_up]; done)⟩
        · skip
          refine s_iconst (pc := 33) C dX11_feel_33 ?_
          refine s_iret (pc := 34) C dX11_feel_34 ?_
          refine ⟨_, rfl, ?_⟩
          exact ⟨rfl, by first | omega | assumption | (constructor <;> omega) | (refine ⟨⟨?_, ?_⟩, ?_⟩ <;> omega) | (simp [hs_ss, hs_up]; omega) | (simp [hs_ss, hs_up]; done)⟩
set_option maxHeartbeats 4000000 in
set_option maxRecDepth 100000 in
theorem c_X11_doubt (l : Launch) (n : Int) (hn : hs_R n) : hs_Met l yX11_doubt cX11_doubt 2 (some .boolean) 2 SHX (fun ad => [.ref (ad 0), vI n]) (fun σ => GX σ σ) (hs_PI (fun σ z σ1 => GX σ σ1 ∧ (z = 0 ∨ z = 1) ∧ (z = 1 ↔ 0 ≤ n ∧ n ≤ 99))) := by
  refine hs_from pfX11_doubt (fun _ => Nat.le_of_ble_eq_true rfl) ?_
  intro p e s m args below meth c D dA ad A σ C hpre
  have C : hs_C p s m args meth c D dA SHX ad A 2 cX11_doubt RX11 (some .boolean) := C
  have g0 := hpre
  show hs_Wd p l e 2 s m args below meth c D dA SHX ad A 2 (hs_PI (fun σ z σ1 => GX σ σ1 ∧ (z = 0 ∨ z = 1) ∧ (z = 1 ↔ 0 ≤ n ∧ n ≤ 99)) σ) 0 [(0, .ref (ad 0)), (1, vI n)] [] σ
  refine s_iload_n (pc := 0) C dX11_doubt_0 1 rfl ?_
  refine s_iconst (pc := 1) C dX11_doubt_1 ?_
  refine s_bipush (pc := 2) C dX11_doubt_2 (by decide) ?_
  refine s_callSi (pc := 4) C (c_X11_isWithin l n ⟨by omega, by omega⟩ 0 ⟨by omega, by omega⟩ 99 ⟨by omega, by omega⟩) [vI n, vI 0, vI 99] [] rfl rfl dX11_doubt_4 wlX11_123 wtX11_isWithin wcX11_isWithin wnX11 noX11_isWithin (by decide) (by decide) (Nat.le_of_ble_eq_true rfl) (gx_self g0) ?_
  rintro z4 _ ⟨rfl, k4⟩
  show hs_Wd _ _ _ _ _ _ _ _ _ _ _ _ _ _ _ _ _ 7 _ [vI z4] σ
  refine s_if_ne (pc := 7) C (tgt := 12) dX11_doubt_7 (by decide) ⟨by omega, by omega⟩ (fun h7 => ?_) (fun h7 => ?_)
  · skip
    refine s_aload_n (pc := 12) C dX11_doubt_12 0 rfl ?_
    refine s_getr (q := 0) (ci := 11) (N := 11) (CN := RX11) (T := TX11) (pc := 13) C 2 dX11_doubt_13 wlX11_23 rfl rfl rfl wfX11 (by decide) rfl ?_
    refine s_iload_n (pc := 16) C dX11_doubt_16 1 rfl ?_
    refine s_putiN (q := 12) (ci := 1) (N := 4) (CN := RX1) (T := TX1) (ty0 := tyX1) (ty := .int) (pc := 17) C 3 dX11_doubt_17 wlX11_236 rfl rfl rfl wfX1 tyX1_ok nmX1 (by decide) rfl rfl rfl (vp_nar_int _) rfl ?_
    have g17 := gx_set (z := n) g0 12 3 rfl (0) (99) rfl ⟨by omega, by omega⟩
    refine s_iconst (pc := 20) C dX11_doubt_20 ?_
    refine s_zret (pc := 21) C (by omega) dX11_doubt_21 ?_
    refine ⟨_, rfl, ?_⟩
    exact ⟨g17, by first | omega | assumption | (constructor <;> omega) | (refine ⟨⟨?_, ?_⟩, ?_⟩ <;> omega) | (simp [hs_ss, hs_up]; omega) | (simp [hs_ss, hs_up]; done)⟩
  · skip
    refine s_iconst (pc := 10) C dX11_doubt_10 ?_
    refine s_zret (pc := 11) C (by omega) dX11_doubt_11 ?_
    refine ⟨_, rfl, ?_⟩
    exact ⟨g0, by first | omega | assumption | (constructor <;> omega) | (refine ⟨⟨?_, ?_⟩, ?_⟩ <;> omega) | (simp [hs_ss, hs_up]; omega) | (simp [hs_ss, hs_up]; done)⟩
set_option maxHeartbeats 4000000 in
set_option maxRecDepth 100000 in
theorem c_X11_days (l : Launch) (n : Int) (hn : hs_R n) : hs_Met l yX11_days cX11_days 2 (some .int) 2 SHX (fun ad => [.ref (ad 0), vI n]) (fun σ => GX σ σ) (hs_PI (fun σ z σ1 => (¬ (0 ≤ n ∧ n ≤ 999 ∧ σ 0 10 + n ≤ 999) → z = -1 ∧ σ1 = σ) ∧ (0 ≤ n ∧ n ≤ 999 ∧ σ 0 10 + n ≤ 999 → z = σ 0 10 + n ∧ σ1 = hs_ss σ 0 10 (σ 0 10 + n)))) := by
  refine hs_from pfX11_days (fun _ => Nat.le_of_ble_eq_true rfl) ?_
  intro p e s m args below meth c D dA ad A σ C hpre
  have C : hs_C p s m args meth c D dA SHX ad A 2 cX11_days RX11 (some .int) := C
  have b10 : (0 : Int) ≤ σ 0 10 ∧ σ 0 10 ≤ 999 := hpre.1 0 10
  show hs_Wd p l e 2 s m args below meth c D dA SHX ad A 2 (hs_PI (fun σ z σ1 => (¬ (0 ≤ n ∧ n ≤ 999 ∧ σ 0 10 + n ≤ 999) → z = -1 ∧ σ1 = σ) ∧ (0 ≤ n ∧ n ≤ 999 ∧ σ 0 10 + n ≤ 999 → z = σ 0 10 + n ∧ σ1 = hs_ss σ 0 10 (σ 0 10 + n))) σ) 0 [(0, .ref (ad 0)), (1, vI n)] [] σ
  refine s_iload_n (pc := 0) C dX11_days_0 1 rfl ?_
  refine s_iconst (pc := 1) C dX11_days_1 ?_
  refine s_sipush (pc := 2) C dX11_days_2 (by decide) ?_
  refine s_callSi (pc := 5) C (c_X11_isWithin l n ⟨by omega, by omega⟩ 0 ⟨by omega, by omega⟩ 999 ⟨by omega, by omega⟩) [vI n, vI 0, vI 999] [] rfl rfl dX11_days_5 wlX11_123 wtX11_isWithin wcX11_isWithin wnX11 noX11_isWithin (by decide) (by decide) (Nat.le_of_ble_eq_true rfl) hpre ?_
  rintro z5 _ ⟨rfl, k5⟩
  show hs_Wd _ _ _ _ _ _ _ _ _ _ _ _ _ _ _ _ _ 8 _ [vI z5] σ
  refine s_if_eq (pc := 8) C (tgt := 23) dX11_days_8 (by decide) ⟨by omega, by omega⟩ (fun h8 => ?_) (fun h8 => ?_)
  · skip
    refine s_iconst (pc := 23) C dX11_days_23 ?_
    refine s_iret (pc := 24) C dX11_days_24 ?_
    refine ⟨_, rfl, ?_⟩
    first | exact ⟨fun _ => ⟨rfl, rfl⟩, fun q => by exfalso; omega⟩ | exact ⟨fun q => by exfalso; omega, fun _ => ⟨rfl, rfl⟩⟩
  · skip
    refine s_aload_n (pc := 11) C dX11_days_11 0 rfl ?_
    refine s_geti (q := 0) (ci := 11) (N := 11) (CN := RX11) (T := TX11) (pc := 12) C 10 dX11_days_12 wlX11_120 rfl rfl rfl wfX11 (by decide) rfl (σ 0 10) rfl ?_
    refine s_iload_n (pc := 15) C dX11_days_15 1 rfl ?_
    refine s_iadd (pc := 16) C dX11_days_16 ?_
    refine s_sipush (pc := 17) C dX11_days_17 (by decide) ?_
    refine s_icmp_le (pc := 20) C (tgt := 25) dX11_days_20 (by decide) ⟨by omega, by omega⟩ ⟨by decide, by decide⟩ (fun h20 => ?_) (fun h20 => ?_)
    · skip
      refine s_aload_n (pc := 25) C dX11_days_25 0 rfl ?_
      refine s_dup (pc := 26) C dX11_days_26 rfl ?_
      refine s_geti (q := 0) (ci := 11) (N := 11) (CN := RX11) (T := TX11) (pc := 27) C 10 dX11_days_27 wlX11_120 rfl rfl rfl wfX11 (by decide) rfl (σ 0 10) rfl ?_
      refine s_iload_n (pc := 30) C dX11_days_30 1 rfl ?_
      refine s_iadd (pc := 31) C dX11_days_31 ?_
      refine s_puti (q := 0) (ci := 11) (N := 11) (CN := RX11) (T := TX11) (ty0 := tyX11) (ty := .int) (pc := 32) C 10 dX11_days_32 wlX11_120 rfl rfl rfl wfX11 tyX11_ok nmX11 (by decide) rfl rfl rfl (vp_nar_int _) rfl ?_
      refine s_aload_n (pc := 35) C dX11_days_35 0 rfl ?_
      refine s_geti (q := 0) (ci := 11) (N := 11) (CN := RX11) (T := TX11) (pc := 36) C 10 dX11_days_36 wlX11_120 rfl rfl rfl wfX11 (by decide) rfl ((σ 0 10) + n) rfl ?_
      refine s_iret (pc := 39) C dX11_days_39 ?_
      refine ⟨_, rfl, ?_⟩
      first | exact ⟨fun _ => ⟨rfl, rfl⟩, fun q => by exfalso; omega⟩ | exact ⟨fun q => by exfalso; omega, fun _ => ⟨rfl, rfl⟩⟩
    · skip
      refine s_iconst (pc := 23) C dX11_days_23 ?_
      refine s_iret (pc := 24) C dX11_days_24 ?_
      refine ⟨_, rfl, ?_⟩
      first | exact ⟨fun _ => ⟨rfl, rfl⟩, fun q => by exfalso; omega⟩ | exact ⟨fun q => by exfalso; omega, fun _ => ⟨rfl, rfl⟩⟩
set_option maxHeartbeats 4000000 in
set_option maxRecDepth 100000 in
theorem c_X11_tell (l : Launch) (a : Int) (ha : hs_R a) (w : Int) (hw : hs_R w) (n : Int) (hn : hs_R n) : hs_Met l yX11_tell cX11_tell 4 (some .int) 3 SHX (fun ad => [.ref (ad 0), vI a, vI w, vI n]) (fun σ => GX σ σ) (hs_PI (fun σ z σ1 => (¬ (0 ≤ a ∧ a ≤ 5 ∧ 0 ≤ w ∧ w < σ 3 4 ∧ (n = -1 ∨ (0 ≤ n ∧ n < σ 3 3)) ∧ σ 48 8 < 80) → z = -1 ∧ σ1 = σ) ∧ (0 ≤ a ∧ a ≤ 5 ∧ 0 ≤ w ∧ w < σ 3 4 ∧ (n = -1 ∨ (0 ≤ n ∧ n < σ 3 3)) ∧ σ 48 8 < 80 → z = σ 48 8 ∧ σ1 = X_tell σ a w n (σ 0 10)))) := by
  refine hs_from pfX11_tell (fun _ => Nat.le_of_ble_eq_true rfl) ?_
  intro p e s m args below meth c D dA ad A σ C hpre
  have C : hs_C p s m args meth c D dA SHX ad A 4 cX11_tell RX11 (some .int) := C
  have b34 : (0 : Int) ≤ σ 3 4 ∧ σ 3 4 ≤ 4 := hpre.1 3 4
  have b33 : (10 : Int) ≤ σ 3 3 ∧ σ 3 3 ≤ 100 := hpre.1 3 3
  show hs_Wd p l e 3 s m args below meth c D dA SHX ad A 4 (hs_PI (fun σ z σ1 => (¬ (0 ≤ a ∧ a ≤ 5 ∧ 0 ≤ w ∧ w < σ 3 4 ∧ (n = -1 ∨ (0 ≤ n ∧ n < σ 3 3)) ∧ σ 48 8 < 80) → z = -1 ∧ σ1 = σ) ∧ (0 ≤ a ∧ a ≤ 5 ∧ 0 ≤ w ∧ w < σ 3 4 ∧ (n = -1 ∨ (0 ≤ n ∧ n < σ 3 3)) ∧ σ 48 8 < 80 → z = σ 48 8 ∧ σ1 = X_tell σ a w n (σ 0 10))) σ) 0 [(0, .ref (ad 0)), (1, vI a), (2, vI w), (3, vI n)] [] σ
  refine s_iload_n (pc := 0) C dX11_tell_0 1 rfl ?_
  refine s_callSi (pc := 1) C (c_X11_isPerson l a ⟨by omega, by omega⟩) [vI a] [] rfl rfl dX11_tell_1 wlX11_287 wtX11_isPerson wcX11_isPerson wnX11 noX11_isPerson (by decide) (by decide) (Nat.le_of_ble_eq_true rfl) hpre ?_
  rintro z1 _ ⟨rfl, k1⟩
  show hs_Wd _ _ _ _ _ _ _ _ _ _ _ _ _ _ _ _ _ 4 _ [vI z1] σ
  refine s_if_eq (pc := 4) C (tgt := 34) dX11_tell_4 (by decide) ⟨by omega, by omega⟩ (fun h4 => ?_) (fun h4 => ?_)
  · skip
    refine s_iconst (pc := 34) C dX11_tell_34 ?_
    refine s_iret (pc := 35) C dX11_tell_35 ?_
    refine ⟨_, rfl, ?_⟩
    exact ⟨fun _ => ⟨rfl, rfl⟩, fun q => by exfalso; omega⟩
  · skip
    refine s_aload_n (pc := 7) C dX11_tell_7 0 rfl ?_
    refine s_getr (q := 0) (ci := 11) (N := 11) (CN := RX11) (T := TX11) (pc := 8) C 1 dX11_tell_8 wlX11_16 rfl rfl rfl wfX11 (by decide) rfl ?_
    refine s_iload_n (pc := 11) C dX11_tell_11 2 rfl ?_
    refine s_callVNi (pc := 12) C (c_X5_hasWheel l w ⟨by omega, by omega⟩) [vI w] [] rfl rfl dX11_tell_12 wlX11_154 wiX5_hasWheel weX5_hasWheel wcX5_hasWheel wnX5 noX5_hasWheel (by decide) (by decide) (Nat.le_of_ble_eq_true rfl) hpre rfl rfl ?_
    rintro z12 _ ⟨rfl, k12⟩
    show hs_Wd _ _ _ _ _ _ _ _ _ _ _ _ _ _ _ _ _ 15 _ [vI z12] σ
    refine s_if_eq (pc := 15) C (tgt := 34) dX11_tell_15 (by decide) ⟨by omega, by omega⟩ (fun h15 => ?_) (fun h15 => ?_)
    · skip
      refine s_iconst (pc := 34) C dX11_tell_34 ?_
      refine s_iret (pc := 35) C dX11_tell_35 ?_
      refine ⟨_, rfl, ?_⟩
      exact ⟨fun _ => ⟨rfl, rfl⟩, fun q => by exfalso; omega⟩
    · skip
      refine s_iload_n (pc := 18) C dX11_tell_18 3 rfl ?_
      refine s_iconst (pc := 19) C dX11_tell_19 ?_
      refine s_icmp_eq (pc := 20) C (tgt := 36) dX11_tell_20 (by decide) ⟨by omega, by omega⟩ ⟨by decide, by decide⟩ (fun h20 => ?_) (fun h20 => ?_)
      · skip
        refine s_aload_n (pc := 36) C dX11_tell_36 0 rfl ?_
        refine s_getr (q := 0) (ci := 11) (N := 11) (CN := RX11) (T := TX11) (pc := 37) C 8 dX11_tell_37 wlX11_73 rfl rfl rfl wfX11 (by decide) rfl ?_
        refine s_iload_n (pc := 40) C dX11_tell_40 1 rfl ?_
        refine s_iload_n (pc := 41) C dX11_tell_41 2 rfl ?_
        refine s_iload_n (pc := 42) C dX11_tell_42 3 rfl ?_
        refine s_aload_n (pc := 43) C dX11_tell_43 0 rfl ?_
        refine s_geti (q := 0) (ci := 11) (N := 11) (CN := RX11) (T := TX11) (pc := 44) C 10 dX11_tell_44 wlX11_120 rfl rfl rfl wfX11 (by decide) rfl (σ 0 10) rfl ?_
        refine s_callVNi (pc := 47) C (c_X10_note l a w n (σ 0 10) ⟨by omega, by omega⟩) [vI a, vI w, vI n, vI (σ 0 10)] [] rfl rfl dX11_tell_47 wlX11_290 wiX10_note weX10_note wcX10_note wnX10 noX10_note (by decide) (by decide) (Nat.le_of_ble_eq_true rfl) hpre.1 rfl rfl ?_
        rintro z47 σ47 k47
        show hs_Wd _ _ _ _ _ _ _ _ _ _ _ _ _ _ _ _ _ 50 _ [vI z47] σ47
        refine s_iret (pc := 50) C dX11_tell_50 ?_
        refine ⟨_, rfl, ?_⟩
        rcases Int.lt_or_le (σ 48 8) 80 with q | q
        · exact ⟨fun r => absurd (by omega) r, fun _ => k47.2 q⟩
        · exact ⟨fun _ => k47.1 q, fun r => by exfalso; omega⟩
      · skip
        refine s_aload_n (pc := 23) C dX11_tell_23 0 rfl ?_
        refine s_getr (q := 0) (ci := 11) (N := 11) (CN := RX11) (T := TX11) (pc := 24) C 1 dX11_tell_24 wlX11_16 rfl rfl rfl wfX11 (by decide) rfl ?_
        refine s_iload_n (pc := 27) C dX11_tell_27 3 rfl ?_
        refine s_callVNi (pc := 28) C (c_X5_hasNumber l n ⟨by omega, by omega⟩) [vI n] [] rfl rfl dX11_tell_28 wlX11_127 wiX5_hasNumber weX5_hasNumber wcX5_hasNumber wnX5 noX5_hasNumber (by decide) (by decide) (Nat.le_of_ble_eq_true rfl) hpre rfl rfl ?_
        rintro z28 _ ⟨rfl, k28⟩
        show hs_Wd _ _ _ _ _ _ _ _ _ _ _ _ _ _ _ _ _ 31 _ [vI z28] σ
        refine s_if_ne (pc := 31) C (tgt := 36) dX11_tell_31 (by decide) ⟨by omega, by omega⟩ (fun h31 => ?_) (fun h31 => ?_)
        · skip
          refine s_aload_n (pc := 36) C dX11_tell_36 0 rfl ?_
          refine s_getr (q := 0) (ci := 11) (N := 11) (CN := RX11) (T := TX11) (pc := 37) C 8 dX11_tell_37 wlX11_73 rfl rfl rfl wfX11 (by decide) rfl ?_
          refine s_iload_n (pc := 40) C dX11_tell_40 1 rfl ?_
          refine s_iload_n (pc := 41) C dX11_tell_41 2 rfl ?_
          refine s_iload_n (pc := 42) C dX11_tell_42 3 rfl ?_
          refine s_aload_n (pc := 43) C dX11_tell_43 0 rfl ?_
          refine s_geti (q := 0) (ci := 11) (N := 11) (CN := RX11) (T := TX11) (pc := 44) C 10 dX11_tell_44 wlX11_120 rfl rfl rfl wfX11 (by decide) rfl (σ 0 10) rfl ?_
          refine s_callVNi (pc := 47) C (c_X10_note l a w n (σ 0 10) ⟨by omega, by omega⟩) [vI a, vI w, vI n, vI (σ 0 10)] [] rfl rfl dX11_tell_47 wlX11_290 wiX10_note weX10_note wcX10_note wnX10 noX10_note (by decide) (by decide) (Nat.le_of_ble_eq_true rfl) hpre.1 rfl rfl ?_
          rintro z47 σ47 k47
          show hs_Wd _ _ _ _ _ _ _ _ _ _ _ _ _ _ _ _ _ 50 _ [vI z47] σ47
          refine s_iret (pc := 50) C dX11_tell_50 ?_
          refine ⟨_, rfl, ?_⟩
          rcases Int.lt_or_le (σ 48 8) 80 with q | q
          · exact ⟨fun r => absurd (by omega) r, fun _ => k47.2 q⟩
          · exact ⟨fun _ => k47.1 q, fun r => by exfalso; omega⟩
        · skip
          refine s_iconst (pc := 34) C dX11_tell_34 ?_
          refine s_iret (pc := 35) C dX11_tell_35 ?_
          refine ⟨_, rfl, ?_⟩
          exact ⟨fun _ => ⟨rfl, rfl⟩, fun q => by exfalso; omega⟩
set_option maxHeartbeats 4000000 in
set_option maxRecDepth 100000 in
theorem c_X11_strike (l : Launch) (n : Int) (hn : hs_R n) : hs_Met l yX11_strike cX11_strike 2 (some .int) 3 SHX (fun ad => [.ref (ad 0), vI n]) (fun σ => GX σ σ) (hs_PI (fun σ z σ1 => (¬ (0 ≤ n ∧ n < σ 48 8 ∧ σ 48 8 < 80) → z = -1 ∧ σ1 = σ) ∧ (0 ≤ n ∧ n < σ 48 8 ∧ σ 48 8 < 80 → z = σ 48 8 ∧ σ1 = X_tell σ (-1) (-1) n (σ 0 10)))) := by
  refine hs_from pfX11_strike (fun _ => Nat.le_of_ble_eq_true rfl) ?_
  intro p e s m args below meth c D dA ad A σ C hpre
  have C : hs_C p s m args meth c D dA SHX ad A 2 cX11_strike RX11 (some .int) := C
  have b8 : (0 : Int) ≤ σ 48 8 ∧ σ 48 8 ≤ 80 := hpre.1 48 8
  show hs_Wd p l e 3 s m args below meth c D dA SHX ad A 2 (hs_PI (fun σ z σ1 => (¬ (0 ≤ n ∧ n < σ 48 8 ∧ σ 48 8 < 80) → z = -1 ∧ σ1 = σ) ∧ (0 ≤ n ∧ n < σ 48 8 ∧ σ 48 8 < 80 → z = σ 48 8 ∧ σ1 = X_tell σ (-1) (-1) n (σ 0 10))) σ) 0 [(0, .ref (ad 0)), (1, vI n)] [] σ
  refine s_iload_n (pc := 0) C dX11_strike_0 1 rfl ?_
  refine s_if_lt (pc := 1) C (tgt := 15) dX11_strike_1 (by decide) ⟨by omega, by omega⟩ (fun h1 => ?_) (fun h1 => ?_)
  · skip
    refine s_iconst (pc := 15) C dX11_strike_15 ?_
    refine s_iret (pc := 16) C dX11_strike_16 ?_
    refine ⟨_, rfl, ?_⟩
    first | exact ⟨fun _ => ⟨rfl, rfl⟩, fun q => by exfalso; omega⟩ | (rcases Int.lt_or_le (σ 48 8) 80 with q | q; exact ⟨fun r => absurd (by omega) r, fun _ => k28.2 q⟩; exact ⟨fun _ => k28.1 q, fun r => by exfalso; omega⟩)
  · skip
    refine s_iload_n (pc := 4) C dX11_strike_4 1 rfl ?_
    refine s_aload_n (pc := 5) C dX11_strike_5 0 rfl ?_
    refine s_getr (q := 0) (ci := 11) (N := 11) (CN := RX11) (T := TX11) (pc := 6) C 8 dX11_strike_6 wlX11_73 rfl rfl rfl wfX11 (by decide) rfl ?_
    refine s_getiN (q := 48) (ci := 10) (N := 9) (CN := RX10) (T := TX10) (pc := 9) C 8 dX11_strike_9 wlX11_119 rfl rfl rfl wfX10 (by decide) rfl (σ 48 8) rfl ?_
    refine s_icmp_lt (pc := 12) C (tgt := 17) dX11_strike_12 (by decide) ⟨by omega, by omega⟩ ⟨by omega, by omega⟩ (fun h12 => ?_) (fun h12 => ?_)
    · skip
      refine s_aload_n (pc := 17) C dX11_strike_17 0 rfl ?_
      refine s_getr (q := 0) (ci := 11) (N := 11) (CN := RX11) (T := TX11) (pc := 18) C 8 dX11_strike_18 wlX11_73 rfl rfl rfl wfX11 (by decide) rfl ?_
      refine s_iconst (pc := 21) C dX11_strike_21 ?_
      refine s_iconst (pc := 22) C dX11_strike_22 ?_
      refine s_iload_n (pc := 23) C dX11_strike_23 1 rfl ?_
      refine s_aload_n (pc := 24) C dX11_strike_24 0 rfl ?_
      refine s_geti (q := 0) (ci := 11) (N := 11) (CN := RX11) (T := TX11) (pc := 25) C 10 dX11_strike_25 wlX11_120 rfl rfl rfl wfX11 (by decide) rfl (σ 0 10) rfl ?_
      refine s_callVNi (pc := 28) C (c_X10_note l ((-1)) ((-1)) n (σ 0 10) ⟨by omega, by omega⟩) [vI ((-1)), vI ((-1)), vI n, vI (σ 0 10)] [] rfl rfl dX11_strike_28 wlX11_290 wiX10_note weX10_note wcX10_note wnX10 noX10_note (by decide) (by decide) (Nat.le_of_ble_eq_true rfl) hpre.1 rfl rfl ?_
      rintro z28 σ28 k28
      show hs_Wd _ _ _ _ _ _ _ _ _ _ _ _ _ _ _ _ _ 31 _ [vI z28] σ28
      refine s_iret (pc := 31) C dX11_strike_31 ?_
      refine ⟨_, rfl, ?_⟩
      first | exact ⟨fun _ => ⟨rfl, rfl⟩, fun q => by exfalso; omega⟩ | (rcases Int.lt_or_le (σ 48 8) 80 with q | q; exact ⟨fun r => absurd (by omega) r, fun _ => k28.2 q⟩; exact ⟨fun _ => k28.1 q, fun r => by exfalso; omega⟩)
    · skip
      refine s_iconst (pc := 15) C dX11_strike_15 ?_
      refine s_iret (pc := 16) C dX11_strike_16 ?_
      refine ⟨_, rfl, ?_⟩
      first | exact ⟨fun _ => ⟨rfl, rfl⟩, fun q => by exfalso; omega⟩ | (rcases Int.lt_or_le (σ 48 8) 80 with q | q; exact ⟨fun r => absurd (by omega) r, fun _ => k28.2 q⟩; exact ⟨fun _ => k28.1 q, fun r => by exfalso; omega⟩)
set_option maxHeartbeats 4000000 in
set_option maxRecDepth 100000 in
theorem c_X11_gate (l : Launch) (w : Int) (hw : hs_R w) (d : Int) (hd : hs_R d) : hs_Met l yX11_gate cX11_gate 3 (some .int) 3 SHX (fun ad => [.ref (ad 0), vI w, vI d]) (fun σ => GX σ σ) (hs_PI (fun σ z σ1 => σ = σ1 ∧ -1 ≤ z ∧ z ≤ 99 ∧ (σ 3 4 = 0 → z = -1))) := by
  refine hs_from pfX11_gate (fun _ => Nat.le_of_ble_eq_true rfl) ?_
  intro p e s m args below meth c D dA ad A σ C hpre
  have C : hs_C p s m args meth c D dA SHX ad A 3 cX11_gate RX11 (some .int) := C
  have g0 := hpre
  have b34 : (0 : Int) ≤ σ 3 4 ∧ σ 3 4 ≤ 4 := g0.1 3 4
  show hs_Wd p l e 3 s m args below meth c D dA SHX ad A 3 (hs_PI (fun σ z σ1 => σ = σ1 ∧ -1 ≤ z ∧ z ≤ 99 ∧ (σ 3 4 = 0 → z = -1)) σ) 0 [(0, .ref (ad 0)), (1, vI w), (2, vI d)] [] σ
  refine s_aload_n (pc := 0) C dX11_gate_0 0 rfl ?_
  refine s_getr (q := 0) (ci := 11) (N := 11) (CN := RX11) (T := TX11) (pc := 1) C 1 dX11_gate_1 wlX11_16 rfl rfl rfl wfX11 (by decide) rfl ?_
  refine s_iload_n (pc := 4) C dX11_gate_4 1 rfl ?_
  refine s_callVNi (pc := 5) C (c_X5_hasWheel l w ⟨by omega, by omega⟩) [vI w] [] rfl rfl dX11_gate_5 wlX11_154 wiX5_hasWheel weX5_hasWheel wcX5_hasWheel wnX5 noX5_hasWheel (by decide) (by decide) (Nat.le_of_ble_eq_true rfl) (gx_self g0) rfl rfl ?_
  rintro z5 _ ⟨rfl, k5⟩
  show hs_Wd _ _ _ _ _ _ _ _ _ _ _ _ _ _ _ _ _ 8 _ [vI z5] σ
  refine s_if_eq (pc := 8) C (tgt := 18) dX11_gate_8 (by decide) ⟨by omega, by omega⟩ (fun h8 => ?_) (fun h8 => ?_)
  · skip
    refine s_iconst (pc := 18) C dX11_gate_18 ?_
    refine s_iret (pc := 19) C dX11_gate_19 ?_
    refine ⟨_, rfl, ?_⟩
    exact ⟨rfl, by first | omega | assumption | (constructor <;> omega) | (refine ⟨⟨?_, ?_⟩, ?_⟩ <;> omega) | (simp [hs_ss, hs_up]; omega) | (simp [hs_ss, hs_up]; done)⟩
  · skip
    refine s_iload_n (pc := 11) C dX11_gate_11 2 rfl ?_
    refine s_callSi (pc := 12) C (c_X11_isDay l d ⟨by omega, by omega⟩) [vI d] [] rfl rfl dX11_gate_12 wlX11_293 wtX11_isDay wcX11_isDay wnX11 noX11_isDay (by decide) (by decide) (Nat.le_of_ble_eq_true rfl) (gx_self g0) ?_
    rintro z12 _ ⟨rfl, k12⟩
    show hs_Wd _ _ _ _ _ _ _ _ _ _ _ _ _ _ _ _ _ 15 _ [vI z12] σ
    refine s_if_ne (pc := 15) C (tgt := 20) dX11_gate_15 (by decide) ⟨by omega, by omega⟩ (fun h15 => ?_) (fun h15 => ?_)
    · skip
      refine s_aload_n (pc := 20) C dX11_gate_20 0 rfl ?_
      refine s_getr (q := 0) (ci := 11) (N := 11) (CN := RX11) (T := TX11) (pc := 21) C 7 dX11_gate_21 wlX11_64 rfl rfl rfl wfX11 (by decide) rfl ?_
      refine s_iload_n (pc := 24) C dX11_gate_24 2 rfl ?_
      refine s_iload_n (pc := 25) C dX11_gate_25 1 rfl ?_
      refine s_aload_n (pc := 26) C dX11_gate_26 0 rfl ?_
      refine s_getr (q := 0) (ci := 11) (N := 11) (CN := RX11) (T := TX11) (pc := 27) C 1 dX11_gate_27 wlX11_16 rfl rfl rfl wfX11 (by decide) rfl ?_
      refine s_getrN (q := 2) (ci := 5) (N := 3) (CN := RX5) (T := TX5) (pc := 30) C 1 dX11_gate_30 wlX11_138 rfl rfl rfl wfX5 (by decide) rfl ?_
      refine s_iload_n (pc := 33) C dX11_gate_33 1 rfl ?_
      refine s_aldq (q := 7) (pc := 34) C dX11_gate_34 rfl (by omega) (by show _ < (4 : Int); omega) (by decide) ?_
      rw [show ((_ : List (Nat × Nat)).getD w.toNat (0, 0)).2 = 8 + w.toNat from hs_ref4 (by omega) (by omega)]
      refine s_getiN (q := (8 + w.toNat)) (ci := 9) (N := 9) (CN := RX9) (T := TX9) (pc := 35) C 1 dX11_gate_35 wlX11_296 (sh_Wh (by omega)) rfl rfl wfX9 (by decide) rfl (σ (8 + w.toNat) 1) rfl ?_
      have b35 : (0 : Int) ≤ σ (8 + w.toNat) 1 ∧ σ (8 + w.toNat) 1 ≤ 99 := gx_w g0 (show (w).toNat < 4 by omega) 1
      refine s_callVNi (pc := 38) C (c_X0_gateAtEndOf l d w (σ (8 + w.toNat) 1) ⟨by omega, by omega⟩ ⟨by omega, by omega⟩ (by first | omega | assumption | (constructor <;> omega) | (refine ⟨⟨?_, ?_⟩, ?_⟩ <;> omega) | (simp [hs_ss, hs_up]; omega) | (simp [hs_ss, hs_up]; done))) [vI d, vI w, vI (σ (8 + w.toNat) 1)] [] rfl rfl dX11_gate_38 wlX11_299 wiX0_gateAtEndOf weX0_gateAtEndOf wcX0_gateAtEndOf wnX0 noX0_gateAtEndOf (by decide) (by decide) (Nat.le_of_ble_eq_true rfl) (gx_self g0) rfl rfl ?_
      rintro z38 _ ⟨rfl, k38⟩
      show hs_Wd _ _ _ _ _ _ _ _ _ _ _ _ _ _ _ _ _ 41 _ [vI z38] σ
      refine s_iret (pc := 41) C dX11_gate_41 ?_
      refine ⟨_, rfl, ?_⟩
      exact ⟨rfl, by first | omega | assumption | (constructor <;> omega) | (refine ⟨⟨?_, ?_⟩, ?_⟩ <;> omega) | (simp [hs_ss, hs_up]; omega) | (simp [hs_ss, hs_up]; done)⟩
    · skip
      refine s_iconst (pc := 18) C dX11_gate_18 ?_
      refine s_iret (pc := 19) C dX11_gate_19 ?_
      refine ⟨_, rfl, ?_⟩
      exact ⟨rfl, by first | omega | assumption | (constructor <;> omega) | (refine ⟨⟨?_, ?_⟩, ?_⟩ <;> omega) | (simp [hs_ss, hs_up]; omega) | (simp [hs_ss, hs_up]; done)⟩
set_option maxHeartbeats 4000000 in
set_option maxRecDepth 100000 in
theorem c_X11_knows (l : Launch) (a : Int) (ha : hs_R a) (d : Int) (hd : hs_R d) (k : Int) (hk : hs_R k) : hs_Met l yX11_knows cX11_knows 4 (some .int) 6 SHX (fun ad => [.ref (ad 0), vI a, vI d, vI k]) (fun σ => GX σ σ) (hs_PI (fun σ z σ1 => GX σ σ1 ∧ hs_R z ∧ (¬ (0 ≤ a ∧ a ≤ 5 ∧ 0 ≤ d ∧ d ≤ 999 ∧ 0 ≤ k ∧ k ≤ 999 ∧ d ≤ k) → z = -1) ∧ (σ 3 4 = 0 → 0 ≤ a ∧ a ≤ 5 ∧ 0 ≤ d ∧ d ≤ 999 ∧ 0 ≤ k ∧ k ≤ 999 ∧ d ≤ k → z = 0))) := by
  refine hs_from pfX11_knows (fun _ => Nat.le_of_ble_eq_true rfl) ?_
  intro p e s m args below meth c D dA ad A σ C hpre
  have C : hs_C p s m args meth c D dA SHX ad A 4 cX11_knows RX11 (some .int) := C
  have g0 := hpre
  show hs_Wd p l e 6 s m args below meth c D dA SHX ad A 4 (hs_PI (fun σ z σ1 => GX σ σ1 ∧ hs_R z ∧ (¬ (0 ≤ a ∧ a ≤ 5 ∧ 0 ≤ d ∧ d ≤ 999 ∧ 0 ≤ k ∧ k ≤ 999 ∧ d ≤ k) → z = -1) ∧ (σ 3 4 = 0 → 0 ≤ a ∧ a ≤ 5 ∧ 0 ≤ d ∧ d ≤ 999 ∧ 0 ≤ k ∧ k ≤ 999 ∧ d ≤ k → z = 0)) σ) 0 [(0, .ref (ad 0)), (1, vI a), (2, vI d), (3, vI k)] [] σ
  refine s_iload_n (pc := 0) C dX11_knows_0 1 rfl ?_
  refine s_callSi (pc := 1) C (c_X11_isPerson l a ⟨by omega, by omega⟩) [vI a] [] rfl rfl dX11_knows_1 wlX11_287 wtX11_isPerson wcX11_isPerson wnX11 noX11_isPerson (by decide) (by decide) (Nat.le_of_ble_eq_true rfl) (gx_self g0) ?_
  rintro z1 _ ⟨rfl, k1⟩
  show hs_Wd _ _ _ _ _ _ _ _ _ _ _ _ _ _ _ _ _ 4 _ [vI z1] σ
  refine s_if_eq (pc := 4) C (tgt := 26) dX11_knows_4 (by decide) ⟨by omega, by omega⟩ (fun h4 => ?_) (fun h4 => ?_)
  · skip
    refine s_iconst (pc := 26) C dX11_knows_26 ?_
    refine s_iret (pc := 27) C dX11_knows_27 ?_
    refine ⟨_, rfl, ?_⟩
    exact ⟨g0, by first | omega | assumption | (constructor <;> omega) | (refine ⟨⟨?_, ?_⟩, ?_⟩ <;> omega) | (simp [hs_ss, hs_up]; omega) | (simp [hs_ss, hs_up]; done)⟩
  · skip
    refine s_iload_n (pc := 7) C dX11_knows_7 2 rfl ?_
    refine s_callSi (pc := 8) C (c_X11_isDay l d ⟨by omega, by omega⟩) [vI d] [] rfl rfl dX11_knows_8 wlX11_293 wtX11_isDay wcX11_isDay wnX11 noX11_isDay (by decide) (by decide) (Nat.le_of_ble_eq_true rfl) (gx_self g0) ?_
    rintro z8 _ ⟨rfl, k8⟩
    show hs_Wd _ _ _ _ _ _ _ _ _ _ _ _ _ _ _ _ _ 11 _ [vI z8] σ
    refine s_if_eq (pc := 11) C (tgt := 26) dX11_knows_11 (by decide) ⟨by omega, by omega⟩ (fun h11 => ?_) (fun h11 => ?_)
    · skip
      refine s_iconst (pc := 26) C dX11_knows_26 ?_
      refine s_iret (pc := 27) C dX11_knows_27 ?_
      refine ⟨_, rfl, ?_⟩
      exact ⟨g0, by first | omega | assumption | (constructor <;> omega) | (refine ⟨⟨?_, ?_⟩, ?_⟩ <;> omega) | (simp [hs_ss, hs_up]; omega) | (simp [hs_ss, hs_up]; done)⟩
    · skip
      refine s_iload_n (pc := 14) C dX11_knows_14 3 rfl ?_
      refine s_callSi (pc := 15) C (c_X11_isDay l k ⟨by omega, by omega⟩) [vI k] [] rfl rfl dX11_knows_15 wlX11_293 wtX11_isDay wcX11_isDay wnX11 noX11_isDay (by decide) (by decide) (Nat.le_of_ble_eq_true rfl) (gx_self g0) ?_
      rintro z15 _ ⟨rfl, k15⟩
      show hs_Wd _ _ _ _ _ _ _ _ _ _ _ _ _ _ _ _ _ 18 _ [vI z15] σ
      refine s_if_eq (pc := 18) C (tgt := 26) dX11_knows_18 (by decide) ⟨by omega, by omega⟩ (fun h18 => ?_) (fun h18 => ?_)
      · skip
        refine s_iconst (pc := 26) C dX11_knows_26 ?_
        refine s_iret (pc := 27) C dX11_knows_27 ?_
        refine ⟨_, rfl, ?_⟩
        exact ⟨g0, by first | omega | assumption | (constructor <;> omega) | (refine ⟨⟨?_, ?_⟩, ?_⟩ <;> omega) | (simp [hs_ss, hs_up]; omega) | (simp [hs_ss, hs_up]; done)⟩
      · skip
        refine s_iload_n (pc := 21) C dX11_knows_21 2 rfl ?_
        refine s_iload_n (pc := 22) C dX11_knows_22 3 rfl ?_
        refine s_icmp_le (pc := 23) C (tgt := 28) dX11_knows_23 (by decide) ⟨by omega, by omega⟩ ⟨by omega, by omega⟩ (fun h23 => ?_) (fun h23 => ?_)
        · skip
          refine s_aload_n (pc := 28) C dX11_knows_28 0 rfl ?_
          refine s_getr (q := 0) (ci := 11) (N := 11) (CN := RX11) (T := TX11) (pc := 29) C 8 dX11_knows_29 wlX11_73 rfl rfl rfl wfX11 (by decide) rfl ?_
          refine s_iload_n (pc := 32) C dX11_knows_32 3 rfl ?_
          refine s_callVNv (pc := 33) C (c_X10_markStruck l k ⟨by omega, by omega⟩) [vI k] [] rfl rfl dX11_knows_33 wlX11_302 wiX10_markStruck weX10_markStruck wcX10_markStruck wnX10 noX10_markStruck (by decide) (by decide) (Nat.le_of_ble_eq_true rfl) (gx_self g0) rfl rfl ?_
          rintro σ33 k33
          have g33 := gx_trans g0 k33
          have e34 : σ33 3 4 = σ 3 4 := g33.2.1.2.2.2.1
          show hs_Wd _ _ _ _ _ _ _ _ _ _ _ _ _ _ _ _ _ 36 _ [] σ33
          refine s_aload_n (pc := 36) C dX11_knows_36 0 rfl ?_
          refine s_getr (q := 0) (ci := 11) (N := 11) (CN := RX11) (T := TX11) (pc := 37) C 8 dX11_knows_37 wlX11_73 rfl rfl rfl wfX11 (by decide) rfl ?_
          refine s_iload_n (pc := 40) C dX11_knows_40 1 rfl ?_
          refine s_iload_n (pc := 41) C dX11_knows_41 2 rfl ?_
          refine s_callVNi (pc := 42) C (c_X10_wheelsKnownTo l a d ⟨by omega, by omega⟩ ⟨by omega, by omega⟩) [vI a, vI d] [] rfl rfl dX11_knows_42 wlX11_305 wiX10_wheelsKnownTo weX10_wheelsKnownTo wcX10_wheelsKnownTo wnX10 noX10_wheelsKnownTo (by decide) (by decide) (Nat.le_of_ble_eq_true rfl) (gx_self g33) rfl rfl ?_
          rintro z42 _ ⟨rfl, k42⟩
          show hs_Wd _ _ _ _ _ _ _ _ _ _ _ _ _ _ _ _ _ 45 _ [vI z42] σ33
          refine s_iret (pc := 45) C dX11_knows_45 ?_
          refine ⟨_, rfl, ?_⟩
          exact ⟨g33, by first | omega | assumption | (constructor <;> omega) | (refine ⟨⟨?_, ?_⟩, ?_⟩ <;> omega) | (simp [hs_ss, hs_up]; omega) | (simp [hs_ss, hs_up]; done)⟩
        · skip
          refine s_iconst (pc := 26) C dX11_knows_26 ?_
          refine s_iret (pc := 27) C dX11_knows_27 ?_
          refine ⟨_, rfl, ?_⟩
          exact ⟨g0, by first | omega | assumption | (constructor <;> omega) | (refine ⟨⟨?_, ?_⟩, ?_⟩ <;> omega) | (simp [hs_ss, hs_up]; omega) | (simp [hs_ss, hs_up]; done)⟩
set_option maxHeartbeats 4000000 in
set_option maxRecDepth 100000 in
theorem c_X11_can (l : Launch) (d : Int) (hd : hs_R d) (k : Int) (hk : hs_R k) : hs_Met l yX11_can cX11_can 3 (some .int) 7 SHX (fun ad => [.ref (ad 0), vI d, vI k]) (fun σ => GX σ σ) (hs_PI (fun σ z σ1 => GX σ σ1 ∧ hs_R z ∧ (¬ (0 ≤ d ∧ d ≤ 999 ∧ 0 ≤ k ∧ k ≤ 999 ∧ d ≤ k) → z = -1) ∧ (σ 3 4 = 0 → 0 ≤ d ∧ d ≤ 999 ∧ 0 ≤ k ∧ k ≤ 999 ∧ d ≤ k → z = 0))) := by
  refine hs_from pfX11_can (fun _ => Nat.le_of_ble_eq_true rfl) ?_
  intro p e s m args below meth c D dA ad A σ C hpre
  have C : hs_C p s m args meth c D dA SHX ad A 3 cX11_can RX11 (some .int) := C
  have g0 := hpre
  show hs_Wd p l e 7 s m args below meth c D dA SHX ad A 3 (hs_PI (fun σ z σ1 => GX σ σ1 ∧ hs_R z ∧ (¬ (0 ≤ d ∧ d ≤ 999 ∧ 0 ≤ k ∧ k ≤ 999 ∧ d ≤ k) → z = -1) ∧ (σ 3 4 = 0 → 0 ≤ d ∧ d ≤ 999 ∧ 0 ≤ k ∧ k ≤ 999 ∧ d ≤ k → z = 0)) σ) 0 [(0, .ref (ad 0)), (1, vI d), (2, vI k)] [] σ
  refine s_iload_n (pc := 0) C dX11_can_0 1 rfl ?_
  refine s_callSi (pc := 1) C (c_X11_isDay l d ⟨by omega, by omega⟩) [vI d] [] rfl rfl dX11_can_1 wlX11_293 wtX11_isDay wcX11_isDay wnX11 noX11_isDay (by decide) (by decide) (Nat.le_of_ble_eq_true rfl) (gx_self g0) ?_
  rintro z1 _ ⟨rfl, k1⟩
  show hs_Wd _ _ _ _ _ _ _ _ _ _ _ _ _ _ _ _ _ 4 _ [vI z1] σ
  refine s_if_eq (pc := 4) C (tgt := 19) dX11_can_4 (by decide) ⟨by omega, by omega⟩ (fun h4 => ?_) (fun h4 => ?_)
  · skip
    refine s_iconst (pc := 19) C dX11_can_19 ?_
    refine s_iret (pc := 20) C dX11_can_20 ?_
    refine ⟨_, rfl, ?_⟩
    exact ⟨g0, by first | omega | assumption | (constructor <;> omega) | (refine ⟨⟨?_, ?_⟩, ?_⟩ <;> omega) | (simp [hs_ss, hs_up]; omega) | (simp [hs_ss, hs_up]; done)⟩
  · skip
    refine s_iload_n (pc := 7) C dX11_can_7 2 rfl ?_
    refine s_callSi (pc := 8) C (c_X11_isDay l k ⟨by omega, by omega⟩) [vI k] [] rfl rfl dX11_can_8 wlX11_293 wtX11_isDay wcX11_isDay wnX11 noX11_isDay (by decide) (by decide) (Nat.le_of_ble_eq_true rfl) (gx_self g0) ?_
    rintro z8 _ ⟨rfl, k8⟩
    show hs_Wd _ _ _ _ _ _ _ _ _ _ _ _ _ _ _ _ _ 11 _ [vI z8] σ
    refine s_if_eq (pc := 11) C (tgt := 19) dX11_can_11 (by decide) ⟨by omega, by omega⟩ (fun h11 => ?_) (fun h11 => ?_)
    · skip
      refine s_iconst (pc := 19) C dX11_can_19 ?_
      refine s_iret (pc := 20) C dX11_can_20 ?_
      refine ⟨_, rfl, ?_⟩
      exact ⟨g0, by first | omega | assumption | (constructor <;> omega) | (refine ⟨⟨?_, ?_⟩, ?_⟩ <;> omega) | (simp [hs_ss, hs_up]; omega) | (simp [hs_ss, hs_up]; done)⟩
    · skip
      refine s_iload_n (pc := 14) C dX11_can_14 1 rfl ?_
      refine s_iload_n (pc := 15) C dX11_can_15 2 rfl ?_
      refine s_icmp_le (pc := 16) C (tgt := 21) dX11_can_16 (by decide) ⟨by omega, by omega⟩ ⟨by omega, by omega⟩ (fun h16 => ?_) (fun h16 => ?_)
      · skip
        refine s_aload_n (pc := 21) C dX11_can_21 0 rfl ?_
        refine s_getr (q := 0) (ci := 11) (N := 11) (CN := RX11) (T := TX11) (pc := 22) C 8 dX11_can_22 wlX11_73 rfl rfl rfl wfX11 (by decide) rfl ?_
        refine s_iload_n (pc := 25) C dX11_can_25 2 rfl ?_
        refine s_callVNv (pc := 26) C (c_X10_markStruck l k ⟨by omega, by omega⟩) [vI k] [] rfl rfl dX11_can_26 wlX11_302 wiX10_markStruck weX10_markStruck wcX10_markStruck wnX10 noX10_markStruck (by decide) (by decide) (Nat.le_of_ble_eq_true rfl) (gx_self g0) rfl rfl ?_
        rintro σ26 k26
        have g26 := gx_trans g0 k26
        have e34 : σ26 3 4 = σ 3 4 := g26.2.1.2.2.2.1
        show hs_Wd _ _ _ _ _ _ _ _ _ _ _ _ _ _ _ _ _ 29 _ [] σ26
        refine s_aload_n (pc := 29) C dX11_can_29 0 rfl ?_
        refine s_getr (q := 0) (ci := 11) (N := 11) (CN := RX11) (T := TX11) (pc := 30) C 8 dX11_can_30 wlX11_73 rfl rfl rfl wfX11 (by decide) rfl ?_
        refine s_iload_n (pc := 33) C dX11_can_33 1 rfl ?_
        refine s_callVNi (pc := 34) C (c_X10_fewestWhoCan l d ⟨by omega, by omega⟩) [vI d] [] rfl rfl dX11_can_34 wlX11_308 wiX10_fewestWhoCan weX10_fewestWhoCan wcX10_fewestWhoCan wnX10 noX10_fewestWhoCan (by decide) (by decide) (Nat.le_of_ble_eq_true rfl) (gx_self g26) rfl rfl ?_
        rintro z34 σ34 k34
        obtain ⟨kg34, k34⟩ := k34
        have g34 := gx_trans g26 kg34
        show hs_Wd _ _ _ _ _ _ _ _ _ _ _ _ _ _ _ _ _ 37 _ [vI z34] σ34
        refine s_iret (pc := 37) C dX11_can_37 ?_
        refine ⟨_, rfl, ?_⟩
        exact ⟨g34, by first | omega | assumption | (constructor <;> omega) | (refine ⟨⟨?_, ?_⟩, ?_⟩ <;> omega) | (simp [hs_ss, hs_up]; omega) | (simp [hs_ss, hs_up]; done)⟩
      · skip
        refine s_iconst (pc := 19) C dX11_can_19 ?_
        refine s_iret (pc := 20) C dX11_can_20 ?_
        refine ⟨_, rfl, ?_⟩
        exact ⟨g0, by first | omega | assumption | (constructor <;> omega) | (refine ⟨⟨?_, ?_⟩, ?_⟩ <;> omega) | (simp [hs_ss, hs_up]; omega) | (simp [hs_ss, hs_up]; done)⟩
