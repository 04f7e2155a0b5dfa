def PNote (c j : Nat) : Bool := c == 13 || c == 14 || (c == 12 && j == 2)
set_option maxHeartbeats 4000000 in
set_option maxRecDepth 100000 in
theorem c_X9_form (l : Launch) (n : Int) (hn : 0 ≤ n ∧ n < 4) (a0 a1 a2 a3 a4 a5 a6 : Int) (h0 : 0 ≤ a0 ∧ a0 ≤ 9) (h1 : 0 ≤ a1 ∧ a1 ≤ 99) (h2 : 0 ≤ a2 ∧ a2 ≤ 3) (h3 : 0 ≤ a3 ∧ a3 ≤ 900) (h4 : 0 ≤ a4 ∧ a4 ≤ 50) (h5 : 0 ≤ a5 ∧ a5 ≤ 99) (h6 : 0 ≤ a6 ∧ a6 ≤ 60) : hs_Met l yX9_form cX9_form 8 none 1 SHX (fun ad => [.ref (ad (8 + n.toNat)), vI a0, vI a1, vI a2, vI a3, vI a4, vI a5, vI a6]) (fun σ => GX σ σ) (hs_PV (fun σ σ1 => GX σ σ1)) := by
  refine hs_from pfX9_form (fun _ => Nat.le_of_ble_eq_true rfl) ?_
  intro p e s m args below meth c D dA ad A σ C hpre
  have C : hs_C p s m args meth c D dA SHX ad A 8 cX9_form RX9 none := C
  have g0 := hpre
  show hs_Wd p l e 1 s m args below meth c D dA SHX ad A 8 (hs_PV (fun σ σ1 => GX σ σ1) σ) 0 [(0, .ref (ad (8 + n.toNat))), (1, vI a0), (2, vI a1), (3, vI a2), (4, vI a3), (5, vI a4), (6, vI a5), (7, vI a6)] [] σ
  refine s_aload_n (pc := 0) C dX9_form_0 0 rfl ?_
  refine s_iload_n (pc := 1) C dX9_form_1 1 rfl ?_
  refine s_puti (q := (8 + n.toNat)) (ci := 9) (N := 9) (CN := RX9) (T := TX9) (ty0 := tyX9) (ty := .int) (pc := 2) C 0 dX9_form_2 wlX9_9 (sh_Wh (by omega)) rfl rfl wfX9 tyX9_ok nmX9 (by decide) rfl rfl rfl (vp_nar_int _) rfl ?_
  have g2 := gx_setw (z := a0) g0 (show (n).toNat < 4 by omega) 0 (0) (9) rfl ⟨by omega, by omega⟩
  refine s_aload_n (pc := 5) C dX9_form_5 0 rfl ?_
  refine s_iload_n (pc := 6) C dX9_form_6 2 rfl ?_
  refine s_puti (q := (8 + n.toNat)) (ci := 9) (N := 9) (CN := RX9) (T := TX9) (ty0 := tyX9) (ty := .int) (pc := 7) C 1 dX9_form_7 wlX9_15 (sh_Wh (by omega)) rfl rfl wfX9 tyX9_ok nmX9 (by decide) rfl rfl rfl (vp_nar_int _) rfl ?_
  have g7 := gx_setw (z := a1) g2 (show (n).toNat < 4 by omega) 1 (0) (99) rfl ⟨by omega, by omega⟩
  refine s_aload_n (pc := 10) C dX9_form_10 0 rfl ?_
  refine s_iload_n (pc := 11) C dX9_form_11 2 rfl ?_
  refine s_puti (q := (8 + n.toNat)) (ci := 9) (N := 9) (CN := RX9) (T := TX9) (ty0 := tyX9) (ty := .int) (pc := 12) C 2 dX9_form_12 wlX9_18 (sh_Wh (by omega)) rfl rfl wfX9 tyX9_ok nmX9 (by decide) rfl rfl rfl (vp_nar_int _) rfl ?_
  have g12 := gx_setw (z := a1) g7 (show (n).toNat < 4 by omega) 2 (0) (99) rfl ⟨by omega, by omega⟩
  refine s_aload_n (pc := 15) C dX9_form_15 0 rfl ?_
  refine s_iconst (pc := 16) C dX9_form_16 ?_
  refine s_puti (q := (8 + n.toNat)) (ci := 9) (N := 9) (CN := RX9) (T := TX9) (ty0 := tyX9) (ty := .int) (pc := 17) C 3 dX9_form_17 wlX9_21 (sh_Wh (by omega)) rfl rfl wfX9 tyX9_ok nmX9 (by decide) rfl rfl rfl (vp_nar_int _) rfl ?_
  have g17 := gx_setw (z := ((-1))) g12 (show (n).toNat < 4 by omega) 3 (-1) (99) rfl ⟨by omega, by omega⟩
  refine s_aload_n (pc := 20) C dX9_form_20 0 rfl ?_
  refine s_iload_n (pc := 21) C dX9_form_21 3 rfl ?_
  refine s_puti (q := (8 + n.toNat)) (ci := 9) (N := 9) (CN := RX9) (T := TX9) (ty0 := tyX9) (ty := .int) (pc := 22) C 4 dX9_form_22 wlX9_24 (sh_Wh (by omega)) rfl rfl wfX9 tyX9_ok nmX9 (by decide) rfl rfl rfl (vp_nar_int _) rfl ?_
  have g22 := gx_setw (z := a2) g17 (show (n).toNat < 4 by omega) 4 (0) (3) rfl ⟨by omega, by omega⟩
  refine s_aload_n (pc := 25) C dX9_form_25 0 rfl ?_
  refine s_iload (pc := 26) C dX9_form_26 4 rfl ?_
  refine s_puti (q := (8 + n.toNat)) (ci := 9) (N := 9) (CN := RX9) (T := TX9) (ty0 := tyX9) (ty := .int) (pc := 28) C 5 dX9_form_28 wlX9_27 (sh_Wh (by omega)) rfl rfl wfX9 tyX9_ok nmX9 (by decide) rfl rfl rfl (vp_nar_int _) rfl ?_
  have g28 := gx_setw (z := a3) g22 (show (n).toNat < 4 by omega) 5 (0) (900) rfl ⟨by omega, by omega⟩
  refine s_aload_n (pc := 31) C dX9_form_31 0 rfl ?_
  refine s_iload (pc := 32) C dX9_form_32 5 rfl ?_
  refine s_puti (q := (8 + n.toNat)) (ci := 9) (N := 9) (CN := RX9) (T := TX9) (ty0 := tyX9) (ty := .int) (pc := 34) C 6 dX9_form_34 wlX9_30 (sh_Wh (by omega)) rfl rfl wfX9 tyX9_ok nmX9 (by decide) rfl rfl rfl (vp_nar_int _) rfl ?_
  have g34 := gx_setw (z := a4) g28 (show (n).toNat < 4 by omega) 6 (0) (50) rfl ⟨by omega, by omega⟩
  refine s_aload_n (pc := 37) C dX9_form_37 0 rfl ?_
  refine s_iload (pc := 38) C dX9_form_38 6 rfl ?_
  refine s_puti (q := (8 + n.toNat)) (ci := 9) (N := 9) (CN := RX9) (T := TX9) (ty0 := tyX9) (ty := .int) (pc := 40) C 7 dX9_form_40 wlX9_33 (sh_Wh (by omega)) rfl rfl wfX9 tyX9_ok nmX9 (by decide) rfl rfl rfl (vp_nar_int _) rfl ?_
  have g40 := gx_setw (z := a5) g34 (show (n).toNat < 4 by omega) 7 (0) (99) rfl ⟨by omega, by omega⟩
  refine s_aload_n (pc := 43) C dX9_form_43 0 rfl ?_
  refine s_iload (pc := 44) C dX9_form_44 7 rfl ?_
  refine s_puti (q := (8 + n.toNat)) (ci := 9) (N := 9) (CN := RX9) (T := TX9) (ty0 := tyX9) (ty := .int) (pc := 46) C 8 dX9_form_46 wlX9_36 (sh_Wh (by omega)) rfl rfl wfX9 tyX9_ok nmX9 (by decide) rfl rfl rfl (vp_nar_int _) rfl ?_
  have g46 := gx_setw (z := a6) g40 (show (n).toNat < 4 by omega) 8 (0) (60) rfl ⟨by omega, by omega⟩
  refine s_vret (pc := 49) C dX9_form_49 ?_
  refine ⟨rfl, ?_⟩
  exact g46
set_option maxHeartbeats 4000000 in
set_option maxRecDepth 100000 in
theorem c_X5_hasWheel (l : Launch) (w : Int) (hw : hs_R w) : hs_Met l yX5_hasWheel cX5_hasWheel 2 (some .boolean) 1 SHX (fun ad => [.ref (ad 2), vI w]) (fun σ => GX σ σ) (hs_PI (fun σ z σ1 => σ = σ1 ∧ (z = 0 ∨ z = 1) ∧ (z = 1 ↔ 0 ≤ w ∧ w < σ 3 4))) := by
  refine hs_from pfX5_hasWheel (fun _ => Nat.le_of_ble_eq_true rfl) ?_
  intro p e s m args below meth c D dA ad A σ C hpre
  have C : hs_C p s m args meth c D dA SHX ad A 2 cX5_hasWheel RX5 (some .boolean) := C
  have g0 := hpre
  show hs_Wd p l e 1 s m args below meth c D dA SHX ad A 2 (hs_PI (fun σ z σ1 => σ = σ1 ∧ (z = 0 ∨ z = 1) ∧ (z = 1 ↔ 0 ≤ w ∧ w < σ 3 4)) σ) 0 [(0, .ref (ad 2)), (1, vI w)] [] σ
  refine s_iload_n (pc := 0) C dX5_hasWheel_0 1 rfl ?_
  refine s_if_lt (pc := 1) C (tgt := 19) dX5_hasWheel_1 (by decide) ⟨by omega, by omega⟩ (fun h1 => ?_) (fun h1 => ?_)
  · skip
    refine s_iconst (pc := 19) C dX5_hasWheel_19 ?_
    refine s_zret (pc := 20) C (by omega) dX5_hasWheel_20 ?_
    refine ⟨_, rfl, ?_⟩
    exact ⟨rfl, by first | omega | assumption | (constructor <;> omega) | (refine ⟨⟨?_, ?_⟩, ?_⟩ <;> omega) | (simp [hs_ss, hs_up]; omega) | (simp [hs_ss, hs_up]; done)⟩
  · skip
    refine s_iload_n (pc := 4) C dX5_hasWheel_4 1 rfl ?_
    refine s_aload_n (pc := 5) C dX5_hasWheel_5 0 rfl ?_
    refine s_getr (q := 2) (ci := 5) (N := 3) (CN := RX5) (T := TX5) (pc := 6) C 0 dX5_hasWheel_6 wlX5_12 rfl rfl rfl wfX5 (by decide) rfl ?_
    refine s_getiN (q := 3) (ci := 8) (N := 7) (CN := RX8) (T := TX8) (pc := 9) C 4 dX5_hasWheel_9 wlX5_29 rfl rfl rfl wfX8 (by decide) rfl (σ 3 4) rfl ?_
    have b9 : (0 : Int) ≤ σ 3 4 ∧ σ 3 4 ≤ 4 := g0.1 3 4
    refine s_icmp_ge (pc := 12) C (tgt := 19) dX5_hasWheel_12 (by decide) ⟨by omega, by omega⟩ ⟨by omega, by omega⟩ (fun h12 => ?_) (fun h12 => ?_)
    · skip
      refine s_iconst (pc := 19) C dX5_hasWheel_19 ?_
      refine s_zret (pc := 20) C (by omega) dX5_hasWheel_20 ?_
      refine ⟨_, rfl, ?_⟩
      exact ⟨rfl, by first | omega | assumption | (constructor <;> omega) | (refine ⟨⟨?_, ?_⟩, ?_⟩ <;> omega) | (simp [hs_ss, hs_up]; omega) | (simp [hs_ss, hs_up]; done)⟩
    · skip
      refine s_iconst (pc := 15) C dX5_hasWheel_15 ?_
      refine s_goto (pc := 16) C (tgt := 20) dX5_hasWheel_16 (by decide) ?_
      refine s_zret (pc := 20) C (by omega) dX5_hasWheel_20 ?_
      refine ⟨_, rfl, ?_⟩
      exact ⟨rfl, by first | omega | assumption | (constructor <;> omega) | (refine ⟨⟨?_, ?_⟩, ?_⟩ <;> omega) | (simp [hs_ss, hs_up]; omega) | (simp [hs_ss, hs_up]; done)⟩
set_option maxHeartbeats 4000000 in
set_option maxRecDepth 100000 in
theorem c_X5_hasNumber (l : Launch) (w : Int) (hw : hs_R w) : hs_Met l yX5_hasNumber cX5_hasNumber 2 (some .boolean) 1 SHX (fun ad => [.ref (ad 2), vI w]) (fun σ => GX σ σ) (hs_PI (fun σ z σ1 => σ = σ1 ∧ (z = 0 ∨ z = 1) ∧ (z = 1 ↔ 0 ≤ w ∧ w < σ 3 3))) := by
  refine hs_from pfX5_hasNumber (fun _ => Nat.le_of_ble_eq_true rfl) ?_
  intro p e s m args below meth c D dA ad A σ C hpre
  have C : hs_C p s m args meth c D dA SHX ad A 2 cX5_hasNumber RX5 (some .boolean) := C
  have g0 := hpre
  show hs_Wd p l e 1 s m args below meth c D dA SHX ad A 2 (hs_PI (fun σ z σ1 => σ = σ1 ∧ (z = 0 ∨ z = 1) ∧ (z = 1 ↔ 0 ≤ w ∧ w < σ 3 3)) σ) 0 [(0, .ref (ad 2)), (1, vI w)] [] σ
  refine s_iload_n (pc := 0) C dX5_hasNumber_0 1 rfl ?_
  refine s_if_lt (pc := 1) C (tgt := 19) dX5_hasNumber_1 (by decide) ⟨by omega, by omega⟩ (fun h1 => ?_) (fun h1 => ?_)
  · skip
    refine s_iconst (pc := 19) C dX5_hasNumber_19 ?_
    refine s_zret (pc := 20) C (by omega) dX5_hasNumber_20 ?_
    refine ⟨_, rfl, ?_⟩
    exact ⟨rfl, by first | omega | assumption | (constructor <;> omega) | (refine ⟨⟨?_, ?_⟩, ?_⟩ <;> omega) | (simp [hs_ss, hs_up]; omega) | (simp [hs_ss, hs_up]; done)⟩
  · skip
    refine s_iload_n (pc := 4) C dX5_hasNumber_4 1 rfl ?_
    refine s_aload_n (pc := 5) C dX5_hasNumber_5 0 rfl ?_
    refine s_getr (q := 2) (ci := 5) (N := 3) (CN := RX5) (T := TX5) (pc := 6) C 0 dX5_hasNumber_6 wlX5_12 rfl rfl rfl wfX5 (by decide) rfl ?_
    refine s_getiN (q := 3) (ci := 8) (N := 7) (CN := RX8) (T := TX8) (pc := 9) C 3 dX5_hasNumber_9 wlX5_25 rfl rfl rfl wfX8 (by decide) rfl (σ 3 3) rfl ?_
    have b9 : (10 : Int) ≤ σ 3 3 ∧ σ 3 3 ≤ 100 := g0.1 3 3
    refine s_icmp_ge (pc := 12) C (tgt := 19) dX5_hasNumber_12 (by decide) ⟨by omega, by omega⟩ ⟨by omega, by omega⟩ (fun h12 => ?_) (fun h12 => ?_)
    · skip
      refine s_iconst (pc := 19) C dX5_hasNumber_19 ?_
      refine s_zret (pc := 20) C (by omega) dX5_hasNumber_20 ?_
      refine ⟨_, rfl, ?_⟩
      exact ⟨rfl, by first | omega | assumption | (constructor <;> omega) | (refine ⟨⟨?_, ?_⟩, ?_⟩ <;> omega) | (simp [hs_ss, hs_up]; omega) | (simp [hs_ss, hs_up]; done)⟩
    · skip
      refine s_iconst (pc := 15) C dX5_hasNumber_15 ?_
      refine s_goto (pc := 16) C (tgt := 20) dX5_hasNumber_16 (by decide) ?_
      refine s_zret (pc := 20) C (by omega) dX5_hasNumber_20 ?_
      refine ⟨_, rfl, ?_⟩
      exact ⟨rfl, by first | omega | assumption | (constructor <;> omega) | (refine ⟨⟨?_, ?_⟩, ?_⟩ <;> omega) | (simp [hs_ss, hs_up]; omega) | (simp [hs_ss, hs_up]; done)⟩
set_option maxHeartbeats 4000000 in
set_option maxRecDepth 100000 in
theorem c_X5_radiusWithoutGates (l : Launch) (w : Int) (hw : 0 ≤ w ∧ w < 4) (a : Int) (ha : 0 ≤ a ∧ a ≤ 99) : hs_Met l yX5_radiusWithoutGates cX5_radiusWithoutGates 4 (some .int) 3 SHX (fun ad => [.ref (ad 2), vI w, vI a]) (fun σ => GX σ σ) (hs_PI (fun σ z σ1 => σ = σ1 ∧ -6000 ≤ z ∧ z ≤ 7000)) := by
  refine hs_from pfX5_radiusWithoutGates (fun _ => Nat.le_of_ble_eq_true rfl) ?_
  intro p e s m args below meth c D dA ad A σ C hpre
  have C : hs_C p s m args meth c D dA SHX ad A 4 cX5_radiusWithoutGates RX5 (some .int) := C
  have g0 := hpre
  show hs_Wd p l e 3 s m args below meth c D dA SHX ad A 4 (hs_PI (fun σ z σ1 => σ = σ1 ∧ -6000 ≤ z ∧ z ≤ 7000) σ) 0 [(0, .ref (ad 2)), (1, vI w), (2, vI a)] [] σ
  refine s_aload_n (pc := 0) C dX5_radiusWithoutGates_0 0 rfl ?_
  refine s_getr (q := 2) (ci := 5) (N := 3) (CN := RX5) (T := TX5) (pc := 1) C 1 dX5_radiusWithoutGates_1 wlX5_20 rfl rfl rfl wfX5 (by decide) rfl ?_
  refine s_iload_n (pc := 4) C dX5_radiusWithoutGates_4 1 rfl ?_
  refine s_aldq (q := 7) (pc := 5) C dX5_radiusWithoutGates_5 rfl (by omega) (by show _ < (4 : Int); omega) (by decide) ?_
  rw [show ((_ : List (Nat × Nat)).getD w.toNat (0, 0)).2 = 8 + w.toNat from hs_ref4 (by omega) (by omega)]
  refine s_astore_n (pc := 6) C [(3, .ref (ad (8 + w.toNat))), (0, .ref (ad 2)), (1, vI w), (2, vI a)] dX5_radiusWithoutGates_6 (by decide) rfl ?_
  refine s_aload_n (pc := 7) C dX5_radiusWithoutGates_7 0 rfl ?_
  refine s_getiN (q := (8 + w.toNat)) (ci := 9) (N := 9) (CN := RX9) (T := TX9) (pc := 8) C 5 dX5_radiusWithoutGates_8 wlX5_42 (sh_Wh (by omega)) rfl rfl wfX9 (by decide) rfl (σ (8 + w.toNat) 5) rfl ?_
  have b8 : (0 : Int) ≤ σ (8 + w.toNat) 5 ∧ σ (8 + w.toNat) 5 ≤ 900 := gx_w g0 (show (w).toNat < 4 by omega) 5
  refine s_aload_n (pc := 11) C dX5_radiusWithoutGates_11 0 rfl ?_
  refine s_getiN (q := (8 + w.toNat)) (ci := 9) (N := 9) (CN := RX9) (T := TX9) (pc := 12) C 6 dX5_radiusWithoutGates_12 wlX5_45 (sh_Wh (by omega)) rfl rfl wfX9 (by decide) rfl (σ (8 + w.toNat) 6) rfl ?_
  have b12 : (0 : Int) ≤ σ (8 + w.toNat) 6 ∧ σ (8 + w.toNat) 6 ≤ 50 := gx_w g0 (show (w).toNat < 4 by omega) 6
  refine s_aload_n (pc := 15) C dX5_radiusWithoutGates_15 1 rfl ?_
  refine s_getr (q := 2) (ci := 5) (N := 3) (CN := RX5) (T := TX5) (pc := 16) C 0 dX5_radiusWithoutGates_16 wlX5_12 rfl rfl rfl wfX5 (by decide) rfl ?_
  refine s_iload_n (pc := 19) C dX5_radiusWithoutGates_19 3 rfl ?_
  refine s_aload_n (pc := 20) C dX5_radiusWithoutGates_20 0 rfl ?_
  refine s_getiN (q := (8 + w.toNat)) (ci := 9) (N := 9) (CN := RX9) (T := TX9) (pc := 21) C 7 dX5_radiusWithoutGates_21 wlX5_48 (sh_Wh (by omega)) rfl rfl wfX9 (by decide) rfl (σ (8 + w.toNat) 7) rfl ?_
  have b21 : (0 : Int) ≤ σ (8 + w.toNat) 7 ∧ σ (8 + w.toNat) 7 ≤ 99 := gx_w g0 (show (w).toNat < 4 by omega) 7
  refine s_callVNi (pc := 24) C (c_X8_far l 3 (Or.inl rfl) a (σ (8 + w.toNat) 7) (by first | omega | assumption | (constructor <;> omega) | (refine ⟨⟨?_, ?_⟩, ?_⟩ <;> omega) | (simp [hs_ss, hs_up]; omega) | (simp [hs_ss, hs_up]; done)) (by first | omega | assumption | (constructor <;> omega) | (refine ⟨⟨?_, ?_⟩, ?_⟩ <;> omega) | (simp [hs_ss, hs_up]; omega) | (simp [hs_ss, hs_up]; done))) [vI a, vI (σ (8 + w.toNat) 7)] [vI (σ (8 + w.toNat) 6), vI (σ (8 + w.toNat) 5)] rfl rfl dX5_radiusWithoutGates_24 wlX5_51 wiX8_far weX8_far wcX8_far wnX8 noX8_far (by decide) (by decide) (Nat.le_of_ble_eq_true rfl) (gx_self g0) rfl rfl ?_
  rintro z24 _ ⟨rfl, k24⟩
  show hs_Wd _ _ _ _ _ _ _ _ _ _ _ _ _ _ _ _ _ 27 _ [vI z24, vI (σ (8 + w.toNat) 6), vI (σ (8 + w.toNat) 5)] σ
  have hm : -5500 ≤ σ (8 + w.toNat) 6 * z24 ∧ σ (8 + w.toNat) 6 * z24 ≤ 5500 := by rw [Int.mul_comm]; exact hs_mulb (a := z24) (b := σ (8 + w.toNat) 6) (lo := -110) (hi := 110) (B := 50) (by omega) (by omega) (by omega) (by omega) (by omega) (by omega)
  refine s_imul (pc := 27) C dX5_radiusWithoutGates_27 ?_
  refine s_iconst (pc := 28) C dX5_radiusWithoutGates_28 ?_
  refine s_aload_n (pc := 29) C dX5_radiusWithoutGates_29 1 rfl ?_
  refine s_getr (q := 2) (ci := 5) (N := 3) (CN := RX5) (T := TX5) (pc := 30) C 0 dX5_radiusWithoutGates_30 wlX5_12 rfl rfl rfl wfX5 (by decide) rfl ?_
  refine s_getiN (q := 3) (ci := 8) (N := 7) (CN := RX8) (T := TX8) (pc := 33) C 3 dX5_radiusWithoutGates_33 wlX5_25 rfl rfl rfl wfX8 (by decide) rfl (σ 3 3) rfl ?_
  have b33 : (10 : Int) ≤ σ 3 3 ∧ σ 3 3 ≤ 100 := g0.1 3 3
  refine s_iconst (pc := 36) C dX5_radiusWithoutGates_36 ?_
  refine s_idiv (pc := 37) C dX5_radiusWithoutGates_37 ⟨by omega, by omega⟩ ⟨by decide, by decide⟩ (by omega) ?_
  rw [show (σ 3 3).tdiv 2 = σ 3 3 / 2 from Int.tdiv_eq_ediv_of_nonneg (by omega)]
  refine s_callSi (pc := 38) C (c_J9_max_7cf53 l 1 (σ 3 3 / 2) ⟨by omega, by omega⟩ ⟨by omega, by omega⟩) [vI 1, vI (σ 3 3 / 2)] [vI ((σ (8 + w.toNat) 6) * z24), vI (σ (8 + w.toNat) 5)] rfl rfl dX5_radiusWithoutGates_38 wlX5_55 wtJ9_max_7cf53 wcJ9_max_7cf53 wnJ9 noJ9_max_7cf53 (by decide) (by decide) (Nat.le_of_ble_eq_true rfl) (by first | omega | assumption | (constructor <;> omega) | (refine ⟨⟨?_, ?_⟩, ?_⟩ <;> omega) | (simp [hs_ss, hs_up]; omega) | (simp [hs_ss, hs_up]; done)) ?_
  rintro _ _ ⟨rfl, rfl⟩
  show hs_Wd _ _ _ _ _ _ _ _ _ _ _ _ _ _ _ _ _ 41 _ [vI (max 1 ((σ 3 3) / 2)), vI ((σ (8 + w.toNat) 6) * z24), vI (σ (8 + w.toNat) 5)] σ
  refine s_idiv (pc := 41) C dX5_radiusWithoutGates_41 ⟨by omega, by omega⟩ ⟨by omega, by omega⟩ (by omega) ?_
  have hq := hs_tdivb (a := σ (8 + w.toNat) 6 * z24) (b := max 1 (σ 3 3 / 2)) (M := 5500) (by omega) hm.1 hm.2
  refine s_isub (pc := 42) C dX5_radiusWithoutGates_42 ?_
  refine s_iret (pc := 43) C dX5_radiusWithoutGates_43 ?_
  refine ⟨_, rfl, ?_⟩
  exact ⟨rfl, by first | omega | assumption | (constructor <;> omega) | (refine ⟨⟨?_, ?_⟩, ?_⟩ <;> omega) | (simp [hs_ss, hs_up]; omega) | (simp [hs_ss, hs_up]; done)⟩
set_option maxHeartbeats 4000000 in
set_option maxRecDepth 100000 in
theorem c_X5_radius (l : Launch) (w : Int) (hw : 0 ≤ w ∧ w < 4) : hs_Met l yX5_radius cX5_radius 6 (some .int) 5 SHX (fun ad => [.ref (ad 2), vI w]) (fun σ => GX σ σ) (hs_PI (fun σ z σ1 => σ = σ1 ∧ -7000 ≤ z ∧ z ≤ 7000)) := by
  refine hs_from pfX5_radius (fun _ => Nat.le_of_ble_eq_true rfl) ?_
  intro p e s m args below meth c D dA ad A σ C hpre
  have C : hs_C p s m args meth c D dA SHX ad A 6 cX5_radius RX5 (some .int) := C
  have g0 := hpre
  show hs_Wd p l e 5 s m args below meth c D dA SHX ad A 6 (hs_PI (fun σ z σ1 => σ = σ1 ∧ -7000 ≤ z ∧ z ≤ 7000) σ) 0 [(0, .ref (ad 2)), (1, vI w)] [] σ
  refine s_aload_n (pc := 0) C dX5_radius_0 0 rfl ?_
  refine s_getr (q := 2) (ci := 5) (N := 3) (CN := RX5) (T := TX5) (pc := 1) C 1 dX5_radius_1 wlX5_20 rfl rfl rfl wfX5 (by decide) rfl ?_
  refine s_iload_n (pc := 4) C dX5_radius_4 1 rfl ?_
  refine s_aldq (q := 7) (pc := 5) C dX5_radius_5 rfl (by omega) (by show _ < (4 : Int); omega) (by decide) ?_
  rw [show ((_ : List (Nat × Nat)).getD w.toNat (0, 0)).2 = 8 + w.toNat from hs_ref4 (by omega) (by omega)]
  refine s_astore_n (pc := 6) C [(2, .ref (ad (8 + w.toNat))), (0, .ref (ad 2)), (1, vI w)] dX5_radius_6 (by decide) rfl ?_
  refine s_aload_n (pc := 7) C dX5_radius_7 1 rfl ?_
  refine s_getr (q := 2) (ci := 5) (N := 3) (CN := RX5) (T := TX5) (pc := 8) C 0 dX5_radius_8 wlX5_12 rfl rfl rfl wfX5 (by decide) rfl ?_
  refine s_getrN (q := 3) (ci := 8) (N := 7) (CN := RX8) (T := TX8) (pc := 11) C 2 dX5_radius_11 wlX5_60 rfl rfl rfl wfX8 (by decide) rfl ?_
  refine s_iload_n (pc := 14) C dX5_radius_14 2 rfl ?_
  refine s_iald (q := 6) (n := 4) (pc := 15) C (σ 6 w.toNat) rfl dX5_radius_15 rfl (by omega) (by omega) (by decide) ?_
  have b15 : (0 : Int) ≤ σ 6 w.toNat ∧ σ 6 w.toNat ≤ 99 := g0.1 6 w.toNat
  refine s_istore_n (pc := 16) C [(3, vI (σ 6 w.toNat)), (2, .ref (ad (8 + w.toNat))), (0, .ref (ad 2)), (1, vI w)] dX5_radius_16 (by decide) rfl ?_
  refine s_aload_n (pc := 17) C dX5_radius_17 2 rfl ?_
  refine s_getr (q := 2) (ci := 5) (N := 3) (CN := RX5) (T := TX5) (pc := 18) C 0 dX5_radius_18 wlX5_12 rfl rfl rfl wfX5 (by decide) rfl ?_
  refine s_iload_n (pc := 21) C dX5_radius_21 0 rfl ?_
  refine s_aload_n (pc := 22) C dX5_radius_22 1 rfl ?_
  refine s_getiN (q := (8 + w.toNat)) (ci := 9) (N := 9) (CN := RX9) (T := TX9) (pc := 23) C 2 dX5_radius_23 wlX5_64 (sh_Wh (by omega)) rfl rfl wfX9 (by decide) rfl (σ (8 + w.toNat) 2) rfl ?_
  have b23 : (0 : Int) ≤ σ (8 + w.toNat) 2 ∧ σ (8 + w.toNat) 2 ≤ 99 := gx_w g0 (show (w).toNat < 4 by omega) 2
  refine s_callVNi (pc := 26) C (c_X8_far l 3 (Or.inl rfl) (σ 6 w.toNat) (σ (8 + w.toNat) 2) (by first | omega | assumption | (constructor <;> omega) | (refine ⟨⟨?_, ?_⟩, ?_⟩ <;> omega) | (simp [hs_ss, hs_up]; omega) | (simp [hs_ss, hs_up]; done)) (by first | omega | assumption | (constructor <;> omega) | (refine ⟨⟨?_, ?_⟩, ?_⟩ <;> omega) | (simp [hs_ss, hs_up]; omega) | (simp [hs_ss, hs_up]; done))) [vI (σ 6 w.toNat), vI (σ (8 + w.toNat) 2)] [] rfl rfl dX5_radius_26 wlX5_51 wiX8_far weX8_far wcX8_far wnX8 noX8_far (by decide) (by decide) (Nat.le_of_ble_eq_true rfl) (gx_self g0) rfl rfl ?_
  rintro z26 _ ⟨rfl, k26⟩
  show hs_Wd _ _ _ _ _ _ _ _ _ _ _ _ _ _ _ _ _ 29 _ [vI z26] σ
  refine s_istore (pc := 29) C [(4, vI z26), (3, vI (σ 6 w.toNat)), (2, .ref (ad (8 + w.toNat))), (0, .ref (ad 2)), (1, vI w)] dX5_radius_29 (by decide) rfl ?_
  refine s_aload_n (pc := 31) C dX5_radius_31 2 rfl ?_
  refine s_getiN (q := (8 + w.toNat)) (ci := 9) (N := 9) (CN := RX9) (T := TX9) (pc := 32) C 3 dX5_radius_32 wlX5_67 (sh_Wh (by omega)) rfl rfl wfX9 (by decide) rfl (σ (8 + w.toNat) 3) rfl ?_
  have b32 : (-1 : Int) ≤ σ (8 + w.toNat) 3 ∧ σ (8 + w.toNat) 3 ≤ 99 := gx_w g0 (show (w).toNat < 4 by omega) 3
  refine s_iconst (pc := 35) C dX5_radius_35 ?_
  refine s_icmp_eq (pc := 36) C (tgt := 58) dX5_radius_36 (by decide) ⟨by omega, by omega⟩ ⟨by decide, by decide⟩ (fun h36 => ?_) (fun h36 => ?_)
  · skip
    refine s_iload (pc := 58) C dX5_radius_58 0 rfl ?_
    refine s_aload_n (pc := 60) C dX5_radius_60 2 rfl ?_
    refine s_getiN (q := (8 + w.toNat)) (ci := 9) (N := 9) (CN := RX9) (T := TX9) (pc := 61) C 4 dX5_radius_61 wlX5_73 (sh_Wh (by omega)) rfl rfl wfX9 (by decide) rfl (σ (8 + w.toNat) 4) rfl ?_
    have b61 : (0 : Int) ≤ σ (8 + w.toNat) 4 ∧ σ (8 + w.toNat) 4 ≤ 3 := gx_w g0 (show (w).toNat < 4 by omega) 4
    refine s_icmp_gt (pc := 64) C (tgt := 69) dX5_radius_64 (by decide) ⟨by omega, by omega⟩ ⟨by omega, by omega⟩ (fun h64 => ?_) (fun h64 => ?_)
    · skip
      refine s_aload_n (pc := 69) C dX5_radius_69 3 rfl ?_
      refine s_iload_n (pc := 70) C dX5_radius_70 4 rfl ?_
      refine s_iload_n (pc := 71) C dX5_radius_71 1 rfl ?_
      refine s_callVi (pc := 72) C (c_X5_radiusWithoutGates l w (by first | omega | assumption | (constructor <;> omega) | (refine ⟨⟨?_, ?_⟩, ?_⟩ <;> omega) | (simp [hs_ss, hs_up]; omega) | (simp [hs_ss, hs_up]; done)) (σ 6 w.toNat) (by first | omega | assumption | (constructor <;> omega) | (refine ⟨⟨?_, ?_⟩, ?_⟩ <;> omega) | (simp [hs_ss, hs_up]; omega) | (simp [hs_ss, hs_up]; done))) [vI w, vI (σ 6 w.toNat)] [] rfl rfl dX5_radius_72 wlX5_76 wiX5_radiusWithoutGates weX5_radiusWithoutGates wcX5_radiusWithoutGates wnX5 noX5_radiusWithoutGates (by decide) (by decide) (Nat.le_of_ble_eq_true rfl) (gx_self g0) rfl rfl ?_
      rintro z72 _ ⟨rfl, k72⟩
      show hs_Wd _ _ _ _ _ _ _ _ _ _ _ _ _ _ _ _ _ 75 _ [vI z72] σ
      refine s_istore (pc := 75) C [(5, vI z72), (4, vI z26), (3, vI (σ 6 w.toNat)), (2, .ref (ad (8 + w.toNat))), (0, .ref (ad 2)), (1, vI w)] dX5_radius_75 (by decide) rfl ?_
      refine s_iload (pc := 77) C dX5_radius_77 1 rfl ?_
      refine s_aload_n (pc := 79) C dX5_radius_79 3 rfl ?_
      refine s_getiN (q := (8 + w.toNat)) (ci := 9) (N := 9) (CN := RX9) (T := TX9) (pc := 80) C 4 dX5_radius_80 wlX5_73 (sh_Wh (by omega)) rfl rfl wfX9 (by decide) rfl (σ (8 + w.toNat) 4) rfl ?_
      have b80 : (0 : Int) ≤ σ (8 + w.toNat) 4 ∧ σ (8 + w.toNat) 4 ≤ 3 := gx_w g0 (show (w).toNat < 4 by omega) 4
      refine s_iconst (pc := 83) C dX5_radius_83 ?_
      refine s_iadd (pc := 84) C dX5_radius_84 ?_
      refine s_icmp_ne (pc := 85) C (tgt := 98) dX5_radius_85 (by decide) ⟨by omega, by omega⟩ ⟨by omega, by omega⟩ (fun h85 => ?_) (fun h85 => ?_)
      · skip
        refine s_iload (pc := 98) C dX5_radius_98 0 rfl ?_
        refine s_iret (pc := 100) C dX5_radius_100 ?_
        refine ⟨_, rfl, ?_⟩
        exact ⟨rfl, by first | omega | assumption | (constructor <;> omega) | (refine ⟨⟨?_, ?_⟩, ?_⟩ <;> omega) | (simp [hs_ss, hs_up]; omega) | (simp [hs_ss, hs_up]; done)⟩
      · skip
        refine s_iload (pc := 88) C dX5_radius_88 0 rfl ?_
        refine s_aload_n (pc := 90) C dX5_radius_90 3 rfl ?_
        refine s_getiN (q := (8 + w.toNat)) (ci := 9) (N := 9) (CN := RX9) (T := TX9) (pc := 91) C 8 dX5_radius_91 wlX5_79 (sh_Wh (by omega)) rfl rfl wfX9 (by decide) rfl (σ (8 + w.toNat) 8) rfl ?_
        have b91 : (0 : Int) ≤ σ (8 + w.toNat) 8 ∧ σ (8 + w.toNat) 8 ≤ 60 := gx_w g0 (show (w).toNat < 4 by omega) 8
        refine s_isub (pc := 94) C dX5_radius_94 ?_
        refine s_goto (pc := 95) C (tgt := 100) dX5_radius_95 (by decide) ?_
        refine s_iret (pc := 100) C dX5_radius_100 ?_
        refine ⟨_, rfl, ?_⟩
        exact ⟨rfl, by first | omega | assumption | (constructor <;> omega) | (refine ⟨⟨?_, ?_⟩, ?_⟩ <;> omega) | (simp [hs_ss, hs_up]; omega) | (simp [hs_ss, hs_up]; done)⟩
    · skip
      refine s_iconst (pc := 67) C dX5_radius_67 ?_
      refine s_iret (pc := 68) C dX5_radius_68 ?_
      refine ⟨_, rfl, ?_⟩
      exact ⟨rfl, by first | omega | assumption | (constructor <;> omega) | (refine ⟨⟨?_, ?_⟩, ?_⟩ <;> omega) | (simp [hs_ss, hs_up]; omega) | (simp [hs_ss, hs_up]; done)⟩
  · skip
    refine s_iload (pc := 39) C dX5_radius_39 0 rfl ?_
    refine s_aload_n (pc := 41) C dX5_radius_41 3 rfl ?_
    refine s_getr (q := 2) (ci := 5) (N := 3) (CN := RX5) (T := TX5) (pc := 42) C 0 dX5_radius_42 wlX5_12 rfl rfl rfl wfX5 (by decide) rfl ?_
    refine s_iload_n (pc := 45) C dX5_radius_45 1 rfl ?_
    refine s_aload_n (pc := 46) C dX5_radius_46 2 rfl ?_
    refine s_getiN (q := (8 + w.toNat)) (ci := 9) (N := 9) (CN := RX9) (T := TX9) (pc := 47) C 3 dX5_radius_47 wlX5_67 (sh_Wh (by omega)) rfl rfl wfX9 (by decide) rfl (σ (8 + w.toNat) 3) rfl ?_
    have b47 : (-1 : Int) ≤ σ (8 + w.toNat) 3 ∧ σ (8 + w.toNat) 3 ≤ 99 := gx_w g0 (show (w).toNat < 4 by omega) 3
    refine s_callVNi (pc := 50) C (c_X8_far l 3 (Or.inl rfl) (σ 6 w.toNat) (σ (8 + w.toNat) 3) (by first | omega | assumption | (constructor <;> omega) | (refine ⟨⟨?_, ?_⟩, ?_⟩ <;> omega) | (simp [hs_ss, hs_up]; omega) | (simp [hs_ss, hs_up]; done)) (by first | omega | assumption | (constructor <;> omega) | (refine ⟨⟨?_, ?_⟩, ?_⟩ <;> omega) | (simp [hs_ss, hs_up]; omega) | (simp [hs_ss, hs_up]; done))) [vI (σ 6 w.toNat), vI (σ (8 + w.toNat) 3)] [vI z26] rfl rfl dX5_radius_50 wlX5_51 wiX8_far weX8_far wcX8_far wnX8 noX8_far (by decide) (by decide) (Nat.le_of_ble_eq_true rfl) (gx_self g0) rfl rfl ?_
    rintro z50 _ ⟨rfl, k50⟩
    show hs_Wd _ _ _ _ _ _ _ _ _ _ _ _ _ _ _ _ _ 53 _ [vI z50, vI z26] σ
    refine s_callSi (pc := 53) C (c_J9_min_7cf53 l z26 z50 ⟨by omega, by omega⟩ ⟨by omega, by omega⟩) [vI z26, vI z50] [] rfl rfl dX5_radius_53 wlX5_70 wtJ9_min_7cf53 wcJ9_min_7cf53 wnJ9 noJ9_min_7cf53 (by decide) (by decide) (Nat.le_of_ble_eq_true rfl) (by first | omega | assumption | (constructor <;> omega) | (refine ⟨⟨?_, ?_⟩, ?_⟩ <;> omega) | (simp [hs_ss, hs_up]; omega) | (simp [hs_ss, hs_up]; done)) ?_
    rintro _ _ ⟨rfl, rfl⟩
    show hs_Wd _ _ _ _ _ _ _ _ _ _ _ _ _ _ _ _ _ 56 _ [vI (min z26 z50)] σ
    refine s_istore (pc := 56) C [(4, vI (min z26 z50)), (3, vI (σ 6 w.toNat)), (2, .ref (ad (8 + w.toNat))), (0, .ref (ad 2)), (1, vI w)] dX5_radius_56 (by decide) rfl ?_
    refine s_iload (pc := 58) C dX5_radius_58 0 rfl ?_
    refine s_aload_n (pc := 60) C dX5_radius_60 2 rfl ?_
    refine s_getiN (q := (8 + w.toNat)) (ci := 9) (N := 9) (CN := RX9) (T := TX9) (pc := 61) C 4 dX5_radius_61 wlX5_73 (sh_Wh (by omega)) rfl rfl wfX9 (by decide) rfl (σ (8 + w.toNat) 4) rfl ?_
    have b61 : (0 : Int) ≤ σ (8 + w.toNat) 4 ∧ σ (8 + w.toNat) 4 ≤ 3 := gx_w g0 (show (w).toNat < 4 by omega) 4
    refine s_icmp_gt (pc := 64) C (tgt := 69) dX5_radius_64 (by decide) ⟨by omega, by omega⟩ ⟨by omega, by omega⟩ (fun h64 => ?_) (fun h64 => ?_)
    · skip
      refine s_aload_n (pc := 69) C dX5_radius_69 3 rfl ?_
      refine s_iload_n (pc := 70) C dX5_radius_70 4 rfl ?_
      refine s_iload_n (pc := 71) C dX5_radius_71 1 rfl ?_
      refine s_callVi (pc := 72) C (c_X5_radiusWithoutGates l w (by first | omega | assumption | (constructor <;> omega) | (refine ⟨⟨?_, ?_⟩, ?_⟩ <;> omega) | (simp [hs_ss, hs_up]; omega) | (simp [hs_ss, hs_up]; done)) (σ 6 w.toNat) (by first | omega | assumption | (constructor <;> omega) | (refine ⟨⟨?_, ?_⟩, ?_⟩ <;> omega) | (simp [hs_ss, hs_up]; omega) | (simp [hs_ss, hs_up]; done))) [vI w, vI (σ 6 w.toNat)] [] rfl rfl dX5_radius_72 wlX5_76 wiX5_radiusWithoutGates weX5_radiusWithoutGates wcX5_radiusWithoutGates wnX5 noX5_radiusWithoutGates (by decide) (by decide) (Nat.le_of_ble_eq_true rfl) (gx_self g0) rfl rfl ?_
      rintro z72 _ ⟨rfl, k72⟩
      show hs_Wd _ _ _ _ _ _ _ _ _ _ _ _ _ _ _ _ _ 75 _ [vI z72] σ
      refine s_istore (pc := 75) C [(5, vI z72), (4, vI (min z26 z50)), (3, vI (σ 6 w.toNat)), (2, .ref (ad (8 + w.toNat))), (0, .ref (ad 2)), (1, vI w)] dX5_radius_75 (by decide) rfl ?_
      refine s_iload (pc := 77) C dX5_radius_77 1 rfl ?_
      refine s_aload_n (pc := 79) C dX5_radius_79 3 rfl ?_
      refine s_getiN (q := (8 + w.toNat)) (ci := 9) (N := 9) (CN := RX9) (T := TX9) (pc := 80) C 4 dX5_radius_80 wlX5_73 (sh_Wh (by omega)) rfl rfl wfX9 (by decide) rfl (σ (8 + w.toNat) 4) rfl ?_
      have b80 : (0 : Int) ≤ σ (8 + w.toNat) 4 ∧ σ (8 + w.toNat) 4 ≤ 3 := gx_w g0 (show (w).toNat < 4 by omega) 4
      refine s_iconst (pc := 83) C dX5_radius_83 ?_
      refine s_iadd (pc := 84) C dX5_radius_84 ?_
      refine s_icmp_ne (pc := 85) C (tgt := 98) dX5_radius_85 (by decide) ⟨by omega, by omega⟩ ⟨by omega, by omega⟩ (fun h85 => ?_) (fun h85 => ?_)
      · skip
        refine s_iload (pc := 98) C dX5_radius_98 0 rfl ?_
        refine s_iret (pc := 100) C dX5_radius_100 ?_
        refine ⟨_, rfl, ?_⟩
        exact ⟨rfl, by first | omega | assumption | (constructor <;> omega) | (refine ⟨⟨?_, ?_⟩, ?_⟩ <;> omega) | (simp [hs_ss, hs_up]; omega) | (simp [hs_ss, hs_up]; done)⟩
      · skip
        refine s_iload (pc := 88) C dX5_radius_88 0 rfl ?_
        refine s_aload_n (pc := 90) C dX5_radius_90 3 rfl ?_
        refine s_getiN (q := (8 + w.toNat)) (ci := 9) (N := 9) (CN := RX9) (T := TX9) (pc := 91) C 8 dX5_radius_91 wlX5_79 (sh_Wh (by omega)) rfl rfl wfX9 (by decide) rfl (σ (8 + w.toNat) 8) rfl ?_
        have b91 : (0 : Int) ≤ σ (8 + w.toNat) 8 ∧ σ (8 + w.toNat) 8 ≤ 60 := gx_w g0 (show (w).toNat < 4 by omega) 8
        refine s_isub (pc := 94) C dX5_radius_94 ?_
        refine s_goto (pc := 95) C (tgt := 100) dX5_radius_95 (by decide) ?_
        refine s_iret (pc := 100) C dX5_radius_100 ?_
        refine ⟨_, rfl, ?_⟩
        exact ⟨rfl, by first | omega | assumption | (constructor <;> omega) | (refine ⟨⟨?_, ?_⟩, ?_⟩ <;> omega) | (simp [hs_ss, hs_up]; omega) | (simp [hs_ss, hs_up]; done)⟩
    · skip
      refine s_iconst (pc := 67) C dX5_radius_67 ?_
      refine s_iret (pc := 68) C dX5_radius_68 ?_
      refine ⟨_, rfl, ?_⟩
      exact ⟨rfl, by first | omega | assumption | (constructor <;> omega) | (refine ⟨⟨?_, ?_⟩, ?_⟩ <;> omega) | (simp [hs_ss, hs_up]; omega) | (simp [hs_ss, hs_up]; done)⟩
set_option maxHeartbeats 4000000 in
set_option maxRecDepth 100000 in
theorem c_X5_isIn (l : Launch) (w : Int) (hw : 0 ≤ w ∧ w < 4) : hs_Met l yX5_isIn cX5_isIn 2 (some .boolean) 6 SHX (fun ad => [.ref (ad 2), vI w]) (fun σ => GX σ σ) (hs_PI (fun σ z σ1 => σ = σ1 ∧ (z = 0 ∨ z = 1))) := by
  refine hs_from pfX5_isIn (fun _ => Nat.le_of_ble_eq_true rfl) ?_
  intro p e s m args below meth c D dA ad A σ C hpre
  have C : hs_C p s m args meth c D dA SHX ad A 2 cX5_isIn RX5 (some .boolean) := C
  have g0 := hpre
  show hs_Wd p l e 6 s m args below meth c D dA SHX ad A 2 (hs_PI (fun σ z σ1 => σ = σ1 ∧ (z = 0 ∨ z = 1)) σ) 0 [(0, .ref (ad 2)), (1, vI w)] [] σ
  refine s_aload_n (pc := 0) C dX5_isIn_0 0 rfl ?_
  refine s_iload_n (pc := 1) C dX5_isIn_1 1 rfl ?_
  refine s_callVi (pc := 2) C (c_X5_radius l w (by first | omega | assumption | (constructor <;> omega) | (refine ⟨⟨?_, ?_⟩, ?_⟩ <;> omega) | (simp [hs_ss, hs_up]; omega) | (simp [hs_ss, hs_up]; done))) [vI w] [] rfl rfl dX5_isIn_2 wlX5_82 wiX5_radius weX5_radius wcX5_radius wnX5 noX5_radius (by decide) (by decide) (Nat.le_of_ble_eq_true rfl) (gx_self g0) rfl rfl ?_
  rintro z2 _ ⟨rfl, k2⟩
  show hs_Wd _ _ _ _ _ _ _ _ _ _ _ _ _ _ _ _ _ 5 _ [vI z2] σ
  refine s_if_ne (pc := 5) C (tgt := 12) dX5_isIn_5 (by decide) ⟨by omega, by omega⟩ (fun h5 => ?_) (fun h5 => ?_)
  · skip
    refine s_iconst (pc := 12) C dX5_isIn_12 ?_
    refine s_zret (pc := 13) C (by omega) dX5_isIn_13 ?_
    refine ⟨_, rfl, ?_⟩
    exact ⟨rfl, by first | omega | assumption | (constructor <;> omega) | (refine ⟨⟨?_, ?_⟩, ?_⟩ <;> omega) | (simp [hs_ss, hs_up]; omega) | (simp [hs_ss, hs_up]; done)⟩
  · skip
    refine s_iconst (pc := 8) C dX5_isIn_8 ?_
    refine s_goto (pc := 9) C (tgt := 13) dX5_isIn_9 (by decide) ?_
    refine s_zret (pc := 13) C (by omega) dX5_isIn_13 ?_
    refine ⟨_, rfl, ?_⟩
    exact ⟨rfl, by first | omega | assumption | (constructor <;> omega) | (refine ⟨⟨?_, ?_⟩, ?_⟩ <;> omega) | (simp [hs_ss, hs_up]; omega) | (simp [hs_ss, hs_up]; done)⟩
set_option maxHeartbeats 4000000 in
set_option maxRecDepth 100000 in
theorem c_X5_isInByGate (l : Launch) (w : Int) (hw : 0 ≤ w ∧ w < 4) : hs_Met l yX5_isInByGate cX5_isInByGate 2 (some .boolean) 5 SHX (fun ad => [.ref (ad 2), vI w]) (fun σ => GX σ σ) (hs_PI (fun σ z σ1 => σ = σ1 ∧ (z = 0 ∨ z = 1))) := by
  refine hs_from pfX5_isInByGate (fun _ => Nat.le_of_ble_eq_true rfl) ?_
  intro p e s m args below meth c D dA ad A σ C hpre
  have C : hs_C p s m args meth c D dA SHX ad A 2 cX5_isInByGate RX5 (some .boolean) := C
  have g0 := hpre
  show hs_Wd p l e 5 s m args below meth c D dA SHX ad A 2 (hs_PI (fun σ z σ1 => σ = σ1 ∧ (z = 0 ∨ z = 1)) σ) 0 [(0, .ref (ad 2)), (1, vI w)] [] σ
  refine s_aload_n (pc := 0) C dX5_isInByGate_0 0 rfl ?_
  refine s_getr (q := 2) (ci := 5) (N := 3) (CN := RX5) (T := TX5) (pc := 1) C 0 dX5_isInByGate_1 wlX5_12 rfl rfl rfl wfX5 (by decide) rfl ?_
  refine s_aload_n (pc := 4) C dX5_isInByGate_4 0 rfl ?_
  refine s_getr (q := 2) (ci := 5) (N := 3) (CN := RX5) (T := TX5) (pc := 5) C 0 dX5_isInByGate_5 wlX5_12 rfl rfl rfl wfX5 (by decide) rfl ?_
  refine s_getrN (q := 3) (ci := 8) (N := 7) (CN := RX8) (T := TX8) (pc := 8) C 2 dX5_isInByGate_8 wlX5_60 rfl rfl rfl wfX8 (by decide) rfl ?_
  refine s_iload_n (pc := 11) C dX5_isInByGate_11 1 rfl ?_
  refine s_iald (q := 6) (n := 4) (pc := 12) C (σ 6 w.toNat) rfl dX5_isInByGate_12 rfl (by omega) (by omega) (by decide) ?_
  have b12 : (0 : Int) ≤ σ 6 w.toNat ∧ σ 6 w.toNat ≤ 99 := g0.1 6 w.toNat
  refine s_aload_n (pc := 13) C dX5_isInByGate_13 0 rfl ?_
  refine s_getr (q := 2) (ci := 5) (N := 3) (CN := RX5) (T := TX5) (pc := 14) C 1 dX5_isInByGate_14 wlX5_20 rfl rfl rfl wfX5 (by decide) rfl ?_
  refine s_iload_n (pc := 17) C dX5_isInByGate_17 1 rfl ?_
  refine s_aldq (q := 7) (pc := 18) C dX5_isInByGate_18 rfl (by omega) (by show _ < (4 : Int); omega) (by decide) ?_
  rw [show ((_ : List (Nat × Nat)).getD w.toNat (0, 0)).2 = 8 + w.toNat from hs_ref4 (by omega) (by omega)]
  refine s_getiN (q := (8 + w.toNat)) (ci := 9) (N := 9) (CN := RX9) (T := TX9) (pc := 19) C 2 dX5_isInByGate_19 wlX5_64 (sh_Wh (by omega)) rfl rfl wfX9 (by decide) rfl (σ (8 + w.toNat) 2) rfl ?_
  have b19 : (0 : Int) ≤ σ (8 + w.toNat) 2 ∧ σ (8 + w.toNat) 2 ≤ 99 := gx_w g0 (show (w).toNat < 4 by omega) 2
  refine s_callVNi (pc := 22) C (c_X8_far l 3 (Or.inl rfl) (σ 6 w.toNat) (σ (8 + w.toNat) 2) (by first | omega | assumption | (constructor <;> omega) | (refine ⟨⟨?_, ?_⟩, ?_⟩ <;> omega) | (simp [hs_ss, hs_up]; omega) | (simp [hs_ss, hs_up]; done)) (by first | omega | assumption | (constructor <;> omega) | (refine ⟨⟨?_, ?_⟩, ?_⟩ <;> omega) | (simp [hs_ss, hs_up]; omega) | (simp [hs_ss, hs_up]; done))) [vI (σ 6 w.toNat), vI (σ (8 + w.toNat) 2)] [] rfl rfl dX5_isInByGate_22 wlX5_51 wiX8_far weX8_far wcX8_far wnX8 noX8_far (by decide) (by decide) (Nat.le_of_ble_eq_true rfl) (gx_self g0) rfl rfl ?_
  rintro z22 _ ⟨rfl, k22⟩
  show hs_Wd _ _ _ _ _ _ _ _ _ _ _ _ _ _ _ _ _ 25 _ [vI z22] σ
  refine s_aload_n (pc := 25) C dX5_isInByGate_25 0 rfl ?_
  refine s_getr (q := 2) (ci := 5) (N := 3) (CN := RX5) (T := TX5) (pc := 26) C 1 dX5_isInByGate_26 wlX5_20 rfl rfl rfl wfX5 (by decide) rfl ?_
  refine s_iload_n (pc := 29) C dX5_isInByGate_29 1 rfl ?_
  refine s_aldq (q := 7) (pc := 30) C dX5_isInByGate_30 rfl (by omega) (by show _ < (4 : Int); omega) (by decide) ?_
  rw [show ((_ : List (Nat × Nat)).getD w.toNat (0, 0)).2 = 8 + w.toNat from hs_ref4 (by omega) (by omega)]
  refine s_getiN (q := (8 + w.toNat)) (ci := 9) (N := 9) (CN := RX9) (T := TX9) (pc := 31) C 4 dX5_isInByGate_31 wlX5_73 (sh_Wh (by omega)) rfl rfl wfX9 (by decide) rfl (σ (8 + w.toNat) 4) rfl ?_
  have b31 : (0 : Int) ≤ σ (8 + w.toNat) 4 ∧ σ (8 + w.toNat) 4 ≤ 3 := gx_w g0 (show (w).toNat < 4 by omega) 4
  refine s_icmp_gt (pc := 34) C (tgt := 41) dX5_isInByGate_34 (by decide) ⟨by omega, by omega⟩ ⟨by omega, by omega⟩ (fun h34 => ?_) (fun h34 => ?_)
  · skip
    refine s_iconst (pc := 41) C dX5_isInByGate_41 ?_
    refine s_zret (pc := 42) C (by omega) dX5_isInByGate_42 ?_
    refine ⟨_, rfl, ?_⟩
    exact ⟨rfl, by first | omega | assumption | (constructor <;> omega) | (refine ⟨⟨?_, ?_⟩, ?_⟩ <;> omega) | (simp [hs_ss, hs_up]; omega) | (simp [hs_ss, hs_up]; done)⟩
  · skip
    refine s_iconst (pc := 37) C dX5_isInByGate_37 ?_
    refine s_goto (pc := 38) C (tgt := 42) dX5_isInByGate_38 (by decide) ?_
    refine s_zret (pc := 42) C (by omega) dX5_isInByGate_42 ?_
    refine ⟨_, rfl, ?_⟩
    exact ⟨rfl, by first | omega | assumption | (constructor <;> omega) | (refine ⟨⟨?_, ?_⟩, ?_⟩ <;> omega) | (simp [hs_ss, hs_up]; omega) | (simp [hs_ss, hs_up]; done)⟩
set_option maxHeartbeats 4000000 in
set_option maxRecDepth 100000 in
theorem c_X5_leverHeight (l : Launch)  : hs_Met l yX5_leverHeight cX5_leverHeight 3 (some .int) 6 SHX (fun ad => [.ref (ad 2)]) (fun σ => GX σ σ) (hs_PI (fun σ z σ1 => σ = σ1 ∧ 0 ≤ z ∧ z ≤ 7000 ∧ (σ 3 4 = 0 → z = 0))) := by
  refine hs_from pfX5_leverHeight (fun _ => Nat.le_of_ble_eq_true rfl) ?_
  intro p e s m args below meth c D dA ad A σ C hpre
  have C : hs_C p s m args meth c D dA SHX ad A 3 cX5_leverHeight RX5 (some .int) := C
  have g0 := hpre
  show hs_Wd p l e 6 s m args below meth c D dA SHX ad A 3 (hs_PI (fun σ z σ1 => σ = σ1 ∧ 0 ≤ z ∧ z ≤ 7000 ∧ (σ 3 4 = 0 → z = 0)) σ) 0 [(0, .ref (ad 2))] [] σ
  refine s_iconst (pc := 0) C dX5_leverHeight_0 ?_
  refine s_istore_n (pc := 1) C [(1, vI 0), (0, .ref (ad 2))] dX5_leverHeight_1 (by decide) rfl ?_
  refine s_iconst (pc := 2) C dX5_leverHeight_2 ?_
  refine s_istore_n (pc := 3) C [(2, vI 0), (1, vI 0), (0, .ref (ad 2))] dX5_leverHeight_3 (by decide) rfl ?_
  refine s_sub C [2, 1, 0] [(0, .ref (ad 2)), (1, vI 0), (2, vI 0)] rfl ?_
  have hi4 : 0 ≤ (0 : Int) ∧ (0 : Int) ≤ 4 ∧ 0 ≤ (0 : Int) ∧ (0 : Int) ≤ 7000 ∧ (σ 3 4 = 0 → (0 : Int) = 0) := (by first | omega | assumption | (constructor <;> omega) | (refine ⟨⟨?_, ?_⟩, ?_⟩ <;> omega) | (simp [hs_ss, hs_up]; omega) | (simp [hs_ss, hs_up]; done))
  refine hs_loop (α := Int × Int) (fun x_ => (0 ≤ x_.1 ∧ x_.1 ≤ 4 ∧ 0 ≤ x_.2 ∧ x_.2 ≤ 7000 ∧ (σ 3 4 = 0 → x_.2 = 0)) → hs_Wd p l e 6 s m args below meth c D dA SHX ad A 3 (hs_PI (fun σ z σ1 => σ = σ1 ∧ 0 ≤ z ∧ z ≤ 7000 ∧ (σ 3 4 = 0 → z = 0)) σ) 4 [(0, .ref (ad 2)), (1, vI x_.2), (2, vI x_.1)] [] σ) (fun x_ => (5 - x_.1).toNat) ?_ (0, 0) hi4
  rintro ⟨w, gr⟩ ih4 hinv
  replace hinv : 0 ≤ w ∧ w ≤ 4 ∧ 0 ≤ gr ∧ gr ≤ 7000 ∧ (σ 3 4 = 0 → gr = 0) := hinv
  show hs_Wd p l e 6 s m args below meth c D dA SHX ad A 3 (hs_PI (fun σ z σ1 => σ = σ1 ∧ 0 ≤ z ∧ z ≤ 7000 ∧ (σ 3 4 = 0 → z = 0)) σ) 4 [(0, .ref (ad 2)), (1, vI gr), (2, vI w)] [] σ
  refine s_iload_n (pc := 4) C dX5_leverHeight_4 2 rfl ?_
  refine s_aload_n (pc := 5) C dX5_leverHeight_5 0 rfl ?_
  refine s_getr (q := 2) (ci := 5) (N := 3) (CN := RX5) (T := TX5) (pc := 6) C 0 dX5_leverHeight_6 wlX5_12 rfl rfl rfl wfX5 (by decide) rfl ?_
  refine s_getiN (q := 3) (ci := 8) (N := 7) (CN := RX8) (T := TX8) (pc := 9) C 4 dX5_leverHeight_9 wlX5_29 rfl rfl rfl wfX8 (by decide) rfl (σ 3 4) rfl ?_
  have b9 : (0 : Int) ≤ σ 3 4 ∧ σ 3 4 ≤ 4 := g0.1 3 4
  refine s_icmp_ge (pc := 12) C (tgt := 31) dX5_leverHeight_12 (by decide) ⟨by omega, by omega⟩ ⟨by omega, by omega⟩ (fun h12 => ?_) (fun h12 => ?_)
  · skip
    refine s_iload_n (pc := 31) C dX5_leverHeight_31 1 rfl ?_
    refine s_iret (pc := 32) C dX5_leverHeight_32 ?_
    refine ⟨_, rfl, ?_⟩
    exact ⟨rfl, by first | omega | assumption | (constructor <;> omega) | (refine ⟨⟨?_, ?_⟩, ?_⟩ <;> omega) | (simp [hs_ss, hs_up]; omega) | (simp [hs_ss, hs_up]; done)⟩
  · skip
    refine s_iload_n (pc := 15) C dX5_leverHeight_15 1 rfl ?_
    refine s_aload_n (pc := 16) C dX5_leverHeight_16 0 rfl ?_
    refine s_iload_n (pc := 17) C dX5_leverHeight_17 2 rfl ?_
    refine s_callVi (pc := 18) C (c_X5_radius l w (by first | omega | assumption | (constructor <;> omega) | (refine ⟨⟨?_, ?_⟩, ?_⟩ <;> omega) | (simp [hs_ss, hs_up]; omega) | (simp [hs_ss, hs_up]; done))) [vI w] [vI gr] rfl rfl dX5_leverHeight_18 wlX5_82 wiX5_radius weX5_radius wcX5_radius wnX5 noX5_radius (by decide) (by decide) (Nat.le_of_ble_eq_true rfl) (gx_self g0) rfl rfl ?_
    rintro z18 _ ⟨rfl, k18⟩
    show hs_Wd _ _ _ _ _ _ _ _ _ _ _ _ _ _ _ _ _ 21 _ [vI z18, vI gr] σ
    refine s_callSi (pc := 21) C (c_J9_max_7cf53 l gr z18 ⟨by omega, by omega⟩ ⟨by omega, by omega⟩) [vI gr, vI z18] [] rfl rfl dX5_leverHeight_21 wlX5_55 wtJ9_max_7cf53 wcJ9_max_7cf53 wnJ9 noJ9_max_7cf53 (by decide) (by decide) (Nat.le_of_ble_eq_true rfl) (by first | omega | assumption | (constructor <;> omega) | (refine ⟨⟨?_, ?_⟩, ?_⟩ <;> omega) | (simp [hs_ss, hs_up]; omega) | (simp [hs_ss, hs_up]; done)) ?_
    rintro _ _ ⟨rfl, rfl⟩
    show hs_Wd _ _ _ _ _ _ _ _ _ _ _ _ _ _ _ _ _ 24 _ [vI (max gr z18)] σ
    refine s_istore_n (pc := 24) C [(1, vI (max gr z18)), (0, .ref (ad 2)), (2, vI w)] dX5_leverHeight_24 (by decide) rfl ?_
    refine s_iinc (pc := 25) C [(2, vI (w + 1)), (1, vI (max gr z18)), (0, .ref (ad 2))] dX5_leverHeight_25 2 rfl (by decide) rfl ?_
    refine s_goto (pc := 28) C (tgt := 4) dX5_leverHeight_28 (by decide) ?_
    refine s_sub C [2, 1, 0] [(0, .ref (ad 2)), (1, vI (max gr z18)), (2, vI (w + 1))] rfl ?_
    have hi4 : 0 ≤ (w + 1) ∧ (w + 1) ≤ 4 ∧ 0 ≤ (max gr z18) ∧ (max gr z18) ≤ 7000 ∧ (σ 3 4 = 0 → (max gr z18) = 0) := (by first | omega | assumption | (constructor <;> omega) | (refine ⟨⟨?_, ?_⟩, ?_⟩ <;> omega) | (simp [hs_ss, hs_up]; omega) | (simp [hs_ss, hs_up]; done))
    exact ih4 (w + 1, max gr z18) (by first | omega | (simp only []; omega)) hi4
set_option maxHeartbeats 4000000 in
set_option maxRecDepth 100000 in
theorem c_X5_tryLever (l : Launch)  : hs_Met l yX5_tryLever cX5_tryLever 2 (some .int) 7 SHX (fun ad => [.ref (ad 2)]) (fun σ => GX σ σ) (hs_PI (fun σ z σ1 => σ = σ1 ∧ 0 ≤ z ∧ z ≤ 2 ∧ (σ 3 4 = 0 → σ 2 2 = 0 → z = 1))) := by
  refine hs_from pfX5_tryLever (fun _ => Nat.le_of_ble_eq_true rfl) ?_
  intro p e s m args below meth c D dA ad A σ C hpre
  have C : hs_C p s m args meth c D dA SHX ad A 2 cX5_tryLever RX5 (some .int) := C
  have g0 := hpre
  show hs_Wd p l e 7 s m args below meth c D dA SHX ad A 2 (hs_PI (fun σ z σ1 => σ = σ1 ∧ 0 ≤ z ∧ z ≤ 2 ∧ (σ 3 4 = 0 → σ 2 2 = 0 → z = 1)) σ) 0 [(0, .ref (ad 2))] [] σ
  refine s_aload_n (pc := 0) C dX5_tryLever_0 0 rfl ?_
  refine s_geti (q := 2) (ci := 5) (N := 3) (CN := RX5) (T := TX5) (pc := 1) C 2 dX5_tryLever_1 wlX5_39 rfl rfl rfl wfX5 (by decide) rfl (σ 2 2) rfl ?_
  have b1 : (0 : Int) ≤ σ 2 2 ∧ σ 2 2 ≤ 999 := g0.1 2 2
  refine s_if_ne (pc := 4) C (tgt := 14) dX5_tryLever_4 (by decide) ⟨by omega, by omega⟩ (fun h4 => ?_) (fun h4 => ?_)
  · skip
    refine s_iconst (pc := 14) C dX5_tryLever_14 ?_
    refine s_iret (pc := 15) C dX5_tryLever_15 ?_
    refine ⟨_, rfl, ?_⟩
    exact ⟨rfl, by first | omega | assumption | (constructor <;> omega) | (refine ⟨⟨?_, ?_⟩, ?_⟩ <;> omega) | (simp [hs_ss, hs_up]; omega) | (simp [hs_ss, hs_up]; done)⟩
  · skip
    refine s_aload_n (pc := 7) C dX5_tryLever_7 0 rfl ?_
    refine s_callVi (pc := 8) C (c_X5_leverHeight l) [] [] rfl rfl dX5_tryLever_8 wlX5_86 wiX5_leverHeight weX5_leverHeight wcX5_leverHeight wnX5 noX5_leverHeight (by decide) (by decide) (Nat.le_of_ble_eq_true rfl) (gx_self g0) rfl rfl ?_
    rintro z8 _ ⟨rfl, k8⟩
    show hs_Wd _ _ _ _ _ _ _ _ _ _ _ _ _ _ _ _ _ 11 _ [vI z8] σ
    refine s_if_eq (pc := 11) C (tgt := 16) dX5_tryLever_11 (by decide) ⟨by omega, by omega⟩ (fun h11 => ?_) (fun h11 => ?_)
    · skip
      refine s_iconst (pc := 16) C dX5_tryLever_16 ?_
      refine s_istore_n (pc := 17) C [(1, vI 0), (0, .ref (ad 2))] dX5_tryLever_17 (by decide) rfl ?_
      refine s_sub C [1, 0] [(0, .ref (ad 2)), (1, vI 0)] rfl ?_
      have hi18 : 0 ≤ (0 : Int) ∧ (0 : Int) ≤ 4 := (by first | omega | assumption | (constructor <;> omega) | (refine ⟨⟨?_, ?_⟩, ?_⟩ <;> omega) | (simp [hs_ss, hs_up]; omega) | (simp [hs_ss, hs_up]; done))
      refine hs_loop (α := Int) (fun x_ => (0 ≤ x_ ∧ x_ ≤ 4) → hs_Wd p l e 7 s m args below meth c D dA SHX ad A 2 (hs_PI (fun σ z σ1 => σ = σ1 ∧ 0 ≤ z ∧ z ≤ 2 ∧ (σ 3 4 = 0 → σ 2 2 = 0 → z = 1)) σ) 18 [(0, .ref (ad 2)), (1, vI x_)] [] σ) (fun x_ => (5 - x_).toNat) ?_ (0) hi18
      rintro w ih18 hinv
      replace hinv : 0 ≤ w ∧ w ≤ 4 := hinv
      show hs_Wd p l e 7 s m args below meth c D dA SHX ad A 2 (hs_PI (fun σ z σ1 => σ = σ1 ∧ 0 ≤ z ∧ z ≤ 2 ∧ (σ 3 4 = 0 → σ 2 2 = 0 → z = 1)) σ) 18 [(0, .ref (ad 2)), (1, vI w)] [] σ
      refine s_iload_n (pc := 18) C dX5_tryLever_18 1 rfl ?_
      refine s_aload_n (pc := 19) C dX5_tryLever_19 0 rfl ?_
      refine s_getr (q := 2) (ci := 5) (N := 3) (CN := RX5) (T := TX5) (pc := 20) C 0 dX5_tryLever_20 wlX5_12 rfl rfl rfl wfX5 (by decide) rfl ?_
      refine s_getiN (q := 3) (ci := 8) (N := 7) (CN := RX8) (T := TX8) (pc := 23) C 4 dX5_tryLever_23 wlX5_29 rfl rfl rfl wfX8 (by decide) rfl (σ 3 4) rfl ?_
      have b23 : (0 : Int) ≤ σ 3 4 ∧ σ 3 4 ≤ 4 := g0.1 3 4
      refine s_icmp_ge (pc := 26) C (tgt := 45) dX5_tryLever_26 (by decide) ⟨by omega, by omega⟩ ⟨by omega, by omega⟩ (fun h26 => ?_) (fun h26 => ?_)
      · skip
        refine s_iconst (pc := 45) C dX5_tryLever_45 ?_
        refine s_iret (pc := 46) C dX5_tryLever_46 ?_
        refine ⟨_, rfl, ?_⟩
        exact ⟨rfl, by first | omega | assumption | (constructor <;> omega) | (refine ⟨⟨?_, ?_⟩, ?_⟩ <;> omega) | (simp [hs_ss, hs_up]; omega) | (simp [hs_ss, hs_up]; done)⟩
      · skip
        refine s_aload_n (pc := 29) C dX5_tryLever_29 0 rfl ?_
        refine s_iload_n (pc := 30) C dX5_tryLever_30 1 rfl ?_
        refine s_callVi (pc := 31) C (c_X5_isInByGate l w (by first | omega | assumption | (constructor <;> omega) | (refine ⟨⟨?_, ?_⟩, ?_⟩ <;> omega) | (simp [hs_ss, hs_up]; omega) | (simp [hs_ss, hs_up]; done))) [vI w] [] rfl rfl dX5_tryLever_31 wlX5_90 wiX5_isInByGate weX5_isInByGate wcX5_isInByGate wnX5 noX5_isInByGate (by decide) (by decide) (Nat.le_of_ble_eq_true rfl) (gx_self g0) rfl rfl ?_
        rintro z31 _ ⟨rfl, k31⟩
        show hs_Wd _ _ _ _ _ _ _ _ _ _ _ _ _ _ _ _ _ 34 _ [vI z31] σ
        refine s_if_ne (pc := 34) C (tgt := 39) dX5_tryLever_34 (by decide) ⟨by omega, by omega⟩ (fun h34 => ?_) (fun h34 => ?_)
        · skip
          refine s_iinc (pc := 39) C [(1, vI (w + 1)), (0, .ref (ad 2))] dX5_tryLever_39 1 rfl (by decide) rfl ?_
          refine s_goto (pc := 42) C (tgt := 18) dX5_tryLever_42 (by decide) ?_
          refine s_sub C [1, 0] [(0, .ref (ad 2)), (1, vI (w + 1))] rfl ?_
          have hi18 : 0 ≤ (w + 1) ∧ (w + 1) ≤ 4 := (by first | omega | assumption | (constructor <;> omega) | (refine ⟨⟨?_, ?_⟩, ?_⟩ <;> omega) | (simp [hs_ss, hs_up]; omega) | (simp [hs_ss, hs_up]; done))
          exact ih18 (w + 1) (by first | omega | (simp only []; omega)) hi18
        · skip
          refine s_iconst (pc := 37) C dX5_tryLever_37 ?_
          refine s_iret (pc := 38) C dX5_tryLever_38 ?_
          refine ⟨_, rfl, ?_⟩
          exact ⟨rfl, by first | omega | assumption | (constructor <;> omega) | (refine ⟨⟨?_, ?_⟩, ?_⟩ <;> omega) | (simp [hs_ss, hs_up]; omega) | (simp [hs_ss, hs_up]; done)⟩
    · skip
      refine s_iconst (pc := 14) C dX5_tryLever_14 ?_
      refine s_iret (pc := 15) C dX5_tryLever_15 ?_
      refine ⟨_, rfl, ?_⟩
      exact ⟨rfl, by first | omega | assumption | (constructor <;> omega) | (refine ⟨⟨?_, ?_⟩, ?_⟩ <;> omega) | (simp [hs_ss, hs_up]; omega) | (simp [hs_ss, hs_up]; done)⟩
set_option maxHeartbeats 4000000 in
set_option maxRecDepth 100000 in
theorem c_X5_greatestHighBut (l : Launch) (n : Int) (hn : 0 ≤ n ∧ n < 4) : hs_Met l yX5_greatestHighBut cX5_greatestHighBut 4 (some .int) 3 SHX (fun ad => [.ref (ad 2), vI n]) (fun σ => GX σ σ) (hs_PI (fun σ z σ1 => σ = σ1 ∧ 0 ≤ z ∧ z ≤ 900)) := by
  refine hs_from pfX5_greatestHighBut (fun _ => Nat.le_of_ble_eq_true rfl) ?_
  intro p e s m args below meth c D dA ad A σ C hpre
  have C : hs_C p s m args meth c D dA SHX ad A 4 cX5_greatestHighBut RX5 (some .int) := C
  have g0 := hpre
  show hs_Wd p l e 3 s m args below meth c D dA SHX ad A 4 (hs_PI (fun σ z σ1 => σ = σ1 ∧ 0 ≤ z ∧ z ≤ 900) σ) 0 [(0, .ref (ad 2)), (1, vI n)] [] σ
  refine s_iconst (pc := 0) C dX5_greatestHighBut_0 ?_
  refine s_istore_n (pc := 1) C [(2, vI 0), (0, .ref (ad 2)), (1, vI n)] dX5_greatestHighBut_1 (by decide) rfl ?_
  refine s_iconst (pc := 2) C dX5_greatestHighBut_2 ?_
  refine s_istore_n (pc := 3) C [(3, vI 0), (2, vI 0), (0, .ref (ad 2)), (1, vI n)] dX5_greatestHighBut_3 (by decide) rfl ?_
  refine s_sub C [2, 3, 1, 0] [(0, .ref (ad 2)), (1, vI n), (2, vI 0), (3, vI 0)] rfl ?_
  have hi4 : 0 ≤ (0 : Int) ∧ (0 : Int) ≤ 4 ∧ 0 ≤ (0 : Int) ∧ (0 : Int) ≤ 900 := (by first | omega | assumption | (constructor <;> omega) | (refine ⟨⟨?_, ?_⟩, ?_⟩ <;> omega) | (simp [hs_ss, hs_up]; omega) | (simp [hs_ss, hs_up]; done))
  refine hs_loop (α := Int × Int) (fun x_ => (0 ≤ x_.1 ∧ x_.1 ≤ 4 ∧ 0 ≤ x_.2 ∧ x_.2 ≤ 900) → hs_Wd p l e 3 s m args below meth c D dA SHX ad A 4 (hs_PI (fun σ z σ1 => σ = σ1 ∧ 0 ≤ z ∧ z ≤ 900) σ) 4 [(0, .ref (ad 2)), (1, vI n), (2, vI x_.2), (3, vI x_.1)] [] σ) (fun x_ => (5 - x_.1).toNat) ?_ (0, 0) hi4
  rintro ⟨w, gr⟩ ih4 hinv
  replace hinv : 0 ≤ w ∧ w ≤ 4 ∧ 0 ≤ gr ∧ gr ≤ 900 := hinv
  show hs_Wd p l e 3 s m args below meth c D dA SHX ad A 4 (hs_PI (fun σ z σ1 => σ = σ1 ∧ 0 ≤ z ∧ z ≤ 900) σ) 4 [(0, .ref (ad 2)), (1, vI n), (2, vI gr), (3, vI w)] [] σ
  refine s_iload_n (pc := 4) C dX5_greatestHighBut_4 3 rfl ?_
  refine s_aload_n (pc := 5) C dX5_greatestHighBut_5 0 rfl ?_
  refine s_getr (q := 2) (ci := 5) (N := 3) (CN := RX5) (T := TX5) (pc := 6) C 0 dX5_greatestHighBut_6 wlX5_12 rfl rfl rfl wfX5 (by decide) rfl ?_
  refine s_getiN (q := 3) (ci := 8) (N := 7) (CN := RX8) (T := TX8) (pc := 9) C 4 dX5_greatestHighBut_9 wlX5_29 rfl rfl rfl wfX8 (by decide) rfl (σ 3 4) rfl ?_
  have b9 : (0 : Int) ≤ σ 3 4 ∧ σ 3 4 ≤ 4 := g0.1 3 4
  refine s_icmp_ge (pc := 12) C (tgt := 40) dX5_greatestHighBut_12 (by decide) ⟨by omega, by omega⟩ ⟨by omega, by omega⟩ (fun h12 => ?_) (fun h12 => ?_)
  · skip
    refine s_iload_n (pc := 40) C dX5_greatestHighBut_40 2 rfl ?_
    refine s_iret (pc := 41) C dX5_greatestHighBut_41 ?_
    refine ⟨_, rfl, ?_⟩
    exact ⟨rfl, by first | omega | assumption | (constructor <;> omega) | (refine ⟨⟨?_, ?_⟩, ?_⟩ <;> omega) | (simp [hs_ss, hs_up]; omega) | (simp [hs_ss, hs_up]; done)⟩
  · skip
    refine s_iload_n (pc := 15) C dX5_greatestHighBut_15 3 rfl ?_
    refine s_iload_n (pc := 16) C dX5_greatestHighBut_16 1 rfl ?_
    refine s_icmp_eq (pc := 17) C (tgt := 34) dX5_greatestHighBut_17 (by decide) ⟨by omega, by omega⟩ ⟨by omega, by omega⟩ (fun h17 => ?_) (fun h17 => ?_)
    · skip
      refine s_iinc (pc := 34) C [(3, vI (w + 1)), (0, .ref (ad 2)), (1, vI n), (2, vI gr)] dX5_greatestHighBut_34 3 rfl (by decide) rfl ?_
      refine s_goto (pc := 37) C (tgt := 4) dX5_greatestHighBut_37 (by decide) ?_
      refine s_sub C [1, 2, 3, 0] [(0, .ref (ad 2)), (1, vI n), (2, vI gr), (3, vI (w + 1))] rfl ?_
      have hi4 : 0 ≤ (w + 1) ∧ (w + 1) ≤ 4 ∧ 0 ≤ gr ∧ gr ≤ 900 := (by first | omega | assumption | (constructor <;> omega) | (refine ⟨⟨?_, ?_⟩, ?_⟩ <;> omega) | (simp [hs_ss, hs_up]; omega) | (simp [hs_ss, hs_up]; done))
      exact ih4 (w + 1, gr) (by first | omega | (simp only []; omega)) hi4
    · skip
      refine s_iload_n (pc := 20) C dX5_greatestHighBut_20 2 rfl ?_
      refine s_aload_n (pc := 21) C dX5_greatestHighBut_21 0 rfl ?_
      refine s_getr (q := 2) (ci := 5) (N := 3) (CN := RX5) (T := TX5) (pc := 22) C 1 dX5_greatestHighBut_22 wlX5_20 rfl rfl rfl wfX5 (by decide) rfl ?_
      refine s_iload_n (pc := 25) C dX5_greatestHighBut_25 3 rfl ?_
      refine s_aldq (q := 7) (pc := 26) C dX5_greatestHighBut_26 rfl (by omega) (by show _ < (4 : Int); omega) (by decide) ?_
      rw [show ((_ : List (Nat × Nat)).getD w.toNat (0, 0)).2 = 8 + w.toNat from hs_ref4 (by omega) (by omega)]
      refine s_getiN (q := (8 + w.toNat)) (ci := 9) (N := 9) (CN := RX9) (T := TX9) (pc := 27) C 5 dX5_greatestHighBut_27 wlX5_42 (sh_Wh (by omega)) rfl rfl wfX9 (by decide) rfl (σ (8 + w.toNat) 5) rfl ?_
      have b27 : (0 : Int) ≤ σ (8 + w.toNat) 5 ∧ σ (8 + w.toNat) 5 ≤ 900 := gx_w g0 (show (w).toNat < 4 by omega) 5
      refine s_callSi (pc := 30) C (c_J9_max_7cf53 l gr (σ (8 + w.toNat) 5) ⟨by omega, by omega⟩ ⟨by omega, by omega⟩) [vI gr, vI (σ (8 + w.toNat) 5)] [] rfl rfl dX5_greatestHighBut_30 wlX5_55 wtJ9_max_7cf53 wcJ9_max_7cf53 wnJ9 noJ9_max_7cf53 (by decide) (by decide) (Nat.le_of_ble_eq_true rfl) (by first | omega | assumption | (constructor <;> omega) | (refine ⟨⟨?_, ?_⟩, ?_⟩ <;> omega) | (simp [hs_ss, hs_up]; omega) | (simp [hs_ss, hs_up]; done)) ?_
      rintro _ _ ⟨rfl, rfl⟩
      show hs_Wd _ _ _ _ _ _ _ _ _ _ _ _ _ _ _ _ _ 33 _ [vI (max gr ((σ (8 + w.toNat) 5)))] σ
      refine s_istore_n (pc := 33) C [(2, vI (max gr ((σ (8 + w.toNat) 5)))), (0, .ref (ad 2)), (1, vI n), (3, vI w)] dX5_greatestHighBut_33 (by decide) rfl ?_
      refine s_iinc (pc := 34) C [(3, vI (w + 1)), (2, vI (max gr ((σ (8 + w.toNat) 5)))), (0, .ref (ad 2)), (1, vI n)] dX5_greatestHighBut_34 3 rfl (by decide) rfl ?_
      refine s_goto (pc := 37) C (tgt := 4) dX5_greatestHighBut_37 (by decide) ?_
      refine s_sub C [2, 3, 1, 0] [(0, .ref (ad 2)), (1, vI n), (2, vI (max gr ((σ (8 + w.toNat) 5)))), (3, vI (w + 1))] rfl ?_
      have hi4 : 0 ≤ (w + 1) ∧ (w + 1) ≤ 4 ∧ 0 ≤ (max gr ((σ (8 + w.toNat) 5))) ∧ (max gr ((σ (8 + w.toNat) 5))) ≤ 900 := (by first | omega | assumption | (constructor <;> omega) | (refine ⟨⟨?_, ?_⟩, ?_⟩ <;> omega) | (simp [hs_ss, hs_up]; omega) | (simp [hs_ss, hs_up]; done))
      exact ih4 (w + 1, max gr ((σ (8 + w.toNat) 5))) (by first | omega | (simp only []; omega)) hi4
set_option maxHeartbeats 4000000 in
set_option maxRecDepth 100000 in
theorem c_X1_note (l : Launch)  : hs_Met l yX1_note cX1_note 3 none 8 SHX (fun ad => [.ref (ad 12), .ref (ad 2)]) (fun σ => GX σ σ) (hs_PV (fun σ σ1 => GX σ σ1 ∧ FRM PNote σ σ1 ∧ σ1 12 3 = σ 12 3)) := by
  refine hs_from pfX1_note (fun _ => Nat.le_of_ble_eq_true rfl) ?_
  intro p e s m args below meth c D dA ad A σ C hpre
  have C : hs_C p s m args meth c D dA SHX ad A 3 cX1_note RX1 none := C
  have g0 := hpre
  have f0 : FRM PNote σ σ := frm_rf
  show hs_Wd p l e 8 s m args below meth c D dA SHX ad A 3 (hs_PV (fun σ σ1 => GX σ σ1 ∧ FRM PNote σ σ1 ∧ σ1 12 3 = σ 12 3) σ) 0 [(0, .ref (ad 12)), (1, .ref (ad 2))] [] σ
  refine s_aload_n (pc := 0) C dX1_note_0 0 rfl ?_
  refine s_geti (q := 12) (ci := 1) (N := 4) (CN := RX1) (T := TX1) (pc := 1) C 2 dX1_note_1 wlX1_18 rfl rfl rfl wfX1 (by decide) rfl (σ 12 2) rfl ?_
  have b1 : (0 : Int) ≤ σ 12 2 ∧ σ 12 2 ≤ 100 := g0.1 12 2
  refine s_bipush (pc := 4) C dX1_note_4 (by decide) ?_
  refine s_icmp_lt (pc := 6) C (tgt := 10) dX1_note_6 (by decide) ⟨by omega, by omega⟩ ⟨by decide, by decide⟩ (fun h6 => ?_) (fun h6 => ?_)
  · skip
    refine s_aload_n (pc := 10) C dX1_note_10 0 rfl ?_
    refine s_getr (q := 12) (ci := 1) (N := 4) (CN := RX1) (T := TX1) (pc := 11) C 0 dX1_note_11 wlX1_11 rfl rfl rfl wfX1 (by decide) rfl ?_
    refine s_aload_n (pc := 14) C dX1_note_14 0 rfl ?_
    refine s_geti (q := 12) (ci := 1) (N := 4) (CN := RX1) (T := TX1) (pc := 15) C 2 dX1_note_15 wlX1_18 rfl rfl rfl wfX1 (by decide) rfl (σ 12 2) rfl ?_
    have b15 : (0 : Int) ≤ σ 12 2 ∧ σ 12 2 ≤ 100 := g0.1 12 2
    refine s_aload_n (pc := 18) C dX1_note_18 1 rfl ?_
    refine s_callVNi (pc := 19) C (c_X5_leverHeight l) [] [vI (σ 12 2), .ref (ad 13)] rfl rfl dX1_note_19 wlX1_22 wiX5_leverHeight weX5_leverHeight wcX5_leverHeight wnX5 noX5_leverHeight (by decide) (by decide) (Nat.le_of_ble_eq_true rfl) (gx_self g0) rfl rfl ?_
    rintro z19 _ ⟨rfl, k19⟩
    show hs_Wd _ _ _ _ _ _ _ _ _ _ _ _ _ _ _ _ _ 22 _ [vI z19, vI (σ 12 2), .ref (ad 13)] σ
    refine s_iast (q := 13) (n := 100) (pc := 22) C dX1_note_22 rfl (by omega) (by omega) (by decide) ?_
    have g22 := gx_set (z := z19) g0 13 ((σ 12 2).toNat) rfl (-10000) (10000) rfl ⟨by omega, by omega⟩
    have f22 := frm_set (P := PNote) (z := z19) f0 13 ((σ 12 2).toNat) rfl
    refine s_iconst (pc := 23) C dX1_note_23 ?_
    refine s_istore_n (pc := 24) C [(2, vI 0), (0, .ref (ad 12)), (1, .ref (ad 2))] dX1_note_24 (by decide) rfl ?_
    refine s_sub C [1, 2, 0] [(0, .ref (ad 12)), (1, .ref (ad 2)), (2, vI 0)] rfl ?_
    have hi25 : GX σ ((hs_ss σ 13 ((σ 12 2).toNat) z19)) ∧ FRM PNote σ ((hs_ss σ 13 ((σ 12 2).toNat) z19)) ∧ 0 ≤ (0 : Int) ∧ (0 : Int) ≤ 4 ∧ ((hs_ss σ 13 ((σ 12 2).toNat) z19)) 12 2 = σ 12 2 ∧ ((hs_ss σ 13 ((σ 12 2).toNat) z19)) 12 3 = σ 12 3 := ⟨g22, f22, ⟨by omega, by omega, rfl, rfl⟩⟩
    refine hs_loop (α := Int × hs_S) (fun x_ => (GX σ x_.2 ∧ FRM PNote σ x_.2 ∧ 0 ≤ x_.1 ∧ x_.1 ≤ 4 ∧ x_.2 12 2 = σ 12 2 ∧ x_.2 12 3 = σ 12 3) → hs_Wd p l e 8 s m args below meth c D dA SHX ad A 3 (hs_PV (fun σ σ1 => GX σ σ1 ∧ FRM PNote σ σ1 ∧ σ1 12 3 = σ 12 3) σ) 25 [(0, .ref (ad 12)), (1, .ref (ad 2)), (2, vI x_.1)] [] x_.2) (fun x_ => (5 - x_.1).toNat) ?_ (0, (hs_ss σ 13 ((σ 12 2).toNat) z19)) hi25
    rintro ⟨w, σ1⟩ ih25 hinv
    replace hinv : GX σ σ1 ∧ FRM PNote σ σ1 ∧ 0 ≤ w ∧ w ≤ 4 ∧ σ1 12 2 = σ 12 2 ∧ σ1 12 3 = σ 12 3 := hinv
    obtain ⟨hg25, hf25, hv25⟩ := hinv
    show hs_Wd p l e 8 s m args below meth c D dA SHX ad A 3 (hs_PV (fun σ σ1 => GX σ σ1 ∧ FRM PNote σ σ1 ∧ σ1 12 3 = σ 12 3) σ) 25 [(0, .ref (ad 12)), (1, .ref (ad 2)), (2, vI w)] [] σ1
    refine s_iload_n (pc := 25) C dX1_note_25 2 rfl ?_
    refine s_iconst (pc := 26) C dX1_note_26 ?_
    refine s_icmp_ge (pc := 27) C (tgt := 58) dX1_note_27 (by decide) ⟨by omega, by omega⟩ ⟨by decide, by decide⟩ (fun h27 => ?_) (fun h27 => ?_)
    · skip
      refine s_aload_n (pc := 58) C dX1_note_58 0 rfl ?_
      refine s_dup (pc := 59) C dX1_note_59 rfl ?_
      refine s_geti (q := 12) (ci := 1) (N := 4) (CN := RX1) (T := TX1) (pc := 60) C 2 dX1_note_60 wlX1_18 rfl rfl rfl wfX1 (by decide) rfl (σ1 12 2) rfl ?_
      have b60 : (0 : Int) ≤ σ1 12 2 ∧ σ1 12 2 ≤ 100 := hg25.1 12 2
      refine s_iconst (pc := 63) C dX1_note_63 ?_
      refine s_iadd (pc := 64) C dX1_note_64 ?_
      refine s_puti (q := 12) (ci := 1) (N := 4) (CN := RX1) (T := TX1) (ty0 := tyX1) (ty := .int) (pc := 65) C 2 dX1_note_65 wlX1_18 rfl rfl rfl wfX1 tyX1_ok nmX1 (by decide) rfl rfl rfl (vp_nar_int _) rfl ?_
      have g65 := gx_set (z := ((σ1 12 2) + 1)) hg25 12 2 rfl (0) (100) rfl ⟨by omega, by omega⟩
      have f65 := frm_set (P := PNote) (z := ((σ1 12 2) + 1)) hf25 12 2 rfl
      refine s_vret (pc := 68) C dX1_note_68 ?_
      refine ⟨rfl, ?_⟩
      exact ⟨g65, f65, hv25.2.2.2⟩
    · skip
      refine s_aload_n (pc := 30) C dX1_note_30 0 rfl ?_
      refine s_getr (q := 12) (ci := 1) (N := 4) (CN := RX1) (T := TX1) (pc := 31) C 1 dX1_note_31 wlX1_15 rfl rfl rfl wfX1 (by decide) rfl ?_
      refine s_aload_n (pc := 34) C dX1_note_34 0 rfl ?_
      refine s_geti (q := 12) (ci := 1) (N := 4) (CN := RX1) (T := TX1) (pc := 35) C 2 dX1_note_35 wlX1_18 rfl rfl rfl wfX1 (by decide) rfl (σ1 12 2) rfl ?_
      have b35 : (0 : Int) ≤ σ1 12 2 ∧ σ1 12 2 ≤ 100 := hg25.1 12 2
      refine s_iconst (pc := 38) C dX1_note_38 ?_
      refine s_imul (pc := 39) C dX1_note_39 ?_
      refine s_iload_n (pc := 40) C dX1_note_40 2 rfl ?_
      refine s_iadd (pc := 41) C dX1_note_41 ?_
      refine s_aload_n (pc := 42) C dX1_note_42 1 rfl ?_
      refine s_getrN (q := 2) (ci := 5) (N := 3) (CN := RX5) (T := TX5) (pc := 43) C 0 dX1_note_43 wlX1_28 rfl rfl rfl wfX5 (by decide) rfl ?_
      refine s_getrN (q := 3) (ci := 8) (N := 7) (CN := RX8) (T := TX8) (pc := 46) C 2 dX1_note_46 wlX1_32 rfl rfl rfl wfX8 (by decide) rfl ?_
      refine s_iload_n (pc := 49) C dX1_note_49 2 rfl ?_
      refine s_iald (q := 6) (n := 4) (pc := 50) C (σ1 6 w.toNat) rfl dX1_note_50 rfl (by omega) (by omega) (by decide) ?_
      have b50 : (0 : Int) ≤ σ1 6 w.toNat ∧ σ1 6 w.toNat ≤ 99 := hg25.1 6 w.toNat
      refine s_iast (q := 14) (n := 400) (pc := 51) C dX1_note_51 rfl (by omega) (by omega) (by decide) ?_
      have g51 := gx_set (z := (σ1 6 w.toNat)) hg25 14 ((((σ1 12 2) * 4) + w).toNat) rfl (0) (99) rfl ⟨by omega, by omega⟩
      have f51 := frm_set (P := PNote) (z := (σ1 6 w.toNat)) hf25 14 ((((σ1 12 2) * 4) + w).toNat) rfl
      refine s_iinc (pc := 52) C [(2, vI (w + 1)), (0, .ref (ad 12)), (1, .ref (ad 2))] dX1_note_52 2 rfl (by decide) rfl ?_
      refine s_goto (pc := 55) C (tgt := 25) dX1_note_55 (by decide) ?_
      refine s_sub C [1, 2, 0] [(0, .ref (ad 12)), (1, .ref (ad 2)), (2, vI (w + 1))] rfl ?_
      have hi25 : GX σ ((hs_ss σ1 14 ((((σ1 12 2) * 4) + w).toNat) (σ1 6 w.toNat))) ∧ FRM PNote σ ((hs_ss σ1 14 ((((σ1 12 2) * 4) + w).toNat) (σ1 6 w.toNat))) ∧ 0 ≤ (w + 1) ∧ (w + 1) ≤ 4 ∧ ((hs_ss σ1 14 ((((σ1 12 2) * 4) + w).toNat) (σ1 6 w.toNat))) 12 2 = σ 12 2 ∧ ((hs_ss σ1 14 ((((σ1 12 2) * 4) + w).toNat) (σ1 6 w.toNat))) 12 3 = σ 12 3 := ⟨g51, f51, ⟨by omega, by omega, hv25.2.2.1, hv25.2.2.2⟩⟩
      exact ih25 (w + 1, (hs_ss σ1 14 ((((σ1 12 2) * 4) + w).toNat) (σ1 6 w.toNat))) (by first | omega | (simp only []; omega)) hi25
  · skip
    refine s_vret (pc := 9) C dX1_note_9 ?_
    refine ⟨rfl, ?_⟩
    exact ⟨g0, f0, rfl⟩
set_option maxHeartbeats 4000000 in
set_option maxRecDepth 100000 in
theorem c_X1_placeOf (l : Launch) (k w : Int) (hk : 0 ≤ k ∧ k < 100) (hw : 0 ≤ w ∧ w < 4) : hs_Met l yX1_placeOf cX1_placeOf 3 (some .int) 1 SHX (fun ad => [.ref (ad 12), vI k, vI w]) (fun σ => GX σ σ) (hs_PI (fun σ z σ1 => σ = σ1 ∧ 0 ≤ z ∧ z ≤ 99)) := by
  refine hs_from pfX1_placeOf (fun _ => Nat.le_of_ble_eq_true rfl) ?_
  intro p e s m args below meth c D dA ad A σ C hpre
  have C : hs_C p s m args meth c D dA SHX ad A 3 cX1_placeOf RX1 (some .int) := C
  have g0 := hpre
  show hs_Wd p l e 1 s m args below meth c D dA SHX ad A 3 (hs_PI (fun σ z σ1 => σ = σ1 ∧ 0 ≤ z ∧ z ≤ 99) σ) 0 [(0, .ref (ad 12)), (1, vI k), (2, vI w)] [] σ
  refine s_aload_n (pc := 0) C dX1_placeOf_0 0 rfl ?_
  refine s_getr (q := 12) (ci := 1) (N := 4) (CN := RX1) (T := TX1) (pc := 1) C 1 dX1_placeOf_1 wlX1_15 rfl rfl rfl wfX1 (by decide) rfl ?_
  refine s_iload_n (pc := 4) C dX1_placeOf_4 1 rfl ?_
  refine s_iconst (pc := 5) C dX1_placeOf_5 ?_
  refine s_imul (pc := 6) C dX1_placeOf_6 ?_
  refine s_iload_n (pc := 7) C dX1_placeOf_7 2 rfl ?_
  refine s_iadd (pc := 8) C dX1_placeOf_8 ?_
  refine s_iald (q := 14) (n := 400) (pc := 9) C (σ 14 (((k * 4) + w).toNat)) rfl dX1_placeOf_9 rfl (by omega) (by omega) (by decide) ?_
  have b9 : (0 : Int) ≤ σ 14 (((k * 4) + w).toNat) ∧ σ 14 (((k * 4) + w).toNat) ≤ 99 := g0.1 14 (((k * 4) + w).toNat)
  refine s_iret (pc := 10) C dX1_placeOf_10 ?_
  refine ⟨_, rfl, ?_⟩
  exact ⟨rfl, by first | omega | assumption | (constructor <;> omega) | (refine ⟨⟨?_, ?_⟩, ?_⟩ <;> omega) | (simp [hs_ss, hs_up]; omega) | (simp [hs_ss, hs_up]; done)⟩
set_option maxHeartbeats 4000000 in
set_option maxRecDepth 100000 in
theorem c_X0_note (l : Launch) (w d n : Int) (hw : 0 ≤ w ∧ w < 4) (hd : 0 ≤ d ∧ d ≤ 999) (hn : 0 ≤ n ∧ n ≤ 99) : hs_Met l yX0_note cX0_note 4 (some .boolean) 1 SHX (fun ad => [.ref (ad 44), vI w, vI d, vI n]) (fun σ => GX σ σ) (hs_PI (fun σ z σ1 => GX σ σ1 ∧ (z = 0 ∨ z = 1))) := by
  refine hs_from pfX0_note (fun _ => Nat.le_of_ble_eq_true rfl) ?_
  intro p e s m args below meth c D dA ad A σ C hpre
  have C : hs_C p s m args meth c D dA SHX ad A 4 cX0_note RX0 (some .boolean) := C
  have g0 := hpre
  show hs_Wd p l e 1 s m args below meth c D dA SHX ad A 4 (hs_PI (fun σ z σ1 => GX σ σ1 ∧ (z = 0 ∨ z = 1)) σ) 0 [(0, .ref (ad 44)), (1, vI w), (2, vI d), (3, vI n)] [] σ
  refine s_aload_n (pc := 0) C dX0_note_0 0 rfl ?_
  refine s_geti (q := 44) (ci := 0) (N := 4) (CN := RX0) (T := TX0) (pc := 1) C 3 dX0_note_1 wlX0_19 rfl rfl rfl wfX0 (by decide) rfl (σ 44 3) rfl ?_
  have b1 : (0 : Int) ≤ σ 44 3 ∧ σ 44 3 ≤ 512 := g0.1 44 3
  refine s_sipush (pc := 4) C dX0_note_4 (by decide) ?_
  refine s_icmp_lt (pc := 7) C (tgt := 12) dX0_note_7 (by decide) ⟨by omega, by omega⟩ ⟨by decide, by decide⟩ (fun h7 => ?_) (fun h7 => ?_)
  · skip
    refine s_aload_n (pc := 12) C dX0_note_12 0 rfl ?_
    refine s_getr (q := 44) (ci := 0) (N := 4) (CN := RX0) (T := TX0) (pc := 13) C 0 dX0_note_13 wlX0_9 rfl rfl rfl wfX0 (by decide) rfl ?_
    refine s_aload_n (pc := 16) C dX0_note_16 0 rfl ?_
    refine s_geti (q := 44) (ci := 0) (N := 4) (CN := RX0) (T := TX0) (pc := 17) C 3 dX0_note_17 wlX0_19 rfl rfl rfl wfX0 (by decide) rfl (σ 44 3) rfl ?_
    have b17 : (0 : Int) ≤ σ 44 3 ∧ σ 44 3 ≤ 512 := g0.1 44 3
    refine s_iload_n (pc := 20) C dX0_note_20 1 rfl ?_
    refine s_iast (q := 45) (n := 512) (pc := 21) C dX0_note_21 rfl (by omega) (by omega) (by decide) ?_
    have g21 := gx_set (z := w) g0 45 ((σ 44 3).toNat) rfl (0) (3) rfl ⟨by omega, by omega⟩
    refine s_aload_n (pc := 22) C dX0_note_22 0 rfl ?_
    refine s_getr (q := 44) (ci := 0) (N := 4) (CN := RX0) (T := TX0) (pc := 23) C 1 dX0_note_23 wlX0_13 rfl rfl rfl wfX0 (by decide) rfl ?_
    refine s_aload_n (pc := 26) C dX0_note_26 0 rfl ?_
    refine s_geti (q := 44) (ci := 0) (N := 4) (CN := RX0) (T := TX0) (pc := 27) C 3 dX0_note_27 wlX0_19 rfl rfl rfl wfX0 (by decide) rfl (σ 44 3) rfl ?_
    have b27 : (0 : Int) ≤ σ 44 3 ∧ σ 44 3 ≤ 512 := g21.1 44 3
    refine s_iload_n (pc := 30) C dX0_note_30 2 rfl ?_
    refine s_iast (q := 46) (n := 512) (pc := 31) C dX0_note_31 rfl (by omega) (by omega) (by decide) ?_
    have g31 := gx_set (z := d) g21 46 ((σ 44 3).toNat) rfl (0) (999) rfl ⟨by omega, by omega⟩
    refine s_aload_n (pc := 32) C dX0_note_32 0 rfl ?_
    refine s_getr (q := 44) (ci := 0) (N := 4) (CN := RX0) (T := TX0) (pc := 33) C 2 dX0_note_33 wlX0_16 rfl rfl rfl wfX0 (by decide) rfl ?_
    refine s_aload_n (pc := 36) C dX0_note_36 0 rfl ?_
    refine s_geti (q := 44) (ci := 0) (N := 4) (CN := RX0) (T := TX0) (pc := 37) C 3 dX0_note_37 wlX0_19 rfl rfl rfl wfX0 (by decide) rfl (σ 44 3) rfl ?_
    have b37 : (0 : Int) ≤ σ 44 3 ∧ σ 44 3 ≤ 512 := g31.1 44 3
    refine s_iload_n (pc := 40) C dX0_note_40 3 rfl ?_
    refine s_iast (q := 47) (n := 512) (pc := 41) C dX0_note_41 rfl (by omega) (by omega) (by decide) ?_
    have g41 := gx_set (z := n) g31 47 ((σ 44 3).toNat) rfl (0) (99) rfl ⟨by omega, by omega⟩
    refine s_aload_n (pc := 42) C dX0_note_42 0 rfl ?_
    refine s_dup (pc := 43) C dX0_note_43 rfl ?_
    refine s_geti (q := 44) (ci := 0) (N := 4) (CN := RX0) (T := TX0) (pc := 44) C 3 dX0_note_44 wlX0_19 rfl rfl rfl wfX0 (by decide) rfl (σ 44 3) rfl ?_
    have b44 : (0 : Int) ≤ σ 44 3 ∧ σ 44 3 ≤ 512 := g41.1 44 3
    refine s_iconst (pc := 47) C dX0_note_47 ?_
    refine s_iadd (pc := 48) C dX0_note_48 ?_
    refine s_puti (q := 44) (ci := 0) (N := 4) (CN := RX0) (T := TX0) (ty0 := tyX0) (ty := .int) (pc := 49) C 3 dX0_note_49 wlX0_19 rfl rfl rfl wfX0 tyX0_ok nmX0 (by decide) rfl rfl rfl (vp_nar_int _) rfl ?_
    have g49 := gx_set (z := ((σ 44 3) + 1)) g41 44 3 rfl (0) (512) rfl ⟨by omega, by omega⟩
    refine s_iconst (pc := 52) C dX0_note_52 ?_
    refine s_zret (pc := 53) C (by omega) dX0_note_53 ?_
    refine ⟨_, rfl, ?_⟩
    exact ⟨g49, by first | omega | assumption | (constructor <;> omega) | (refine ⟨⟨?_, ?_⟩, ?_⟩ <;> omega) | (simp [hs_ss, hs_up]; omega) | (simp [hs_ss, hs_up]; done)⟩
  · skip
    refine s_iconst (pc := 10) C dX0_note_10 ?_
    refine s_zret (pc := 11) C (by omega) dX0_note_11 ?_
    refine ⟨_, rfl, ?_⟩
    exact ⟨g0, by first | omega | assumption | (constructor <;> omega) | (refine ⟨⟨?_, ?_⟩, ?_⟩ <;> omega) | (simp [hs_ss, hs_up]; omega) | (simp [hs_ss, hs_up]; done)⟩
set_option maxHeartbeats 4000000 in
set_option maxRecDepth 100000 in
theorem c_X0_gateAtEndOf (l : Launch) (d w n : Int) (hd : hs_R d) (hw : hs_R w) (hn : 0 ≤ n ∧ n ≤ 99) : hs_Met l yX0_gateAtEndOf cX0_gateAtEndOf 5 (some .int) 1 SHX (fun ad => [.ref (ad 44), vI d, vI w, vI n]) (fun σ => GX σ σ) (hs_PI (fun σ z σ1 => σ = σ1 ∧ 0 ≤ z ∧ z ≤ 99)) := by
  refine hs_from pfX0_gateAtEndOf (fun _ => Nat.le_of_ble_eq_true rfl) ?_
  intro p e s m args below meth c D dA ad A σ C hpre
  have C : hs_C p s m args meth c D dA SHX ad A 5 cX0_gateAtEndOf RX0 (some .int) := C
  have g0 := hpre
  show hs_Wd p l e 1 s m args below meth c D dA SHX ad A 5 (hs_PI (fun σ z σ1 => σ = σ1 ∧ 0 ≤ z ∧ z ≤ 99) σ) 0 [(0, .ref (ad 44)), (1, vI d), (2, vI w), (3, vI n)] [] σ
  refine s_aload_n (pc := 0) C dX0_gateAtEndOf_0 0 rfl ?_
  refine s_geti (q := 44) (ci := 0) (N := 4) (CN := RX0) (T := TX0) (pc := 1) C 3 dX0_gateAtEndOf_1 wlX0_19 rfl rfl rfl wfX0 (by decide) rfl (σ 44 3) rfl ?_
  have b1 : (0 : Int) ≤ σ 44 3 ∧ σ 44 3 ≤ 512 := g0.1 44 3
  refine s_iconst (pc := 4) C dX0_gateAtEndOf_4 ?_
  refine s_isub (pc := 5) C dX0_gateAtEndOf_5 ?_
  refine s_istore (pc := 6) C [(4, vI ((σ 44 3) - 1)), (0, .ref (ad 44)), (1, vI d), (2, vI w), (3, vI n)] dX0_gateAtEndOf_6 (by decide) rfl ?_
  refine s_sub C [1, 2, 3, 4, 0] [(0, .ref (ad 44)), (1, vI d), (2, vI w), (3, vI n), (4, vI ((σ 44 3) - 1))] rfl ?_
  have hi8 : -1 ≤ ((σ 44 3) - 1) ∧ ((σ 44 3) - 1) ≤ 511 := (by first | omega | assumption | (constructor <;> omega) | (refine ⟨⟨?_, ?_⟩, ?_⟩ <;> omega) | (simp [hs_ss, hs_up]; omega) | (simp [hs_ss, hs_up]; done))
  refine hs_loop (α := Int) (fun x_ => (-1 ≤ x_ ∧ x_ ≤ 511) → hs_Wd p l e 1 s m args below meth c D dA SHX ad A 5 (hs_PI (fun σ z σ1 => σ = σ1 ∧ 0 ≤ z ∧ z ≤ 99) σ) 8 [(0, .ref (ad 44)), (1, vI d), (2, vI w), (3, vI n), (4, vI x_)] [] σ) (fun x_ => (x_ + 1).toNat) ?_ ((σ 44 3) - 1) hi8
  rintro k ih8 hinv
  replace hinv : -1 ≤ k ∧ k ≤ 511 := hinv
  show hs_Wd p l e 1 s m args below meth c D dA SHX ad A 5 (hs_PI (fun σ z σ1 => σ = σ1 ∧ 0 ≤ z ∧ z ≤ 99) σ) 8 [(0, .ref (ad 44)), (1, vI d), (2, vI w), (3, vI n), (4, vI k)] [] σ
  refine s_iload (pc := 8) C dX0_gateAtEndOf_8 4 rfl ?_
  refine s_if_lt (pc := 10) C (tgt := 49) dX0_gateAtEndOf_10 (by decide) ⟨by omega, by omega⟩ (fun h10 => ?_) (fun h10 => ?_)
  · skip
    refine s_iload_n (pc := 49) C dX0_gateAtEndOf_49 3 rfl ?_
    refine s_iret (pc := 50) C dX0_gateAtEndOf_50 ?_
    refine ⟨_, rfl, ?_⟩
    exact ⟨rfl, by first | omega | assumption | (constructor <;> omega) | (refine ⟨⟨?_, ?_⟩, ?_⟩ <;> omega) | (simp [hs_ss, hs_up]; omega) | (simp [hs_ss, hs_up]; done)⟩
  · skip
    refine s_aload_n (pc := 13) C dX0_gateAtEndOf_13 0 rfl ?_
    refine s_getr (q := 44) (ci := 0) (N := 4) (CN := RX0) (T := TX0) (pc := 14) C 0 dX0_gateAtEndOf_14 wlX0_9 rfl rfl rfl wfX0 (by decide) rfl ?_
    refine s_iload (pc := 17) C dX0_gateAtEndOf_17 4 rfl ?_
    refine s_iald (q := 45) (n := 512) (pc := 19) C (σ 45 k.toNat) rfl dX0_gateAtEndOf_19 rfl (by omega) (by omega) (by decide) ?_
    have b19 : (0 : Int) ≤ σ 45 k.toNat ∧ σ 45 k.toNat ≤ 3 := g0.1 45 k.toNat
    refine s_iload_n (pc := 20) C dX0_gateAtEndOf_20 2 rfl ?_
    refine s_icmp_ne (pc := 21) C (tgt := 43) dX0_gateAtEndOf_21 (by decide) ⟨by omega, by omega⟩ ⟨by omega, by omega⟩ (fun h21 => ?_) (fun h21 => ?_)
    · skip
      refine s_iinc (pc := 43) C [(4, vI (k + (-1))), (0, .ref (ad 44)), (1, vI d), (2, vI w), (3, vI n)] dX0_gateAtEndOf_43 4 rfl (by decide) rfl ?_
      refine s_goto (pc := 46) C (tgt := 8) dX0_gateAtEndOf_46 (by decide) ?_
      refine s_sub C [1, 2, 3, 4, 0] [(0, .ref (ad 44)), (1, vI d), (2, vI w), (3, vI n), (4, vI (k + (-1)))] rfl ?_
      have hi8 : -1 ≤ (k + (-1)) ∧ (k + (-1)) ≤ 511 := (by first | omega | assumption | (constructor <;> omega) | (refine ⟨⟨?_, ?_⟩, ?_⟩ <;> omega) | (simp [hs_ss, hs_up]; omega) | (simp [hs_ss, hs_up]; done))
      exact ih8 (k + (-1)) (by first | omega | (simp only []; omega)) hi8
    · skip
      refine s_aload_n (pc := 24) C dX0_gateAtEndOf_24 0 rfl ?_
      refine s_getr (q := 44) (ci := 0) (N := 4) (CN := RX0) (T := TX0) (pc := 25) C 1 dX0_gateAtEndOf_25 wlX0_13 rfl rfl rfl wfX0 (by decide) rfl ?_
      refine s_iload (pc := 28) C dX0_gateAtEndOf_28 4 rfl ?_
      refine s_iald (q := 46) (n := 512) (pc := 30) C (σ 46 k.toNat) rfl dX0_gateAtEndOf_30 rfl (by omega) (by omega) (by decide) ?_
      have b30 : (0 : Int) ≤ σ 46 k.toNat ∧ σ 46 k.toNat ≤ 999 := g0.1 46 k.toNat
      refine s_iload_n (pc := 31) C dX0_gateAtEndOf_31 1 rfl ?_
      refine s_icmp_gt (pc := 32) C (tgt := 43) dX0_gateAtEndOf_32 (by decide) ⟨by omega, by omega⟩ ⟨by omega, by omega⟩ (fun h32 => ?_) (fun h32 => ?_)
      · skip
        refine s_iinc (pc := 43) C [(4, vI (k + (-1))), (0, .ref (ad 44)), (1, vI d), (2, vI w), (3, vI n)] dX0_gateAtEndOf_43 4 rfl (by decide) rfl ?_
        refine s_goto (pc := 46) C (tgt := 8) dX0_gateAtEndOf_46 (by decide) ?_
        refine s_sub C [1, 2, 3, 4, 0] [(0, .ref (ad 44)), (1, vI d), (2, vI w), (3, vI n), (4, vI (k + (-1)))] rfl ?_
        have hi8 : -1 ≤ (k + (-1)) ∧ (k + (-1)) ≤ 511 := (by first | omega | assumption | (constructor <;> omega) | (refine ⟨⟨?_, ?_⟩, ?_⟩ <;> omega) | (simp [hs_ss, hs_up]; omega) | (simp [hs_ss, hs_up]; done))
        exact ih8 (k + (-1)) (by first | omega | (simp only []; omega)) hi8
      · skip
        refine s_aload_n (pc := 35) C dX0_gateAtEndOf_35 0 rfl ?_
        refine s_getr (q := 44) (ci := 0) (N := 4) (CN := RX0) (T := TX0) (pc := 36) C 2 dX0_gateAtEndOf_36 wlX0_16 rfl rfl rfl wfX0 (by decide) rfl ?_
        refine s_iload (pc := 39) C dX0_gateAtEndOf_39 4 rfl ?_
        refine s_iald (q := 47) (n := 512) (pc := 41) C (σ 47 k.toNat) rfl dX0_gateAtEndOf_41 rfl (by omega) (by omega) (by decide) ?_
        have b41 : (0 : Int) ≤ σ 47 k.toNat ∧ σ 47 k.toNat ≤ 99 := g0.1 47 k.toNat
        refine s_iret (pc := 42) C dX0_gateAtEndOf_42 ?_
        refine ⟨_, rfl, ?_⟩
        exact ⟨rfl, by first | omega | assumption | (constructor <;> omega) | (refine ⟨⟨?_, ?_⟩, ?_⟩ <;> omega) | (simp [hs_ss, hs_up]; omega) | (simp [hs_ss, hs_up]; done)⟩
