set_option maxHeartbeats 4000000 in
set_option maxRecDepth 100000 in
theorem c_X6_placeOf (l : Launch) (w : Int) (hw : 0 ≤ w ∧ w < 4) : hs_Met l yX6_placeOf cX6_placeOf 4 (some .int) 1 SHX (fun ad => [.ref (ad 32), vI w]) (fun σ => GX σ σ ∧ 0 ≤ σ 43 w.toNat ∧ σ 43 w.toNat < σ 42 w.toNat) (hs_PI (fun σ z σ1 => σ = σ1 ∧ -10 ≤ z ∧ z ≤ 99)) := by
  refine hs_from pfX6_placeOf (fun _ => Nat.le_of_ble_eq_true rfl) ?_
  intro p e s m args below meth c D dA ad A σ C hpre
  have C : hs_C p s m args meth c D dA SHX ad A 4 cX6_placeOf RX6 (some .int) := C
  obtain ⟨g0, hpre⟩ := hpre
  have b42 : (0 : Int) ≤ σ 42 w.toNat ∧ σ 42 w.toNat ≤ 100 := g0.1 42 w.toNat
  show hs_Wd p l e 1 s m args below meth c D dA SHX ad A 4 (hs_PI (fun σ z σ1 => σ = σ1 ∧ -10 ≤ z ∧ z ≤ 99) σ) 0 [(0, .ref (ad 32)), (1, vI w)] [] σ
  refine s_aload_n (pc := 0) C dX6_placeOf_0 0 rfl ?_
  refine s_geti (q := 32) (ci := 6) (N := 13) (CN := RX6) (T := TX6) (pc := 1) C 7 dX6_placeOf_1 wlX6_62 rfl rfl rfl wfX6 (by decide) rfl (σ 32 7) rfl ?_
  have b1 : (-2147483648 : Int) ≤ σ 32 7 ∧ σ 32 7 ≤ 2147483647 := g0.1 32 7
  refine s_iload_n (pc := 4) C dX6_placeOf_4 1 rfl ?_
  refine s_ishr (pc := 5) C dX6_placeOf_5 (fun z5 hz5 ez5 => ?_)
  refine s_iconst (pc := 6) C dX6_placeOf_6 ?_
  refine s_iand (pc := 7) C dX6_placeOf_7 (fun z7 hz7 ez7 => ?_)
  refine s_iconst (pc := 8) C dX6_placeOf_8 ?_
  refine s_icmp_ne (pc := 9) C (tgt := 16) dX6_placeOf_9 (by decide) ⟨by omega, by omega⟩ ⟨by decide, by decide⟩ (fun h9 => ?_) (fun h9 => ?_)
  · skip
    refine s_iconst (pc := 16) C dX6_placeOf_16 ?_
    refine s_istore_n (pc := 17) C [(2, vI 0), (0, .ref (ad 32)), (1, vI w)] dX6_placeOf_17 (by decide) rfl ?_
    refine s_iload_n (pc := 18) C dX6_placeOf_18 0 rfl ?_
    refine s_if_eq (pc := 19) C (tgt := 40) dX6_placeOf_19 (by decide) ⟨by decide, by decide⟩ (fun h19 => ?_) (fun h19 => ?_)
    · skip
      refine s_aload_n (pc := 40) C dX6_placeOf_40 1 rfl ?_
      refine s_getr (q := 32) (ci := 6) (N := 13) (CN := RX6) (T := TX6) (pc := 41) C 5 dX6_placeOf_41 wlX6_27 rfl rfl rfl wfX6 (by decide) rfl ?_
      refine s_iload_n (pc := 44) C dX6_placeOf_44 2 rfl ?_
      refine s_iald (q := 43) (n := 4) (pc := 45) C (σ 43 w.toNat) rfl dX6_placeOf_45 rfl (by omega) (by omega) (by decide) ?_
      have b45 : (0 : Int) ≤ σ 43 w.toNat ∧ σ 43 w.toNat ≤ 100 := g0.1 43 w.toNat
      refine s_istore_n (pc := 46) C [(3, vI (σ 43 w.toNat)), (2, vI 0), (0, .ref (ad 32)), (1, vI w)] dX6_placeOf_46 (by decide) rfl ?_
      refine s_aload_n (pc := 47) C dX6_placeOf_47 2 rfl ?_
      refine s_getr (q := 32) (ci := 6) (N := 13) (CN := RX6) (T := TX6) (pc := 48) C 3 dX6_placeOf_48 wlX6_20 rfl rfl rfl wfX6 (by decide) rfl ?_
      refine s_iload_n (pc := 51) C dX6_placeOf_51 3 rfl ?_
      refine s_alda (q := 37) (pc := 52) C dX6_placeOf_52 rfl (by omega) (by show _ < (4 : Int); omega) (by decide) ?_
      rw [show ((_ : List (Nat × Nat)).getD w.toNat (0, 0)).2 = 38 + w.toNat from hs_ref4 (by omega) (by omega)]
      refine s_iload_n (pc := 53) C dX6_placeOf_53 0 rfl ?_
      refine s_iald (q := (38 + w.toNat)) (n := 100) (pc := 54) C (σ (38 + w.toNat) ((σ 43 w.toNat).toNat)) rfl dX6_placeOf_54 (sh_Pl (by omega)) (by omega) (by omega) (by decide) ?_
      have b54 : (-10 : Int) ≤ σ (38 + w.toNat) ((σ 43 w.toNat).toNat) ∧ σ (38 + w.toNat) ((σ 43 w.toNat).toNat) ≤ 99 := gx_p g0 (show (w).toNat < 4 by omega) ((σ 43 w.toNat).toNat)
      refine s_iret (pc := 55) C dX6_placeOf_55 ?_
      refine ⟨_, rfl, ?_⟩
      exact ⟨rfl, by first | omega | assumption | (constructor <;> omega) | (refine ⟨⟨?_, ?_⟩, ?_⟩ <;> omega) | (simp [hs_ss, hs_up]; omega) | (simp [hs_ss, hs_up]; done)⟩
    · exact absurd h19 (by decide)
  · skip
    refine s_iconst (pc := 12) C dX6_placeOf_12 ?_
    refine s_goto (pc := 13) C (tgt := 17) dX6_placeOf_13 (by decide) ?_
    refine s_istore_n (pc := 17) C [(2, vI 1), (0, .ref (ad 32)), (1, vI w)] dX6_placeOf_17 (by decide) rfl ?_
    refine s_iload_n (pc := 18) C dX6_placeOf_18 0 rfl ?_
    refine s_if_eq (pc := 19) C (tgt := 40) dX6_placeOf_19 (by decide) ⟨by decide, by decide⟩ (fun h19 => ?_) (fun h19 => ?_)
    · exact absurd h19 (by decide)
    · skip
      refine s_aload_n (pc := 22) C dX6_placeOf_22 1 rfl ?_
      refine s_getr (q := 32) (ci := 6) (N := 13) (CN := RX6) (T := TX6) (pc := 23) C 4 dX6_placeOf_23 wlX6_23 rfl rfl rfl wfX6 (by decide) rfl ?_
      refine s_iload_n (pc := 26) C dX6_placeOf_26 2 rfl ?_
      refine s_iald (q := 42) (n := 4) (pc := 27) C (σ 42 w.toNat) rfl dX6_placeOf_27 rfl (by omega) (by omega) (by decide) ?_
      have b27 : (0 : Int) ≤ σ 42 w.toNat ∧ σ 42 w.toNat ≤ 100 := g0.1 42 w.toNat
      refine s_iconst (pc := 28) C dX6_placeOf_28 ?_
      refine s_isub (pc := 29) C dX6_placeOf_29 ?_
      refine s_aload_n (pc := 30) C dX6_placeOf_30 1 rfl ?_
      refine s_getr (q := 32) (ci := 6) (N := 13) (CN := RX6) (T := TX6) (pc := 31) C 5 dX6_placeOf_31 wlX6_27 rfl rfl rfl wfX6 (by decide) rfl ?_
      refine s_iload_n (pc := 34) C dX6_placeOf_34 2 rfl ?_
      refine s_iald (q := 43) (n := 4) (pc := 35) C (σ 43 w.toNat) rfl dX6_placeOf_35 rfl (by omega) (by omega) (by decide) ?_
      have b35 : (0 : Int) ≤ σ 43 w.toNat ∧ σ 43 w.toNat ≤ 100 := g0.1 43 w.toNat
      refine s_isub (pc := 36) C dX6_placeOf_36 ?_
      refine s_goto (pc := 37) C (tgt := 46) dX6_placeOf_37 (by decide) ?_
      refine s_istore_n (pc := 46) C [(3, vI (((σ 42 w.toNat) - 1) - (σ 43 w.toNat))), (2, vI 1), (0, .ref (ad 32)), (1, vI w)] dX6_placeOf_46 (by decide) rfl ?_
      refine s_aload_n (pc := 47) C dX6_placeOf_47 2 rfl ?_
      refine s_getr (q := 32) (ci := 6) (N := 13) (CN := RX6) (T := TX6) (pc := 48) C 3 dX6_placeOf_48 wlX6_20 rfl rfl rfl wfX6 (by decide) rfl ?_
      refine s_iload_n (pc := 51) C dX6_placeOf_51 3 rfl ?_
      refine s_alda (q := 37) (pc := 52) C dX6_placeOf_52 rfl (by omega) (by show _ < (4 : Int); omega) (by decide) ?_
      rw [show ((_ : List (Nat × Nat)).getD w.toNat (0, 0)).2 = 38 + w.toNat from hs_ref4 (by omega) (by omega)]
      refine s_iload_n (pc := 53) C dX6_placeOf_53 0 rfl ?_
      refine s_iald (q := (38 + w.toNat)) (n := 100) (pc := 54) C (σ (38 + w.toNat) ((((σ 42 w.toNat) - 1) - (σ 43 w.toNat)).toNat)) rfl dX6_placeOf_54 (sh_Pl (by omega)) (by omega) (by omega) (by decide) ?_
      have b54 : (-10 : Int) ≤ σ (38 + w.toNat) ((((σ 42 w.toNat) - 1) - (σ 43 w.toNat)).toNat) ∧ σ (38 + w.toNat) ((((σ 42 w.toNat) - 1) - (σ 43 w.toNat)).toNat) ≤ 99 := gx_p g0 (show (w).toNat < 4 by omega) ((((σ 42 w.toNat) - 1) - (σ 43 w.toNat)).toNat)
      refine s_iret (pc := 55) C dX6_placeOf_55 ?_
      refine ⟨_, rfl, ?_⟩
      exact ⟨rfl, by first | omega | assumption | (constructor <;> omega) | (refine ⟨⟨?_, ?_⟩, ?_⟩ <;> omega) | (simp [hs_ss, hs_up]; omega) | (simp [hs_ss, hs_up]; done)⟩
set_option maxHeartbeats 4000000 in
set_option maxRecDepth 100000 in
theorem c_X6_isRight (l : Launch)  : hs_Met l yX6_isRight cX6_isRight 2 (some .boolean) 3 SHX (fun ad => [.ref (ad 32)]) (fun σ => GX σ σ ∧ CHO σ) (hs_PI (fun σ z σ1 => σ = σ1 ∧ (z = 0 ∨ z = 1))) := by
  refine hs_from pfX6_isRight (fun _ => Nat.le_of_ble_eq_true rfl) ?_
  intro p e s m args below meth c D dA ad A σ C hpre
  have C : hs_C p s m args meth c D dA SHX ad A 2 cX6_isRight RX6 (some .boolean) := C
  obtain ⟨g0, p0_CHO⟩ := hpre
  show hs_Wd p l e 3 s m args below meth c D dA SHX ad A 2 (hs_PI (fun σ z σ1 => σ = σ1 ∧ (z = 0 ∨ z = 1)) σ) 0 [(0, .ref (ad 32))] [] σ
  refine s_iconst (pc := 0) C dX6_isRight_0 ?_
  refine s_istore_n (pc := 1) C [(1, vI 0), (0, .ref (ad 32))] dX6_isRight_1 (by decide) rfl ?_
  refine s_sub C [1, 0] [(0, .ref (ad 32)), (1, vI 0)] rfl ?_
  have hi2 : 0 ≤ (0 : Int) ∧ (0 : Int) ≤ 4 := (by first | omega | assumption | (constructor <;> omega) | (refine ⟨⟨?_, ?_⟩, ?_⟩ <;> omega) | (simp [hs_ss, hs_up]; omega) | (simp [hs_ss, hs_up]; done))
  refine hs_loop (α := Int) (fun x_ => (0 ≤ x_ ∧ x_ ≤ 4) → hs_Wd p l e 3 s m args below meth c D dA SHX ad A 2 (hs_PI (fun σ z σ1 => σ = σ1 ∧ (z = 0 ∨ z = 1)) σ) 2 [(0, .ref (ad 32)), (1, vI x_)] [] σ) (fun x_ => (5 - x_).toNat) ?_ (0) hi2
  rintro w ih2 hinv
  replace hinv : 0 ≤ w ∧ w ≤ 4 := hinv
  show hs_Wd p l e 3 s m args below meth c D dA SHX ad A 2 (hs_PI (fun σ z σ1 => σ = σ1 ∧ (z = 0 ∨ z = 1)) σ) 2 [(0, .ref (ad 32)), (1, vI w)] [] σ
  refine s_iload_n (pc := 2) C dX6_isRight_2 1 rfl ?_
  refine s_aload_n (pc := 3) C dX6_isRight_3 0 rfl ?_
  refine s_getr (q := 32) (ci := 6) (N := 13) (CN := RX6) (T := TX6) (pc := 4) C 2 dX6_isRight_4 wlX6_12 rfl rfl rfl wfX6 (by decide) rfl ?_
  refine s_getiN (q := 33) (ci := 8) (N := 7) (CN := RX8) (T := TX8) (pc := 7) C 4 dX6_isRight_7 wlX6_47 rfl rfl rfl wfX8 (by decide) rfl (σ 33 4) rfl ?_
  have b7 : (0 : Int) ≤ σ 33 4 ∧ σ 33 4 ≤ 4 := g0.1 33 4
  refine s_icmp_ge (pc := 10) C (tgt := 60) dX6_isRight_10 (by decide) ⟨by omega, by omega⟩ ⟨by omega, by omega⟩ (fun h10 => ?_) (fun h10 => ?_)
  · skip
    refine s_iconst (pc := 60) C dX6_isRight_60 ?_
    refine s_zret (pc := 61) C (by omega) dX6_isRight_61 ?_
    refine ⟨_, rfl, ?_⟩
    exact ⟨rfl, by first | omega | assumption | (constructor <;> omega) | (refine ⟨⟨?_, ?_⟩, ?_⟩ <;> omega) | (simp [hs_ss, hs_up]; omega) | (simp [hs_ss, hs_up]; done)⟩
  · skip
    refine s_aload_n (pc := 13) C dX6_isRight_13 0 rfl ?_
    refine s_getr (q := 32) (ci := 6) (N := 13) (CN := RX6) (T := TX6) (pc := 14) C 2 dX6_isRight_14 wlX6_12 rfl rfl rfl wfX6 (by decide) rfl ?_
    refine s_aload_n (pc := 17) C dX6_isRight_17 0 rfl ?_
    refine s_iload_n (pc := 18) C dX6_isRight_18 1 rfl ?_
    have hc := p0_CHO w.toNat (by omega)
    refine s_callVi (pc := 19) C (c_X6_placeOf l w (by first | omega | assumption | (constructor <;> omega) | (refine ⟨⟨?_, ?_⟩, ?_⟩ <;> omega) | (simp [hs_ss, hs_up]; omega) | (simp [hs_ss, hs_up]; done))) [vI w] [.ref (ad 33)] rfl rfl dX6_isRight_19 wlX6_93 wiX6_placeOf weX6_placeOf wcX6_placeOf wnX6 noX6_placeOf (by decide) (by decide) (Nat.le_of_ble_eq_true rfl) ⟨(gx_self g0), by first | omega | assumption | (constructor <;> omega) | (refine ⟨⟨?_, ?_⟩, ?_⟩ <;> omega) | (simp [hs_ss, hs_up]; omega) | (simp [hs_ss, hs_up]; done)⟩ rfl rfl ?_
    rintro z19 _ ⟨rfl, k19⟩
    show hs_Wd _ _ _ _ _ _ _ _ _ _ _ _ _ _ _ _ _ 22 _ [vI z19, .ref (ad 33)] σ
    refine s_aload_n (pc := 22) C dX6_isRight_22 0 rfl ?_
    refine s_getr (q := 32) (ci := 6) (N := 13) (CN := RX6) (T := TX6) (pc := 23) C 0 dX6_isRight_23 wlX6_30 rfl rfl rfl wfX6 (by decide) rfl ?_
    refine s_getrN (q := 2) (ci := 5) (N := 3) (CN := RX5) (T := TX5) (pc := 26) C 1 dX6_isRight_26 wlX6_105 rfl rfl rfl wfX5 (by decide) rfl ?_
    refine s_iload_n (pc := 29) C dX6_isRight_29 1 rfl ?_
    refine s_aldq (q := 7) (pc := 30) C dX6_isRight_30 rfl (by omega) (by show _ < (4 : Int); omega) (by decide) ?_
    rw [show ((_ : List (Nat × Nat)).getD w.toNat (0, 0)).2 = 8 + w.toNat from hs_ref4 (by omega) (by omega)]
    refine s_getiN (q := (8 + w.toNat)) (ci := 9) (N := 9) (CN := RX9) (T := TX9) (pc := 31) C 2 dX6_isRight_31 wlX6_109 (sh_Wh (by omega)) rfl rfl wfX9 (by decide) rfl (σ (8 + w.toNat) 2) rfl ?_
    have b31 : (0 : Int) ≤ σ (8 + w.toNat) 2 ∧ σ (8 + w.toNat) 2 ≤ 99 := gx_w g0 (show (w).toNat < 4 by omega) 2
    refine s_callVNi (pc := 34) C (c_X8_far l 33 (Or.inr rfl) z19 (σ (8 + w.toNat) 2) (by first | omega | assumption | (constructor <;> omega) | (refine ⟨⟨?_, ?_⟩, ?_⟩ <;> omega) | (simp [hs_ss, hs_up]; omega) | (simp [hs_ss, hs_up]; done)) (by first | omega | assumption | (constructor <;> omega) | (refine ⟨⟨?_, ?_⟩, ?_⟩ <;> omega) | (simp [hs_ss, hs_up]; omega) | (simp [hs_ss, hs_up]; done))) [vI z19, vI (σ (8 + w.toNat) 2)] [] rfl rfl dX6_isRight_34 wlX6_114 wiX8_far weX8_far wcX8_far wnX8 noX8_far (by decide) (by decide) (Nat.le_of_ble_eq_true rfl) (gx_self g0) rfl rfl ?_
    rintro z34 _ ⟨rfl, k34⟩
    show hs_Wd _ _ _ _ _ _ _ _ _ _ _ _ _ _ _ _ _ 37 _ [vI z34] σ
    refine s_aload_n (pc := 37) C dX6_isRight_37 0 rfl ?_
    refine s_getr (q := 32) (ci := 6) (N := 13) (CN := RX6) (T := TX6) (pc := 38) C 0 dX6_isRight_38 wlX6_30 rfl rfl rfl wfX6 (by decide) rfl ?_
    refine s_getrN (q := 2) (ci := 5) (N := 3) (CN := RX5) (T := TX5) (pc := 41) C 1 dX6_isRight_41 wlX6_105 rfl rfl rfl wfX5 (by decide) rfl ?_
    refine s_iload_n (pc := 44) C dX6_isRight_44 1 rfl ?_
    refine s_aldq (q := 7) (pc := 45) C dX6_isRight_45 rfl (by omega) (by show _ < (4 : Int); omega) (by decide) ?_
    rw [show ((_ : List (Nat × Nat)).getD w.toNat (0, 0)).2 = 8 + w.toNat from hs_ref4 (by omega) (by omega)]
    refine s_getiN (q := (8 + w.toNat)) (ci := 9) (N := 9) (CN := RX9) (T := TX9) (pc := 46) C 4 dX6_isRight_46 wlX6_118 (sh_Wh (by omega)) rfl rfl wfX9 (by decide) rfl (σ (8 + w.toNat) 4) rfl ?_
    have b46 : (0 : Int) ≤ σ (8 + w.toNat) 4 ∧ σ (8 + w.toNat) 4 ≤ 3 := gx_w g0 (show (w).toNat < 4 by omega) 4
    refine s_icmp_le (pc := 49) C (tgt := 54) dX6_isRight_49 (by decide) ⟨by omega, by omega⟩ ⟨by omega, by omega⟩ (fun h49 => ?_) (fun h49 => ?_)
    · skip
      refine s_iinc (pc := 54) C [(1, vI (w + 1)), (0, .ref (ad 32))] dX6_isRight_54 1 rfl (by decide) rfl ?_
      refine s_goto (pc := 57) C (tgt := 2) dX6_isRight_57 (by decide) ?_
      refine s_sub C [1, 0] [(0, .ref (ad 32)), (1, vI (w + 1))] rfl ?_
      have hi2 : 0 ≤ (w + 1) ∧ (w + 1) ≤ 4 := (by first | omega | assumption | (constructor <;> omega) | (refine ⟨⟨?_, ?_⟩, ?_⟩ <;> omega) | (simp [hs_ss, hs_up]; omega) | (simp [hs_ss, hs_up]; done))
      exact ih2 (w + 1) (by first | omega | (simp only []; omega)) hi2
    · skip
      refine s_iconst (pc := 52) C dX6_isRight_52 ?_
      refine s_zret (pc := 53) C (by omega) dX6_isRight_53 ?_
      refine ⟨_, rfl, ?_⟩
      exact ⟨rfl, by first | omega | assumption | (constructor <;> omega) | (refine ⟨⟨?_, ?_⟩, ?_⟩ <;> omega) | (simp [hs_ss, hs_up]; omega) | (simp [hs_ss, hs_up]; done)⟩
set_option maxHeartbeats 4000000 in
set_option maxRecDepth 100000 in
theorem c_X6_chooseNextRow (l : Launch)  : hs_Met l yX6_chooseNextRow cX6_chooseNextRow 2 (some .int) 1 SHX (fun ad => [.ref (ad 32)]) (fun σ => GX σ σ ∧ CHO σ) (hs_PI (fun σ z σ1 => GX σ σ1 ∧ FRM PCh σ σ1 ∧ CHO σ1 ∧ -1 ≤ z ∧ z ≤ 3 ∧ z < σ 33 4)) := by
  refine hs_from pfX6_chooseNextRow (fun _ => Nat.le_of_ble_eq_true rfl) ?_
  intro p e s m args below meth c D dA ad A σ C hpre
  have C : hs_C p s m args meth c D dA SHX ad A 2 cX6_chooseNextRow RX6 (some .int) := C
  obtain ⟨g0, p0_CHO⟩ := hpre
  have f0 : FRM PCh σ σ := frm_rf
  show hs_Wd p l e 1 s m args below meth c D dA SHX ad A 2 (hs_PI (fun σ z σ1 => GX σ σ1 ∧ FRM PCh σ σ1 ∧ CHO σ1 ∧ -1 ≤ z ∧ z ≤ 3 ∧ z < σ 33 4) σ) 0 [(0, .ref (ad 32))] [] σ
  refine s_iconst (pc := 0) C dX6_chooseNextRow_0 ?_
  refine s_istore_n (pc := 1) C [(1, vI 0), (0, .ref (ad 32))] dX6_chooseNextRow_1 (by decide) rfl ?_
  refine s_sub C [1, 0] [(0, .ref (ad 32)), (1, vI 0)] rfl ?_
  have hi2 : GX σ σ ∧ FRM PCh σ σ ∧ CHO σ ∧ 0 ≤ (0 : Int) ∧ (0 : Int) ≤ 4 := ⟨g0, f0, p0_CHO, by first | omega | assumption | (constructor <;> omega) | (refine ⟨⟨?_, ?_⟩, ?_⟩ <;> omega) | (simp [hs_ss, hs_up]; omega) | (simp [hs_ss, hs_up]; done)⟩
  refine hs_loop (α := Int × hs_S) (fun x_ => (GX σ x_.2 ∧ FRM PCh σ x_.2 ∧ CHO x_.2 ∧ 0 ≤ x_.1 ∧ x_.1 ≤ 4) → hs_Wd p l e 1 s m args below meth c D dA SHX ad A 2 (hs_PI (fun σ z σ1 => GX σ σ1 ∧ FRM PCh σ σ1 ∧ CHO σ1 ∧ -1 ≤ z ∧ z ≤ 3 ∧ z < σ 33 4) σ) 2 [(0, .ref (ad 32)), (1, vI x_.1)] [] x_.2) (fun x_ => (5 - x_.1).toNat) ?_ (0, σ) hi2
  rintro ⟨w, σ1⟩ ih2 hinv
  replace hinv : GX σ σ1 ∧ FRM PCh σ σ1 ∧ CHO σ1 ∧ 0 ≤ w ∧ w ≤ 4 := hinv
  obtain ⟨hg2, hf2, hp2_CHO, hv2⟩ := hinv
  show hs_Wd p l e 1 s m args below meth c D dA SHX ad A 2 (hs_PI (fun σ z σ1 => GX σ σ1 ∧ FRM PCh σ σ1 ∧ CHO σ1 ∧ -1 ≤ z ∧ z ≤ 3 ∧ z < σ 33 4) σ) 2 [(0, .ref (ad 32)), (1, vI w)] [] σ1
  have e33 : σ1 33 4 = σ 33 4 := hf2 33 4 rfl
  refine s_iload_n (pc := 2) C dX6_chooseNextRow_2 1 rfl ?_
  refine s_aload_n (pc := 3) C dX6_chooseNextRow_3 0 rfl ?_
  refine s_getr (q := 32) (ci := 6) (N := 13) (CN := RX6) (T := TX6) (pc := 4) C 2 dX6_chooseNextRow_4 wlX6_12 rfl rfl rfl wfX6 (by decide) rfl ?_
  refine s_getiN (q := 33) (ci := 8) (N := 7) (CN := RX8) (T := TX8) (pc := 7) C 4 dX6_chooseNextRow_7 wlX6_47 rfl rfl rfl wfX8 (by decide) rfl (σ1 33 4) rfl ?_
  have b7 : (0 : Int) ≤ σ1 33 4 ∧ σ1 33 4 ≤ 4 := hg2.1 33 4
  refine s_icmp_ge (pc := 10) C (tgt := 53) dX6_chooseNextRow_10 (by decide) ⟨by omega, by omega⟩ ⟨by omega, by omega⟩ (fun h10 => ?_) (fun h10 => ?_)
  · skip
    refine s_iconst (pc := 53) C dX6_chooseNextRow_53 ?_
    refine s_iret (pc := 54) C dX6_chooseNextRow_54 ?_
    refine ⟨_, rfl, ?_⟩
    exact ⟨hg2, hf2, hp2_CHO, ⟨by omega, by omega, by have b := hg2.1 33 4; have b : (0 : Int) ≤ σ1 33 4 ∧ σ1 33 4 ≤ 4 := b; omega⟩⟩
  · skip
    have hc := hp2_CHO w.toNat (by omega)
    have b42 : (0 : Int) ≤ σ1 42 w.toNat ∧ σ1 42 w.toNat ≤ 100 := hg2.1 42 w.toNat
    refine s_aload_n (pc := 13) C dX6_chooseNextRow_13 0 rfl ?_
    refine s_getr (q := 32) (ci := 6) (N := 13) (CN := RX6) (T := TX6) (pc := 14) C 5 dX6_chooseNextRow_14 wlX6_27 rfl rfl rfl wfX6 (by decide) rfl ?_
    refine s_iload_n (pc := 17) C dX6_chooseNextRow_17 1 rfl ?_
    refine s_dup2 (pc := 18) C dX6_chooseNextRow_18 rfl rfl ?_
    refine s_iald (q := 43) (n := 4) (pc := 19) C (σ1 43 w.toNat) rfl dX6_chooseNextRow_19 rfl (by omega) (by omega) (by decide) ?_
    have b19 : (0 : Int) ≤ σ1 43 w.toNat ∧ σ1 43 w.toNat ≤ 100 := hg2.1 43 w.toNat
    refine s_iconst (pc := 20) C dX6_chooseNextRow_20 ?_
    refine s_iadd (pc := 21) C dX6_chooseNextRow_21 ?_
    refine s_iast (q := 43) (n := 4) (pc := 22) C dX6_chooseNextRow_22 rfl (by omega) (by omega) (by decide) ?_
    have g22 := gx_set (z := ((σ1 43 w.toNat) + 1)) hg2 43 w.toNat rfl (0) (100) rfl ⟨by omega, by omega⟩
    have f22 := frm_set (P := PCh) (z := ((σ1 43 w.toNat) + 1)) hf2 43 w.toNat rfl
    refine s_aload_n (pc := 23) C dX6_chooseNextRow_23 0 rfl ?_
    refine s_getr (q := 32) (ci := 6) (N := 13) (CN := RX6) (T := TX6) (pc := 24) C 5 dX6_chooseNextRow_24 wlX6_27 rfl rfl rfl wfX6 (by decide) rfl ?_
    refine s_iload_n (pc := 27) C dX6_chooseNextRow_27 1 rfl ?_
    refine s_iald (q := 43) (n := 4) (pc := 28) C ((σ1 43 w.toNat) + 1) (by simp [hs_ss, hs_up]) dX6_chooseNextRow_28 rfl (by omega) (by omega) (by decide) ?_
    have b28 : (0 : Int) ≤ (σ1 43 w.toNat) + 1 ∧ (σ1 43 w.toNat) + 1 ≤ 100 := by have h := g22.1 43 w.toNat; rw [show (hs_ss σ1 43 w.toNat ((σ1 43 w.toNat) + 1)) 43 w.toNat = (σ1 43 w.toNat) + 1 from by simp [hs_ss, hs_up]] at h; exact h
    refine s_aload_n (pc := 29) C dX6_chooseNextRow_29 0 rfl ?_
    refine s_getr (q := 32) (ci := 6) (N := 13) (CN := RX6) (T := TX6) (pc := 30) C 4 dX6_chooseNextRow_30 wlX6_23 rfl rfl rfl wfX6 (by decide) rfl ?_
    refine s_iload_n (pc := 33) C dX6_chooseNextRow_33 1 rfl ?_
    refine s_iald (q := 42) (n := 4) (pc := 34) C (σ1 42 w.toNat) rfl dX6_chooseNextRow_34 rfl (by omega) (by omega) (by decide) ?_
    have b34 : (0 : Int) ≤ σ1 42 w.toNat ∧ σ1 42 w.toNat ≤ 100 := g22.1 42 w.toNat
    refine s_icmp_ge (pc := 35) C (tgt := 40) dX6_chooseNextRow_35 (by decide) ⟨by omega, by omega⟩ ⟨by omega, by omega⟩ (fun h35 => ?_) (fun h35 => ?_)
    · skip
      refine s_aload_n (pc := 40) C dX6_chooseNextRow_40 0 rfl ?_
      refine s_getr (q := 32) (ci := 6) (N := 13) (CN := RX6) (T := TX6) (pc := 41) C 5 dX6_chooseNextRow_41 wlX6_27 rfl rfl rfl wfX6 (by decide) rfl ?_
      refine s_iload_n (pc := 44) C dX6_chooseNextRow_44 1 rfl ?_
      refine s_iconst (pc := 45) C dX6_chooseNextRow_45 ?_
      refine s_iast (q := 43) (n := 4) (pc := 46) C dX6_chooseNextRow_46 rfl (by omega) (by omega) (by decide) ?_
      have g46 := gx_set (z := 0) g22 43 w.toNat rfl (0) (100) rfl ⟨by omega, by omega⟩
      have f46 := frm_set (P := PCh) (z := 0) f22 43 w.toNat rfl
      refine s_iinc (pc := 47) C [(1, vI (w + 1)), (0, .ref (ad 32))] dX6_chooseNextRow_47 1 rfl (by decide) rfl ?_
      refine s_goto (pc := 50) C (tgt := 2) dX6_chooseNextRow_50 (by decide) ?_
      refine s_sub C [1, 0] [(0, .ref (ad 32)), (1, vI (w + 1))] rfl ?_
      have hi2 : GX σ ((hs_ss (hs_ss σ1 43 w.toNat ((σ1 43 w.toNat) + 1)) 43 w.toNat 0)) ∧ FRM PCh σ ((hs_ss (hs_ss σ1 43 w.toNat ((σ1 43 w.toNat) + 1)) 43 w.toNat 0)) ∧ CHO ((hs_ss (hs_ss σ1 43 w.toNat ((σ1 43 w.toNat) + 1)) 43 w.toNat 0)) ∧ 0 ≤ (w + 1) ∧ (w + 1) ≤ 4 := ⟨g46, f46, fun j hj => by have h1 := hp2_CHO j hj; by_cases e : j = w.toNat <;> simp [hs_ss, hs_up, e] at h1 ⊢ <;> omega, by first | omega | assumption | (constructor <;> omega) | (refine ⟨⟨?_, ?_⟩, ?_⟩ <;> omega) | (simp [hs_ss, hs_up]; omega) | (simp [hs_ss, hs_up]; done)⟩
      exact ih2 (w + 1, (hs_ss (hs_ss σ1 43 w.toNat ((σ1 43 w.toNat) + 1)) 43 w.toNat 0)) (by first | omega | (simp only []; omega)) hi2
    · skip
      refine s_iload_n (pc := 38) C dX6_chooseNextRow_38 1 rfl ?_
      refine s_iret (pc := 39) C dX6_chooseNextRow_39 ?_
      refine ⟨_, rfl, ?_⟩
      exact ⟨g22, f22, fun j hj => by have h1 := hp2_CHO j hj; by_cases e : j = w.toNat <;> simp [hs_ss, hs_up, e] at h1 ⊢ <;> omega, by first | omega | assumption | (constructor <;> omega) | (refine ⟨⟨?_, ?_⟩, ?_⟩ <;> omega) | (simp [hs_ss, hs_up]; omega) | (simp [hs_ss, hs_up]; done)⟩
set_option maxHeartbeats 4000000 in
set_option maxRecDepth 100000 in
theorem c_X6_setWheelsFrom (l : Launch) (n : Int) (hn : -1 ≤ n ∧ n ≤ 3) : hs_Met l yX6_setWheelsFrom cX6_setWheelsFrom 5 none 7 SHX (fun ad => [.ref (ad 32), vI n]) (fun σ => GX σ σ ∧ CHO σ ∧ n < σ 33 4 ∧ 0 ≤ σ 32 9 ∧ σ 32 9 ≤ 100000000) (hs_PV (fun σ σ1 => GX σ σ1 ∧ FRM PSw σ σ1 ∧ CHO σ1 ∧ σ 32 9 ≤ σ1 32 9 ∧ σ1 32 9 ≤ σ 32 9 + 2400)) := by
  refine hs_from pfX6_setWheelsFrom (fun _ => Nat.le_of_ble_eq_true rfl) ?_
  intro p e s m args below meth c D dA ad A σ C hpre
  have C : hs_C p s m args meth c D dA SHX ad A 5 cX6_setWheelsFrom RX6 none := C
  obtain ⟨g0, p0_CHO, hpre⟩ := hpre
  have f0 : FRM PSw σ σ := frm_rf
  show hs_Wd p l e 7 s m args below meth c D dA SHX ad A 5 (hs_PV (fun σ σ1 => GX σ σ1 ∧ FRM PSw σ σ1 ∧ CHO σ1 ∧ σ 32 9 ≤ σ1 32 9 ∧ σ1 32 9 ≤ σ 32 9 + 2400) σ) 0 [(0, .ref (ad 32)), (1, vI n)] [] σ
  refine s_iload_n (pc := 0) C dX6_setWheelsFrom_0 1 rfl ?_
  refine s_istore_n (pc := 1) C [(2, vI n), (0, .ref (ad 32)), (1, vI n)] dX6_setWheelsFrom_1 (by decide) rfl ?_
  refine s_sub C [1, 2, 0] [(0, .ref (ad 32)), (1, vI n), (2, vI n)] rfl ?_
  have hi2 : GX σ σ ∧ FRM PSw σ σ ∧ CHO σ ∧ -1 ≤ n ∧ n ≤ n ∧ σ 32 9 ≤ σ 32 9 ∧ σ 32 9 ≤ σ 32 9 + 600 * (n - n) := ⟨g0, f0, p0_CHO, by first | omega | assumption | (constructor <;> omega) | (refine ⟨⟨?_, ?_⟩, ?_⟩ <;> omega) | (simp [hs_ss, hs_up]; omega) | (simp [hs_ss, hs_up]; done)⟩
  refine hs_loop (α := Int × hs_S) (fun x_ => (GX σ x_.2 ∧ FRM PSw σ x_.2 ∧ CHO x_.2 ∧ -1 ≤ x_.1 ∧ x_.1 ≤ n ∧ σ 32 9 ≤ x_.2 32 9 ∧ x_.2 32 9 ≤ σ 32 9 + 600 * (n - x_.1)) → hs_Wd p l e 7 s m args below meth c D dA SHX ad A 5 (hs_PV (fun σ σ1 => GX σ σ1 ∧ FRM PSw σ σ1 ∧ CHO σ1 ∧ σ 32 9 ≤ σ1 32 9 ∧ σ1 32 9 ≤ σ 32 9 + 2400) σ) 2 [(0, .ref (ad 32)), (1, vI n), (2, vI x_.1)] [] x_.2) (fun x_ => (x_.1 + 1).toNat) ?_ (n, σ) hi2
  rintro ⟨w, σ1⟩ ih2 hinv
  replace hinv : GX σ σ1 ∧ FRM PSw σ σ1 ∧ CHO σ1 ∧ -1 ≤ w ∧ w ≤ n ∧ σ 32 9 ≤ σ1 32 9 ∧ σ1 32 9 ≤ σ 32 9 + 600 * (n - w) := hinv
  obtain ⟨hg2, hf2, hp2_CHO, hv2⟩ := hinv
  show hs_Wd p l e 7 s m args below meth c D dA SHX ad A 5 (hs_PV (fun σ σ1 => GX σ σ1 ∧ FRM PSw σ σ1 ∧ CHO σ1 ∧ σ 32 9 ≤ σ1 32 9 ∧ σ1 32 9 ≤ σ 32 9 + 2400) σ) 2 [(0, .ref (ad 32)), (1, vI n), (2, vI w)] [] σ1
  have e33 : σ1 33 4 = σ 33 4 := hf2 33 4 rfl
  refine s_iload_n (pc := 2) C dX6_setWheelsFrom_2 2 rfl ?_
  refine s_if_lt (pc := 3) C (tgt := 72) dX6_setWheelsFrom_3 (by decide) ⟨by omega, by omega⟩ (fun h3 => ?_) (fun h3 => ?_)
  · skip
    refine s_vret (pc := 72) C dX6_setWheelsFrom_72 ?_
    refine ⟨rfl, ?_⟩
    exact ⟨hg2, hf2, hp2_CHO, by first | omega | assumption | (constructor <;> omega) | (refine ⟨⟨?_, ?_⟩, ?_⟩ <;> omega) | (simp [hs_ss, hs_up]; omega) | (simp [hs_ss, hs_up]; done)⟩
  · skip
    have hc := hp2_CHO w.toNat (by omega)
    refine s_aload_n (pc := 6) C dX6_setWheelsFrom_6 0 rfl ?_
    refine s_getr (q := 32) (ci := 6) (N := 13) (CN := RX6) (T := TX6) (pc := 7) C 2 dX6_setWheelsFrom_7 wlX6_12 rfl rfl rfl wfX6 (by decide) rfl ?_
    refine s_getiN (q := 33) (ci := 8) (N := 7) (CN := RX8) (T := TX8) (pc := 10) C 4 dX6_setWheelsFrom_10 wlX6_47 rfl rfl rfl wfX8 (by decide) rfl (σ1 33 4) rfl ?_
    have b10 : (0 : Int) ≤ σ1 33 4 ∧ σ1 33 4 ≤ 4 := hg2.1 33 4
    refine s_iconst (pc := 13) C dX6_setWheelsFrom_13 ?_
    refine s_isub (pc := 14) C dX6_setWheelsFrom_14 ?_
    refine s_iload_n (pc := 15) C dX6_setWheelsFrom_15 2 rfl ?_
    refine s_isub (pc := 16) C dX6_setWheelsFrom_16 ?_
    refine s_iconst (pc := 17) C dX6_setWheelsFrom_17 ?_
    refine s_irem (pc := 18) C dX6_setWheelsFrom_18 ⟨by omega, by omega⟩ ⟨by decide, by decide⟩ (by omega) ?_
    have tl18 := hs_tm_lo (((σ1 33 4) - 1) - w) (show (0 : Int) < 2 by omega)
    have th18 := hs_tm_hi (((σ1 33 4) - 1) - w) (show (0 : Int) < 2 by omega)
    refine s_if_ne (pc := 19) C (tgt := 26) dX6_setWheelsFrom_19 (by decide) ⟨by omega, by omega⟩ (fun h19 => ?_) (fun h19 => ?_)
    · skip
      refine s_iconst (pc := 26) C dX6_setWheelsFrom_26 ?_
      refine s_istore_n (pc := 27) C [(3, vI 0), (0, .ref (ad 32)), (1, vI n), (2, vI w)] dX6_setWheelsFrom_27 (by decide) rfl ?_
      refine s_aload_n (pc := 28) C dX6_setWheelsFrom_28 1 rfl ?_
      refine s_getr (q := 32) (ci := 6) (N := 13) (CN := RX6) (T := TX6) (pc := 29) C 2 dX6_setWheelsFrom_29 wlX6_12 rfl rfl rfl wfX6 (by decide) rfl ?_
      refine s_iload_n (pc := 32) C dX6_setWheelsFrom_32 3 rfl ?_
      refine s_aload_n (pc := 33) C dX6_setWheelsFrom_33 1 rfl ?_
      refine s_iload_n (pc := 34) C dX6_setWheelsFrom_34 3 rfl ?_
      refine s_callVi (pc := 35) C (c_X6_placeOf l w (by first | omega | assumption | (constructor <;> omega) | (refine ⟨⟨?_, ?_⟩, ?_⟩ <;> omega) | (simp [hs_ss, hs_up]; omega) | (simp [hs_ss, hs_up]; done))) [vI w] [vI w, .ref (ad 33)] rfl rfl dX6_setWheelsFrom_35 wlX6_93 wiX6_placeOf weX6_placeOf wcX6_placeOf wnX6 noX6_placeOf (by decide) (by decide) (Nat.le_of_ble_eq_true rfl) ⟨(gx_self hg2), by first | omega | assumption | (constructor <;> omega) | (refine ⟨⟨?_, ?_⟩, ?_⟩ <;> omega) | (simp [hs_ss, hs_up]; omega) | (simp [hs_ss, hs_up]; done)⟩ rfl rfl ?_
      rintro z35 _ ⟨rfl, k35⟩
      show hs_Wd _ _ _ _ _ _ _ _ _ _ _ _ _ _ _ _ _ 38 _ [vI z35, vI w, .ref (ad 33)] σ1
      refine s_iload_n (pc := 38) C dX6_setWheelsFrom_38 0 rfl ?_
      refine s_callVNi (pc := 39) C (c_X8_stepsToSet l 33 (Or.inr rfl) w z35 0 (by first | omega | assumption | (constructor <;> omega) | (refine ⟨⟨?_, ?_⟩, ?_⟩ <;> omega) | (simp [hs_ss, hs_up]; omega) | (simp [hs_ss, hs_up]; done)) (by first | omega | assumption | (constructor <;> omega) | (refine ⟨⟨?_, ?_⟩, ?_⟩ <;> omega) | (simp [hs_ss, hs_up]; omega) | (simp [hs_ss, hs_up]; done)) (by first | omega | assumption | (constructor <;> omega) | (refine ⟨⟨?_, ?_⟩, ?_⟩ <;> omega) | (simp [hs_ss, hs_up]; omega) | (simp [hs_ss, hs_up]; done))) [vI w, vI z35, vI 0] [] rfl rfl dX6_setWheelsFrom_39 wlX6_97 wiX8_stepsToSet weX8_stepsToSet wcX8_stepsToSet wnX8 noX8_stepsToSet (by decide) (by decide) (Nat.le_of_ble_eq_true rfl) (gx_self hg2) rfl rfl ?_
      rintro z39 _ ⟨rfl, k39⟩
      show hs_Wd _ _ _ _ _ _ _ _ _ _ _ _ _ _ _ _ _ 42 _ [vI z39] σ1
      refine s_istore (pc := 42) C [(4, vI z39), (3, vI 0), (0, .ref (ad 32)), (1, vI n), (2, vI w)] dX6_setWheelsFrom_42 (by decide) rfl ?_
      refine s_aload_n (pc := 44) C dX6_setWheelsFrom_44 2 rfl ?_
      refine s_getr (q := 32) (ci := 6) (N := 13) (CN := RX6) (T := TX6) (pc := 45) C 2 dX6_setWheelsFrom_45 wlX6_12 rfl rfl rfl wfX6 (by decide) rfl ?_
      refine s_iload (pc := 48) C dX6_setWheelsFrom_48 0 rfl ?_
      refine s_iload_n (pc := 50) C dX6_setWheelsFrom_50 1 rfl ?_
      refine s_callVNv (pc := 51) C (c_X8_spin l 33 (Or.inr rfl) z39 0 (by first | omega | assumption | (constructor <;> omega) | (refine ⟨⟨?_, ?_⟩, ?_⟩ <;> omega) | (simp [hs_ss, hs_up]; omega) | (simp [hs_ss, hs_up]; done)) (by first | omega | assumption | (constructor <;> omega) | (refine ⟨⟨?_, ?_⟩, ?_⟩ <;> omega) | (simp [hs_ss, hs_up]; omega) | (simp [hs_ss, hs_up]; done))) [vI z39, vI 0] [] rfl rfl dX6_setWheelsFrom_51 wlX6_101 wiX8_spin weX8_spin wcX8_spin wnX8 noX8_spin (by decide) (by decide) (Nat.le_of_ble_eq_true rfl) (gx_self hg2) rfl rfl ?_
      rintro σ51 k51
      obtain ⟨kg51, kf51, k51⟩ := k51
      have g51 := gx_trans hg2 kg51
      have f51 := frm_tr hf2 (frm_mono (Q := PSw) kf51 (fun c j h => by simp [PSp, PSw] at h ⊢ <;> omega))
      have p51_CHO := CHO_cg (frm_mono (Q := okCHO) kf51 (fun c j h => by simp [PSp, okCHO] at h ⊢ <;> omega)) hp2_CHO
      have e329 : σ51 32 9 = σ1 32 9 := kf51 32 9 rfl
      show hs_Wd _ _ _ _ _ _ _ _ _ _ _ _ _ _ _ _ _ 54 _ [] σ51
      refine s_aload_n (pc := 54) C dX6_setWheelsFrom_54 2 rfl ?_
      refine s_dup (pc := 55) C dX6_setWheelsFrom_55 rfl ?_
      refine s_getl (q := 32) (ci := 6) (N := 13) (CN := RX6) (T := TX6) (pc := 56) C 9 dX6_setWheelsFrom_56 wlX6_72 rfl rfl rfl wfX6 (by decide) rfl (σ51 32 9) rfl ?_
      have b56 : (-9223372036854775808 : Int) ≤ σ51 32 9 ∧ σ51 32 9 ≤ 9223372036854775807 := g51.1 32 9
      refine s_iload (pc := 59) C dX6_setWheelsFrom_59 0 rfl ?_
      refine s_i2l (pc := 61) C dX6_setWheelsFrom_61 ⟨by omega, by omega⟩ ?_
      refine s_ladd (pc := 62) C dX6_setWheelsFrom_62 ?_
      refine s_putl (q := 32) (ci := 6) (N := 13) (CN := RX6) (T := TX6) (ty0 := tyX6) (ty := .long) (pc := 63) C 9 dX6_setWheelsFrom_63 wlX6_72 rfl rfl rfl wfX6 tyX6_ok nmX6 (by decide) rfl rfl rfl rfl rfl ?_
      have g63 := gx_set (z := ((σ51 32 9) + z39)) g51 32 9 rfl (-9223372036854775808) (9223372036854775807) rfl ⟨by omega, by omega⟩
      have f63 := frm_set (P := PSw) (z := ((σ51 32 9) + z39)) f51 32 9 rfl
      have p63_CHO := CHO_cg (frm_one (P := okCHO) (z := ((σ51 32 9) + z39)) 32 9 rfl) p51_CHO
      refine s_iinc (pc := 66) C [(2, vI (w + (-1))), (4, vI z39), (3, vI 0), (0, .ref (ad 32)), (1, vI n)] dX6_setWheelsFrom_66 4 rfl (by decide) rfl ?_
      refine s_goto (pc := 69) C (tgt := 2) dX6_setWheelsFrom_69 (by decide) ?_
      refine s_sub C [3, 4, 0] [(0, .ref (ad 32)), (1, vI n), (2, vI (w + (-1)))] rfl ?_
      have hi2 : GX σ ((hs_ss σ51 32 9 ((σ51 32 9) + z39))) ∧ FRM PSw σ ((hs_ss σ51 32 9 ((σ51 32 9) + z39))) ∧ CHO ((hs_ss σ51 32 9 ((σ51 32 9) + z39))) ∧ -1 ≤ (w + (-1)) ∧ (w + (-1)) ≤ n ∧ σ 32 9 ≤ ((hs_ss σ51 32 9 ((σ51 32 9) + z39))) 32 9 ∧ ((hs_ss σ51 32 9 ((σ51 32 9) + z39))) 32 9 ≤ σ 32 9 + 600 * (n - (w + (-1))) := ⟨g63, f63, p63_CHO, ⟨by omega, by omega, by simp [hs_ss, hs_up]; omega, by simp [hs_ss, hs_up]; omega⟩⟩
      exact ih2 (w + (-1), (hs_ss σ51 32 9 ((σ51 32 9) + z39))) (by first | omega | (simp only []; omega)) hi2
    · skip
      refine s_iconst (pc := 22) C dX6_setWheelsFrom_22 ?_
      refine s_goto (pc := 23) C (tgt := 27) dX6_setWheelsFrom_23 (by decide) ?_
      refine s_istore_n (pc := 27) C [(3, vI 1), (0, .ref (ad 32)), (1, vI n), (2, vI w)] dX6_setWheelsFrom_27 (by decide) rfl ?_
      refine s_aload_n (pc := 28) C dX6_setWheelsFrom_28 1 rfl ?_
      refine s_getr (q := 32) (ci := 6) (N := 13) (CN := RX6) (T := TX6) (pc := 29) C 2 dX6_setWheelsFrom_29 wlX6_12 rfl rfl rfl wfX6 (by decide) rfl ?_
      refine s_iload_n (pc := 32) C dX6_setWheelsFrom_32 3 rfl ?_
      refine s_aload_n (pc := 33) C dX6_setWheelsFrom_33 1 rfl ?_
      refine s_iload_n (pc := 34) C dX6_setWheelsFrom_34 3 rfl ?_
      refine s_callVi (pc := 35) C (c_X6_placeOf l w (by first | omega | assumption | (constructor <;> omega) | (refine ⟨⟨?_, ?_⟩, ?_⟩ <;> omega) | (simp [hs_ss, hs_up]; omega) | (simp [hs_ss, hs_up]; done))) [vI w] [vI w, .ref (ad 33)] rfl rfl dX6_setWheelsFrom_35 wlX6_93 wiX6_placeOf weX6_placeOf wcX6_placeOf wnX6 noX6_placeOf (by decide) (by decide) (Nat.le_of_ble_eq_true rfl) ⟨(gx_self hg2), by first | omega | assumption | (constructor <;> omega) | (refine ⟨⟨?_, ?_⟩, ?_⟩ <;> omega) | (simp [hs_ss, hs_up]; omega) | (simp [hs_ss, hs_up]; done)⟩ rfl rfl ?_
      rintro z35 _ ⟨rfl, k35⟩
      show hs_Wd _ _ _ _ _ _ _ _ _ _ _ _ _ _ _ _ _ 38 _ [vI z35, vI w, .ref (ad 33)] σ1
      refine s_iload_n (pc := 38) C dX6_setWheelsFrom_38 0 rfl ?_
      refine s_callVNi (pc := 39) C (c_X8_stepsToSet l 33 (Or.inr rfl) w z35 1 (by first | omega | assumption | (constructor <;> omega) | (refine ⟨⟨?_, ?_⟩, ?_⟩ <;> omega) | (simp [hs_ss, hs_up]; omega) | (simp [hs_ss, hs_up]; done)) (by first | omega | assumption | (constructor <;> omega) | (refine ⟨⟨?_, ?_⟩, ?_⟩ <;> omega) | (simp [hs_ss, hs_up]; omega) | (simp [hs_ss, hs_up]; done)) (by first | omega | assumption | (constructor <;> omega) | (refine ⟨⟨?_, ?_⟩, ?_⟩ <;> omega) | (simp [hs_ss, hs_up]; omega) | (simp [hs_ss, hs_up]; done))) [vI w, vI z35, vI 1] [] rfl rfl dX6_setWheelsFrom_39 wlX6_97 wiX8_stepsToSet weX8_stepsToSet wcX8_stepsToSet wnX8 noX8_stepsToSet (by decide) (by decide) (Nat.le_of_ble_eq_true rfl) (gx_self hg2) rfl rfl ?_
      rintro z39 _ ⟨rfl, k39⟩
      show hs_Wd _ _ _ _ _ _ _ _ _ _ _ _ _ _ _ _ _ 42 _ [vI z39] σ1
      refine s_istore (pc := 42) C [(4, vI z39), (3, vI 1), (0, .ref (ad 32)), (1, vI n), (2, vI w)] dX6_setWheelsFrom_42 (by decide) rfl ?_
      refine s_aload_n (pc := 44) C dX6_setWheelsFrom_44 2 rfl ?_
      refine s_getr (q := 32) (ci := 6) (N := 13) (CN := RX6) (T := TX6) (pc := 45) C 2 dX6_setWheelsFrom_45 wlX6_12 rfl rfl rfl wfX6 (by decide) rfl ?_
      refine s_iload (pc := 48) C dX6_setWheelsFrom_48 0 rfl ?_
      refine s_iload_n (pc := 50) C dX6_setWheelsFrom_50 1 rfl ?_
      refine s_callVNv (pc := 51) C (c_X8_spin l 33 (Or.inr rfl) z39 1 (by first | omega | assumption | (constructor <;> omega) | (refine ⟨⟨?_, ?_⟩, ?_⟩ <;> omega) | (simp [hs_ss, hs_up]; omega) | (simp [hs_ss, hs_up]; done)) (by first | omega | assumption | (constructor <;> omega) | (refine ⟨⟨?_, ?_⟩, ?_⟩ <;> omega) | (simp [hs_ss, hs_up]; omega) | (simp [hs_ss, hs_up]; done))) [vI z39, vI 1] [] rfl rfl dX6_setWheelsFrom_51 wlX6_101 wiX8_spin weX8_spin wcX8_spin wnX8 noX8_spin (by decide) (by decide) (Nat.le_of_ble_eq_true rfl) (gx_self hg2) rfl rfl ?_
      rintro σ51 k51
      obtain ⟨kg51, kf51, k51⟩ := k51
      have g51 := gx_trans hg2 kg51
      have f51 := frm_tr hf2 (frm_mono (Q := PSw) kf51 (fun c j h => by simp [PSp, PSw] at h ⊢ <;> omega))
      have p51_CHO := CHO_cg (frm_mono (Q := okCHO) kf51 (fun c j h => by simp [PSp, okCHO] at h ⊢ <;> omega)) hp2_CHO
      have e329 : σ51 32 9 = σ1 32 9 := kf51 32 9 rfl
      show hs_Wd _ _ _ _ _ _ _ _ _ _ _ _ _ _ _ _ _ 54 _ [] σ51
      refine s_aload_n (pc := 54) C dX6_setWheelsFrom_54 2 rfl ?_
      refine s_dup (pc := 55) C dX6_setWheelsFrom_55 rfl ?_
      refine s_getl (q := 32) (ci := 6) (N := 13) (CN := RX6) (T := TX6) (pc := 56) C 9 dX6_setWheelsFrom_56 wlX6_72 rfl rfl rfl wfX6 (by decide) rfl (σ51 32 9) rfl ?_
      have b56 : (-9223372036854775808 : Int) ≤ σ51 32 9 ∧ σ51 32 9 ≤ 9223372036854775807 := g51.1 32 9
      refine s_iload (pc := 59) C dX6_setWheelsFrom_59 0 rfl ?_
      refine s_i2l (pc := 61) C dX6_setWheelsFrom_61 ⟨by omega, by omega⟩ ?_
      refine s_ladd (pc := 62) C dX6_setWheelsFrom_62 ?_
      refine s_putl (q := 32) (ci := 6) (N := 13) (CN := RX6) (T := TX6) (ty0 := tyX6) (ty := .long) (pc := 63) C 9 dX6_setWheelsFrom_63 wlX6_72 rfl rfl rfl wfX6 tyX6_ok nmX6 (by decide) rfl rfl rfl rfl rfl ?_
      have g63 := gx_set (z := ((σ51 32 9) + z39)) g51 32 9 rfl (-9223372036854775808) (9223372036854775807) rfl ⟨by omega, by omega⟩
      have f63 := frm_set (P := PSw) (z := ((σ51 32 9) + z39)) f51 32 9 rfl
      have p63_CHO := CHO_cg (frm_one (P := okCHO) (z := ((σ51 32 9) + z39)) 32 9 rfl) p51_CHO
      refine s_iinc (pc := 66) C [(2, vI (w + (-1))), (4, vI z39), (3, vI 1), (0, .ref (ad 32)), (1, vI n)] dX6_setWheelsFrom_66 4 rfl (by decide) rfl ?_
      refine s_goto (pc := 69) C (tgt := 2) dX6_setWheelsFrom_69 (by decide) ?_
      refine s_sub C [3, 4, 0] [(0, .ref (ad 32)), (1, vI n), (2, vI (w + (-1)))] rfl ?_
      have hi2 : GX σ ((hs_ss σ51 32 9 ((σ51 32 9) + z39))) ∧ FRM PSw σ ((hs_ss σ51 32 9 ((σ51 32 9) + z39))) ∧ CHO ((hs_ss σ51 32 9 ((σ51 32 9) + z39))) ∧ -1 ≤ (w + (-1)) ∧ (w + (-1)) ≤ n ∧ σ 32 9 ≤ ((hs_ss σ51 32 9 ((σ51 32 9) + z39))) 32 9 ∧ ((hs_ss σ51 32 9 ((σ51 32 9) + z39))) 32 9 ≤ σ 32 9 + 600 * (n - (w + (-1))) := ⟨g63, f63, p63_CHO, ⟨by omega, by omega, by simp [hs_ss, hs_up]; omega, by simp [hs_ss, hs_up]; omega⟩⟩
      exact ih2 (w + (-1), (hs_ss σ51 32 9 ((σ51 32 9) + z39))) (by first | omega | (simp only []; omega)) hi2
set_option maxHeartbeats 4000000 in
set_option maxRecDepth 100000 in
theorem c_X6_goThroughRows (l : Launch) (bt : Int) (hbt : hs_R bt) : hs_Met l yX6_goThroughRows cX6_goThroughRows 4 none 9 SHX (fun ad => [.ref (ad 32), vI bt]) (fun σ => GX σ σ ∧ SZR σ) (hs_PV (fun σ σ1 => GX σ σ1 ∧ FRM PGr σ σ1 ∧ SZR σ1 ∧ 0 ≤ σ1 32 9 ∧ σ1 32 9 ≤ 1000000)) := by
  refine hs_from pfX6_goThroughRows (fun _ => Nat.le_of_ble_eq_true rfl) ?_
  intro p e s m args below meth c D dA ad A σ C hpre
  have C : hs_C p s m args meth c D dA SHX ad A 4 cX6_goThroughRows RX6 none := C
  obtain ⟨g0, p0_SZR⟩ := hpre
  have f0 : FRM PGr σ σ := frm_rf
  show hs_Wd p l e 9 s m args below meth c D dA SHX ad A 4 (hs_PV (fun σ σ1 => GX σ σ1 ∧ FRM PGr σ σ1 ∧ SZR σ1 ∧ 0 ≤ σ1 32 9 ∧ σ1 32 9 ≤ 1000000) σ) 0 [(0, .ref (ad 32)), (1, vI bt)] [] σ
  refine s_aload_n (pc := 0) C dX6_goThroughRows_0 0 rfl ?_
  refine s_iload_n (pc := 1) C dX6_goThroughRows_1 1 rfl ?_
  refine s_puti (q := 32) (ci := 6) (N := 13) (CN := RX6) (T := TX6) (ty0 := tyX6) (ty := .int) (pc := 2) C 7 dX6_goThroughRows_2 wlX6_62 rfl rfl rfl wfX6 tyX6_ok nmX6 (by decide) rfl rfl rfl (vp_nar_int _) rfl ?_
  have g2 := gx_set (z := bt) g0 32 7 rfl (-2147483648) (2147483647) rfl ⟨by omega, by omega⟩
  have f2 := frm_set (P := PGr) (z := bt) f0 32 7 rfl
  have p2_SZR := SZR_cg (frm_one (P := okSZR) (z := bt) 32 7 rfl) p0_SZR
  refine s_aload_n (pc := 5) C dX6_goThroughRows_5 0 rfl ?_
  refine s_getr (q := 32) (ci := 6) (N := 13) (CN := RX6) (T := TX6) (pc := 6) C 2 dX6_goThroughRows_6 wlX6_12 rfl rfl rfl wfX6 (by decide) rfl ?_
  refine s_aload_n (pc := 9) C dX6_goThroughRows_9 0 rfl ?_
  refine s_getr (q := 32) (ci := 6) (N := 13) (CN := RX6) (T := TX6) (pc := 10) C 0 dX6_goThroughRows_10 wlX6_30 rfl rfl rfl wfX6 (by decide) rfl ?_
  refine s_getrN (q := 2) (ci := 5) (N := 3) (CN := RX5) (T := TX5) (pc := 13) C 0 dX6_goThroughRows_13 wlX6_42 rfl rfl rfl wfX5 (by decide) rfl ?_
  have r16_3_3 : (hs_ss σ 32 7 bt) 3 3 = σ 3 3 := rfl
  have r16_3_4 : (hs_ss σ 32 7 bt) 3 4 = σ 3 4 := rfl
  refine s_callVNv (pc := 16) C (c_X8_becomeLike l) [.ref (ad 3)] [] rfl rfl dX6_goThroughRows_16 wlX6_65 wiX8_becomeLike weX8_becomeLike wcX8_becomeLike wnX8 noX8_becomeLike (by decide) (by decide) (Nat.le_of_ble_eq_true rfl) g2.1 rfl rfl ?_
  rintro σ16 k16
  show hs_Wd _ _ _ _ _ _ _ _ _ _ _ _ _ _ _ _ _ 19 _ [] σ16
  refine s_aload_n (pc := 19) C dX6_goThroughRows_19 0 rfl ?_
  refine s_getr (q := 32) (ci := 6) (N := 13) (CN := RX6) (T := TX6) (pc := 20) C 2 dX6_goThroughRows_20 wlX6_12 rfl rfl rfl wfX6 (by decide) rfl ?_
  refine s_callVNv (pc := 23) C (c_X8_goHome l 33 (Or.inr rfl)) [] [] rfl rfl dX6_goThroughRows_23 wlX6_69 wiX8_goHome weX8_goHome wcX8_goHome wnX8 noX8_goHome (by decide) (by decide) (Nat.le_of_ble_eq_true rfl) k16.1 rfl rfl ?_
  rintro σ23 k23
  have hk23 : ∀ c j : Nat, c ≠ 32 → c ≠ 33 → c ≠ 34 → c ≠ 35 → c ≠ 36 → σ23 c j = σ c j := fun c j h1 h2 h3 h4 h5 => by rw [k23.2.2.2 c j h4 h5 (fun q => h2 q.1), k16.2.2.2 c j h3 (fun q => h2 q.1)]; simp [hs_ss, h1]
  have g23 : GX σ σ23 := gx_home g0 k23.1 (fun j hj => (k23.2.2.1 j hj).1) hk23
  have e32 : ∀ j : Nat, j ≠ 7 → σ23 32 j = σ 32 j := fun j h => by rw [k23.2.2.2 32 j (by decide) (by decide) (by omega), k16.2.2.2 32 j (by decide) (by omega)]; simp [hs_ss, hs_up, h]
  have f23 : FRM PGr σ σ23 := fun c j h => by simp [PGr] at h; by_cases e : c = 32; (subst e; exact e32 j (by omega)); exact hk23 c j e (by omega) (by omega) (by omega) (by omega)
  have p23_SZR : SZR σ23 := SZR_cg (frm_mono (Q := okSZR) f23 (fun c j h => by simp [PGr, okSZR] at h ⊢ <;> omega)) p0_SZR
  have e334 : σ23 33 4 = σ 3 4 := by rw [k23.2.2.2 33 4 (by decide) (by decide) (by decide)]; exact k16.2.2.1
  show hs_Wd _ _ _ _ _ _ _ _ _ _ _ _ _ _ _ _ _ 26 _ [] σ23
  refine s_iconst (pc := 26) C dX6_goThroughRows_26 ?_
  refine s_istore_n (pc := 27) C [(2, vI 0), (0, .ref (ad 32)), (1, vI bt)] dX6_goThroughRows_27 (by decide) rfl ?_
  refine s_sub C [1, 2, 0] [(0, .ref (ad 32)), (1, vI bt), (2, vI 0)] rfl ?_
  have hi28 : GX σ σ23 ∧ FRM PGr σ σ23 ∧ SZR σ23 ∧ 0 ≤ (0 : Int) ∧ (0 : Int) ≤ 4 ∧ σ23 33 4 = σ 3 4 ∧ (∀ j : Nat, (j : Int) < (0 : Int) → σ23 43 j = 0) := ⟨g23, f23, p23_SZR, ⟨by omega, by omega, e334, fun j hj => by exfalso; omega⟩⟩
  refine hs_loop (α := Int × hs_S) (fun x_ => (GX σ x_.2 ∧ FRM PGr σ x_.2 ∧ SZR x_.2 ∧ 0 ≤ x_.1 ∧ x_.1 ≤ 4 ∧ x_.2 33 4 = σ 3 4 ∧ (∀ j : Nat, (j : Int) < x_.1 → x_.2 43 j = 0)) → hs_Wd p l e 9 s m args below meth c D dA SHX ad A 4 (hs_PV (fun σ σ1 => GX σ σ1 ∧ FRM PGr σ σ1 ∧ SZR σ1 ∧ 0 ≤ σ1 32 9 ∧ σ1 32 9 ≤ 1000000) σ) 28 [(0, .ref (ad 32)), (1, vI bt), (2, vI x_.1)] [] x_.2) (fun x_ => (5 - x_.1).toNat) ?_ (0, σ23) hi28
  rintro ⟨w, σ1⟩ ih28 hinv
  replace hinv : GX σ σ1 ∧ FRM PGr σ σ1 ∧ SZR σ1 ∧ 0 ≤ w ∧ w ≤ 4 ∧ σ1 33 4 = σ 3 4 ∧ (∀ j : Nat, (j : Int) < w → σ1 43 j = 0) := hinv
  obtain ⟨hg28, hf28, hp28_SZR, hv28⟩ := hinv
  show hs_Wd p l e 9 s m args below meth c D dA SHX ad A 4 (hs_PV (fun σ σ1 => GX σ σ1 ∧ FRM PGr σ σ1 ∧ SZR σ1 ∧ 0 ≤ σ1 32 9 ∧ σ1 32 9 ≤ 1000000) σ) 28 [(0, .ref (ad 32)), (1, vI bt), (2, vI w)] [] σ1
  refine s_iload_n (pc := 28) C dX6_goThroughRows_28 2 rfl ?_
  refine s_iconst (pc := 29) C dX6_goThroughRows_29 ?_
  refine s_icmp_ge (pc := 30) C (tgt := 46) dX6_goThroughRows_30 (by decide) ⟨by omega, by omega⟩ ⟨by decide, by decide⟩ (fun h30 => ?_) (fun h30 => ?_)
  · skip
    refine s_aload_n (pc := 46) C dX6_goThroughRows_46 0 rfl ?_
    refine s_lconst (z := 0) (pc := 47) C dX6_goThroughRows_47 (by decide) ?_
    refine s_putl (q := 32) (ci := 6) (N := 13) (CN := RX6) (T := TX6) (ty0 := tyX6) (ty := .long) (pc := 48) C 9 dX6_goThroughRows_48 wlX6_72 rfl rfl rfl wfX6 tyX6_ok nmX6 (by decide) rfl rfl rfl rfl rfl ?_
    have g48 := gx_set (z := 0) hg28 32 9 rfl (-9223372036854775808) (9223372036854775807) rfl ⟨by omega, by omega⟩
    have f48 := frm_set (P := PGr) (z := 0) hf28 32 9 rfl
    have p48_SZR := SZR_cg (frm_one (P := okSZR) (z := 0) 32 9 rfl) hp28_SZR
    refine s_aload_n (pc := 51) C dX6_goThroughRows_51 0 rfl ?_
    refine s_iconst (pc := 52) C dX6_goThroughRows_52 ?_
    refine s_puti (q := 32) (ci := 6) (N := 13) (CN := RX6) (T := TX6) (ty0 := tyX6) (ty := .int) (pc := 53) C 8 dX6_goThroughRows_53 wlX6_76 rfl rfl rfl wfX6 tyX6_ok nmX6 (by decide) rfl rfl rfl (vp_nar_int _) rfl ?_
    have g53 := gx_set (z := 0) g48 32 8 rfl (0) (100000000) rfl ⟨by omega, by omega⟩
    have f53 := frm_set (P := PGr) (z := 0) f48 32 8 rfl
    have p53_SZR := SZR_cg (frm_one (P := okSZR) (z := 0) 32 8 rfl) p48_SZR
    refine s_aload_n (pc := 56) C dX6_goThroughRows_56 0 rfl ?_
    refine s_getr (q := 32) (ci := 6) (N := 13) (CN := RX6) (T := TX6) (pc := 57) C 2 dX6_goThroughRows_57 wlX6_12 rfl rfl rfl wfX6 (by decide) rfl ?_
    refine s_getiN (q := 33) (ci := 8) (N := 7) (CN := RX8) (T := TX8) (pc := 60) C 4 dX6_goThroughRows_60 wlX6_47 rfl rfl rfl wfX8 (by decide) rfl (σ1 33 4) rfl ?_
    have b60 : (0 : Int) ≤ σ1 33 4 ∧ σ1 33 4 ≤ 4 := g53.1 33 4
    refine s_iconst (pc := 63) C dX6_goThroughRows_63 ?_
    refine s_isub (pc := 64) C dX6_goThroughRows_64 ?_
    refine s_istore_n (pc := 65) C [(2, vI ((σ1 33 4) - 1)), (0, .ref (ad 32)), (1, vI bt)] dX6_goThroughRows_65 (by decide) rfl ?_
    refine s_iconst (pc := 66) C dX6_goThroughRows_66 ?_
    refine s_istore_n (pc := 67) C [(3, vI 1), (2, vI ((σ1 33 4) - 1)), (0, .ref (ad 32)), (1, vI bt)] dX6_goThroughRows_67 (by decide) rfl ?_
    refine s_sub C [2, 3, 1, 0] [(0, .ref (ad 32)), (1, vI bt), (2, vI ((σ1 33 4) - 1)), (3, vI 1)] rfl ?_
    have b334 : (0 : Int) ≤ σ1 33 4 ∧ σ1 33 4 ≤ 4 := hg28.1 33 4
    have e34 : σ1 3 4 = σ 3 4 := hg28.2.1.2.2.2.1
    have hi68 : GX σ ((hs_ss (hs_ss σ1 32 9 0) 32 8 0)) ∧ FRM PGr σ ((hs_ss (hs_ss σ1 32 9 0) 32 8 0)) ∧ SZR ((hs_ss (hs_ss σ1 32 9 0) 32 8 0)) ∧ 1 ≤ (1 : Int) ∧ (1 : Int) ≤ 401 ∧ -1 ≤ ((σ1 33 4) - 1) ∧ ((σ1 33 4) - 1) ≤ 3 ∧ ((σ1 33 4) - 1) < ((hs_ss (hs_ss σ1 32 9 0) 32 8 0)) 33 4 ∧ ((hs_ss (hs_ss σ1 32 9 0) 32 8 0)) 33 4 = σ 3 4 ∧ 0 ≤ ((hs_ss (hs_ss σ1 32 9 0) 32 8 0)) 32 9 ∧ ((hs_ss (hs_ss σ1 32 9 0) 32 8 0)) 32 9 ≤ 2400 * ((1 : Int) - 1) ∧ (0 < ((hs_ss (hs_ss σ1 32 9 0) 32 8 0)) 32 6 → CHO ((hs_ss (hs_ss σ1 32 9 0) 32 8 0))) := ⟨g53, f53, p53_SZR, ⟨by omega, by omega, by omega, by omega, by show σ1 33 4 - 1 < σ1 33 4; omega, hv28.2.2.1, by show (0 : Int) ≤ 0; omega, by show (0 : Int) ≤ 2400 * (1 - 1); omega, fun q j hj => by have h1 := hp28_SZR.2 q j (by have : (j : Int) < σ1 33 4 := hj; omega); have h2 : σ1 43 j = 0 := hv28.2.2.2 j (by have : (j : Int) < σ1 33 4 := hj; omega); show 0 ≤ σ1 43 j ∧ σ1 43 j < σ1 42 j; omega⟩⟩
    refine hs_loop (α := Int × Int × hs_S) (fun x_ => (GX σ x_.2.2 ∧ FRM PGr σ x_.2.2 ∧ SZR x_.2.2 ∧ 1 ≤ x_.1 ∧ x_.1 ≤ 401 ∧ -1 ≤ x_.2.1 ∧ x_.2.1 ≤ 3 ∧ x_.2.1 < x_.2.2 33 4 ∧ x_.2.2 33 4 = σ 3 4 ∧ 0 ≤ x_.2.2 32 9 ∧ x_.2.2 32 9 ≤ 2400 * (x_.1 - 1) ∧ (0 < x_.2.2 32 6 → CHO x_.2.2)) → hs_Wd p l e 9 s m args below meth c D dA SHX ad A 4 (hs_PV (fun σ σ1 => GX σ σ1 ∧ FRM PGr σ σ1 ∧ SZR σ1 ∧ 0 ≤ σ1 32 9 ∧ σ1 32 9 ≤ 1000000) σ) 68 [(0, .ref (ad 32)), (1, vI bt), (2, vI x_.2.1), (3, vI x_.1)] [] x_.2.2) (fun x_ => (402 - x_.1).toNat) ?_ (1, (σ1 33 4) - 1, (hs_ss (hs_ss σ1 32 9 0) 32 8 0)) hi68
    rintro ⟨rw, ch, σ2⟩ ih68 hinv
    replace hinv : GX σ σ2 ∧ FRM PGr σ σ2 ∧ SZR σ2 ∧ 1 ≤ rw ∧ rw ≤ 401 ∧ -1 ≤ ch ∧ ch ≤ 3 ∧ ch < σ2 33 4 ∧ σ2 33 4 = σ 3 4 ∧ 0 ≤ σ2 32 9 ∧ σ2 32 9 ≤ 2400 * (rw - 1) ∧ (0 < σ2 32 6 → CHO σ2) := hinv
    obtain ⟨hg68, hf68, hp68_SZR, hv68⟩ := hinv
    show hs_Wd p l e 9 s m args below meth c D dA SHX ad A 4 (hs_PV (fun σ σ1 => GX σ σ1 ∧ FRM PGr σ σ1 ∧ SZR σ1 ∧ 0 ≤ σ1 32 9 ∧ σ1 32 9 ≤ 1000000) σ) 68 [(0, .ref (ad 32)), (1, vI bt), (2, vI ch), (3, vI rw)] [] σ2
    obtain ⟨hr0, hr1, hc0, hc1, hc2, h334, hs0, hs1, hCH⟩ := hv68
    have hsz := hp68_SZR.1
    refine s_iload_n (pc := 68) C dX6_goThroughRows_68 3 rfl ?_
    refine s_aload_n (pc := 69) C dX6_goThroughRows_69 0 rfl ?_
    refine s_geti (q := 32) (ci := 6) (N := 13) (CN := RX6) (T := TX6) (pc := 70) C 6 dX6_goThroughRows_70 wlX6_38 rfl rfl rfl wfX6 (by decide) rfl (σ2 32 6) rfl ?_
    have b70 : (0 : Int) ≤ σ2 32 6 ∧ σ2 32 6 ≤ 100000000 := hg68.1 32 6
    refine s_icmp_gt (pc := 73) C (tgt := 119) dX6_goThroughRows_73 (by decide) ⟨by omega, by omega⟩ ⟨by omega, by omega⟩ (fun h73 => ?_) (fun h73 => ?_)
    · skip
      refine s_aload_n (pc := 119) C dX6_goThroughRows_119 0 rfl ?_
      refine s_geti (q := 32) (ci := 6) (N := 13) (CN := RX6) (T := TX6) (pc := 120) C 8 dX6_goThroughRows_120 wlX6_76 rfl rfl rfl wfX6 (by decide) rfl (σ2 32 8) rfl ?_
      have b120 : (0 : Int) ≤ σ2 32 8 ∧ σ2 32 8 ≤ 100000000 := hg68.1 32 8
      refine s_if_ne (pc := 123) C (tgt := 142) dX6_goThroughRows_123 (by decide) ⟨by omega, by omega⟩ (fun h123 => ?_) (fun h123 => ?_)
      · skip
        refine s_vret (pc := 142) C dX6_goThroughRows_142 ?_
        refine ⟨rfl, ?_⟩
        exact ⟨hg68, hf68, hp68_SZR, by first | omega | assumption | (constructor <;> omega) | (refine ⟨⟨?_, ?_⟩, ?_⟩ <;> omega) | (simp [hs_ss, hs_up]; omega) | (simp [hs_ss, hs_up]; done)⟩
      · skip
        refine s_aload_n (pc := 126) C dX6_goThroughRows_126 0 rfl ?_
        refine s_aload_n (pc := 127) C dX6_goThroughRows_127 0 rfl ?_
        refine s_geti (q := 32) (ci := 6) (N := 13) (CN := RX6) (T := TX6) (pc := 128) C 6 dX6_goThroughRows_128 wlX6_38 rfl rfl rfl wfX6 (by decide) rfl (σ2 32 6) rfl ?_
        have b128 : (0 : Int) ≤ σ2 32 6 ∧ σ2 32 6 ≤ 100000000 := hg68.1 32 6
        refine s_puti (q := 32) (ci := 6) (N := 13) (CN := RX6) (T := TX6) (ty0 := tyX6) (ty := .int) (pc := 131) C 8 dX6_goThroughRows_131 wlX6_76 rfl rfl rfl wfX6 tyX6_ok nmX6 (by decide) rfl rfl rfl (vp_nar_int _) rfl ?_
        have g131 := gx_set (z := (σ2 32 6)) hg68 32 8 rfl (0) (100000000) rfl ⟨by omega, by omega⟩
        have f131 := frm_set (P := PGr) (z := (σ2 32 6)) hf68 32 8 rfl
        have p131_SZR := SZR_cg (frm_one (P := okSZR) (z := (σ2 32 6)) 32 8 rfl) hp68_SZR
        refine s_aload_n (pc := 134) C dX6_goThroughRows_134 0 rfl ?_
        refine s_aload_n (pc := 135) C dX6_goThroughRows_135 0 rfl ?_
        refine s_getl (q := 32) (ci := 6) (N := 13) (CN := RX6) (T := TX6) (pc := 136) C 9 dX6_goThroughRows_136 wlX6_72 rfl rfl rfl wfX6 (by decide) rfl (σ2 32 9) rfl ?_
        have b136 : (-9223372036854775808 : Int) ≤ σ2 32 9 ∧ σ2 32 9 ≤ 9223372036854775807 := g131.1 32 9
        refine s_putl (q := 32) (ci := 6) (N := 13) (CN := RX6) (T := TX6) (ty0 := tyX6) (ty := .long) (pc := 139) C 10 dX6_goThroughRows_139 wlX6_86 rfl rfl rfl wfX6 tyX6_ok nmX6 (by decide) rfl rfl rfl rfl rfl ?_
        have g139 := gx_set (z := (σ2 32 9)) g131 32 10 rfl (-9223372036854775808) (9223372036854775807) rfl ⟨by omega, by omega⟩
        have f139 := frm_set (P := PGr) (z := (σ2 32 9)) f131 32 10 rfl
        have p139_SZR := SZR_cg (frm_one (P := okSZR) (z := (σ2 32 9)) 32 10 rfl) p131_SZR
        refine s_vret (pc := 142) C dX6_goThroughRows_142 ?_
        refine ⟨rfl, ?_⟩
        exact ⟨g139, f139, p139_SZR, by first | omega | assumption | (constructor <;> omega) | (refine ⟨⟨?_, ?_⟩, ?_⟩ <;> omega) | (simp [hs_ss, hs_up]; omega) | (simp [hs_ss, hs_up]; done)⟩
    · skip
      refine s_aload_n (pc := 76) C dX6_goThroughRows_76 0 rfl ?_
      refine s_iload_n (pc := 77) C dX6_goThroughRows_77 2 rfl ?_
      refine s_callVv (pc := 78) C (c_X6_setWheelsFrom l ch (by first | omega | assumption | (constructor <;> omega) | (refine ⟨⟨?_, ?_⟩, ?_⟩ <;> omega) | (simp [hs_ss, hs_up]; omega) | (simp [hs_ss, hs_up]; done))) [vI ch] [] rfl rfl dX6_goThroughRows_78 wlX6_79 wiX6_setWheelsFrom weX6_setWheelsFrom wcX6_setWheelsFrom wnX6 noX6_setWheelsFrom (by decide) (by decide) (Nat.le_of_ble_eq_true rfl) ⟨(gx_self hg68), hCH (by omega), by first | omega | assumption | (constructor <;> omega) | (refine ⟨⟨?_, ?_⟩, ?_⟩ <;> omega) | (simp [hs_ss, hs_up]; omega) | (simp [hs_ss, hs_up]; done)⟩ rfl rfl ?_
      rintro σ78 k78
      obtain ⟨kg78, kf78, p78_CHO, k78⟩ := k78
      have g78 := gx_trans hg68 kg78
      have f78 := frm_tr hf68 (frm_mono (Q := PGr) kf78 (fun c j h => by simp [PSw, PGr] at h ⊢ <;> omega))
      have p78_SZR := SZR_cg (frm_mono (Q := okSZR) kf78 (fun c j h => by simp [PSw, okSZR] at h ⊢ <;> omega)) hp68_SZR
      have e78a : σ78 32 6 = σ2 32 6 := kf78 32 6 rfl
      have e78b : σ78 33 4 = σ2 33 4 := kf78 33 4 rfl
      have p78_CHO := p78_CHO
      show hs_Wd _ _ _ _ _ _ _ _ _ _ _ _ _ _ _ _ _ 81 _ [] σ78
      refine s_aload_n (pc := 81) C dX6_goThroughRows_81 0 rfl ?_
      refine s_geti (q := 32) (ci := 6) (N := 13) (CN := RX6) (T := TX6) (pc := 82) C 8 dX6_goThroughRows_82 wlX6_76 rfl rfl rfl wfX6 (by decide) rfl (σ78 32 8) rfl ?_
      have b82 : (0 : Int) ≤ σ78 32 8 ∧ σ78 32 8 ≤ 100000000 := g78.1 32 8
      refine s_if_ne (pc := 85) C (tgt := 108) dX6_goThroughRows_85 (by decide) ⟨by omega, by omega⟩ (fun h85 => ?_) (fun h85 => ?_)
      · skip
        refine s_aload_n (pc := 108) C dX6_goThroughRows_108 0 rfl ?_
        refine s_callVi (pc := 109) C (c_X6_chooseNextRow l) [] [] rfl rfl dX6_goThroughRows_109 wlX6_89 wiX6_chooseNextRow weX6_chooseNextRow wcX6_chooseNextRow wnX6 noX6_chooseNextRow (by decide) (by decide) (Nat.le_of_ble_eq_true rfl) ⟨(gx_self g78), p78_CHO⟩ rfl rfl ?_
        rintro z109 σ109 k109
        obtain ⟨kg109, kf109, p109_CHO, k109⟩ := k109
        have g109 := gx_trans g78 kg109
        have f109 := frm_tr f78 (frm_mono (Q := PGr) kf109 (fun c j h => by simp [PCh, PGr] at h ⊢ <;> omega))
        have p109_SZR := SZR_cg (frm_mono (Q := okSZR) kf109 (fun c j h => by simp [PCh, okSZR] at h ⊢ <;> omega)) p78_SZR
        have e109a : σ109 32 9 = σ78 32 9 := kf109 32 9 rfl
        have e109b : σ109 33 4 = σ78 33 4 := kf109 33 4 rfl
        have e109c : σ109 32 6 = σ78 32 6 := kf109 32 6 rfl
        show hs_Wd _ _ _ _ _ _ _ _ _ _ _ _ _ _ _ _ _ 112 _ [vI z109] σ109
        refine s_istore_n (pc := 112) C [(2, vI z109), (0, .ref (ad 32)), (1, vI bt), (3, vI rw)] dX6_goThroughRows_112 (by decide) rfl ?_
        refine s_iinc (pc := 113) C [(3, vI (rw + 1)), (2, vI z109), (0, .ref (ad 32)), (1, vI bt)] dX6_goThroughRows_113 3 rfl (by decide) rfl ?_
        refine s_goto (pc := 116) C (tgt := 68) dX6_goThroughRows_116 (by decide) ?_
        refine s_sub C [2, 3, 1, 0] [(0, .ref (ad 32)), (1, vI bt), (2, vI z109), (3, vI (rw + 1))] rfl ?_
        have hi68 : GX σ σ109 ∧ FRM PGr σ σ109 ∧ SZR σ109 ∧ 1 ≤ (rw + 1) ∧ (rw + 1) ≤ 401 ∧ -1 ≤ z109 ∧ z109 ≤ 3 ∧ z109 < σ109 33 4 ∧ σ109 33 4 = σ 3 4 ∧ 0 ≤ σ109 32 9 ∧ σ109 32 9 ≤ 2400 * ((rw + 1) - 1) ∧ (0 < σ109 32 6 → CHO σ109) := ⟨g109, f109, p109_SZR, ⟨by omega, by omega, by omega, by omega, by omega, by omega, by omega, by omega, fun _ => p109_CHO⟩⟩
        exact ih68 (rw + 1, z109, σ109) (by first | omega | (simp only []; omega)) hi68
      · skip
        refine s_aload_n (pc := 88) C dX6_goThroughRows_88 0 rfl ?_
        refine s_callVi (pc := 89) C (c_X6_isRight l) [] [] rfl rfl dX6_goThroughRows_89 wlX6_82 wiX6_isRight weX6_isRight wcX6_isRight wnX6 noX6_isRight (by decide) (by decide) (Nat.le_of_ble_eq_true rfl) ⟨(gx_self g78), p78_CHO⟩ rfl rfl ?_
        rintro z89 _ ⟨rfl, k89⟩
        show hs_Wd _ _ _ _ _ _ _ _ _ _ _ _ _ _ _ _ _ 92 _ [vI z89] σ78
        refine s_if_eq (pc := 92) C (tgt := 108) dX6_goThroughRows_92 (by decide) ⟨by omega, by omega⟩ (fun h92 => ?_) (fun h92 => ?_)
        · skip
          refine s_aload_n (pc := 108) C dX6_goThroughRows_108 0 rfl ?_
          refine s_callVi (pc := 109) C (c_X6_chooseNextRow l) [] [] rfl rfl dX6_goThroughRows_109 wlX6_89 wiX6_chooseNextRow weX6_chooseNextRow wcX6_chooseNextRow wnX6 noX6_chooseNextRow (by decide) (by decide) (Nat.le_of_ble_eq_true rfl) ⟨(gx_self g78), p78_CHO⟩ rfl rfl ?_
          rintro z109 σ109 k109
          obtain ⟨kg109, kf109, p109_CHO, k109⟩ := k109
          have g109 := gx_trans g78 kg109
          have f109 := frm_tr f78 (frm_mono (Q := PGr) kf109 (fun c j h => by simp [PCh, PGr] at h ⊢ <;> omega))
          have p109_SZR := SZR_cg (frm_mono (Q := okSZR) kf109 (fun c j h => by simp [PCh, okSZR] at h ⊢ <;> omega)) p78_SZR
          have e109a : σ109 32 9 = σ78 32 9 := kf109 32 9 rfl
          have e109b : σ109 33 4 = σ78 33 4 := kf109 33 4 rfl
          have e109c : σ109 32 6 = σ78 32 6 := kf109 32 6 rfl
          show hs_Wd _ _ _ _ _ _ _ _ _ _ _ _ _ _ _ _ _ 112 _ [vI z109] σ109
          refine s_istore_n (pc := 112) C [(2, vI z109), (0, .ref (ad 32)), (1, vI bt), (3, vI rw)] dX6_goThroughRows_112 (by decide) rfl ?_
          refine s_iinc (pc := 113) C [(3, vI (rw + 1)), (2, vI z109), (0, .ref (ad 32)), (1, vI bt)] dX6_goThroughRows_113 3 rfl (by decide) rfl ?_
          refine s_goto (pc := 116) C (tgt := 68) dX6_goThroughRows_116 (by decide) ?_
          refine s_sub C [2, 3, 1, 0] [(0, .ref (ad 32)), (1, vI bt), (2, vI z109), (3, vI (rw + 1))] rfl ?_
          have hi68 : GX σ σ109 ∧ FRM PGr σ σ109 ∧ SZR σ109 ∧ 1 ≤ (rw + 1) ∧ (rw + 1) ≤ 401 ∧ -1 ≤ z109 ∧ z109 ≤ 3 ∧ z109 < σ109 33 4 ∧ σ109 33 4 = σ 3 4 ∧ 0 ≤ σ109 32 9 ∧ σ109 32 9 ≤ 2400 * ((rw + 1) - 1) ∧ (0 < σ109 32 6 → CHO σ109) := ⟨g109, f109, p109_SZR, ⟨by omega, by omega, by omega, by omega, by omega, by omega, by omega, by omega, fun _ => p109_CHO⟩⟩
          exact ih68 (rw + 1, z109, σ109) (by first | omega | (simp only []; omega)) hi68
        · skip
          refine s_aload_n (pc := 95) C dX6_goThroughRows_95 0 rfl ?_
          refine s_iload_n (pc := 96) C dX6_goThroughRows_96 3 rfl ?_
          refine s_puti (q := 32) (ci := 6) (N := 13) (CN := RX6) (T := TX6) (ty0 := tyX6) (ty := .int) (pc := 97) C 8 dX6_goThroughRows_97 wlX6_76 rfl rfl rfl wfX6 tyX6_ok nmX6 (by decide) rfl rfl rfl (vp_nar_int _) rfl ?_
          have g97 := gx_set (z := rw) g78 32 8 rfl (0) (100000000) rfl ⟨by omega, by omega⟩
          have f97 := frm_set (P := PGr) (z := rw) f78 32 8 rfl
          have p97_SZR := SZR_cg (frm_one (P := okSZR) (z := rw) 32 8 rfl) p78_SZR
          have p97_CHO := CHO_cg (frm_one (P := okCHO) (z := rw) 32 8 rfl) p78_CHO
          refine s_aload_n (pc := 100) C dX6_goThroughRows_100 0 rfl ?_
          refine s_aload_n (pc := 101) C dX6_goThroughRows_101 0 rfl ?_
          refine s_getl (q := 32) (ci := 6) (N := 13) (CN := RX6) (T := TX6) (pc := 102) C 9 dX6_goThroughRows_102 wlX6_72 rfl rfl rfl wfX6 (by decide) rfl (σ78 32 9) rfl ?_
          have b102 : (-9223372036854775808 : Int) ≤ σ78 32 9 ∧ σ78 32 9 ≤ 9223372036854775807 := g97.1 32 9
          refine s_putl (q := 32) (ci := 6) (N := 13) (CN := RX6) (T := TX6) (ty0 := tyX6) (ty := .long) (pc := 105) C 10 dX6_goThroughRows_105 wlX6_86 rfl rfl rfl wfX6 tyX6_ok nmX6 (by decide) rfl rfl rfl rfl rfl ?_
          have g105 := gx_set (z := (σ78 32 9)) g97 32 10 rfl (-9223372036854775808) (9223372036854775807) rfl ⟨by omega, by omega⟩
          have f105 := frm_set (P := PGr) (z := (σ78 32 9)) f97 32 10 rfl
          have p105_SZR := SZR_cg (frm_one (P := okSZR) (z := (σ78 32 9)) 32 10 rfl) p97_SZR
          have p105_CHO := CHO_cg (frm_one (P := okCHO) (z := (σ78 32 9)) 32 10 rfl) p97_CHO
          refine s_aload_n (pc := 108) C dX6_goThroughRows_108 0 rfl ?_
          have r109_33_4 : (hs_ss (hs_ss σ78 32 8 rw) 32 10 (σ78 32 9)) 33 4 = σ78 33 4 := rfl
          refine s_callVi (pc := 109) C (c_X6_chooseNextRow l) [] [] rfl rfl dX6_goThroughRows_109 wlX6_89 wiX6_chooseNextRow weX6_chooseNextRow wcX6_chooseNextRow wnX6 noX6_chooseNextRow (by decide) (by decide) (Nat.le_of_ble_eq_true rfl) ⟨(gx_self g105), p105_CHO⟩ rfl rfl ?_
          rintro z109 σ109 k109
          obtain ⟨kg109, kf109, p109_CHO, k109⟩ := k109
          have g109 := gx_trans g105 kg109
          have f109 := frm_tr f105 (frm_mono (Q := PGr) kf109 (fun c j h => by simp [PCh, PGr] at h ⊢ <;> omega))
          have p109_SZR := SZR_cg (frm_mono (Q := okSZR) kf109 (fun c j h => by simp [PCh, okSZR] at h ⊢ <;> omega)) p105_SZR
          have e109a : σ109 32 9 = σ78 32 9 := kf109 32 9 rfl
          have e109b : σ109 33 4 = σ78 33 4 := kf109 33 4 rfl
          have e109c : σ109 32 6 = σ78 32 6 := kf109 32 6 rfl
          show hs_Wd _ _ _ _ _ _ _ _ _ _ _ _ _ _ _ _ _ 112 _ [vI z109] σ109
          refine s_istore_n (pc := 112) C [(2, vI z109), (0, .ref (ad 32)), (1, vI bt), (3, vI rw)] dX6_goThroughRows_112 (by decide) rfl ?_
          refine s_iinc (pc := 113) C [(3, vI (rw + 1)), (2, vI z109), (0, .ref (ad 32)), (1, vI bt)] dX6_goThroughRows_113 3 rfl (by decide) rfl ?_
          refine s_goto (pc := 116) C (tgt := 68) dX6_goThroughRows_116 (by decide) ?_
          refine s_sub C [2, 3, 1, 0] [(0, .ref (ad 32)), (1, vI bt), (2, vI z109), (3, vI (rw + 1))] rfl ?_
          have hi68 : GX σ σ109 ∧ FRM PGr σ σ109 ∧ SZR σ109 ∧ 1 ≤ (rw + 1) ∧ (rw + 1) ≤ 401 ∧ -1 ≤ z109 ∧ z109 ≤ 3 ∧ z109 < σ109 33 4 ∧ σ109 33 4 = σ 3 4 ∧ 0 ≤ σ109 32 9 ∧ σ109 32 9 ≤ 2400 * ((rw + 1) - 1) ∧ (0 < σ109 32 6 → CHO σ109) := ⟨g109, f109, p109_SZR, ⟨by omega, by omega, by omega, by omega, by omega, by omega, by omega, by omega, fun _ => p109_CHO⟩⟩
          exact ih68 (rw + 1, z109, σ109) (by first | omega | (simp only []; omega)) hi68
  · skip
    refine s_aload_n (pc := 33) C dX6_goThroughRows_33 0 rfl ?_
    refine s_getr (q := 32) (ci := 6) (N := 13) (CN := RX6) (T := TX6) (pc := 34) C 5 dX6_goThroughRows_34 wlX6_27 rfl rfl rfl wfX6 (by decide) rfl ?_
    refine s_iload_n (pc := 37) C dX6_goThroughRows_37 2 rfl ?_
    refine s_iconst (pc := 38) C dX6_goThroughRows_38 ?_
    refine s_iast (q := 43) (n := 4) (pc := 39) C dX6_goThroughRows_39 rfl (by omega) (by omega) (by decide) ?_
    have g39 := gx_set (z := 0) hg28 43 w.toNat rfl (0) (100) rfl ⟨by omega, by omega⟩
    have f39 := frm_set (P := PGr) (z := 0) hf28 43 w.toNat rfl
    have p39_SZR := SZR_cg (frm_one (P := okSZR) (z := 0) 43 w.toNat rfl) hp28_SZR
    refine s_iinc (pc := 40) C [(2, vI (w + 1)), (0, .ref (ad 32)), (1, vI bt)] dX6_goThroughRows_40 2 rfl (by decide) rfl ?_
    refine s_goto (pc := 43) C (tgt := 28) dX6_goThroughRows_43 (by decide) ?_
    refine s_sub C [1, 2, 0] [(0, .ref (ad 32)), (1, vI bt), (2, vI (w + 1))] rfl ?_
    have hi28 : GX σ ((hs_ss σ1 43 w.toNat 0)) ∧ FRM PGr σ ((hs_ss σ1 43 w.toNat 0)) ∧ SZR ((hs_ss σ1 43 w.toNat 0)) ∧ 0 ≤ (w + 1) ∧ (w + 1) ≤ 4 ∧ ((hs_ss σ1 43 w.toNat 0)) 33 4 = σ 3 4 ∧ (∀ j : Nat, (j : Int) < (w + 1) → ((hs_ss σ1 43 w.toNat 0)) 43 j = 0) := ⟨g39, f39, p39_SZR, ⟨by omega, by omega, hv28.2.2.1, fun j hj => by have := hv28.2.2.2 j; by_cases e : j = w.toNat <;> simp [hs_ss, hs_up, e] <;> first | done | (apply this; omega)⟩⟩
    exact ih28 (w + 1, (hs_ss σ1 43 w.toNat 0)) (by first | omega | (simp only []; omega)) hi28
set_option maxHeartbeats 4000000 in
set_option maxRecDepth 100000 in
theorem c_X6_chooseOrder (l : Launch)  : hs_Met l yX6_chooseOrder cX6_chooseOrder 2 none 10 SHX (fun ad => [.ref (ad 32)]) (fun σ => GX σ σ ∧ SZR σ) (hs_PV (fun σ σ1 => GX σ σ1 ∧ SZR σ1)) := by
  refine hs_from pfX6_chooseOrder (fun _ => Nat.le_of_ble_eq_true rfl) ?_
  intro p e s m args below meth c D dA ad A σ C hpre
  have C : hs_C p s m args meth c D dA SHX ad A 2 cX6_chooseOrder RX6 none := C
  obtain ⟨g0, p0_SZR⟩ := hpre
  show hs_Wd p l e 10 s m args below meth c D dA SHX ad A 2 (hs_PV (fun σ σ1 => GX σ σ1 ∧ SZR σ1) σ) 0 [(0, .ref (ad 32))] [] σ
  refine s_aload_n (pc := 0) C dX6_chooseOrder_0 0 rfl ?_
  refine s_iconst (pc := 1) C dX6_chooseOrder_1 ?_
  refine s_puti (q := 32) (ci := 6) (N := 13) (CN := RX6) (T := TX6) (ty0 := tyX6) (ty := .int) (pc := 2) C 11 dX6_chooseOrder_2 wlX6_121 rfl rfl rfl wfX6 tyX6_ok nmX6 (by decide) rfl rfl rfl (vp_nar_int _) rfl ?_
  have g2 := gx_set (z := 0) g0 32 11 rfl (-2147483648) (2147483647) rfl ⟨by omega, by omega⟩
  have p2_SZR := SZR_cg (frm_one (P := okSZR) (z := 0) 32 11 rfl) p0_SZR
  refine s_aload_n (pc := 5) C dX6_chooseOrder_5 0 rfl ?_
  refine s_ldc2 (z := 9223372036854775807) (pc := 6) C dX6_chooseOrder_6 wlX6_126 (by decide) ?_
  refine s_putl (q := 32) (ci := 6) (N := 13) (CN := RX6) (T := TX6) (ty0 := tyX6) (ty := .long) (pc := 9) C 12 dX6_chooseOrder_9 wlX6_128 rfl rfl rfl wfX6 tyX6_ok nmX6 (by decide) rfl rfl rfl rfl rfl ?_
  have g9 := gx_set (z := 9223372036854775807) g2 32 12 rfl (-9223372036854775808) (9223372036854775807) rfl ⟨by omega, by omega⟩
  have p9_SZR := SZR_cg (frm_one (P := okSZR) (z := 9223372036854775807) 32 12 rfl) p2_SZR
  refine s_iconst (pc := 12) C dX6_chooseOrder_12 ?_
  refine s_istore_n (pc := 13) C [(1, vI 0), (0, .ref (ad 32))] dX6_chooseOrder_13 (by decide) rfl ?_
  refine s_sub C [1, 0] [(0, .ref (ad 32)), (1, vI 0)] rfl ?_
  have hi14 : GX σ ((hs_ss (hs_ss σ 32 11 0) 32 12 9223372036854775807)) ∧ SZR ((hs_ss (hs_ss σ 32 11 0) 32 12 9223372036854775807)) ∧ 0 ≤ (0 : Int) ∧ (0 : Int) ≤ 16 := ⟨g9, p9_SZR, by first | omega | assumption | (constructor <;> omega) | (refine ⟨⟨?_, ?_⟩, ?_⟩ <;> omega) | (simp [hs_ss, hs_up]; omega) | (simp [hs_ss, hs_up]; done)⟩
  refine hs_loop (α := Int × hs_S) (fun x_ => (GX σ x_.2 ∧ SZR x_.2 ∧ 0 ≤ x_.1 ∧ x_.1 ≤ 16) → hs_Wd p l e 10 s m args below meth c D dA SHX ad A 2 (hs_PV (fun σ σ1 => GX σ σ1 ∧ SZR σ1) σ) 14 [(0, .ref (ad 32)), (1, vI x_.1)] [] x_.2) (fun x_ => (17 - x_.1).toNat) ?_ (0, (hs_ss (hs_ss σ 32 11 0) 32 12 9223372036854775807)) hi14
  rintro ⟨b, σ1⟩ ih14 hinv
  replace hinv : GX σ σ1 ∧ SZR σ1 ∧ 0 ≤ b ∧ b ≤ 16 := hinv
  obtain ⟨hg14, hp14_SZR, hv14⟩ := hinv
  show hs_Wd p l e 10 s m args below meth c D dA SHX ad A 2 (hs_PV (fun σ σ1 => GX σ σ1 ∧ SZR σ1) σ) 14 [(0, .ref (ad 32)), (1, vI b)] [] σ1
  refine s_iload_n (pc := 14) C dX6_chooseOrder_14 1 rfl ?_
  refine s_iconst (pc := 15) C dX6_chooseOrder_15 ?_
  refine s_aload_n (pc := 16) C dX6_chooseOrder_16 0 rfl ?_
  refine s_getr (q := 32) (ci := 6) (N := 13) (CN := RX6) (T := TX6) (pc := 17) C 0 dX6_chooseOrder_17 wlX6_30 rfl rfl rfl wfX6 (by decide) rfl ?_
  refine s_getrN (q := 2) (ci := 5) (N := 3) (CN := RX5) (T := TX5) (pc := 20) C 0 dX6_chooseOrder_20 wlX6_42 rfl rfl rfl wfX5 (by decide) rfl ?_
  refine s_getiN (q := 3) (ci := 8) (N := 7) (CN := RX8) (T := TX8) (pc := 23) C 4 dX6_chooseOrder_23 wlX6_47 rfl rfl rfl wfX8 (by decide) rfl (σ1 3 4) rfl ?_
  have b23 : (0 : Int) ≤ σ1 3 4 ∧ σ1 3 4 ≤ 4 := hg14.1 3 4
  refine s_ishl (pc := 26) C dX6_chooseOrder_26 (fun z26 hz26 ez26 => ?_)
  have hsl := hs_shl b23 ez26
  refine s_icmp_ge (pc := 27) C (tgt := 66) dX6_chooseOrder_27 (by decide) ⟨by omega, by omega⟩ ⟨by omega, by omega⟩ (fun h27 => ?_) (fun h27 => ?_)
  · skip
    refine s_vret (pc := 66) C dX6_chooseOrder_66 ?_
    refine ⟨rfl, ?_⟩
    exact ⟨hg14, hp14_SZR⟩
  · skip
    refine s_aload_n (pc := 30) C dX6_chooseOrder_30 0 rfl ?_
    refine s_iload_n (pc := 31) C dX6_chooseOrder_31 1 rfl ?_
    refine s_callVv (pc := 32) C (c_X6_goThroughRows l b ⟨by omega, by omega⟩) [vI b] [] rfl rfl dX6_chooseOrder_32 wlX6_131 wiX6_goThroughRows weX6_goThroughRows wcX6_goThroughRows wnX6 noX6_goThroughRows (by decide) (by decide) (Nat.le_of_ble_eq_true rfl) ⟨(gx_self hg14), hp14_SZR⟩ rfl rfl ?_
    rintro σ32 k32
    obtain ⟨kg32, kf32, p32_SZR, k32⟩ := k32
    have g32 := gx_trans hg14 kg32
    show hs_Wd _ _ _ _ _ _ _ _ _ _ _ _ _ _ _ _ _ 35 _ [] σ32
    refine s_aload_n (pc := 35) C dX6_chooseOrder_35 0 rfl ?_
    refine s_getl (q := 32) (ci := 6) (N := 13) (CN := RX6) (T := TX6) (pc := 36) C 9 dX6_chooseOrder_36 wlX6_72 rfl rfl rfl wfX6 (by decide) rfl (σ32 32 9) rfl ?_
    have b36 : (-9223372036854775808 : Int) ≤ σ32 32 9 ∧ σ32 32 9 ≤ 9223372036854775807 := g32.1 32 9
    refine s_aload_n (pc := 39) C dX6_chooseOrder_39 0 rfl ?_
    refine s_getl (q := 32) (ci := 6) (N := 13) (CN := RX6) (T := TX6) (pc := 40) C 12 dX6_chooseOrder_40 wlX6_128 rfl rfl rfl wfX6 (by decide) rfl (σ32 32 12) rfl ?_
    have b40 : (-9223372036854775808 : Int) ≤ σ32 32 12 ∧ σ32 32 12 ≤ 9223372036854775807 := g32.1 32 12
    refine s_lcmp (pc := 43) C dX6_chooseOrder_43 ⟨by omega, by omega⟩ ⟨by omega, by omega⟩ (fun z43 hz43 n43 e43 p43 => ?_)
    refine s_if_ge (pc := 44) C (tgt := 60) dX6_chooseOrder_44 (by decide) ⟨by omega, by omega⟩ (fun h44 => ?_) (fun h44 => ?_)
    · skip
      refine s_iinc (pc := 60) C [(1, vI (b + 1)), (0, .ref (ad 32))] dX6_chooseOrder_60 1 rfl (by decide) rfl ?_
      refine s_goto (pc := 63) C (tgt := 14) dX6_chooseOrder_63 (by decide) ?_
      refine s_sub C [1, 0] [(0, .ref (ad 32)), (1, vI (b + 1))] rfl ?_
      have hi14 : GX σ σ32 ∧ SZR σ32 ∧ 0 ≤ (b + 1) ∧ (b + 1) ≤ 16 := ⟨g32, p32_SZR, by first | omega | assumption | (constructor <;> omega) | (refine ⟨⟨?_, ?_⟩, ?_⟩ <;> omega) | (simp [hs_ss, hs_up]; omega) | (simp [hs_ss, hs_up]; done)⟩
      exact ih14 (b + 1, σ32) (by first | omega | (simp only []; omega)) hi14
    · skip
      refine s_aload_n (pc := 47) C dX6_chooseOrder_47 0 rfl ?_
      refine s_aload_n (pc := 48) C dX6_chooseOrder_48 0 rfl ?_
      refine s_getl (q := 32) (ci := 6) (N := 13) (CN := RX6) (T := TX6) (pc := 49) C 9 dX6_chooseOrder_49 wlX6_72 rfl rfl rfl wfX6 (by decide) rfl (σ32 32 9) rfl ?_
      have b49 : (-9223372036854775808 : Int) ≤ σ32 32 9 ∧ σ32 32 9 ≤ 9223372036854775807 := g32.1 32 9
      refine s_putl (q := 32) (ci := 6) (N := 13) (CN := RX6) (T := TX6) (ty0 := tyX6) (ty := .long) (pc := 52) C 12 dX6_chooseOrder_52 wlX6_128 rfl rfl rfl wfX6 tyX6_ok nmX6 (by decide) rfl rfl rfl rfl rfl ?_
      have g52 := gx_set (z := (σ32 32 9)) g32 32 12 rfl (-9223372036854775808) (9223372036854775807) rfl ⟨by omega, by omega⟩
      have p52_SZR := SZR_cg (frm_one (P := okSZR) (z := (σ32 32 9)) 32 12 rfl) p32_SZR
      refine s_aload_n (pc := 55) C dX6_chooseOrder_55 0 rfl ?_
      refine s_iload_n (pc := 56) C dX6_chooseOrder_56 1 rfl ?_
      refine s_puti (q := 32) (ci := 6) (N := 13) (CN := RX6) (T := TX6) (ty0 := tyX6) (ty := .int) (pc := 57) C 11 dX6_chooseOrder_57 wlX6_121 rfl rfl rfl wfX6 tyX6_ok nmX6 (by decide) rfl rfl rfl (vp_nar_int _) rfl ?_
      have g57 := gx_set (z := b) g52 32 11 rfl (-2147483648) (2147483647) rfl ⟨by omega, by omega⟩
      have p57_SZR := SZR_cg (frm_one (P := okSZR) (z := b) 32 11 rfl) p52_SZR
      refine s_iinc (pc := 60) C [(1, vI (b + 1)), (0, .ref (ad 32))] dX6_chooseOrder_60 1 rfl (by decide) rfl ?_
      refine s_goto (pc := 63) C (tgt := 14) dX6_chooseOrder_63 (by decide) ?_
      refine s_sub C [1, 0] [(0, .ref (ad 32)), (1, vI (b + 1))] rfl ?_
      have hi14 : GX σ ((hs_ss (hs_ss σ32 32 12 (σ32 32 9)) 32 11 b)) ∧ SZR ((hs_ss (hs_ss σ32 32 12 (σ32 32 9)) 32 11 b)) ∧ 0 ≤ (b + 1) ∧ (b + 1) ≤ 16 := ⟨g57, p57_SZR, by first | omega | assumption | (constructor <;> omega) | (refine ⟨⟨?_, ?_⟩, ?_⟩ <;> omega) | (simp [hs_ss, hs_up]; omega) | (simp [hs_ss, hs_up]; done)⟩
      exact ih14 (b + 1, (hs_ss (hs_ss σ32 32 12 (σ32 32 9)) 32 11 b)) (by first | omega | (simp only []; omega)) hi14
set_option maxHeartbeats 4000000 in
set_option maxRecDepth 100000 in
theorem c_X6_gatherCovers (l : Launch)  : hs_Met l yX6_gatherCovers cX6_gatherCovers 3 (some .boolean) 7 SHX (fun ad => [.ref (ad 32)]) (fun σ => GX σ σ) (hs_PI (fun σ z σ1 => GX σ σ1 ∧ FRM PGc σ σ1 ∧ (z = 0 ∨ z = 1) ∧ (z = 1 → SZR σ1))) := by
  refine hs_from pfX6_gatherCovers (fun _ => Nat.le_of_ble_eq_true rfl) ?_
  intro p e s m args below meth c D dA ad A σ C hpre
  have C : hs_C p s m args meth c D dA SHX ad A 3 cX6_gatherCovers RX6 (some .boolean) := C
  have g0 := hpre
  have f0 : FRM PGc σ σ := frm_rf
  show hs_Wd p l e 7 s m args below meth c D dA SHX ad A 3 (hs_PI (fun σ z σ1 => GX σ σ1 ∧ FRM PGc σ σ1 ∧ (z = 0 ∨ z = 1) ∧ (z = 1 → SZR σ1)) σ) 0 [(0, .ref (ad 32))] [] σ
  refine s_aload_n (pc := 0) C dX6_gatherCovers_0 0 rfl ?_
  refine s_iconst (pc := 1) C dX6_gatherCovers_1 ?_
  refine s_puti (q := 32) (ci := 6) (N := 13) (CN := RX6) (T := TX6) (ty0 := tyX6) (ty := .int) (pc := 2) C 6 dX6_gatherCovers_2 wlX6_38 rfl rfl rfl wfX6 tyX6_ok nmX6 (by decide) rfl rfl rfl (vp_nar_int _) rfl ?_
  have g2 := gx_set (z := 1) g0 32 6 rfl (0) (100000000) rfl ⟨by omega, by omega⟩
  have f2 := frm_set (P := PGc) (z := 1) f0 32 6 rfl
  refine s_iconst (pc := 5) C dX6_gatherCovers_5 ?_
  refine s_istore_n (pc := 6) C [(1, vI 0), (0, .ref (ad 32))] dX6_gatherCovers_6 (by decide) rfl ?_
  refine s_sub C [1, 0] [(0, .ref (ad 32)), (1, vI 0)] rfl ?_
  have hi7 : GX σ ((hs_ss σ 32 6 1)) ∧ FRM PGc σ ((hs_ss σ 32 6 1)) ∧ (0 ≤ (0 : Int) ∧ (0 : Int) ≤ 4 ∧ 0 ≤ ((hs_ss σ 32 6 1)) 32 6 ∧ ((0 : Int) = 0 → ((hs_ss σ 32 6 1)) 32 6 ≤ 1) ∧ ((0 : Int) = 1 → ((hs_ss σ 32 6 1)) 32 6 ≤ 100) ∧ ((0 : Int) = 2 → ((hs_ss σ 32 6 1)) 32 6 ≤ 10000) ∧ ((0 : Int) = 3 → ((hs_ss σ 32 6 1)) 32 6 ≤ 1000000) ∧ ((hs_ss σ 32 6 1)) 32 6 ≤ 100000000) ∧ (0 < ((hs_ss σ 32 6 1)) 32 6 → ∀ j : Nat, (j : Int) < (0 : Int) → 1 ≤ ((hs_ss σ 32 6 1)) 42 j) := ⟨g2, f2, ⟨by simp [hs_ss, hs_up], fun _ j hj => by exfalso; omega⟩⟩
  refine hs_loop (α := Int × hs_S) (fun x_ => (GX σ x_.2 ∧ FRM PGc σ x_.2 ∧ (0 ≤ x_.1 ∧ x_.1 ≤ 4 ∧ 0 ≤ x_.2 32 6 ∧ (x_.1 = 0 → x_.2 32 6 ≤ 1) ∧ (x_.1 = 1 → x_.2 32 6 ≤ 100) ∧ (x_.1 = 2 → x_.2 32 6 ≤ 10000) ∧ (x_.1 = 3 → x_.2 32 6 ≤ 1000000) ∧ x_.2 32 6 ≤ 100000000) ∧ (0 < x_.2 32 6 → ∀ j : Nat, (j : Int) < x_.1 → 1 ≤ x_.2 42 j)) → hs_Wd p l e 7 s m args below meth c D dA SHX ad A 3 (hs_PI (fun σ z σ1 => GX σ σ1 ∧ FRM PGc σ σ1 ∧ (z = 0 ∨ z = 1) ∧ (z = 1 → SZR σ1)) σ) 7 [(0, .ref (ad 32)), (1, vI x_.1)] [] x_.2) (fun x_ => (5 - x_.1).toNat) ?_ (0, (hs_ss σ 32 6 1)) hi7
  rintro ⟨w, σ1⟩ ih7 hinv
  replace hinv : GX σ σ1 ∧ FRM PGc σ σ1 ∧ (0 ≤ w ∧ w ≤ 4 ∧ 0 ≤ σ1 32 6 ∧ (w = 0 → σ1 32 6 ≤ 1) ∧ (w = 1 → σ1 32 6 ≤ 100) ∧ (w = 2 → σ1 32 6 ≤ 10000) ∧ (w = 3 → σ1 32 6 ≤ 1000000) ∧ σ1 32 6 ≤ 100000000) ∧ (0 < σ1 32 6 → ∀ j : Nat, (j : Int) < w → 1 ≤ σ1 42 j) := hinv
  obtain ⟨hg7, hf7, hv7⟩ := hinv
  show hs_Wd p l e 7 s m args below meth c D dA SHX ad A 3 (hs_PI (fun σ z σ1 => GX σ σ1 ∧ FRM PGc σ σ1 ∧ (z = 0 ∨ z = 1) ∧ (z = 1 → SZR σ1)) σ) 7 [(0, .ref (ad 32)), (1, vI w)] [] σ1
  obtain ⟨hw, hz⟩ := hv7
  refine s_iload_n (pc := 7) C dX6_gatherCovers_7 1 rfl ?_
  refine s_aload_n (pc := 8) C dX6_gatherCovers_8 0 rfl ?_
  refine s_getr (q := 32) (ci := 6) (N := 13) (CN := RX6) (T := TX6) (pc := 9) C 0 dX6_gatherCovers_9 wlX6_30 rfl rfl rfl wfX6 (by decide) rfl ?_
  refine s_getrN (q := 2) (ci := 5) (N := 3) (CN := RX5) (T := TX5) (pc := 12) C 0 dX6_gatherCovers_12 wlX6_42 rfl rfl rfl wfX5 (by decide) rfl ?_
  refine s_getiN (q := 3) (ci := 8) (N := 7) (CN := RX8) (T := TX8) (pc := 15) C 4 dX6_gatherCovers_15 wlX6_47 rfl rfl rfl wfX8 (by decide) rfl (σ1 3 4) rfl ?_
  have b15 : (0 : Int) ≤ σ1 3 4 ∧ σ1 3 4 ≤ 4 := hg7.1 3 4
  refine s_icmp_ge (pc := 18) C (tgt := 99) dX6_gatherCovers_18 (by decide) ⟨by omega, by omega⟩ ⟨by omega, by omega⟩ (fun h18 => ?_) (fun h18 => ?_)
  · skip
    refine s_aload_n (pc := 99) C dX6_gatherCovers_99 0 rfl ?_
    refine s_geti (q := 32) (ci := 6) (N := 13) (CN := RX6) (T := TX6) (pc := 100) C 6 dX6_gatherCovers_100 wlX6_38 rfl rfl rfl wfX6 (by decide) rfl (σ1 32 6) rfl ?_
    have b100 : (0 : Int) ≤ σ1 32 6 ∧ σ1 32 6 ≤ 100000000 := hg7.1 32 6
    refine s_sipush (pc := 103) C dX6_gatherCovers_103 (by decide) ?_
    refine s_icmp_gt (pc := 106) C (tgt := 113) dX6_gatherCovers_106 (by decide) ⟨by omega, by omega⟩ ⟨by decide, by decide⟩ (fun h106 => ?_) (fun h106 => ?_)
    · skip
      refine s_iconst (pc := 113) C dX6_gatherCovers_113 ?_
      refine s_zret (pc := 114) C (by omega) dX6_gatherCovers_114 ?_
      refine ⟨_, rfl, ?_⟩
      exact ⟨hg7, hf7, ⟨by omega, fun q => by first | (exfalso; omega) | exact ⟨by omega, fun q2 j hj => hz q2 j (by have e34 : σ1 3 4 = σ 3 4 := hg7.2.1.2.2.2.1; omega)⟩⟩⟩
    · skip
      refine s_iconst (pc := 109) C dX6_gatherCovers_109 ?_
      refine s_goto (pc := 110) C (tgt := 114) dX6_gatherCovers_110 (by decide) ?_
      refine s_zret (pc := 114) C (by omega) dX6_gatherCovers_114 ?_
      refine ⟨_, rfl, ?_⟩
      exact ⟨hg7, hf7, ⟨by omega, fun q => by first | (exfalso; omega) | exact ⟨by omega, fun q2 j hj => hz q2 j (by have e34 : σ1 3 4 = σ 3 4 := hg7.2.1.2.2.2.1; omega)⟩⟩⟩
  · skip
    refine s_aload_n (pc := 21) C dX6_gatherCovers_21 0 rfl ?_
    refine s_getr (q := 32) (ci := 6) (N := 13) (CN := RX6) (T := TX6) (pc := 22) C 1 dX6_gatherCovers_22 wlX6_34 rfl rfl rfl wfX6 (by decide) rfl ?_
    refine s_iload_n (pc := 25) C dX6_gatherCovers_25 1 rfl ?_
    refine s_callVNv (pc := 26) C (c_X2_layOut l w (by first | omega | assumption | (constructor <;> omega) | (refine ⟨⟨?_, ?_⟩, ?_⟩ <;> omega) | (simp [hs_ss, hs_up]; omega) | (simp [hs_ss, hs_up]; done))) [vI w] [] rfl rfl dX6_gatherCovers_26 wlX6_50 wiX2_layOut weX2_layOut wcX2_layOut wnX2 noX2_layOut (by decide) (by decide) (Nat.le_of_ble_eq_true rfl) (gx_self hg7) rfl rfl ?_
    rintro σ26 k26
    obtain ⟨kg26, kf26⟩ := k26
    have g26 := gx_trans hg7 kg26
    have f26 := frm_tr hf7 (frm_mono (Q := PGc) kf26 (fun c j h => by simp [PFd, PGc] at h ⊢ <;> omega))
    show hs_Wd _ _ _ _ _ _ _ _ _ _ _ _ _ _ _ _ _ 29 _ [] σ26
    refine s_aload_n (pc := 29) C dX6_gatherCovers_29 0 rfl ?_
    refine s_getr (q := 32) (ci := 6) (N := 13) (CN := RX6) (T := TX6) (pc := 30) C 4 dX6_gatherCovers_30 wlX6_23 rfl rfl rfl wfX6 (by decide) rfl ?_
    refine s_iload_n (pc := 33) C dX6_gatherCovers_33 1 rfl ?_
    refine s_aload_n (pc := 34) C dX6_gatherCovers_34 0 rfl ?_
    refine s_getr (q := 32) (ci := 6) (N := 13) (CN := RX6) (T := TX6) (pc := 35) C 1 dX6_gatherCovers_35 wlX6_34 rfl rfl rfl wfX6 (by decide) rfl ?_
    refine s_getiN (q := 29) (ci := 2) (N := 6) (CN := RX2) (T := TX2) (pc := 38) C 4 dX6_gatherCovers_38 wlX6_56 rfl rfl rfl wfX2 (by decide) rfl (σ26 29 4) rfl ?_
    have b38 : (0 : Int) ≤ σ26 29 4 ∧ σ26 29 4 ≤ 100 := g26.1 29 4
    refine s_iast (q := 42) (n := 4) (pc := 41) C dX6_gatherCovers_41 rfl (by omega) (by omega) (by decide) ?_
    have g41 := gx_set (z := (σ26 29 4)) g26 42 w.toNat rfl (0) (100) rfl ⟨by omega, by omega⟩
    have f41 := frm_set (P := PGc) (z := (σ26 29 4)) f26 42 w.toNat rfl
    refine s_iconst (pc := 42) C dX6_gatherCovers_42 ?_
    refine s_istore_n (pc := 43) C [(2, vI 0), (0, .ref (ad 32)), (1, vI w)] dX6_gatherCovers_43 (by decide) rfl ?_
    refine s_sub C [1, 2, 0] [(0, .ref (ad 32)), (1, vI w), (2, vI 0)] rfl ?_
    obtain ⟨τ, hτ⟩ : ∃ τ : hs_S, τ = (hs_ss σ26 42 w.toNat (σ26 29 4)) := ⟨_, rfl⟩
    have e326 : τ 32 6 = σ1 32 6 := by rw [hτ]; exact kf26 32 6 rfl
    have hi44 : GX σ ((hs_ss σ26 42 w.toNat (σ26 29 4))) ∧ FRM PGc σ ((hs_ss σ26 42 w.toNat (σ26 29 4))) ∧ 0 ≤ (0 : Int) ∧ (0 : Int) ≤ 100 ∧ (∀ j : Nat, ((hs_ss σ26 42 w.toNat (σ26 29 4))) 42 j = τ 42 j) ∧ ((hs_ss σ26 42 w.toNat (σ26 29 4))) 32 6 = τ 32 6 := ⟨g41, f41, ⟨by omega, by omega, fun j => by rw [hτ], by rw [hτ]⟩⟩
    refine hs_loop (α := Int × hs_S) (fun x_ => (GX σ x_.2 ∧ FRM PGc σ x_.2 ∧ 0 ≤ x_.1 ∧ x_.1 ≤ 100 ∧ (∀ j : Nat, x_.2 42 j = τ 42 j) ∧ x_.2 32 6 = τ 32 6) → hs_Wd p l e 7 s m args below meth c D dA SHX ad A 3 (hs_PI (fun σ z σ1 => GX σ σ1 ∧ FRM PGc σ σ1 ∧ (z = 0 ∨ z = 1) ∧ (z = 1 → SZR σ1)) σ) 44 [(0, .ref (ad 32)), (1, vI w), (2, vI x_.1)] [] x_.2) (fun x_ => (101 - x_.1).toNat) ?_ (0, (hs_ss σ26 42 w.toNat (σ26 29 4))) hi44
    rintro ⟨k, σ2⟩ ih44 hinv
    replace hinv : GX σ σ2 ∧ FRM PGc σ σ2 ∧ 0 ≤ k ∧ k ≤ 100 ∧ (∀ j : Nat, σ2 42 j = τ 42 j) ∧ σ2 32 6 = τ 32 6 := hinv
    obtain ⟨hg44, hf44, hv44⟩ := hinv
    show hs_Wd p l e 7 s m args below meth c D dA SHX ad A 3 (hs_PI (fun σ z σ1 => GX σ σ1 ∧ FRM PGc σ σ1 ∧ (z = 0 ∨ z = 1) ∧ (z = 1 → SZR σ1)) σ) 44 [(0, .ref (ad 32)), (1, vI w), (2, vI k)] [] σ2
    refine s_iload_n (pc := 44) C dX6_gatherCovers_44 2 rfl ?_
    refine s_aload_n (pc := 45) C dX6_gatherCovers_45 0 rfl ?_
    refine s_getr (q := 32) (ci := 6) (N := 13) (CN := RX6) (T := TX6) (pc := 46) C 1 dX6_gatherCovers_46 wlX6_34 rfl rfl rfl wfX6 (by decide) rfl ?_
    refine s_getiN (q := 29) (ci := 2) (N := 6) (CN := RX2) (T := TX2) (pc := 49) C 4 dX6_gatherCovers_49 wlX6_56 rfl rfl rfl wfX2 (by decide) rfl (σ2 29 4) rfl ?_
    have b49 : (0 : Int) ≤ σ2 29 4 ∧ σ2 29 4 ≤ 100 := hg44.1 29 4
    refine s_icmp_ge (pc := 52) C (tgt := 78) dX6_gatherCovers_52 (by decide) ⟨by omega, by omega⟩ ⟨by omega, by omega⟩ (fun h52 => ?_) (fun h52 => ?_)
    · skip
      refine s_aload_n (pc := 78) C dX6_gatherCovers_78 0 rfl ?_
      refine s_dup (pc := 79) C dX6_gatherCovers_79 rfl ?_
      refine s_geti (q := 32) (ci := 6) (N := 13) (CN := RX6) (T := TX6) (pc := 80) C 6 dX6_gatherCovers_80 wlX6_38 rfl rfl rfl wfX6 (by decide) rfl (σ2 32 6) rfl ?_
      have b80 : (0 : Int) ≤ σ2 32 6 ∧ σ2 32 6 ≤ 100000000 := hg44.1 32 6
      refine s_aload_n (pc := 83) C dX6_gatherCovers_83 0 rfl ?_
      refine s_getr (q := 32) (ci := 6) (N := 13) (CN := RX6) (T := TX6) (pc := 84) C 4 dX6_gatherCovers_84 wlX6_23 rfl rfl rfl wfX6 (by decide) rfl ?_
      refine s_iload_n (pc := 87) C dX6_gatherCovers_87 1 rfl ?_
      refine s_iald (q := 42) (n := 4) (pc := 88) C (σ2 42 w.toNat) rfl dX6_gatherCovers_88 rfl (by omega) (by omega) (by decide) ?_
      have b88 : (0 : Int) ≤ σ2 42 w.toNat ∧ σ2 42 w.toNat ≤ 100 := hg44.1 42 w.toNat
      have hpr := hs_prod (r := σ2 32 6) (s := σ2 42 w.toNat) (by omega) (by omega) (by omega)
      refine s_imul (pc := 89) C dX6_gatherCovers_89 ?_
      have hpr := hs_prod (r := σ2 32 6) (s := σ2 42 w.toNat) (by omega) (by omega) (by omega)
      refine s_puti (q := 32) (ci := 6) (N := 13) (CN := RX6) (T := TX6) (ty0 := tyX6) (ty := .int) (pc := 90) C 6 dX6_gatherCovers_90 wlX6_38 rfl rfl rfl wfX6 tyX6_ok nmX6 (by decide) rfl rfl rfl (vp_nar_int _) rfl ?_
      have g90 := gx_set (z := ((σ2 32 6) * (σ2 42 w.toNat))) hg44 32 6 rfl (0) (100000000) rfl ⟨by omega, by omega⟩
      have f90 := frm_set (P := PGc) (z := ((σ2 32 6) * (σ2 42 w.toNat))) hf44 32 6 rfl
      refine s_iinc (pc := 93) C [(1, vI (w + 1)), (0, .ref (ad 32)), (2, vI k)] dX6_gatherCovers_93 1 rfl (by decide) rfl ?_
      refine s_goto (pc := 96) C (tgt := 7) dX6_gatherCovers_96 (by decide) ?_
      refine s_sub C [1, 0] [(0, .ref (ad 32)), (1, vI (w + 1))] rfl ?_
      have hi7 : GX σ ((hs_ss σ2 32 6 ((σ2 32 6) * (σ2 42 w.toNat)))) ∧ FRM PGc σ ((hs_ss σ2 32 6 ((σ2 32 6) * (σ2 42 w.toNat)))) ∧ (0 ≤ (w + 1) ∧ (w + 1) ≤ 4 ∧ 0 ≤ ((hs_ss σ2 32 6 ((σ2 32 6) * (σ2 42 w.toNat)))) 32 6 ∧ ((w + 1) = 0 → ((hs_ss σ2 32 6 ((σ2 32 6) * (σ2 42 w.toNat)))) 32 6 ≤ 1) ∧ ((w + 1) = 1 → ((hs_ss σ2 32 6 ((σ2 32 6) * (σ2 42 w.toNat)))) 32 6 ≤ 100) ∧ ((w + 1) = 2 → ((hs_ss σ2 32 6 ((σ2 32 6) * (σ2 42 w.toNat)))) 32 6 ≤ 10000) ∧ ((w + 1) = 3 → ((hs_ss σ2 32 6 ((σ2 32 6) * (σ2 42 w.toNat)))) 32 6 ≤ 1000000) ∧ ((hs_ss σ2 32 6 ((σ2 32 6) * (σ2 42 w.toNat)))) 32 6 ≤ 100000000) ∧ (0 < ((hs_ss σ2 32 6 ((σ2 32 6) * (σ2 42 w.toNat)))) 32 6 → ∀ j : Nat, (j : Int) < (w + 1) → 1 ≤ ((hs_ss σ2 32 6 ((σ2 32 6) * (σ2 42 w.toNat)))) 42 j) := ⟨g90, f90, ⟨by have e : hs_ss σ2 32 6 (σ2 32 6 * σ2 42 w.toNat) 32 6 = σ2 32 6 * σ2 42 w.toNat := hs_ss_at; rw [e]; omega, fun q j hj => by have q : 0 < σ2 32 6 * σ2 42 w.toNat := q; have q2 := hpr.2.2 q; show 1 ≤ σ2 42 j; by_cases e : j = w.toNat; (rw [e]; omega); rw [hv44.2.2.1 j]; rw [hτ, hs_ss_j e, kf26 42 j rfl]; exact hz (by omega) j (by omega)⟩⟩
      exact ih7 (w + 1, (hs_ss σ2 32 6 ((σ2 32 6) * (σ2 42 w.toNat)))) (by first | omega | (simp only []; omega)) hi7
    · skip
      have hw4 : w.toNat < 4 := by omega
      refine s_aload_n (pc := 55) C dX6_gatherCovers_55 0 rfl ?_
      refine s_getr (q := 32) (ci := 6) (N := 13) (CN := RX6) (T := TX6) (pc := 56) C 3 dX6_gatherCovers_56 wlX6_20 rfl rfl rfl wfX6 (by decide) rfl ?_
      refine s_iload_n (pc := 59) C dX6_gatherCovers_59 1 rfl ?_
      refine s_alda (q := 37) (pc := 60) C dX6_gatherCovers_60 rfl (by omega) (by show _ < (4 : Int); omega) (by decide) ?_
      rw [show ((_ : List (Nat × Nat)).getD w.toNat (0, 0)).2 = 38 + w.toNat from hs_ref4 (by omega) (by omega)]
      refine s_iload_n (pc := 61) C dX6_gatherCovers_61 2 rfl ?_
      refine s_aload_n (pc := 62) C dX6_gatherCovers_62 0 rfl ?_
      refine s_getr (q := 32) (ci := 6) (N := 13) (CN := RX6) (T := TX6) (pc := 63) C 1 dX6_gatherCovers_63 wlX6_34 rfl rfl rfl wfX6 (by decide) rfl ?_
      refine s_getrN (q := 29) (ci := 2) (N := 6) (CN := RX2) (T := TX2) (pc := 66) C 3 dX6_gatherCovers_66 wlX6_59 rfl rfl rfl wfX2 (by decide) rfl ?_
      refine s_iload_n (pc := 69) C dX6_gatherCovers_69 2 rfl ?_
      refine s_iald (q := 31) (n := 100) (pc := 70) C (σ2 31 k.toNat) rfl dX6_gatherCovers_70 rfl (by omega) (by omega) (by decide) ?_
      have b70 : (-10 : Int) ≤ σ2 31 k.toNat ∧ σ2 31 k.toNat ≤ 99 := hg44.1 31 k.toNat
      refine s_iast (q := (38 + w.toNat)) (n := 100) (pc := 71) C dX6_gatherCovers_71 (sh_Pl (by omega)) (by omega) (by omega) (by decide) ?_
      have g71 := gx_setp (z := (σ2 31 k.toNat)) hg44 (show (w).toNat < 4 by omega) k.toNat (-10) (99) rfl ⟨by omega, by omega⟩
      have f71 := frm_set (P := PGc) (z := (σ2 31 k.toNat)) hf44 (38 + w.toNat) k.toNat (by simp [PGc] <;> omega)
      refine s_iinc (pc := 72) C [(2, vI (k + 1)), (0, .ref (ad 32)), (1, vI w)] dX6_gatherCovers_72 2 rfl (by decide) rfl ?_
      refine s_goto (pc := 75) C (tgt := 44) dX6_gatherCovers_75 (by decide) ?_
      refine s_sub C [1, 2, 0] [(0, .ref (ad 32)), (1, vI w), (2, vI (k + 1))] rfl ?_
      have hi44 : GX σ ((hs_ss σ2 (38 + w.toNat) k.toNat (σ2 31 k.toNat))) ∧ FRM PGc σ ((hs_ss σ2 (38 + w.toNat) k.toNat (σ2 31 k.toNat))) ∧ 0 ≤ (k + 1) ∧ (k + 1) ≤ 100 ∧ (∀ j : Nat, ((hs_ss σ2 (38 + w.toNat) k.toNat (σ2 31 k.toNat))) 42 j = τ 42 j) ∧ ((hs_ss σ2 (38 + w.toNat) k.toNat (σ2 31 k.toNat))) 32 6 = τ 32 6 := ⟨g71, f71, ⟨by omega, by omega, fun j => (hs_ss38 (by omega) (Or.inr (by decide))).trans (hv44.2.2.1 j), (hs_ss38 (by omega) (Or.inl (by decide))).trans hv44.2.2.2⟩⟩
      exact ih44 (k + 1, (hs_ss σ2 (38 + w.toNat) k.toNat (σ2 31 k.toNat))) (by first | omega | (simp only []; omega)) hi44
