set_option maxHeartbeats 4000000 in
set_option maxRecDepth 100000 in
theorem c_X8_numberFor (l : Launch) (t : Nat) (ht : hs_T t) (w a b : Int) (hw : 0 ≤ w ∧ w < 4) (ha : -100 ≤ a ∧ a ≤ 1000) (hb : b = 0 ∨ b = 1) : hs_Met l yX8_numberFor cX8_numberFor 6 (some .int) 4 SHX (fun ad => [.ref (ad t), vI w, vI a, vI b]) (fun σ => GX σ σ) (hs_PI (fun σ z σ1 => σ = σ1 ∧ 0 ≤ z ∧ z ≤ 99 ∧ z < σ t 3)) := by
  refine hs_from pfX8_numberFor (fun _ => Nat.le_of_ble_eq_true rfl) ?_
  intro p e s m args below meth c D dA ad A σ C hpre
  have C : hs_C p s m args meth c D dA SHX ad A 6 cX8_numberFor RX8 (some .int) := C
  have g0 := hpre
  show hs_Wd p l e 4 s m args below meth c D dA SHX ad A 6 (hs_PI (fun σ z σ1 => σ = σ1 ∧ 0 ≤ z ∧ z ≤ 99 ∧ z < σ t 3) σ) 0 [(0, .ref (ad t)), (1, vI w), (2, vI a), (3, vI b)] [] σ
  refine s_iload_n (pc := 0) C dX8_numberFor_0 2 rfl ?_
  refine s_istore (pc := 1) C [(4, vI a), (0, .ref (ad t)), (1, vI w), (2, vI a), (3, vI b)] dX8_numberFor_1 (by decide) rfl ?_
  refine s_iconst (pc := 3) C dX8_numberFor_3 ?_
  refine s_istore (pc := 4) C [(5, vI 0), (4, vI a), (0, .ref (ad t)), (1, vI w), (2, vI a), (3, vI b)] dX8_numberFor_4 (by decide) rfl ?_
  refine s_sub C [2, 3, 4, 5, 1, 0] [(0, .ref (ad t)), (1, vI w), (2, vI a), (3, vI b), (4, vI a), (5, vI 0)] rfl ?_
  have hi6 : 0 ≤ (0 : Int) ∧ (0 : Int) ≤ w + 1 ∧ -100 ≤ a ∧ a ≤ 1000 + 99 * (0 : Int) := (by first | omega | assumption | (constructor <;> omega) | (refine ⟨⟨?_, ?_⟩, ?_⟩ <;> omega) | (simp [hs_ss, hs_up]; omega) | (simp [hs_ss, hs_up]; done))
  refine hs_loop (α := Int × Int) (fun x_ => (0 ≤ x_.1 ∧ x_.1 ≤ w + 1 ∧ -100 ≤ x_.2 ∧ x_.2 ≤ 1000 + 99 * x_.1) → hs_Wd p l e 4 s m args below meth c D dA SHX ad A 6 (hs_PI (fun σ z σ1 => σ = σ1 ∧ 0 ≤ z ∧ z ≤ 99 ∧ z < σ t 3) σ) 6 [(0, .ref (ad t)), (1, vI w), (2, vI a), (3, vI b), (4, vI x_.2), (5, vI x_.1)] [] σ) (fun x_ => (5 - x_.1).toNat) ?_ (0, a) hi6
  rintro ⟨k, sm⟩ ih6 hinv
  replace hinv : 0 ≤ k ∧ k ≤ w + 1 ∧ -100 ≤ sm ∧ sm ≤ 1000 + 99 * k := hinv
  show hs_Wd p l e 4 s m args below meth c D dA SHX ad A 6 (hs_PI (fun σ z σ1 => σ = σ1 ∧ 0 ≤ z ∧ z ≤ 99 ∧ z < σ t 3) σ) 6 [(0, .ref (ad t)), (1, vI w), (2, vI a), (3, vI b), (4, vI sm), (5, vI k)] [] σ
  refine s_iload (pc := 6) C dX8_numberFor_6 5 rfl ?_
  refine s_iload_n (pc := 8) C dX8_numberFor_8 1 rfl ?_
  refine s_icmp_gt (pc := 9) C (tgt := 34) dX8_numberFor_9 (by decide) ⟨by omega, by omega⟩ ⟨by omega, by omega⟩ (fun h9 => ?_) (fun h9 => ?_)
  · skip
    refine s_aload_n (pc := 34) C dX8_numberFor_34 0 rfl ?_
    refine s_iload (pc := 35) C dX8_numberFor_35 4 rfl ?_
    refine s_callVi (pc := 37) C (c_X8_wrap l t ht sm ⟨by omega, by omega⟩) [vI sm] [] rfl rfl dX8_numberFor_37 wlX8_44 wiX8_wrap weX8_wrap wcX8_wrap wnX8 noX8_wrap (by decide) (by decide) (Nat.le_of_ble_eq_true rfl) (gx_self g0) (sh_T ht) rfl ?_
    rintro z37 _ ⟨rfl, k37⟩
    show hs_Wd _ _ _ _ _ _ _ _ _ _ _ _ _ _ _ _ _ 40 _ [vI z37] σ
    refine s_iret (pc := 40) C dX8_numberFor_40 ?_
    refine ⟨_, rfl, ?_⟩
    exact ⟨rfl, by first | omega | assumption | (constructor <;> omega) | (refine ⟨⟨?_, ?_⟩, ?_⟩ <;> omega) | (simp [hs_ss, hs_up]; omega) | (simp [hs_ss, hs_up]; done)⟩
  · skip
    refine s_iload_n (pc := 12) C dX8_numberFor_12 3 rfl ?_
    refine s_if_eq (pc := 13) C (tgt := 34) dX8_numberFor_13 (by decide) ⟨by omega, by omega⟩ (fun h13 => ?_) (fun h13 => ?_)
    · skip
      refine s_aload_n (pc := 34) C dX8_numberFor_34 0 rfl ?_
      refine s_iload (pc := 35) C dX8_numberFor_35 4 rfl ?_
      refine s_callVi (pc := 37) C (c_X8_wrap l t ht sm ⟨by omega, by omega⟩) [vI sm] [] rfl rfl dX8_numberFor_37 wlX8_44 wiX8_wrap weX8_wrap wcX8_wrap wnX8 noX8_wrap (by decide) (by decide) (Nat.le_of_ble_eq_true rfl) (gx_self g0) (sh_T ht) rfl ?_
      rintro z37 _ ⟨rfl, k37⟩
      show hs_Wd _ _ _ _ _ _ _ _ _ _ _ _ _ _ _ _ _ 40 _ [vI z37] σ
      refine s_iret (pc := 40) C dX8_numberFor_40 ?_
      refine ⟨_, rfl, ?_⟩
      exact ⟨rfl, by first | omega | assumption | (constructor <;> omega) | (refine ⟨⟨?_, ?_⟩, ?_⟩ <;> omega) | (simp [hs_ss, hs_up]; omega) | (simp [hs_ss, hs_up]; done)⟩
    · skip
      refine s_iload (pc := 16) C dX8_numberFor_16 4 rfl ?_
      refine s_aload_n (pc := 18) C dX8_numberFor_18 0 rfl ?_
      refine s_getr (q := t) (ci := 8) (N := 7) (CN := RX8) (T := TX8) (pc := 19) C 0 dX8_numberFor_19 wlX8_9 (sh_T ht) rfl rfl wfX8 (by decide) rfl ?_
      refine s_iload (pc := 22) C dX8_numberFor_22 5 rfl ?_
      refine s_iald (q := (t + 1)) (n := 4) (pc := 24) C (σ (t + 1) k.toNat) rfl dX8_numberFor_24 (sh_T1 ht) (by omega) (by omega) (by decide) ?_
      have b24 : (0 : Int) ≤ σ (t + 1) k.toNat ∧ σ (t + 1) k.toNat ≤ 99 := gx_t1 g0 ht k.toNat
      refine s_iadd (pc := 25) C dX8_numberFor_25 ?_
      refine s_istore (pc := 26) C [(4, vI (sm + (σ (t + 1) k.toNat))), (0, .ref (ad t)), (1, vI w), (2, vI a), (3, vI b), (5, vI k)] dX8_numberFor_26 (by decide) rfl ?_
      refine s_iinc (pc := 28) C [(5, vI (k + 1)), (4, vI (sm + (σ (t + 1) k.toNat))), (0, .ref (ad t)), (1, vI w), (2, vI a), (3, vI b)] dX8_numberFor_28 5 rfl (by decide) rfl ?_
      refine s_goto (pc := 31) C (tgt := 6) dX8_numberFor_31 (by decide) ?_
      refine s_sub C [2, 3, 4, 5, 1, 0] [(0, .ref (ad t)), (1, vI w), (2, vI a), (3, vI b), (4, vI (sm + (σ (t + 1) k.toNat))), (5, vI (k + 1))] rfl ?_
      have hi6 : 0 ≤ (k + 1) ∧ (k + 1) ≤ w + 1 ∧ -100 ≤ (sm + (σ (t + 1) k.toNat)) ∧ (sm + (σ (t + 1) k.toNat)) ≤ 1000 + 99 * (k + 1) := (by first | omega | assumption | (constructor <;> omega) | (refine ⟨⟨?_, ?_⟩, ?_⟩ <;> omega) | (simp [hs_ss, hs_up]; omega) | (simp [hs_ss, hs_up]; done))
      exact ih6 (k + 1, sm + (σ (t + 1) k.toNat)) (by first | omega | (simp only []; omega)) hi6
set_option maxHeartbeats 4000000 in
set_option maxRecDepth 100000 in
theorem c_X8_stepsToSet (l : Launch) (t : Nat) (ht : hs_T t) (w a b : Int) (hw : 0 ≤ w ∧ w < 4) (ha : -100 ≤ a ∧ a ≤ 1000) (hb : b = 0 ∨ b = 1) : hs_Met l yX8_stepsToSet cX8_stepsToSet 7 (some .int) 6 SHX (fun ad => [.ref (ad t), vI w, vI a, vI b]) (fun σ => GX σ σ) (hs_PI (fun σ z σ1 => σ = σ1 ∧ 1 ≤ z ∧ z ≤ 600)) := by
  refine hs_from pfX8_stepsToSet (fun _ => Nat.le_of_ble_eq_true rfl) ?_
  intro p e s m args below meth c D dA ad A σ C hpre
  have C : hs_C p s m args meth c D dA SHX ad A 7 cX8_stepsToSet RX8 (some .int) := C
  have g0 := hpre
  show hs_Wd p l e 6 s m args below meth c D dA SHX ad A 7 (hs_PI (fun σ z σ1 => σ = σ1 ∧ 1 ≤ z ∧ z ≤ 600) σ) 0 [(0, .ref (ad t)), (1, vI w), (2, vI a), (3, vI b)] [] σ
  refine s_iconst (pc := 0) C dX8_stepsToSet_0 ?_
  refine s_istore (pc := 1) C [(4, vI 1), (0, .ref (ad t)), (1, vI w), (2, vI a), (3, vI b)] dX8_stepsToSet_1 (by decide) rfl ?_
  refine s_iconst (pc := 3) C dX8_stepsToSet_3 ?_
  refine s_istore (pc := 4) C [(5, vI 0), (4, vI 1), (0, .ref (ad t)), (1, vI w), (2, vI a), (3, vI b)] dX8_stepsToSet_4 (by decide) rfl ?_
  refine s_sub C [2, 3, 4, 5, 1, 0] [(0, .ref (ad t)), (1, vI w), (2, vI a), (3, vI b), (4, vI 1), (5, vI 0)] rfl ?_
  have hi6 : 0 ≤ (0 : Int) ∧ (0 : Int) ≤ w + 1 ∧ 1 ≤ (1 : Int) ∧ (1 : Int) ≤ 1 + 99 * (0 : Int) := (by first | omega | assumption | (constructor <;> omega) | (refine ⟨⟨?_, ?_⟩, ?_⟩ <;> omega) | (simp [hs_ss, hs_up]; omega) | (simp [hs_ss, hs_up]; done))
  refine hs_loop (α := Int × Int) (fun x_ => (0 ≤ x_.1 ∧ x_.1 ≤ w + 1 ∧ 1 ≤ x_.2 ∧ x_.2 ≤ 1 + 99 * x_.1) → hs_Wd p l e 6 s m args below meth c D dA SHX ad A 7 (hs_PI (fun σ z σ1 => σ = σ1 ∧ 1 ≤ z ∧ z ≤ 600) σ) 6 [(0, .ref (ad t)), (1, vI w), (2, vI a), (3, vI b), (4, vI x_.2), (5, vI x_.1)] [] σ) (fun x_ => (5 - x_.1).toNat) ?_ (0, 1) hi6
  rintro ⟨k, sm⟩ ih6 hinv
  replace hinv : 0 ≤ k ∧ k ≤ w + 1 ∧ 1 ≤ sm ∧ sm ≤ 1 + 99 * k := hinv
  show hs_Wd p l e 6 s m args below meth c D dA SHX ad A 7 (hs_PI (fun σ z σ1 => σ = σ1 ∧ 1 ≤ z ∧ z ≤ 600) σ) 6 [(0, .ref (ad t)), (1, vI w), (2, vI a), (3, vI b), (4, vI sm), (5, vI k)] [] σ
  refine s_iload (pc := 6) C dX8_stepsToSet_6 5 rfl ?_
  refine s_iload_n (pc := 8) C dX8_stepsToSet_8 1 rfl ?_
  refine s_icmp_gt (pc := 9) C (tgt := 30) dX8_stepsToSet_9 (by decide) ⟨by omega, by omega⟩ ⟨by omega, by omega⟩ (fun h9 => ?_) (fun h9 => ?_)
  · skip
    refine s_aload_n (pc := 30) C dX8_stepsToSet_30 0 rfl ?_
    refine s_iload_n (pc := 31) C dX8_stepsToSet_31 1 rfl ?_
    refine s_iload_n (pc := 32) C dX8_stepsToSet_32 2 rfl ?_
    refine s_iload_n (pc := 33) C dX8_stepsToSet_33 3 rfl ?_
    refine s_callVi (pc := 34) C (c_X8_numberFor l t ht w a b (by first | omega | assumption | (constructor <;> omega) | (refine ⟨⟨?_, ?_⟩, ?_⟩ <;> omega) | (simp [hs_ss, hs_up]; omega) | (simp [hs_ss, hs_up]; done)) (by first | omega | assumption | (constructor <;> omega) | (refine ⟨⟨?_, ?_⟩, ?_⟩ <;> omega) | (simp [hs_ss, hs_up]; omega) | (simp [hs_ss, hs_up]; done)) (by first | omega | assumption | (constructor <;> omega) | (refine ⟨⟨?_, ?_⟩, ?_⟩ <;> omega) | (simp [hs_ss, hs_up]; omega) | (simp [hs_ss, hs_up]; done))) [vI w, vI a, vI b] [] rfl rfl dX8_stepsToSet_34 wlX8_55 wiX8_numberFor weX8_numberFor wcX8_numberFor wnX8 noX8_numberFor (by decide) (by decide) (Nat.le_of_ble_eq_true rfl) (gx_self g0) (sh_T ht) rfl ?_
    rintro z34 _ ⟨rfl, k34⟩
    show hs_Wd _ _ _ _ _ _ _ _ _ _ _ _ _ _ _ _ _ 37 _ [vI z34] σ
    refine s_istore (pc := 37) C [(5, vI z34), (0, .ref (ad t)), (1, vI w), (2, vI a), (3, vI b), (4, vI sm)] dX8_stepsToSet_37 (by decide) rfl ?_
    refine s_iload_n (pc := 39) C dX8_stepsToSet_39 4 rfl ?_
    refine s_if_eq (pc := 40) C (tgt := 53) dX8_stepsToSet_40 (by decide) ⟨by omega, by omega⟩ (fun h40 => ?_) (fun h40 => ?_)
    · skip
      refine s_aload_n (pc := 53) C dX8_stepsToSet_53 1 rfl ?_
      refine s_geti (q := t) (ci := 8) (N := 7) (CN := RX8) (T := TX8) (pc := 54) C 5 dX8_stepsToSet_54 wlX8_28 (sh_T ht) rfl rfl wfX8 (by decide) rfl (σ t 5) rfl ?_
      have b54 : (0 : Int) ≤ σ t 5 ∧ σ t 5 ≤ 99 := gx_t g0 ht 5
      refine s_iload (pc := 57) C dX8_stepsToSet_57 0 rfl ?_
      refine s_isub (pc := 59) C dX8_stepsToSet_59 ?_
      refine s_istore (pc := 60) C [(6, vI ((σ t 5) - z34)), (5, vI z34), (0, .ref (ad t)), (1, vI w), (2, vI a), (3, vI b), (4, vI sm)] dX8_stepsToSet_60 (by decide) rfl ?_
      refine s_iload (pc := 62) C dX8_stepsToSet_62 6 rfl ?_
      refine s_aload_n (pc := 64) C dX8_stepsToSet_64 2 rfl ?_
      refine s_iload (pc := 65) C dX8_stepsToSet_65 0 rfl ?_
      refine s_iload (pc := 67) C dX8_stepsToSet_67 6 rfl ?_
      refine s_isub (pc := 69) C dX8_stepsToSet_69 ?_
      refine s_callVi (pc := 70) C (c_X8_wrap l t ht (((σ t 5) - z34) - sm) ⟨by omega, by omega⟩) [vI (((σ t 5) - z34) - sm)] [vI sm] rfl rfl dX8_stepsToSet_70 wlX8_44 wiX8_wrap weX8_wrap wcX8_wrap wnX8 noX8_wrap (by decide) (by decide) (Nat.le_of_ble_eq_true rfl) (gx_self g0) (sh_T ht) rfl ?_
      rintro z70 _ ⟨rfl, k70⟩
      show hs_Wd _ _ _ _ _ _ _ _ _ _ _ _ _ _ _ _ _ 73 _ [vI z70, vI sm] σ
      refine s_iadd (pc := 73) C dX8_stepsToSet_73 ?_
      refine s_iret (pc := 74) C dX8_stepsToSet_74 ?_
      refine ⟨_, rfl, ?_⟩
      exact ⟨rfl, by first | omega | assumption | (constructor <;> omega) | (refine ⟨⟨?_, ?_⟩, ?_⟩ <;> omega) | (simp [hs_ss, hs_up]; omega) | (simp [hs_ss, hs_up]; done)⟩
    · skip
      refine s_iload (pc := 43) C dX8_stepsToSet_43 0 rfl ?_
      refine s_aload_n (pc := 45) C dX8_stepsToSet_45 1 rfl ?_
      refine s_geti (q := t) (ci := 8) (N := 7) (CN := RX8) (T := TX8) (pc := 46) C 5 dX8_stepsToSet_46 wlX8_28 (sh_T ht) rfl rfl wfX8 (by decide) rfl (σ t 5) rfl ?_
      have b46 : (0 : Int) ≤ σ t 5 ∧ σ t 5 ≤ 99 := gx_t g0 ht 5
      refine s_isub (pc := 49) C dX8_stepsToSet_49 ?_
      refine s_goto (pc := 50) C (tgt := 60) dX8_stepsToSet_50 (by decide) ?_
      refine s_istore (pc := 60) C [(6, vI (z34 - (σ t 5))), (5, vI z34), (0, .ref (ad t)), (1, vI w), (2, vI a), (3, vI b), (4, vI sm)] dX8_stepsToSet_60 (by decide) rfl ?_
      refine s_iload (pc := 62) C dX8_stepsToSet_62 6 rfl ?_
      refine s_aload_n (pc := 64) C dX8_stepsToSet_64 2 rfl ?_
      refine s_iload (pc := 65) C dX8_stepsToSet_65 0 rfl ?_
      refine s_iload (pc := 67) C dX8_stepsToSet_67 6 rfl ?_
      refine s_isub (pc := 69) C dX8_stepsToSet_69 ?_
      refine s_callVi (pc := 70) C (c_X8_wrap l t ht ((z34 - (σ t 5)) - sm) ⟨by omega, by omega⟩) [vI ((z34 - (σ t 5)) - sm)] [vI sm] rfl rfl dX8_stepsToSet_70 wlX8_44 wiX8_wrap weX8_wrap wcX8_wrap wnX8 noX8_wrap (by decide) (by decide) (Nat.le_of_ble_eq_true rfl) (gx_self g0) (sh_T ht) rfl ?_
      rintro z70 _ ⟨rfl, k70⟩
      show hs_Wd _ _ _ _ _ _ _ _ _ _ _ _ _ _ _ _ _ 73 _ [vI z70, vI sm] σ
      refine s_iadd (pc := 73) C dX8_stepsToSet_73 ?_
      refine s_iret (pc := 74) C dX8_stepsToSet_74 ?_
      refine ⟨_, rfl, ?_⟩
      exact ⟨rfl, by first | omega | assumption | (constructor <;> omega) | (refine ⟨⟨?_, ?_⟩, ?_⟩ <;> omega) | (simp [hs_ss, hs_up]; omega) | (simp [hs_ss, hs_up]; done)⟩
  · skip
    refine s_iload (pc := 12) C dX8_stepsToSet_12 4 rfl ?_
    refine s_aload_n (pc := 14) C dX8_stepsToSet_14 0 rfl ?_
    refine s_iload (pc := 15) C dX8_stepsToSet_15 5 rfl ?_
    refine s_iload_n (pc := 17) C dX8_stepsToSet_17 3 rfl ?_
    refine s_callVi (pc := 18) C (c_X8_play l t ht k b (by first | omega | assumption | (constructor <;> omega) | (refine ⟨⟨?_, ?_⟩, ?_⟩ <;> omega) | (simp [hs_ss, hs_up]; omega) | (simp [hs_ss, hs_up]; done)) (by first | omega | assumption | (constructor <;> omega) | (refine ⟨⟨?_, ?_⟩, ?_⟩ <;> omega) | (simp [hs_ss, hs_up]; omega) | (simp [hs_ss, hs_up]; done))) [vI k, vI b] [vI sm] rfl rfl dX8_stepsToSet_18 wlX8_48 wiX8_play weX8_play wcX8_play wnX8 noX8_play (by decide) (by decide) (Nat.le_of_ble_eq_true rfl) (gx_self g0) (sh_T ht) rfl ?_
    rintro z18 _ ⟨rfl, k18⟩
    show hs_Wd _ _ _ _ _ _ _ _ _ _ _ _ _ _ _ _ _ 21 _ [vI z18, vI sm] σ
    refine s_iadd (pc := 21) C dX8_stepsToSet_21 ?_
    refine s_istore (pc := 22) C [(4, vI (sm + z18)), (0, .ref (ad t)), (1, vI w), (2, vI a), (3, vI b), (5, vI k)] dX8_stepsToSet_22 (by decide) rfl ?_
    refine s_iinc (pc := 24) C [(5, vI (k + 1)), (4, vI (sm + z18)), (0, .ref (ad t)), (1, vI w), (2, vI a), (3, vI b)] dX8_stepsToSet_24 5 rfl (by decide) rfl ?_
    refine s_goto (pc := 27) C (tgt := 6) dX8_stepsToSet_27 (by decide) ?_
    refine s_sub C [2, 3, 4, 5, 1, 0] [(0, .ref (ad t)), (1, vI w), (2, vI a), (3, vI b), (4, vI (sm + z18)), (5, vI (k + 1))] rfl ?_
    have hi6 : 0 ≤ (k + 1) ∧ (k + 1) ≤ w + 1 ∧ 1 ≤ (sm + z18) ∧ (sm + z18) ≤ 1 + 99 * (k + 1) := (by first | omega | assumption | (constructor <;> omega) | (refine ⟨⟨?_, ?_⟩, ?_⟩ <;> omega) | (simp [hs_ss, hs_up]; omega) | (simp [hs_ss, hs_up]; done))
    exact ih6 (k + 1, sm + z18) (by first | omega | (simp only []; omega)) hi6
set_option maxHeartbeats 4000000 in
set_option maxRecDepth 100000 in
theorem c_X8_addWheel (l : Launch) (f : Int) (hf : 1 ≤ f ∧ f ≤ 9) : hs_Met l yX8_addWheel cX8_addWheel 2 none 1 SHX (fun ad => [.ref (ad 3), vI f]) (fun σ => IBX σ ∧ σ 3 4 < 4) (hs_PV (fun σ σ1 => hs_ss (hs_ss σ 4 (σ 3 4).toNat (σ 3 3 - f)) 3 4 (σ 3 4 + 1) = σ1)) := by
  refine hs_from pfX8_addWheel (fun _ => Nat.le_of_ble_eq_true rfl) ?_
  intro p e s m args below meth c D dA ad A σ C hpre
  have C : hs_C p s m args meth c D dA SHX ad A 2 cX8_addWheel RX8 none := C
  have b4 : (0 : Int) ≤ σ 3 4 ∧ σ 3 4 ≤ 4 := hpre.1 3 4
  have b3 : (10 : Int) ≤ σ 3 3 ∧ σ 3 3 ≤ 100 := hpre.1 3 3
  show hs_Wd p l e 1 s m args below meth c D dA SHX ad A 2 (hs_PV (fun σ σ1 => hs_ss (hs_ss σ 4 (σ 3 4).toNat (σ 3 3 - f)) 3 4 (σ 3 4 + 1) = σ1) σ) 0 [(0, .ref (ad 3)), (1, vI f)] [] σ
  refine s_aload_n (pc := 0) C dX8_addWheel_0 0 rfl ?_
  refine s_geti (q := 3) (ci := 8) (N := 7) (CN := RX8) (T := TX8) (pc := 1) C 4 dX8_addWheel_1 wlX8_25 rfl rfl rfl wfX8 (by decide) rfl (σ 3 4) rfl ?_
  refine s_iconst (pc := 4) C dX8_addWheel_4 ?_
  refine s_icmp_ge (pc := 5) C (tgt := 33) dX8_addWheel_5 (by decide) ⟨by omega, by omega⟩ ⟨by decide, by decide⟩ (fun h5 => ?_) (fun h5 => ?_)
  · skip
    refine s_vret (pc := 33) C dX8_addWheel_33 ?_
    refine ⟨rfl, ?_⟩
    first | rfl | (exfalso; omega)
  · skip
    refine s_aload_n (pc := 8) C dX8_addWheel_8 0 rfl ?_
    refine s_getr (q := 3) (ci := 8) (N := 7) (CN := RX8) (T := TX8) (pc := 9) C 0 dX8_addWheel_9 wlX8_9 rfl rfl rfl wfX8 (by decide) rfl ?_
    refine s_aload_n (pc := 12) C dX8_addWheel_12 0 rfl ?_
    refine s_geti (q := 3) (ci := 8) (N := 7) (CN := RX8) (T := TX8) (pc := 13) C 4 dX8_addWheel_13 wlX8_25 rfl rfl rfl wfX8 (by decide) rfl (σ 3 4) rfl ?_
    refine s_aload_n (pc := 16) C dX8_addWheel_16 0 rfl ?_
    refine s_geti (q := 3) (ci := 8) (N := 7) (CN := RX8) (T := TX8) (pc := 17) C 3 dX8_addWheel_17 wlX8_21 rfl rfl rfl wfX8 (by decide) rfl (σ 3 3) rfl ?_
    refine s_iload_n (pc := 20) C dX8_addWheel_20 1 rfl ?_
    refine s_isub (pc := 21) C dX8_addWheel_21 ?_
    refine s_iast (q := 4) (n := 4) (pc := 22) C dX8_addWheel_22 rfl (by omega) (by omega) (by decide) ?_
    refine s_aload_n (pc := 23) C dX8_addWheel_23 0 rfl ?_
    refine s_dup (pc := 24) C dX8_addWheel_24 rfl ?_
    refine s_geti (q := 3) (ci := 8) (N := 7) (CN := RX8) (T := TX8) (pc := 25) C 4 dX8_addWheel_25 wlX8_25 rfl rfl rfl wfX8 (by decide) rfl (σ 3 4) rfl ?_
    refine s_iconst (pc := 28) C dX8_addWheel_28 ?_
    refine s_iadd (pc := 29) C dX8_addWheel_29 ?_
    refine s_puti (q := 3) (ci := 8) (N := 7) (CN := RX8) (T := TX8) (ty0 := tyX8) (ty := .int) (pc := 30) C 4 dX8_addWheel_30 wlX8_25 rfl rfl rfl wfX8 tyX8_ok nmX8 (by decide) rfl rfl rfl (vp_nar_int _) rfl ?_
    refine s_vret (pc := 33) C dX8_addWheel_33 ?_
    refine ⟨rfl, ?_⟩
    first | rfl | (exfalso; omega)
set_option maxHeartbeats 4000000 in
set_option maxRecDepth 100000 in
theorem c_X8_goHome (l : Launch) (t : Nat) (ht : hs_T t)  : hs_Met l yX8_goHome cX8_goHome 2 none 1 SHX (fun ad => [.ref (ad t)]) (fun σ => IBX σ) (hs_PV (fun σ σ1 => IBX σ1 ∧ σ1 t 5 = 0 ∧ (∀ j : Nat, j < 4 → σ1 (t + 2) j = 0 ∧ σ1 (t + 3) j = 0) ∧ (∀ c j : Nat, c ≠ t + 2 → c ≠ t + 3 → ¬ (c = t ∧ j = 5) → σ1 c j = σ c j))) := by
  refine hs_from pfX8_goHome (fun _ => Nat.le_of_ble_eq_true rfl) ?_
  intro p e s m args below meth c D dA ad A σ C hpre
  have C : hs_C p s m args meth c D dA SHX ad A 2 cX8_goHome RX8 none := C
  show hs_Wd p l e 1 s m args below meth c D dA SHX ad A 2 (hs_PV (fun σ σ1 => IBX σ1 ∧ σ1 t 5 = 0 ∧ (∀ j : Nat, j < 4 → σ1 (t + 2) j = 0 ∧ σ1 (t + 3) j = 0) ∧ (∀ c j : Nat, c ≠ t + 2 → c ≠ t + 3 → ¬ (c = t ∧ j = 5) → σ1 c j = σ c j)) σ) 0 [(0, .ref (ad t))] [] σ
  refine s_aload_n (pc := 0) C dX8_goHome_0 0 rfl ?_
  refine s_iconst (pc := 1) C dX8_goHome_1 ?_
  refine s_puti (q := t) (ci := 8) (N := 7) (CN := RX8) (T := TX8) (ty0 := tyX8) (ty := .int) (pc := 2) C 5 dX8_goHome_2 wlX8_28 (sh_T ht) rfl rfl wfX8 tyX8_ok nmX8 (by decide) rfl rfl rfl (vp_nar_int _) rfl ?_
  refine s_iconst (pc := 5) C dX8_goHome_5 ?_
  refine s_istore_n (pc := 6) C [(1, vI 0), (0, .ref (ad t))] dX8_goHome_6 (by decide) rfl ?_
  refine s_sub C [1, 0] [(0, .ref (ad t)), (1, vI 0)] rfl ?_
  have hi7 : IBX ((hs_ss σ t 5 0)) ∧ 0 ≤ (0 : Int) ∧ (0 : Int) ≤ 4 ∧ ((hs_ss σ t 5 0)) t 5 = 0 ∧ (∀ j : Nat, (j : Int) < (0 : Int) → ((hs_ss σ t 5 0)) (t + 2) j = 0 ∧ ((hs_ss σ t 5 0)) (t + 3) j = 0) ∧ (∀ c j : Nat, c ≠ t + 2 → c ≠ t + 3 → ¬ (c = t ∧ j = 5) → ((hs_ss σ t 5 0)) c j = σ c j) := ⟨ibx_set hpre _ _ 0 99 (bX_t ht) (by omega), by omega, by omega, by simp [hs_ss, hs_up], fun j h => absurd h (by omega), fun c j h1 h2 h3 => by by_cases q : c = t <;> simp_all [hs_ss, hs_up]⟩
  refine hs_loop (α := Int × hs_S) (fun x_ => (IBX x_.2 ∧ 0 ≤ x_.1 ∧ x_.1 ≤ 4 ∧ x_.2 t 5 = 0 ∧ (∀ j : Nat, (j : Int) < x_.1 → x_.2 (t + 2) j = 0 ∧ x_.2 (t + 3) j = 0) ∧ (∀ c j : Nat, c ≠ t + 2 → c ≠ t + 3 → ¬ (c = t ∧ j = 5) → x_.2 c j = σ c j)) → hs_Wd p l e 1 s m args below meth c D dA SHX ad A 2 (hs_PV (fun σ σ1 => IBX σ1 ∧ σ1 t 5 = 0 ∧ (∀ j : Nat, j < 4 → σ1 (t + 2) j = 0 ∧ σ1 (t + 3) j = 0) ∧ (∀ c j : Nat, c ≠ t + 2 → c ≠ t + 3 → ¬ (c = t ∧ j = 5) → σ1 c j = σ c j)) σ) 7 [(0, .ref (ad t)), (1, vI x_.1)] [] x_.2) (fun x_ => (4 - x_.1).toNat) ?_ (0, (hs_ss σ t 5 0)) hi7
  rintro ⟨w, σ1⟩ ih7 hinv
  replace hinv : IBX σ1 ∧ 0 ≤ w ∧ w ≤ 4 ∧ σ1 t 5 = 0 ∧ (∀ j : Nat, (j : Int) < w → σ1 (t + 2) j = 0 ∧ σ1 (t + 3) j = 0) ∧ (∀ c j : Nat, c ≠ t + 2 → c ≠ t + 3 → ¬ (c = t ∧ j = 5) → σ1 c j = σ c j) := hinv
  show hs_Wd p l e 1 s m args below meth c D dA SHX ad A 2 (hs_PV (fun σ σ1 => IBX σ1 ∧ σ1 t 5 = 0 ∧ (∀ j : Nat, j < 4 → σ1 (t + 2) j = 0 ∧ σ1 (t + 3) j = 0) ∧ (∀ c j : Nat, c ≠ t + 2 → c ≠ t + 3 → ¬ (c = t ∧ j = 5) → σ1 c j = σ c j)) σ) 7 [(0, .ref (ad t)), (1, vI w)] [] σ1
  obtain ⟨hI, hw0, hw4, h5, hz, hk⟩ := hinv
  refine s_iload_n (pc := 7) C dX8_goHome_7 1 rfl ?_
  refine s_iconst (pc := 8) C dX8_goHome_8 ?_
  refine s_icmp_ge (pc := 9) C (tgt := 32) dX8_goHome_9 (by decide) ⟨by omega, by omega⟩ ⟨by decide, by decide⟩ (fun h9 => ?_) (fun h9 => ?_)
  · skip
    refine s_vret (pc := 32) C dX8_goHome_32 ?_
    refine ⟨rfl, ?_⟩
    exact ⟨hI, h5, fun j h => hz j (by omega), hk⟩
  · skip
    refine s_aload_n (pc := 12) C dX8_goHome_12 0 rfl ?_
    refine s_getr (q := t) (ci := 8) (N := 7) (CN := RX8) (T := TX8) (pc := 13) C 1 dX8_goHome_13 wlX8_15 (sh_T ht) rfl rfl wfX8 (by decide) rfl ?_
    refine s_iload_n (pc := 16) C dX8_goHome_16 1 rfl ?_
    refine s_iconst (pc := 17) C dX8_goHome_17 ?_
    refine s_iast (q := (t + 2)) (n := 4) (pc := 18) C dX8_goHome_18 (sh_T2 ht) (by omega) (by omega) (by decide) ?_
    refine s_aload_n (pc := 19) C dX8_goHome_19 0 rfl ?_
    refine s_getr (q := t) (ci := 8) (N := 7) (CN := RX8) (T := TX8) (pc := 20) C 2 dX8_goHome_20 wlX8_18 (sh_T ht) rfl rfl wfX8 (by decide) rfl ?_
    refine s_iload_n (pc := 23) C dX8_goHome_23 1 rfl ?_
    refine s_iconst (pc := 24) C dX8_goHome_24 ?_
    refine s_iast (q := (t + 3)) (n := 4) (pc := 25) C dX8_goHome_25 (sh_T3 ht) (by omega) (by omega) (by decide) ?_
    refine s_iinc (pc := 26) C [(1, vI (w + 1)), (0, .ref (ad t))] dX8_goHome_26 1 rfl (by decide) rfl ?_
    refine s_goto (pc := 29) C (tgt := 7) dX8_goHome_29 (by decide) ?_
    refine s_sub C [1, 0] [(0, .ref (ad t)), (1, vI (w + 1))] rfl ?_
    have hi7 : IBX ((hs_ss (hs_ss σ1 (t + 2) w.toNat 0) (t + 3) w.toNat 0)) ∧ 0 ≤ (w + 1) ∧ (w + 1) ≤ 4 ∧ ((hs_ss (hs_ss σ1 (t + 2) w.toNat 0) (t + 3) w.toNat 0)) t 5 = 0 ∧ (∀ j : Nat, (j : Int) < (w + 1) → ((hs_ss (hs_ss σ1 (t + 2) w.toNat 0) (t + 3) w.toNat 0)) (t + 2) j = 0 ∧ ((hs_ss (hs_ss σ1 (t + 2) w.toNat 0) (t + 3) w.toNat 0)) (t + 3) j = 0) ∧ (∀ c j : Nat, c ≠ t + 2 → c ≠ t + 3 → ¬ (c = t ∧ j = 5) → ((hs_ss (hs_ss σ1 (t + 2) w.toNat 0) (t + 3) w.toNat 0)) c j = σ c j) := ⟨ibx_set (ibx_set hI _ _ 0 99 (bX_t2 ht) (by omega)) _ _ 0 99 (bX_t3 ht) (by omega), by omega, by omega, by simp [hs_ss, hs_up, h5], fun j h => by have := hz j; by_cases q : j = w.toNat <;> simp [hs_ss, hs_up, q] <;> first | done | exact this (by omega), fun c j h1 h2 h3 => by simp [hs_ss, h1, h2, hk c j h1 h2 h3]⟩
    exact ih7 (w + 1, (hs_ss (hs_ss σ1 (t + 2) w.toNat 0) (t + 3) w.toNat 0)) (by first | omega | (simp only []; omega)) hi7
set_option maxHeartbeats 4000000 in
set_option maxRecDepth 100000 in
theorem c_X8_becomeLike (l : Launch)  : hs_Met l yX8_becomeLike cX8_becomeLike 3 none 1 SHX (fun ad => [.ref (ad 33), .ref (ad 3)]) (fun σ => IBX σ) (hs_PV (fun σ σ1 => IBX σ1 ∧ σ1 33 3 = σ 3 3 ∧ σ1 33 4 = σ 3 4 ∧ (∀ c j : Nat, c ≠ 34 → ¬ (c = 33 ∧ (j = 3 ∨ j = 4)) → σ1 c j = σ c j))) := by
  refine hs_from pfX8_becomeLike (fun _ => Nat.le_of_ble_eq_true rfl) ?_
  intro p e s m args below meth c D dA ad A σ C hpre
  have C : hs_C p s m args meth c D dA SHX ad A 3 cX8_becomeLike RX8 none := C
  have b3 : (10 : Int) ≤ σ 3 3 ∧ σ 3 3 ≤ 100 := hpre 3 3
  have b4 : (0 : Int) ≤ σ 3 4 ∧ σ 3 4 ≤ 4 := hpre 3 4
  show hs_Wd p l e 1 s m args below meth c D dA SHX ad A 3 (hs_PV (fun σ σ1 => IBX σ1 ∧ σ1 33 3 = σ 3 3 ∧ σ1 33 4 = σ 3 4 ∧ (∀ c j : Nat, c ≠ 34 → ¬ (c = 33 ∧ (j = 3 ∨ j = 4)) → σ1 c j = σ c j)) σ) 0 [(0, .ref (ad 33)), (1, .ref (ad 3))] [] σ
  refine s_aload_n (pc := 0) C dX8_becomeLike_0 0 rfl ?_
  refine s_aload_n (pc := 1) C dX8_becomeLike_1 1 rfl ?_
  refine s_geti (q := 3) (ci := 8) (N := 7) (CN := RX8) (T := TX8) (pc := 2) C 3 dX8_becomeLike_2 wlX8_21 rfl rfl rfl wfX8 (by decide) rfl (σ 3 3) rfl ?_
  refine s_puti (q := 33) (ci := 8) (N := 7) (CN := RX8) (T := TX8) (ty0 := tyX8) (ty := .int) (pc := 5) C 3 dX8_becomeLike_5 wlX8_21 rfl rfl rfl wfX8 tyX8_ok nmX8 (by decide) rfl rfl rfl (vp_nar_int _) rfl ?_
  refine s_aload_n (pc := 8) C dX8_becomeLike_8 0 rfl ?_
  refine s_aload_n (pc := 9) C dX8_becomeLike_9 1 rfl ?_
  refine s_geti (q := 3) (ci := 8) (N := 7) (CN := RX8) (T := TX8) (pc := 10) C 4 dX8_becomeLike_10 wlX8_25 rfl rfl rfl wfX8 (by decide) rfl (σ 3 4) rfl ?_
  refine s_puti (q := 33) (ci := 8) (N := 7) (CN := RX8) (T := TX8) (ty0 := tyX8) (ty := .int) (pc := 13) C 4 dX8_becomeLike_13 wlX8_25 rfl rfl rfl wfX8 tyX8_ok nmX8 (by decide) rfl rfl rfl (vp_nar_int _) rfl ?_
  refine s_iconst (pc := 16) C dX8_becomeLike_16 ?_
  refine s_istore_n (pc := 17) C [(2, vI 0), (0, .ref (ad 33)), (1, .ref (ad 3))] dX8_becomeLike_17 (by decide) rfl ?_
  refine s_sub C [1, 2, 0] [(0, .ref (ad 33)), (1, .ref (ad 3)), (2, vI 0)] rfl ?_
  have hi18 : IBX ((hs_ss (hs_ss σ 33 3 (σ 3 3)) 33 4 (σ 3 4))) ∧ 0 ≤ (0 : Int) ∧ (0 : Int) ≤ 4 ∧ ((hs_ss (hs_ss σ 33 3 (σ 3 3)) 33 4 (σ 3 4))) 33 3 = σ 3 3 ∧ ((hs_ss (hs_ss σ 33 3 (σ 3 3)) 33 4 (σ 3 4))) 33 4 = σ 3 4 ∧ (∀ c j : Nat, c ≠ 34 → ¬ (c = 33 ∧ (j = 3 ∨ j = 4)) → ((hs_ss (hs_ss σ 33 3 (σ 3 3)) 33 4 (σ 3 4))) c j = σ c j) := ⟨ibx_set (ibx_set hpre 33 3 10 100 rfl (by omega)) 33 4 0 4 rfl (by omega), by omega, by omega, rfl, rfl, fun c j h1 h2 => by by_cases q : c = 33 <;> simp_all [hs_ss, hs_up]⟩
  refine hs_loop (α := Int × hs_S) (fun x_ => (IBX x_.2 ∧ 0 ≤ x_.1 ∧ x_.1 ≤ 4 ∧ x_.2 33 3 = σ 3 3 ∧ x_.2 33 4 = σ 3 4 ∧ (∀ c j : Nat, c ≠ 34 → ¬ (c = 33 ∧ (j = 3 ∨ j = 4)) → x_.2 c j = σ c j)) → hs_Wd p l e 1 s m args below meth c D dA SHX ad A 3 (hs_PV (fun σ σ1 => IBX σ1 ∧ σ1 33 3 = σ 3 3 ∧ σ1 33 4 = σ 3 4 ∧ (∀ c j : Nat, c ≠ 34 → ¬ (c = 33 ∧ (j = 3 ∨ j = 4)) → σ1 c j = σ c j)) σ) 18 [(0, .ref (ad 33)), (1, .ref (ad 3)), (2, vI x_.1)] [] x_.2) (fun x_ => (4 - x_.1).toNat) ?_ (0, (hs_ss (hs_ss σ 33 3 (σ 3 3)) 33 4 (σ 3 4))) hi18
  rintro ⟨w, σ1⟩ ih18 hinv
  replace hinv : IBX σ1 ∧ 0 ≤ w ∧ w ≤ 4 ∧ σ1 33 3 = σ 3 3 ∧ σ1 33 4 = σ 3 4 ∧ (∀ c j : Nat, c ≠ 34 → ¬ (c = 33 ∧ (j = 3 ∨ j = 4)) → σ1 c j = σ c j) := hinv
  show hs_Wd p l e 1 s m args below meth c D dA SHX ad A 3 (hs_PV (fun σ σ1 => IBX σ1 ∧ σ1 33 3 = σ 3 3 ∧ σ1 33 4 = σ 3 4 ∧ (∀ c j : Nat, c ≠ 34 → ¬ (c = 33 ∧ (j = 3 ∨ j = 4)) → σ1 c j = σ c j)) σ) 18 [(0, .ref (ad 33)), (1, .ref (ad 3)), (2, vI w)] [] σ1
  obtain ⟨hI, hw0, hw4, h3, h4, hk⟩ := hinv
  refine s_iload_n (pc := 18) C dX8_becomeLike_18 2 rfl ?_
  refine s_iconst (pc := 19) C dX8_becomeLike_19 ?_
  refine s_icmp_ge (pc := 20) C (tgt := 41) dX8_becomeLike_20 (by decide) ⟨by omega, by omega⟩ ⟨by decide, by decide⟩ (fun h20 => ?_) (fun h20 => ?_)
  · skip
    refine s_vret (pc := 41) C dX8_becomeLike_41 ?_
    refine ⟨rfl, ?_⟩
    exact ⟨hI, h3, h4, hk⟩
  · skip
    refine s_aload_n (pc := 23) C dX8_becomeLike_23 0 rfl ?_
    refine s_getr (q := 33) (ci := 8) (N := 7) (CN := RX8) (T := TX8) (pc := 24) C 0 dX8_becomeLike_24 wlX8_9 rfl rfl rfl wfX8 (by decide) rfl ?_
    refine s_iload_n (pc := 27) C dX8_becomeLike_27 2 rfl ?_
    refine s_aload_n (pc := 28) C dX8_becomeLike_28 1 rfl ?_
    refine s_getr (q := 3) (ci := 8) (N := 7) (CN := RX8) (T := TX8) (pc := 29) C 0 dX8_becomeLike_29 wlX8_9 rfl rfl rfl wfX8 (by decide) rfl ?_
    refine s_iload_n (pc := 32) C dX8_becomeLike_32 2 rfl ?_
    refine s_iald (q := 4) (n := 4) (pc := 33) C (σ1 4 w.toNat) rfl dX8_becomeLike_33 rfl (by omega) (by omega) (by decide) ?_
    refine s_iast (q := 34) (n := 4) (pc := 34) C dX8_becomeLike_34 rfl (by omega) (by omega) (by decide) ?_
    refine s_iinc (pc := 35) C [(2, vI (w + 1)), (0, .ref (ad 33)), (1, .ref (ad 3))] dX8_becomeLike_35 2 rfl (by decide) rfl ?_
    refine s_goto (pc := 38) C (tgt := 18) dX8_becomeLike_38 (by decide) ?_
    refine s_sub C [1, 2, 0] [(0, .ref (ad 33)), (1, .ref (ad 3)), (2, vI (w + 1))] rfl ?_
    have hi18 : IBX ((hs_ss σ1 34 w.toNat (σ1 4 w.toNat))) ∧ 0 ≤ (w + 1) ∧ (w + 1) ≤ 4 ∧ ((hs_ss σ1 34 w.toNat (σ1 4 w.toNat))) 33 3 = σ 3 3 ∧ ((hs_ss σ1 34 w.toNat (σ1 4 w.toNat))) 33 4 = σ 3 4 ∧ (∀ c j : Nat, c ≠ 34 → ¬ (c = 33 ∧ (j = 3 ∨ j = 4)) → ((hs_ss σ1 34 w.toNat (σ1 4 w.toNat))) c j = σ c j) := ⟨ibx_set hI 34 w.toNat 0 99 rfl (hI 4 w.toNat), by omega, by omega, h3, h4, fun c j h1 h2 => by simp [hs_ss, h1, hk c j h1 h2]⟩
    exact ih18 (w + 1, (hs_ss σ1 34 w.toNat (σ1 4 w.toNat))) (by first | omega | (simp only []; omega)) hi18
