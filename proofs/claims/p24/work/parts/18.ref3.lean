set_option maxHeartbeats 4000000 in
set_option maxRecDepth 100000 in
theorem c_X12_second (l : Launch) (w : Int) (hw : hs_R w) (n : Int) (hn : hs_R n) : hs_Met l yX12_second cX12_second 3 (some .boolean) 2 SHY (fun ad => [.ref (ad 0), vI w, vI n]) (fun σ => GY σ σ) (hs_PI (fun σ z σ1 => GY σ σ1 ∧ (z = 0 ∨ z = 1) ∧ (z = 1 ↔ (0 ≤ w ∧ w < σ 0 6 ∧ (n = -1 ∨ (0 ≤ n ∧ n < σ 0 3)))))) := by
  refine hs_from pfX12_second (fun _ => Nat.le_of_ble_eq_true rfl) ?_
  intro p e s m args below meth c D dA ad A σ C hpre
  have C : hs_C p s m args meth c D dA SHY ad A 3 cX12_second RX12 (some .boolean) := C
  have g0 := hpre
  have b06 : (0 : Int) ≤ σ 0 6 ∧ σ 0 6 ≤ 4 := g0.1 0 6
  have b03 : (10 : Int) ≤ σ 0 3 ∧ σ 0 3 ≤ 100 := g0.1 0 3
  show hs_Wd p l e 2 s m args below meth c D dA SHY ad A 3 (hs_PI (fun σ z σ1 => GY σ σ1 ∧ (z = 0 ∨ z = 1) ∧ (z = 1 ↔ (0 ≤ w ∧ w < σ 0 6 ∧ (n = -1 ∨ (0 ≤ n ∧ n < σ 0 3))))) σ) 0 [(0, .ref (ad 0)), (1, vI w), (2, vI n)] [] σ
  refine s_aload_n (pc := 0) C dX12_second_0 0 rfl ?_
  refine s_iconst (pc := 1) C dX12_second_1 ?_
  refine s_puti (q := 0) (ci := 12) (N := 68) (CN := RX12) (T := TX12) (ty0 := tyX12) (ty := .int) (pc := 2) C 2 dX12_second_2 wlX12_135 rfl rfl rfl wfX12 tyX12_ok nmX12 (by decide) rfl rfl rfl (vp_nar_int _) rfl ?_
  have g2 := gy_set (z := 0) g0 0 2 rfl (0) (2) rfl ⟨by omega, by omega⟩
  refine s_aload_n (pc := 5) C dX12_second_5 0 rfl ?_
  refine s_iload_n (pc := 6) C dX12_second_6 1 rfl ?_
  have r7_0_6 : (hs_ss σ 0 2 0) 0 6 = σ 0 6 := rfl
  refine s_callVi (pc := 7) C (c_X12_isWheel l w ⟨by omega, by omega⟩) [vI w] [] rfl rfl dX12_second_7 wlX12_208 wiX12_isWheel weX12_isWheel wcX12_isWheel wnX12 noX12_isWheel (by decide) (by decide) (Nat.le_of_ble_eq_true rfl) (gy_self g2) rfl rfl ?_
  rintro z7 _ ⟨rfl, k7⟩
  show hs_Wd _ _ _ _ _ _ _ _ _ _ _ _ _ _ _ _ _ 10 _ [vI z7] (hs_ss σ 0 2 0)
  refine s_if_eq (pc := 10) C (tgt := 26) dX12_second_10 (by decide) ⟨by omega, by omega⟩ (fun h10 => ?_) (fun h10 => ?_)
  · skip
    refine s_iconst (pc := 26) C dX12_second_26 ?_
    refine s_zret (pc := 27) C (by omega) dX12_second_27 ?_
    refine ⟨_, rfl, ?_⟩
    exact ⟨g2, by first | omega | (constructor <;> omega) | (show (_ ∨ _) ∧ (_ ↔ 0 ≤ w ∧ w < σ 0 6 ∧ (n = -1 ∨ (0 ≤ n ∧ n < σ 0 3))); omega)⟩
  · skip
    refine s_iload_n (pc := 13) C dX12_second_13 2 rfl ?_
    refine s_iconst (pc := 14) C dX12_second_14 ?_
    refine s_icmp_eq (pc := 15) C (tgt := 28) dX12_second_15 (by decide) ⟨by omega, by omega⟩ ⟨by decide, by decide⟩ (fun h15 => ?_) (fun h15 => ?_)
    · skip
      refine s_aload_n (pc := 28) C dX12_second_28 0 rfl ?_
      refine s_getr (q := 0) (ci := 12) (N := 68) (CN := RX12) (T := TX12) (pc := 29) C 9 dX12_second_29 wlX12_23 rfl rfl rfl wfX12 (by decide) rfl ?_
      refine s_iload_n (pc := 32) C dX12_second_32 1 rfl ?_
      refine s_iload_n (pc := 33) C dX12_second_33 2 rfl ?_
      refine s_iast (q := 4) (n := 4) (pc := 34) C dX12_second_34 rfl (by omega) (by omega) (by decide) ?_
      have g34 := gy_set (z := n) g2 4 w.toNat rfl (-1) (99) rfl ⟨by omega, by omega⟩
      refine s_iconst (pc := 35) C dX12_second_35 ?_
      refine s_zret (pc := 36) C (by omega) dX12_second_36 ?_
      refine ⟨_, rfl, ?_⟩
      exact ⟨g34, by first | omega | (constructor <;> omega) | (show (_ ∨ _) ∧ (_ ↔ 0 ≤ w ∧ w < σ 0 6 ∧ (n = -1 ∨ (0 ≤ n ∧ n < σ 0 3))); omega)⟩
    · skip
      refine s_aload_n (pc := 18) C dX12_second_18 0 rfl ?_
      refine s_iload_n (pc := 19) C dX12_second_19 2 rfl ?_
      have r20_0_3 : (hs_ss σ 0 2 0) 0 3 = σ 0 3 := rfl
      refine s_callVi (pc := 20) C (c_X12_isNumber l n ⟨by omega, by omega⟩) [vI n] [] rfl rfl dX12_second_20 wlX12_205 wiX12_isNumber weX12_isNumber wcX12_isNumber wnX12 noX12_isNumber (by decide) (by decide) (Nat.le_of_ble_eq_true rfl) (gy_self g2) rfl rfl ?_
      rintro z20 _ ⟨rfl, k20⟩
      show hs_Wd _ _ _ _ _ _ _ _ _ _ _ _ _ _ _ _ _ 23 _ [vI z20] (hs_ss σ 0 2 0)
      refine s_if_ne (pc := 23) C (tgt := 28) dX12_second_23 (by decide) ⟨by omega, by omega⟩ (fun h23 => ?_) (fun h23 => ?_)
      · skip
        refine s_aload_n (pc := 28) C dX12_second_28 0 rfl ?_
        refine s_getr (q := 0) (ci := 12) (N := 68) (CN := RX12) (T := TX12) (pc := 29) C 9 dX12_second_29 wlX12_23 rfl rfl rfl wfX12 (by decide) rfl ?_
        refine s_iload_n (pc := 32) C dX12_second_32 1 rfl ?_
        refine s_iload_n (pc := 33) C dX12_second_33 2 rfl ?_
        refine s_iast (q := 4) (n := 4) (pc := 34) C dX12_second_34 rfl (by omega) (by omega) (by decide) ?_
        have g34 := gy_set (z := n) g2 4 w.toNat rfl (-1) (99) rfl ⟨by omega, by omega⟩
        refine s_iconst (pc := 35) C dX12_second_35 ?_
        refine s_zret (pc := 36) C (by omega) dX12_second_36 ?_
        refine ⟨_, rfl, ?_⟩
        exact ⟨g34, by first | omega | (constructor <;> omega) | (show (_ ∨ _) ∧ (_ ↔ 0 ≤ w ∧ w < σ 0 6 ∧ (n = -1 ∨ (0 ≤ n ∧ n < σ 0 3))); omega)⟩
      · skip
        refine s_iconst (pc := 26) C dX12_second_26 ?_
        refine s_zret (pc := 27) C (by omega) dX12_second_27 ?_
        refine ⟨_, rfl, ?_⟩
        exact ⟨g2, by first | omega | (constructor <;> omega) | (show (_ ∨ _) ∧ (_ ↔ 0 ≤ w ∧ w < σ 0 6 ∧ (n = -1 ∨ (0 ≤ n ∧ n < σ 0 3))); omega)⟩
set_option maxHeartbeats 4000000 in
set_option maxRecDepth 100000 in
theorem c_X12_step (l : Launch) (n : Int) (hn : hs_R n) : hs_Met l yX12_step cX12_step 3 (some .int) 5 SHY (fun ad => [.ref (ad 0), vI n]) (fun σ => GY σ σ) (hs_PI (fun σ z σ1 => GY σ σ1 ∧ hs_R z ∧ (¬ (-100000 ≤ n ∧ n ≤ 100000) → z = -1) ∧ (-100000 ≤ n ∧ n ≤ 100000 → n ≠ 0 → z = (σ 0 4 + n) % (σ 0 3)) ∧ (n = 0 → z = σ 0 4))) := by
  refine hs_from pfX12_step (fun _ => Nat.le_of_ble_eq_true rfl) ?_
  intro p e s m args below meth c D dA ad A σ C hpre
  have C : hs_C p s m args meth c D dA SHY ad A 3 cX12_step RX12 (some .int) := C
  have g0 := hpre
  show hs_Wd p l e 5 s m args below meth c D dA SHY ad A 3 (hs_PI (fun σ z σ1 => GY σ σ1 ∧ hs_R z ∧ (¬ (-100000 ≤ n ∧ n ≤ 100000) → z = -1) ∧ (-100000 ≤ n ∧ n ≤ 100000 → n ≠ 0 → z = (σ 0 4 + n) % (σ 0 3)) ∧ (n = 0 → z = σ 0 4)) σ) 0 [(0, .ref (ad 0)), (1, vI n)] [] σ
  refine s_aload_n (pc := 0) C dX12_step_0 0 rfl ?_
  refine s_iconst (pc := 1) C dX12_step_1 ?_
  refine s_puti (q := 0) (ci := 12) (N := 68) (CN := RX12) (T := TX12) (ty0 := tyX12) (ty := .int) (pc := 2) C 2 dX12_step_2 wlX12_135 rfl rfl rfl wfX12 tyX12_ok nmX12 (by decide) rfl rfl rfl (vp_nar_int _) rfl ?_
  have g2 := gy_set (z := 0) g0 0 2 rfl (0) (2) rfl ⟨by omega, by omega⟩
  refine s_iload_n (pc := 5) C dX12_step_5 1 rfl ?_
  refine s_ldc (z := (-100000)) (pc := 6) C dX12_step_6 wlX12_211 (by decide) ?_
  refine s_ldc (z := 100000) (pc := 8) C dX12_step_8 wlX12_212 (by decide) ?_
  refine s_callSi (pc := 10) C (c_X12_isIn l n ⟨by omega, by omega⟩ ((-100000)) ⟨by omega, by omega⟩ 100000 ⟨by omega, by omega⟩) [vI n, vI ((-100000)), vI 100000] [] rfl rfl dX12_step_10 wlX12_189 wtX12_isIn wcX12_isIn wnX12 noX12_isIn (by decide) (by decide) (Nat.le_of_ble_eq_true rfl) (gy_self g2) ?_
  rintro z10 _ ⟨rfl, k10⟩
  show hs_Wd _ _ _ _ _ _ _ _ _ _ _ _ _ _ _ _ _ 13 _ [vI z10] (hs_ss σ 0 2 0)
  refine s_if_ne (pc := 13) C (tgt := 18) dX12_step_13 (by decide) ⟨by omega, by omega⟩ (fun h13 => ?_) (fun h13 => ?_)
  · skip
    refine s_iconst (pc := 18) C dX12_step_18 ?_
    refine s_istore_n (pc := 19) C [(2, vI 0), (0, .ref (ad 0)), (1, vI n)] dX12_step_19 (by decide) rfl ?_
    refine s_sub C [1, 2, 0] [(0, .ref (ad 0)), (1, vI n), (2, vI 0)] rfl ?_
    have hi20 : GY σ ((hs_ss σ 0 2 0)) ∧ 0 ≤ (0 : Int) ∧ (0 ≤ n → (0 : Int) ≤ n) ∧ (n < 0 → (0 : Int) ≤ -n) ∧ ((0 : Int) = 0 → ((hs_ss σ 0 2 0)) 0 4 = σ 0 4) ∧ (0 < n → ((0 : Int) = 0 ∧ ((hs_ss σ 0 2 0)) 0 4 = σ 0 4) ∨ ((hs_ss σ 0 2 0)) 0 4 = (σ 0 4 + (0 : Int)) % (σ 0 3)) ∧ (n < 0 → ((0 : Int) = 0 ∧ ((hs_ss σ 0 2 0)) 0 4 = σ 0 4) ∨ ((hs_ss σ 0 2 0)) 0 4 = (σ 0 4 - (0 : Int)) % (σ 0 3)) := ⟨g2, by omega, by omega, by omega, fun _ => rfl, fun _ => Or.inl ⟨rfl, rfl⟩, fun _ => Or.inl ⟨rfl, rfl⟩⟩
    refine hs_loop (α := Int × hs_S) (fun x_ => (GY σ x_.2 ∧ 0 ≤ x_.1 ∧ (0 ≤ n → x_.1 ≤ n) ∧ (n < 0 → x_.1 ≤ -n) ∧ (x_.1 = 0 → x_.2 0 4 = σ 0 4) ∧ (0 < n → (x_.1 = 0 ∧ x_.2 0 4 = σ 0 4) ∨ x_.2 0 4 = (σ 0 4 + x_.1) % (σ 0 3)) ∧ (n < 0 → (x_.1 = 0 ∧ x_.2 0 4 = σ 0 4) ∨ x_.2 0 4 = (σ 0 4 - x_.1) % (σ 0 3))) → hs_Wd p l e 5 s m args below meth c D dA SHY ad A 3 (hs_PI (fun σ z σ1 => GY σ σ1 ∧ hs_R z ∧ (¬ (-100000 ≤ n ∧ n ≤ 100000) → z = -1) ∧ (-100000 ≤ n ∧ n ≤ 100000 → n ≠ 0 → z = (σ 0 4 + n) % (σ 0 3)) ∧ (n = 0 → z = σ 0 4)) σ) 20 [(0, .ref (ad 0)), (1, vI n), (2, vI x_.1)] [] x_.2) (fun x_ => (100001 - x_.1).toNat) ?_ (0, (hs_ss σ 0 2 0)) hi20
    rintro ⟨k, σ1⟩ ih20 hinv
    replace hinv : GY σ σ1 ∧ 0 ≤ k ∧ (0 ≤ n → k ≤ n) ∧ (n < 0 → k ≤ -n) ∧ (k = 0 → σ1 0 4 = σ 0 4) ∧ (0 < n → (k = 0 ∧ σ1 0 4 = σ 0 4) ∨ σ1 0 4 = (σ 0 4 + k) % (σ 0 3)) ∧ (n < 0 → (k = 0 ∧ σ1 0 4 = σ 0 4) ∨ σ1 0 4 = (σ 0 4 - k) % (σ 0 3)) := hinv
    show hs_Wd p l e 5 s m args below meth c D dA SHY ad A 3 (hs_PI (fun σ z σ1 => GY σ σ1 ∧ hs_R z ∧ (¬ (-100000 ≤ n ∧ n ≤ 100000) → z = -1) ∧ (-100000 ≤ n ∧ n ≤ 100000 → n ≠ 0 → z = (σ 0 4 + n) % (σ 0 3)) ∧ (n = 0 → z = σ 0 4)) σ) 20 [(0, .ref (ad 0)), (1, vI n), (2, vI k)] [] σ1
    obtain ⟨hg, hk0, hk1, hk2, h0, hp, hm⟩ := hinv
    have e3 : σ1 0 3 = σ 0 3 := hg.2.2.1
    refine s_iload_n (pc := 20) C dX12_step_20 2 rfl ?_
    refine s_iload_n (pc := 21) C dX12_step_21 1 rfl ?_
    refine s_if_ge (pc := 22) C (tgt := 30) dX12_step_22 (by decide) ⟨by omega, by omega⟩ (fun h22 => ?_) (fun h22 => ?_)
    · skip
      refine s_iload_n (pc := 30) C dX12_step_30 1 rfl ?_
      refine s_icmp_ge (pc := 31) C (tgt := 54) dX12_step_31 (by decide) ⟨by omega, by omega⟩ ⟨by omega, by omega⟩ (fun h31 => ?_) (fun h31 => ?_)
      · skip
        refine s_aload_n (pc := 54) C dX12_step_54 0 rfl ?_
        refine s_geti (q := 0) (ci := 12) (N := 68) (CN := RX12) (T := TX12) (pc := 55) C 4 dX12_step_55 wlX12_148 rfl rfl rfl wfX12 (by decide) rfl (σ1 0 4) rfl ?_
        have b55 : (0 : Int) ≤ σ1 0 4 ∧ σ1 0 4 ≤ 99 := hg.1 0 4
        refine s_iret (pc := 58) C dX12_step_58 ?_
        refine ⟨_, rfl, ?_⟩
        refine ⟨hg, ⟨by omega, by omega⟩, by omega, fun _ hn0 => ?_, fun hn0 => ?_⟩
        · rcases Int.lt_or_lt_of_ne hn0 with q | q
          · rcases hm q with ⟨r, _⟩ | r
            · exfalso; omega
            · rw [r, show σ 0 4 - k = σ 0 4 + n by omega]
          · rcases hp q with ⟨r, _⟩ | r
            · exfalso; omega
            · rw [r, show k = n by omega]
        · exact h0 (by omega)
      · skip
        refine s_aload_n (pc := 34) C dX12_step_34 0 rfl ?_
        refine s_iload_n (pc := 35) C dX12_step_35 1 rfl ?_
        refine s_if_le (pc := 36) C (tgt := 43) dX12_step_36 (by decide) ⟨by omega, by omega⟩ (fun h36 => ?_) (fun h36 => ?_)
        · skip
          refine s_iconst (pc := 43) C dX12_step_43 ?_
          refine s_iconst (pc := 44) C dX12_step_44 ?_
          refine s_callVv (pc := 45) C (c_X12_goes l 0 0 (by first | omega | assumption | (constructor <;> omega) | (refine ⟨⟨?_, ?_⟩, ?_⟩ <;> omega) | (simp [hs_ss, hs_up]; omega) | (simp [hs_ss, hs_up]; done)) ⟨by omega, by omega⟩) [vI 0, vI 0] [] rfl rfl dX12_step_45 wlX12_213 wiX12_goes weX12_goes wcX12_goes wnX12 noX12_goes (by decide) (by decide) (Nat.le_of_ble_eq_true rfl) (gy_self hg) rfl rfl ?_
          rintro σ45 k45
          obtain ⟨kg45, kf45, k45⟩ := k45
          have g45 := gy_trans hg kg45
          obtain ⟨k45a, k45b, -⟩ := k45
          have k45 := And.intro k45a k45b
          show hs_Wd _ _ _ _ _ _ _ _ _ _ _ _ _ _ _ _ _ 48 _ [] σ45
          refine s_iinc (pc := 48) C [(2, vI (k + 1)), (0, .ref (ad 0)), (1, vI n)] dX12_step_48 2 rfl (by decide) rfl ?_
          refine s_goto (pc := 51) C (tgt := 20) dX12_step_51 (by decide) ?_
          refine s_sub C [1, 2, 0] [(0, .ref (ad 0)), (1, vI n), (2, vI (k + 1))] rfl ?_
          have hi20 : GY σ σ45 ∧ 0 ≤ (k + 1) ∧ (0 ≤ n → (k + 1) ≤ n) ∧ (n < 0 → (k + 1) ≤ -n) ∧ ((k + 1) = 0 → σ45 0 4 = σ 0 4) ∧ (0 < n → ((k + 1) = 0 ∧ σ45 0 4 = σ 0 4) ∨ σ45 0 4 = (σ 0 4 + (k + 1)) % (σ 0 3)) ∧ (n < 0 → ((k + 1) = 0 ∧ σ45 0 4 = σ 0 4) ∨ σ45 0 4 = (σ 0 4 - (k + 1)) % (σ 0 3)) := ⟨g45, by omega, by omega, by omega, by omega, fun q => Or.inr (by first | (exfalso; omega) | (rw [k45.1, if_neg (by decide), e3]; exact hs_stl (hp q))), fun q => Or.inr (by first | (exfalso; omega) | (rw [k45.1, if_pos rfl, e3]; exact hs_str (hm q)))⟩
          exact ih20 (k + 1, σ45) (by first | omega | (simp only []; omega)) hi20
        · skip
          refine s_iconst (pc := 39) C dX12_step_39 ?_
          refine s_goto (pc := 40) C (tgt := 44) dX12_step_40 (by decide) ?_
          refine s_iconst (pc := 44) C dX12_step_44 ?_
          refine s_callVv (pc := 45) C (c_X12_goes l 1 0 (by first | omega | assumption | (constructor <;> omega) | (refine ⟨⟨?_, ?_⟩, ?_⟩ <;> omega) | (simp [hs_ss, hs_up]; omega) | (simp [hs_ss, hs_up]; done)) ⟨by omega, by omega⟩) [vI 1, vI 0] [] rfl rfl dX12_step_45 wlX12_213 wiX12_goes weX12_goes wcX12_goes wnX12 noX12_goes (by decide) (by decide) (Nat.le_of_ble_eq_true rfl) (gy_self hg) rfl rfl ?_
          rintro σ45 k45
          obtain ⟨kg45, kf45, k45⟩ := k45
          have g45 := gy_trans hg kg45
          obtain ⟨k45a, k45b, -⟩ := k45
          have k45 := And.intro k45a k45b
          show hs_Wd _ _ _ _ _ _ _ _ _ _ _ _ _ _ _ _ _ 48 _ [] σ45
          refine s_iinc (pc := 48) C [(2, vI (k + 1)), (0, .ref (ad 0)), (1, vI n)] dX12_step_48 2 rfl (by decide) rfl ?_
          refine s_goto (pc := 51) C (tgt := 20) dX12_step_51 (by decide) ?_
          refine s_sub C [1, 2, 0] [(0, .ref (ad 0)), (1, vI n), (2, vI (k + 1))] rfl ?_
          have hi20 : GY σ σ45 ∧ 0 ≤ (k + 1) ∧ (0 ≤ n → (k + 1) ≤ n) ∧ (n < 0 → (k + 1) ≤ -n) ∧ ((k + 1) = 0 → σ45 0 4 = σ 0 4) ∧ (0 < n → ((k + 1) = 0 ∧ σ45 0 4 = σ 0 4) ∨ σ45 0 4 = (σ 0 4 + (k + 1)) % (σ 0 3)) ∧ (n < 0 → ((k + 1) = 0 ∧ σ45 0 4 = σ 0 4) ∨ σ45 0 4 = (σ 0 4 - (k + 1)) % (σ 0 3)) := ⟨g45, by omega, by omega, by omega, by omega, fun q => Or.inr (by first | (exfalso; omega) | (rw [k45.1, if_neg (by decide), e3]; exact hs_stl (hp q))), fun q => Or.inr (by first | (exfalso; omega) | (rw [k45.1, if_pos rfl, e3]; exact hs_str (hm q)))⟩
          exact ih20 (k + 1, σ45) (by first | omega | (simp only []; omega)) hi20
    · skip
      refine s_iload_n (pc := 25) C dX12_step_25 1 rfl ?_
      refine s_ineg (pc := 26) C dX12_step_26 ?_
      refine s_goto (pc := 27) C (tgt := 31) dX12_step_27 (by decide) ?_
      refine s_icmp_ge (pc := 31) C (tgt := 54) dX12_step_31 (by decide) ⟨by omega, by omega⟩ ⟨by omega, by omega⟩ (fun h31 => ?_) (fun h31 => ?_)
      · skip
        refine s_aload_n (pc := 54) C dX12_step_54 0 rfl ?_
        refine s_geti (q := 0) (ci := 12) (N := 68) (CN := RX12) (T := TX12) (pc := 55) C 4 dX12_step_55 wlX12_148 rfl rfl rfl wfX12 (by decide) rfl (σ1 0 4) rfl ?_
        have b55 : (0 : Int) ≤ σ1 0 4 ∧ σ1 0 4 ≤ 99 := hg.1 0 4
        refine s_iret (pc := 58) C dX12_step_58 ?_
        refine ⟨_, rfl, ?_⟩
        refine ⟨hg, ⟨by omega, by omega⟩, by omega, fun _ hn0 => ?_, fun hn0 => ?_⟩
        · rcases Int.lt_or_lt_of_ne hn0 with q | q
          · rcases hm q with ⟨r, _⟩ | r
            · exfalso; omega
            · rw [r, show σ 0 4 - k = σ 0 4 + n by omega]
          · rcases hp q with ⟨r, _⟩ | r
            · exfalso; omega
            · rw [r, show k = n by omega]
        · exact h0 (by omega)
      · skip
        refine s_aload_n (pc := 34) C dX12_step_34 0 rfl ?_
        refine s_iload_n (pc := 35) C dX12_step_35 1 rfl ?_
        refine s_if_le (pc := 36) C (tgt := 43) dX12_step_36 (by decide) ⟨by omega, by omega⟩ (fun h36 => ?_) (fun h36 => ?_)
        · skip
          refine s_iconst (pc := 43) C dX12_step_43 ?_
          refine s_iconst (pc := 44) C dX12_step_44 ?_
          refine s_callVv (pc := 45) C (c_X12_goes l 0 0 (by first | omega | assumption | (constructor <;> omega) | (refine ⟨⟨?_, ?_⟩, ?_⟩ <;> omega) | (simp [hs_ss, hs_up]; omega) | (simp [hs_ss, hs_up]; done)) ⟨by omega, by omega⟩) [vI 0, vI 0] [] rfl rfl dX12_step_45 wlX12_213 wiX12_goes weX12_goes wcX12_goes wnX12 noX12_goes (by decide) (by decide) (Nat.le_of_ble_eq_true rfl) (gy_self hg) rfl rfl ?_
          rintro σ45 k45
          obtain ⟨kg45, kf45, k45⟩ := k45
          have g45 := gy_trans hg kg45
          obtain ⟨k45a, k45b, -⟩ := k45
          have k45 := And.intro k45a k45b
          show hs_Wd _ _ _ _ _ _ _ _ _ _ _ _ _ _ _ _ _ 48 _ [] σ45
          refine s_iinc (pc := 48) C [(2, vI (k + 1)), (0, .ref (ad 0)), (1, vI n)] dX12_step_48 2 rfl (by decide) rfl ?_
          refine s_goto (pc := 51) C (tgt := 20) dX12_step_51 (by decide) ?_
          refine s_sub C [1, 2, 0] [(0, .ref (ad 0)), (1, vI n), (2, vI (k + 1))] rfl ?_
          have hi20 : GY σ σ45 ∧ 0 ≤ (k + 1) ∧ (0 ≤ n → (k + 1) ≤ n) ∧ (n < 0 → (k + 1) ≤ -n) ∧ ((k + 1) = 0 → σ45 0 4 = σ 0 4) ∧ (0 < n → ((k + 1) = 0 ∧ σ45 0 4 = σ 0 4) ∨ σ45 0 4 = (σ 0 4 + (k + 1)) % (σ 0 3)) ∧ (n < 0 → ((k + 1) = 0 ∧ σ45 0 4 = σ 0 4) ∨ σ45 0 4 = (σ 0 4 - (k + 1)) % (σ 0 3)) := ⟨g45, by omega, by omega, by omega, by omega, fun q => Or.inr (by first | (exfalso; omega) | (rw [k45.1, if_neg (by decide), e3]; exact hs_stl (hp q))), fun q => Or.inr (by first | (exfalso; omega) | (rw [k45.1, if_pos rfl, e3]; exact hs_str (hm q)))⟩
          exact ih20 (k + 1, σ45) (by first | omega | (simp only []; omega)) hi20
        · skip
          refine s_iconst (pc := 39) C dX12_step_39 ?_
          refine s_goto (pc := 40) C (tgt := 44) dX12_step_40 (by decide) ?_
          refine s_iconst (pc := 44) C dX12_step_44 ?_
          refine s_callVv (pc := 45) C (c_X12_goes l 1 0 (by first | omega | assumption | (constructor <;> omega) | (refine ⟨⟨?_, ?_⟩, ?_⟩ <;> omega) | (simp [hs_ss, hs_up]; omega) | (simp [hs_ss, hs_up]; done)) ⟨by omega, by omega⟩) [vI 1, vI 0] [] rfl rfl dX12_step_45 wlX12_213 wiX12_goes weX12_goes wcX12_goes wnX12 noX12_goes (by decide) (by decide) (Nat.le_of_ble_eq_true rfl) (gy_self hg) rfl rfl ?_
          rintro σ45 k45
          obtain ⟨kg45, kf45, k45⟩ := k45
          have g45 := gy_trans hg kg45
          obtain ⟨k45a, k45b, -⟩ := k45
          have k45 := And.intro k45a k45b
          show hs_Wd _ _ _ _ _ _ _ _ _ _ _ _ _ _ _ _ _ 48 _ [] σ45
          refine s_iinc (pc := 48) C [(2, vI (k + 1)), (0, .ref (ad 0)), (1, vI n)] dX12_step_48 2 rfl (by decide) rfl ?_
          refine s_goto (pc := 51) C (tgt := 20) dX12_step_51 (by decide) ?_
          refine s_sub C [1, 2, 0] [(0, .ref (ad 0)), (1, vI n), (2, vI (k + 1))] rfl ?_
          have hi20 : GY σ σ45 ∧ 0 ≤ (k + 1) ∧ (0 ≤ n → (k + 1) ≤ n) ∧ (n < 0 → (k + 1) ≤ -n) ∧ ((k + 1) = 0 → σ45 0 4 = σ 0 4) ∧ (0 < n → ((k + 1) = 0 ∧ σ45 0 4 = σ 0 4) ∨ σ45 0 4 = (σ 0 4 + (k + 1)) % (σ 0 3)) ∧ (n < 0 → ((k + 1) = 0 ∧ σ45 0 4 = σ 0 4) ∨ σ45 0 4 = (σ 0 4 - (k + 1)) % (σ 0 3)) := ⟨g45, by omega, by omega, by omega, by omega, fun q => Or.inr (by first | (exfalso; omega) | (rw [k45.1, if_neg (by decide), e3]; exact hs_stl (hp q))), fun q => Or.inr (by first | (exfalso; omega) | (rw [k45.1, if_pos rfl, e3]; exact hs_str (hm q)))⟩
          exact ih20 (k + 1, σ45) (by first | omega | (simp only []; omega)) hi20
  · skip
    refine s_iconst (pc := 16) C dX12_step_16 ?_
    refine s_iret (pc := 17) C dX12_step_17 ?_
    refine ⟨_, rfl, ?_⟩
    exact ⟨g2, ⟨by omega, by omega⟩, by omega, by omega, by omega⟩
set_option maxHeartbeats 4000000 in
set_option maxRecDepth 100000 in
theorem c_X12_fails (l : Launch) (n : Int) (hn : n = 1 ∨ n = 2) : hs_Met l yX12_fails cX12_fails 2 (some .int) 1 SHY (fun ad => [.ref (ad 0), vI n]) (fun σ => GY σ σ) (hs_PI (fun σ z σ1 => GY σ σ1 ∧ z = 0 ∧ σ1 0 2 = n)) := by
  refine hs_from pfX12_fails (fun _ => Nat.le_of_ble_eq_true rfl) ?_
  intro p e s m args below meth c D dA ad A σ C hpre
  have C : hs_C p s m args meth c D dA SHY ad A 2 cX12_fails RX12 (some .int) := C
  have g0 := hpre
  show hs_Wd p l e 1 s m args below meth c D dA SHY ad A 2 (hs_PI (fun σ z σ1 => GY σ σ1 ∧ z = 0 ∧ σ1 0 2 = n) σ) 0 [(0, .ref (ad 0)), (1, vI n)] [] σ
  refine s_aload_n (pc := 0) C dX12_fails_0 0 rfl ?_
  refine s_iload_n (pc := 1) C dX12_fails_1 1 rfl ?_
  refine s_puti (q := 0) (ci := 12) (N := 68) (CN := RX12) (T := TX12) (ty0 := tyX12) (ty := .int) (pc := 2) C 2 dX12_fails_2 wlX12_135 rfl rfl rfl wfX12 tyX12_ok nmX12 (by decide) rfl rfl rfl (vp_nar_int _) rfl ?_
  have g2 := gy_set (z := n) g0 0 2 rfl (0) (2) rfl ⟨by omega, by omega⟩
  refine s_iconst (pc := 5) C dX12_fails_5 ?_
  refine s_iret (pc := 6) C dX12_fails_6 ?_
  refine ⟨_, rfl, ?_⟩
  exact ⟨g2, rfl, rfl⟩
set_option maxHeartbeats 4000000 in
set_option maxRecDepth 100000 in
theorem c_X12_look (l : Launch) (w : Int) (hw : hs_R w) (n : Int) (hn : hs_R n) : hs_Met l yX12_look cX12_look 3 (some .int) 6 SHY (fun ad => [.ref (ad 0), vI w, vI n]) (fun σ => GY σ σ) (hs_PI (fun σ z σ1 => GY σ σ1 ∧ hs_R z ∧ (¬ (0 ≤ w ∧ w < σ 0 6) → σ1 0 2 = 1 ∧ z = 0) ∧ (0 ≤ w ∧ w < σ 0 6 → n < 0 ∨ 7 < n → σ1 0 2 = 2) ∧ (0 ≤ w ∧ w < σ 0 6 → 0 ≤ n ∧ n ≤ 7 → σ1 0 2 = 0))) := by
  refine hs_from pfX12_look (fun _ => Nat.le_of_ble_eq_true rfl) ?_
  intro p e s m args below meth c D dA ad A σ C hpre
  have C : hs_C p s m args meth c D dA SHY ad A 3 cX12_look RX12 (some .int) := C
  have g0 := hpre
  have b06 : (0 : Int) ≤ σ 0 6 ∧ σ 0 6 ≤ 4 := g0.1 0 6
  show hs_Wd p l e 6 s m args below meth c D dA SHY ad A 3 (hs_PI (fun σ z σ1 => GY σ σ1 ∧ hs_R z ∧ (¬ (0 ≤ w ∧ w < σ 0 6) → σ1 0 2 = 1 ∧ z = 0) ∧ (0 ≤ w ∧ w < σ 0 6 → n < 0 ∨ 7 < n → σ1 0 2 = 2) ∧ (0 ≤ w ∧ w < σ 0 6 → 0 ≤ n ∧ n ≤ 7 → σ1 0 2 = 0)) σ) 0 [(0, .ref (ad 0)), (1, vI w), (2, vI n)] [] σ
  refine s_aload_n (pc := 0) C dX12_look_0 0 rfl ?_
  refine s_iconst (pc := 1) C dX12_look_1 ?_
  refine s_puti (q := 0) (ci := 12) (N := 68) (CN := RX12) (T := TX12) (ty0 := tyX12) (ty := .int) (pc := 2) C 2 dX12_look_2 wlX12_135 rfl rfl rfl wfX12 tyX12_ok nmX12 (by decide) rfl rfl rfl (vp_nar_int _) rfl ?_
  have g2 := gy_set (z := 0) g0 0 2 rfl (0) (2) rfl ⟨by omega, by omega⟩
  refine s_aload_n (pc := 5) C dX12_look_5 0 rfl ?_
  refine s_iload_n (pc := 6) C dX12_look_6 1 rfl ?_
  have r7_0_6 : (hs_ss σ 0 2 0) 0 6 = σ 0 6 := rfl
  refine s_callVi (pc := 7) C (c_X12_isWheel l w ⟨by omega, by omega⟩) [vI w] [] rfl rfl dX12_look_7 wlX12_208 wiX12_isWheel weX12_isWheel wcX12_isWheel wnX12 noX12_isWheel (by decide) (by decide) (Nat.le_of_ble_eq_true rfl) (gy_self g2) rfl rfl ?_
  rintro z7 _ ⟨rfl, k7⟩
  show hs_Wd _ _ _ _ _ _ _ _ _ _ _ _ _ _ _ _ _ 10 _ [vI z7] (hs_ss σ 0 2 0)
  refine s_if_ne (pc := 10) C (tgt := 19) dX12_look_10 (by decide) ⟨by omega, by omega⟩ (fun h10 => ?_) (fun h10 => ?_)
  · skip
    refine s_iload_n (pc := 19) C dX12_look_19 2 rfl ?_
    by_cases sw20 : n < 0 ∨ 7 < n
    · refine s_swOut (pc := 20) C (tgt := 130) dX12_look_20 ⟨by omega, by omega⟩ sw20 (by decide) ?_
      refine s_aload_n (pc := 130) C dX12_look_130 0 rfl ?_
      refine s_iconst (pc := 131) C dX12_look_131 ?_
      refine s_callVi (pc := 132) C (c_X12_fails l 2 (by first | omega | assumption | (constructor <;> omega) | (refine ⟨⟨?_, ?_⟩, ?_⟩ <;> omega) | (simp [hs_ss, hs_up]; omega) | (simp [hs_ss, hs_up]; done))) [vI 2] [] rfl rfl dX12_look_132 wlX12_217 wiX12_fails weX12_fails wcX12_fails wnX12 noX12_fails (by decide) (by decide) (Nat.le_of_ble_eq_true rfl) (gy_self g2) rfl rfl ?_
      rintro z132 σ132 k132
      obtain ⟨kg132, k132⟩ := k132
      have g132 := gy_trans g2 kg132
      show hs_Wd _ _ _ _ _ _ _ _ _ _ _ _ _ _ _ _ _ 135 _ [vI z132] σ132
      refine s_iret (pc := 135) C dX12_look_135 ?_
      refine ⟨_, rfl, ?_⟩
      first
      | exact ⟨g132, ⟨by omega, by omega⟩, by omega, by omega, by omega⟩
      | exact ⟨g132, ⟨by omega, by omega⟩, fun q => by exfalso; omega, fun _ q => by exfalso; omega, fun _ _ => rfl⟩
    · rcases (show n = 0 ∨ n = 1 ∨ n = 2 ∨ n = 3 ∨ n = 4 ∨ n = 5 ∨ n = 6 ∨ n = 7 by omega) with sv20 | sv20 | sv20 | sv20 | sv20 | sv20 | sv20 | sv20
      · refine s_swIn (pc := 20) (off := 48) C (tgt := 68) dX12_look_20 ⟨by omega, by omega⟩ (by omega) (by omega) (by rw [sv20]; decide) (by decide) ?_
        refine s_aload_n (pc := 68) C dX12_look_68 0 rfl ?_
        refine s_getr (q := 0) (ci := 12) (N := 68) (CN := RX12) (T := TX12) (pc := 69) C 15 dX12_look_69 wlX12_41 rfl rfl rfl wfX12 (by decide) rfl ?_
        refine s_iload_n (pc := 72) C dX12_look_72 1 rfl ?_
        refine s_iald (q := 10) (n := 4) (pc := 73) C (σ 10 w.toNat) rfl dX12_look_73 rfl (by omega) (by omega) (by decide) ?_
        have b73 : (0 : Int) ≤ σ 10 w.toNat ∧ σ 10 w.toNat ≤ 99 := g2.1 10 w.toNat
        refine s_iret (pc := 74) C dX12_look_74 ?_
        refine ⟨_, rfl, ?_⟩
        first
        | exact ⟨g2, ⟨by omega, by omega⟩, by omega, by omega, by omega⟩
        | exact ⟨g2, ⟨by omega, by omega⟩, fun q => by exfalso; omega, fun _ q => by exfalso; omega, fun _ _ => rfl⟩
      · refine s_swIn (pc := 20) (off := 55) C (tgt := 75) dX12_look_20 ⟨by omega, by omega⟩ (by omega) (by omega) (by rw [sv20]; decide) (by decide) ?_
        refine s_aload_n (pc := 75) C dX12_look_75 0 rfl ?_
        refine s_getr (q := 0) (ci := 12) (N := 68) (CN := RX12) (T := TX12) (pc := 76) C 16 dX12_look_76 wlX12_44 rfl rfl rfl wfX12 (by decide) rfl ?_
        refine s_iload_n (pc := 79) C dX12_look_79 1 rfl ?_
        refine s_iald (q := 11) (n := 4) (pc := 80) C (σ 11 w.toNat) rfl dX12_look_80 rfl (by omega) (by omega) (by decide) ?_
        have b80 : (0 : Int) ≤ σ 11 w.toNat ∧ σ 11 w.toNat ≤ 100 := g2.1 11 w.toNat
        refine s_iret (pc := 81) C dX12_look_81 ?_
        refine ⟨_, rfl, ?_⟩
        first
        | exact ⟨g2, ⟨by omega, by omega⟩, by omega, by omega, by omega⟩
        | exact ⟨g2, ⟨by omega, by omega⟩, fun q => by exfalso; omega, fun _ q => by exfalso; omega, fun _ _ => rfl⟩
      · refine s_swIn (pc := 20) (off := 62) C (tgt := 82) dX12_look_20 ⟨by omega, by omega⟩ (by omega) (by omega) (by rw [sv20]; decide) (by decide) ?_
        refine s_aload_n (pc := 82) C dX12_look_82 0 rfl ?_
        refine s_iload_n (pc := 83) C dX12_look_83 1 rfl ?_
        refine s_callVi (pc := 84) C (c_X12_radius l w (by first | omega | assumption | (constructor <;> omega) | (refine ⟨⟨?_, ?_⟩, ?_⟩ <;> omega) | (simp [hs_ss, hs_up]; omega) | (simp [hs_ss, hs_up]; done))) [vI w] [] rfl rfl dX12_look_84 wlX12_176 wiX12_radius weX12_radius wcX12_radius wnX12 noX12_radius (by decide) (by decide) (Nat.le_of_ble_eq_true rfl) (gy_self g2) rfl rfl ?_
        rintro z84 _ ⟨rfl, k84⟩
        show hs_Wd _ _ _ _ _ _ _ _ _ _ _ _ _ _ _ _ _ 87 _ [vI z84] (hs_ss σ 0 2 0)
        refine s_iret (pc := 87) C dX12_look_87 ?_
        refine ⟨_, rfl, ?_⟩
        first
        | exact ⟨g2, ⟨by omega, by omega⟩, by omega, by omega, by omega⟩
        | exact ⟨g2, ⟨by omega, by omega⟩, fun q => by exfalso; omega, fun _ q => by exfalso; omega, fun _ _ => rfl⟩
      · refine s_swIn (pc := 20) (off := 68) C (tgt := 88) dX12_look_20 ⟨by omega, by omega⟩ (by omega) (by omega) (by rw [sv20]; decide) (by decide) ?_
        refine s_aload_n (pc := 88) C dX12_look_88 0 rfl ?_
        refine s_iload_n (pc := 89) C dX12_look_89 1 rfl ?_
        refine s_callVi (pc := 90) C (c_X12_isInside l w (by first | omega | assumption | (constructor <;> omega) | (refine ⟨⟨?_, ?_⟩, ?_⟩ <;> omega) | (simp [hs_ss, hs_up]; omega) | (simp [hs_ss, hs_up]; done))) [vI w] [] rfl rfl dX12_look_90 wlX12_166 wiX12_isInside weX12_isInside wcX12_isInside wnX12 noX12_isInside (by decide) (by decide) (Nat.le_of_ble_eq_true rfl) (gy_self g2) rfl rfl ?_
        rintro z90 _ ⟨rfl, k90⟩
        show hs_Wd _ _ _ _ _ _ _ _ _ _ _ _ _ _ _ _ _ 93 _ [vI z90] (hs_ss σ 0 2 0)
        refine s_if_eq (pc := 93) C (tgt := 100) dX12_look_93 (by decide) ⟨by omega, by omega⟩ (fun h93 => ?_) (fun h93 => ?_)
        · skip
          refine s_iconst (pc := 100) C dX12_look_100 ?_
          refine s_iret (pc := 101) C dX12_look_101 ?_
          refine ⟨_, rfl, ?_⟩
          first
          | exact ⟨g2, ⟨by omega, by omega⟩, by omega, by omega, by omega⟩
          | exact ⟨g2, ⟨by omega, by omega⟩, fun q => by exfalso; omega, fun _ q => by exfalso; omega, fun _ _ => rfl⟩
        · skip
          refine s_iconst (pc := 96) C dX12_look_96 ?_
          refine s_goto (pc := 97) C (tgt := 101) dX12_look_97 (by decide) ?_
          refine s_iret (pc := 101) C dX12_look_101 ?_
          refine ⟨_, rfl, ?_⟩
          first
          | exact ⟨g2, ⟨by omega, by omega⟩, by omega, by omega, by omega⟩
          | exact ⟨g2, ⟨by omega, by omega⟩, fun q => by exfalso; omega, fun _ q => by exfalso; omega, fun _ _ => rfl⟩
      · refine s_swIn (pc := 20) (off := 82) C (tgt := 102) dX12_look_20 ⟨by omega, by omega⟩ (by omega) (by omega) (by rw [sv20]; decide) (by decide) ?_
        refine s_aload_n (pc := 102) C dX12_look_102 0 rfl ?_
        refine s_getr (q := 0) (ci := 12) (N := 68) (CN := RX12) (T := TX12) (pc := 103) C 8 dX12_look_103 wlX12_20 rfl rfl rfl wfX12 (by decide) rfl ?_
        refine s_iload_n (pc := 106) C dX12_look_106 1 rfl ?_
        refine s_iald (q := 3) (n := 4) (pc := 107) C (σ 3 w.toNat) rfl dX12_look_107 rfl (by omega) (by omega) (by decide) ?_
        have b107 : (0 : Int) ≤ σ 3 w.toNat ∧ σ 3 w.toNat ≤ 99 := g2.1 3 w.toNat
        refine s_iret (pc := 108) C dX12_look_108 ?_
        refine ⟨_, rfl, ?_⟩
        first
        | exact ⟨g2, ⟨by omega, by omega⟩, by omega, by omega, by omega⟩
        | exact ⟨g2, ⟨by omega, by omega⟩, fun q => by exfalso; omega, fun _ q => by exfalso; omega, fun _ _ => rfl⟩
      · refine s_swIn (pc := 20) (off := 89) C (tgt := 109) dX12_look_20 ⟨by omega, by omega⟩ (by omega) (by omega) (by rw [sv20]; decide) (by decide) ?_
        refine s_aload_n (pc := 109) C dX12_look_109 0 rfl ?_
        refine s_getr (q := 0) (ci := 12) (N := 68) (CN := RX12) (T := TX12) (pc := 110) C 9 dX12_look_110 wlX12_23 rfl rfl rfl wfX12 (by decide) rfl ?_
        refine s_iload_n (pc := 113) C dX12_look_113 1 rfl ?_
        refine s_iald (q := 4) (n := 4) (pc := 114) C (σ 4 w.toNat) rfl dX12_look_114 rfl (by omega) (by omega) (by decide) ?_
        have b114 : (-1 : Int) ≤ σ 4 w.toNat ∧ σ 4 w.toNat ≤ 99 := g2.1 4 w.toNat
        refine s_iret (pc := 115) C dX12_look_115 ?_
        refine ⟨_, rfl, ?_⟩
        first
        | exact ⟨g2, ⟨by omega, by omega⟩, by omega, by omega, by omega⟩
        | exact ⟨g2, ⟨by omega, by omega⟩, fun q => by exfalso; omega, fun _ q => by exfalso; omega, fun _ _ => rfl⟩
      · refine s_swIn (pc := 20) (off := 96) C (tgt := 116) dX12_look_20 ⟨by omega, by omega⟩ (by omega) (by omega) (by rw [sv20]; decide) (by decide) ?_
        refine s_aload_n (pc := 116) C dX12_look_116 0 rfl ?_
        refine s_getr (q := 0) (ci := 12) (N := 68) (CN := RX12) (T := TX12) (pc := 117) C 7 dX12_look_117 wlX12_17 rfl rfl rfl wfX12 (by decide) rfl ?_
        refine s_iload_n (pc := 120) C dX12_look_120 1 rfl ?_
        refine s_iald (q := 2) (n := 4) (pc := 121) C (σ 2 w.toNat) rfl dX12_look_121 rfl (by omega) (by omega) (by decide) ?_
        have b121 : (0 : Int) ≤ σ 2 w.toNat ∧ σ 2 w.toNat ≤ 9 := g2.1 2 w.toNat
        refine s_iret (pc := 122) C dX12_look_122 ?_
        refine ⟨_, rfl, ?_⟩
        first
        | exact ⟨g2, ⟨by omega, by omega⟩, by omega, by omega, by omega⟩
        | exact ⟨g2, ⟨by omega, by omega⟩, fun q => by exfalso; omega, fun _ q => by exfalso; omega, fun _ _ => rfl⟩
      · refine s_swIn (pc := 20) (off := 103) C (tgt := 123) dX12_look_20 ⟨by omega, by omega⟩ (by omega) (by omega) (by rw [sv20]; decide) (by decide) ?_
        refine s_aload_n (pc := 123) C dX12_look_123 0 rfl ?_
        refine s_getr (q := 0) (ci := 12) (N := 68) (CN := RX12) (T := TX12) (pc := 124) C 10 dX12_look_124 wlX12_26 rfl rfl rfl wfX12 (by decide) rfl ?_
        refine s_iload_n (pc := 127) C dX12_look_127 1 rfl ?_
        refine s_iald (q := 5) (n := 4) (pc := 128) C (σ 5 w.toNat) rfl dX12_look_128 rfl (by omega) (by omega) (by decide) ?_
        have b128 : (0 : Int) ≤ σ 5 w.toNat ∧ σ 5 w.toNat ≤ 3 := g2.1 5 w.toNat
        refine s_iret (pc := 129) C dX12_look_129 ?_
        refine ⟨_, rfl, ?_⟩
        first
        | exact ⟨g2, ⟨by omega, by omega⟩, by omega, by omega, by omega⟩
        | exact ⟨g2, ⟨by omega, by omega⟩, fun q => by exfalso; omega, fun _ q => by exfalso; omega, fun _ _ => rfl⟩
  · skip
    refine s_aload_n (pc := 13) C dX12_look_13 0 rfl ?_
    refine s_iconst (pc := 14) C dX12_look_14 ?_
    refine s_callVi (pc := 15) C (c_X12_fails l 1 (by first | omega | assumption | (constructor <;> omega) | (refine ⟨⟨?_, ?_⟩, ?_⟩ <;> omega) | (simp [hs_ss, hs_up]; omega) | (simp [hs_ss, hs_up]; done))) [vI 1] [] rfl rfl dX12_look_15 wlX12_217 wiX12_fails weX12_fails wcX12_fails wnX12 noX12_fails (by decide) (by decide) (Nat.le_of_ble_eq_true rfl) (gy_self g2) rfl rfl ?_
    rintro z15 σ15 k15
    obtain ⟨kg15, k15⟩ := k15
    have g15 := gy_trans g2 kg15
    show hs_Wd _ _ _ _ _ _ _ _ _ _ _ _ _ _ _ _ _ 18 _ [vI z15] σ15
    refine s_iret (pc := 18) C dX12_look_18 ?_
    refine ⟨_, rfl, ?_⟩
    first
    | exact ⟨g15, ⟨by omega, by omega⟩, by omega, by omega, by omega⟩
    | exact ⟨g15, ⟨by omega, by omega⟩, fun q => by exfalso; omega, fun _ q => by exfalso; omega, fun _ _ => rfl⟩
set_option maxHeartbeats 4000000 in
set_option maxRecDepth 100000 in
theorem c_X12_clock (l : Launch) (n : Int) (hn : hs_R n) : hs_Met l yX12_clock cX12_clock 2 (some .boolean) 7 SHY (fun ad => [.ref (ad 0), vI n]) (fun σ => GY σ σ) (hs_PI (fun σ z σ1 => GY σ σ1 ∧ (z = 0 ∨ z = 1) ∧ (σ 0 6 = 0 → (z = 1 ↔ 0 ≤ n ∧ n ≤ 999)))) := by
  refine hs_from pfX12_clock (fun _ => Nat.le_of_ble_eq_true rfl) ?_
  intro p e s m args below meth c D dA ad A σ C hpre
  have C : hs_C p s m args meth c D dA SHY ad A 2 cX12_clock RX12 (some .boolean) := C
  have g0 := hpre
  show hs_Wd p l e 7 s m args below meth c D dA SHY ad A 2 (hs_PI (fun σ z σ1 => GY σ σ1 ∧ (z = 0 ∨ z = 1) ∧ (σ 0 6 = 0 → (z = 1 ↔ 0 ≤ n ∧ n ≤ 999))) σ) 0 [(0, .ref (ad 0)), (1, vI n)] [] σ
  refine s_aload_n (pc := 0) C dX12_clock_0 0 rfl ?_
  refine s_iconst (pc := 1) C dX12_clock_1 ?_
  refine s_puti (q := 0) (ci := 12) (N := 68) (CN := RX12) (T := TX12) (ty0 := tyX12) (ty := .int) (pc := 2) C 2 dX12_clock_2 wlX12_135 rfl rfl rfl wfX12 tyX12_ok nmX12 (by decide) rfl rfl rfl (vp_nar_int _) rfl ?_
  have g2 := gy_set (z := 0) g0 0 2 rfl (0) (2) rfl ⟨by omega, by omega⟩
  refine s_iload_n (pc := 5) C dX12_clock_5 1 rfl ?_
  refine s_iconst (pc := 6) C dX12_clock_6 ?_
  refine s_sipush (pc := 7) C dX12_clock_7 (by decide) ?_
  refine s_callSi (pc := 10) C (c_X12_isIn l n ⟨by omega, by omega⟩ 0 ⟨by omega, by omega⟩ 999 ⟨by omega, by omega⟩) [vI n, vI 0, vI 999] [] rfl rfl dX12_clock_10 wlX12_189 wtX12_isIn wcX12_isIn wnX12 noX12_isIn (by decide) (by decide) (Nat.le_of_ble_eq_true rfl) (gy_self g2) ?_
  rintro z10 _ ⟨rfl, k10⟩
  show hs_Wd _ _ _ _ _ _ _ _ _ _ _ _ _ _ _ _ _ 13 _ [vI z10] (hs_ss σ 0 2 0)
  refine s_if_eq (pc := 13) C (tgt := 23) dX12_clock_13 (by decide) ⟨by omega, by omega⟩ (fun h13 => ?_) (fun h13 => ?_)
  · skip
    refine s_iconst (pc := 23) C dX12_clock_23 ?_
    refine s_zret (pc := 24) C (by omega) dX12_clock_24 ?_
    refine ⟨_, rfl, ?_⟩
    exact ⟨g2, by first | omega | assumption | (constructor <;> omega) | (refine ⟨⟨?_, ?_⟩, ?_⟩ <;> omega) | (simp [hs_ss, hs_up]; omega) | (simp [hs_ss, hs_up]; done)⟩
  · skip
    refine s_aload_n (pc := 16) C dX12_clock_16 0 rfl ?_
    have r17_0_6 : (hs_ss σ 0 2 0) 0 6 = σ 0 6 := rfl
    refine s_callVi (pc := 17) C (c_X12_ridesNow l) [] [] rfl rfl dX12_clock_17 wlX12_179 wiX12_ridesNow weX12_ridesNow wcX12_ridesNow wnX12 noX12_ridesNow (by decide) (by decide) (Nat.le_of_ble_eq_true rfl) (gy_self g2) rfl rfl ?_
    rintro z17 _ ⟨rfl, k17⟩
    show hs_Wd _ _ _ _ _ _ _ _ _ _ _ _ _ _ _ _ _ 20 _ [vI z17] (hs_ss σ 0 2 0)
    refine s_if_eq (pc := 20) C (tgt := 25) dX12_clock_20 (by decide) ⟨by omega, by omega⟩ (fun h20 => ?_) (fun h20 => ?_)
    · skip
      refine s_aload_n (pc := 25) C dX12_clock_25 0 rfl ?_
      refine s_iload_n (pc := 26) C dX12_clock_26 1 rfl ?_
      refine s_puti (q := 0) (ci := 12) (N := 68) (CN := RX12) (T := TX12) (ty0 := tyX12) (ty := .int) (pc := 27) C 17 dX12_clock_27 wlX12_183 rfl rfl rfl wfX12 tyX12_ok nmX12 (by decide) rfl rfl rfl (vp_nar_int _) rfl ?_
      have g27 := gy_set (z := n) g2 0 17 rfl (0) (999) rfl ⟨by omega, by omega⟩
      refine s_iconst (pc := 30) C dX12_clock_30 ?_
      refine s_zret (pc := 31) C (by omega) dX12_clock_31 ?_
      refine ⟨_, rfl, ?_⟩
      exact ⟨g27, by first | omega | assumption | (constructor <;> omega) | (refine ⟨⟨?_, ?_⟩, ?_⟩ <;> omega) | (simp [hs_ss, hs_up]; omega) | (simp [hs_ss, hs_up]; done)⟩
    · skip
      refine s_iconst (pc := 23) C dX12_clock_23 ?_
      refine s_zret (pc := 24) C (by omega) dX12_clock_24 ?_
      refine ⟨_, rfl, ?_⟩
      exact ⟨g2, by first | omega | assumption | (constructor <;> omega) | (refine ⟨⟨?_, ?_⟩, ?_⟩ <;> omega) | (simp [hs_ss, hs_up]; omega) | (simp [hs_ss, hs_up]; done)⟩
set_option maxHeartbeats 4000000 in
set_option maxRecDepth 100000 in
theorem c_X12_hours (l : Launch) (n : Int) (hn : hs_R n) : hs_Met l yX12_hours cX12_hours 2 (some .int) 2 SHY (fun ad => [.ref (ad 0), vI n]) (fun σ => GY σ σ) (hs_PI (fun σ z σ1 => GY σ σ1 ∧ hs_R z ∧ (¬ (0 ≤ n ∧ n ≤ 9999) → z = -1) ∧ (0 ≤ n ∧ n ≤ 9999 → z = max 0 (σ 0 17 - n)))) := by
  refine hs_from pfX12_hours (fun _ => Nat.le_of_ble_eq_true rfl) ?_
  intro p e s m args below meth c D dA ad A σ C hpre
  have C : hs_C p s m args meth c D dA SHY ad A 2 cX12_hours RX12 (some .int) := C
  have g0 := hpre
  show hs_Wd p l e 2 s m args below meth c D dA SHY ad A 2 (hs_PI (fun σ z σ1 => GY σ σ1 ∧ hs_R z ∧ (¬ (0 ≤ n ∧ n ≤ 9999) → z = -1) ∧ (0 ≤ n ∧ n ≤ 9999 → z = max 0 (σ 0 17 - n))) σ) 0 [(0, .ref (ad 0)), (1, vI n)] [] σ
  refine s_aload_n (pc := 0) C dX12_hours_0 0 rfl ?_
  refine s_iconst (pc := 1) C dX12_hours_1 ?_
  refine s_puti (q := 0) (ci := 12) (N := 68) (CN := RX12) (T := TX12) (ty0 := tyX12) (ty := .int) (pc := 2) C 2 dX12_hours_2 wlX12_135 rfl rfl rfl wfX12 tyX12_ok nmX12 (by decide) rfl rfl rfl (vp_nar_int _) rfl ?_
  have g2 := gy_set (z := 0) g0 0 2 rfl (0) (2) rfl ⟨by omega, by omega⟩
  refine s_iload_n (pc := 5) C dX12_hours_5 1 rfl ?_
  refine s_iconst (pc := 6) C dX12_hours_6 ?_
  refine s_sipush (pc := 7) C dX12_hours_7 (by decide) ?_
  refine s_callSi (pc := 10) C (c_X12_isIn l n ⟨by omega, by omega⟩ 0 ⟨by omega, by omega⟩ 9999 ⟨by omega, by omega⟩) [vI n, vI 0, vI 9999] [] rfl rfl dX12_hours_10 wlX12_189 wtX12_isIn wcX12_isIn wnX12 noX12_isIn (by decide) (by decide) (Nat.le_of_ble_eq_true rfl) (gy_self g2) ?_
  rintro z10 _ ⟨rfl, k10⟩
  show hs_Wd _ _ _ _ _ _ _ _ _ _ _ _ _ _ _ _ _ 13 _ [vI z10] (hs_ss σ 0 2 0)
  refine s_if_ne (pc := 13) C (tgt := 18) dX12_hours_13 (by decide) ⟨by omega, by omega⟩ (fun h13 => ?_) (fun h13 => ?_)
  · skip
    refine s_aload_n (pc := 18) C dX12_hours_18 0 rfl ?_
    refine s_aload_n (pc := 19) C dX12_hours_19 0 rfl ?_
    refine s_geti (q := 0) (ci := 12) (N := 68) (CN := RX12) (T := TX12) (pc := 20) C 17 dX12_hours_20 wlX12_183 rfl rfl rfl wfX12 (by decide) rfl (σ 0 17) rfl ?_
    have b20 : (0 : Int) ≤ σ 0 17 ∧ σ 0 17 ≤ 999 := g2.1 0 17
    refine s_iload_n (pc := 23) C dX12_hours_23 1 rfl ?_
    refine s_icmp_le (pc := 24) C (tgt := 36) dX12_hours_24 (by decide) ⟨by omega, by omega⟩ ⟨by omega, by omega⟩ (fun h24 => ?_) (fun h24 => ?_)
    · skip
      refine s_iconst (pc := 36) C dX12_hours_36 ?_
      refine s_puti (q := 0) (ci := 12) (N := 68) (CN := RX12) (T := TX12) (ty0 := tyX12) (ty := .int) (pc := 37) C 17 dX12_hours_37 wlX12_183 rfl rfl rfl wfX12 tyX12_ok nmX12 (by decide) rfl rfl rfl (vp_nar_int _) rfl ?_
      have g37 := gy_set (z := 0) g2 0 17 rfl (0) (999) rfl ⟨by omega, by omega⟩
      refine s_aload_n (pc := 40) C dX12_hours_40 0 rfl ?_
      refine s_geti (q := 0) (ci := 12) (N := 68) (CN := RX12) (T := TX12) (pc := 41) C 17 dX12_hours_41 wlX12_183 rfl rfl rfl wfX12 (by decide) rfl (0) rfl ?_
      refine s_iret (pc := 44) C dX12_hours_44 ?_
      refine ⟨_, rfl, ?_⟩
      exact ⟨g37, by first | omega | assumption | (constructor <;> omega) | (refine ⟨⟨?_, ?_⟩, ?_⟩ <;> omega) | (simp [hs_ss, hs_up]; omega) | (simp [hs_ss, hs_up]; done)⟩
    · skip
      refine s_aload_n (pc := 27) C dX12_hours_27 0 rfl ?_
      refine s_geti (q := 0) (ci := 12) (N := 68) (CN := RX12) (T := TX12) (pc := 28) C 17 dX12_hours_28 wlX12_183 rfl rfl rfl wfX12 (by decide) rfl (σ 0 17) rfl ?_
      have b28 : (0 : Int) ≤ σ 0 17 ∧ σ 0 17 ≤ 999 := g2.1 0 17
      refine s_iload_n (pc := 31) C dX12_hours_31 1 rfl ?_
      refine s_isub (pc := 32) C dX12_hours_32 ?_
      refine s_goto (pc := 33) C (tgt := 37) dX12_hours_33 (by decide) ?_
      refine s_puti (q := 0) (ci := 12) (N := 68) (CN := RX12) (T := TX12) (ty0 := tyX12) (ty := .int) (pc := 37) C 17 dX12_hours_37 wlX12_183 rfl rfl rfl wfX12 tyX12_ok nmX12 (by decide) rfl rfl rfl (vp_nar_int _) rfl ?_
      have g37 := gy_set (z := ((σ 0 17) - n)) g2 0 17 rfl (0) (999) rfl ⟨by omega, by omega⟩
      refine s_aload_n (pc := 40) C dX12_hours_40 0 rfl ?_
      refine s_geti (q := 0) (ci := 12) (N := 68) (CN := RX12) (T := TX12) (pc := 41) C 17 dX12_hours_41 wlX12_183 rfl rfl rfl wfX12 (by decide) rfl ((σ 0 17) - n) rfl ?_
      have b41 : (0 : Int) ≤ (σ 0 17) - n ∧ (σ 0 17) - n ≤ 999 := g37.1 0 17
      refine s_iret (pc := 44) C dX12_hours_44 ?_
      refine ⟨_, rfl, ?_⟩
      exact ⟨g37, by first | omega | assumption | (constructor <;> omega) | (refine ⟨⟨?_, ?_⟩, ?_⟩ <;> omega) | (simp [hs_ss, hs_up]; omega) | (simp [hs_ss, hs_up]; done)⟩
  · skip
    refine s_iconst (pc := 16) C dX12_hours_16 ?_
    refine s_iret (pc := 17) C dX12_hours_17 ?_
    refine ⟨_, rfl, ?_⟩
    exact ⟨g2, by first | omega | assumption | (constructor <;> omega) | (refine ⟨⟨?_, ?_⟩, ?_⟩ <;> omega) | (simp [hs_ss, hs_up]; omega) | (simp [hs_ss, hs_up]; done)⟩
set_option maxHeartbeats 4000000 in
set_option maxRecDepth 100000 in
theorem c_X12_comesAt (l : Launch) (w a b : Int) (hw : 0 ≤ w ∧ w < 4) (ha : -1000 ≤ a ∧ a ≤ 1000) (hb : b = 0 ∨ b = 1) : hs_Met l yX12_comesAt cX12_comesAt 6 (some .int) 2 SHY (fun ad => [.ref (ad 0), vI w, vI a, vI b]) (fun σ => GY σ σ) (hs_PI (fun σ z σ1 => σ = σ1 ∧ 0 ≤ z ∧ z ≤ 99 ∧ z < σ 0 3)) := by
  refine hs_from pfX12_comesAt (fun _ => Nat.le_of_ble_eq_true rfl) ?_
  intro p e s m args below meth c D dA ad A σ C hpre
  have C : hs_C p s m args meth c D dA SHY ad A 6 cX12_comesAt RX12 (some .int) := C
  have g0 := hpre
  show hs_Wd p l e 2 s m args below meth c D dA SHY ad A 6 (hs_PI (fun σ z σ1 => σ = σ1 ∧ 0 ≤ z ∧ z ≤ 99 ∧ z < σ 0 3) σ) 0 [(0, .ref (ad 0)), (1, vI w), (2, vI a), (3, vI b)] [] σ
  refine s_iload_n (pc := 0) C dX12_comesAt_0 2 rfl ?_
  refine s_istore (pc := 1) C [(4, vI a), (0, .ref (ad 0)), (1, vI w), (2, vI a), (3, vI b)] dX12_comesAt_1 (by decide) rfl ?_
  refine s_iconst (pc := 3) C dX12_comesAt_3 ?_
  refine s_istore (pc := 4) C [(5, vI 0), (4, vI a), (0, .ref (ad 0)), (1, vI w), (2, vI a), (3, vI b)] dX12_comesAt_4 (by decide) rfl ?_
  refine s_sub C [2, 3, 4, 5, 1, 0] [(0, .ref (ad 0)), (1, vI w), (2, vI a), (3, vI b), (4, vI a), (5, vI 0)] rfl ?_
  have hi6 : 0 ≤ (0 : Int) ∧ (0 : Int) ≤ w + 1 ∧ -1000 ≤ a ∧ a ≤ 1000 + 100 * (0 : Int) := (by first | omega | assumption | (constructor <;> omega) | (refine ⟨⟨?_, ?_⟩, ?_⟩ <;> omega) | (simp [hs_ss, hs_up]; omega) | (simp [hs_ss, hs_up]; done))
  refine hs_loop (α := Int × Int) (fun x_ => (0 ≤ x_.1 ∧ x_.1 ≤ w + 1 ∧ -1000 ≤ x_.2 ∧ x_.2 ≤ 1000 + 100 * x_.1) → hs_Wd p l e 2 s m args below meth c D dA SHY ad A 6 (hs_PI (fun σ z σ1 => σ = σ1 ∧ 0 ≤ z ∧ z ≤ 99 ∧ z < σ 0 3) σ) 6 [(0, .ref (ad 0)), (1, vI w), (2, vI a), (3, vI b), (4, vI x_.2), (5, vI x_.1)] [] σ) (fun x_ => (5 - x_.1).toNat) ?_ (0, a) hi6
  rintro ⟨k, sm⟩ ih6 hinv
  replace hinv : 0 ≤ k ∧ k ≤ w + 1 ∧ -1000 ≤ sm ∧ sm ≤ 1000 + 100 * k := hinv
  show hs_Wd p l e 2 s m args below meth c D dA SHY ad A 6 (hs_PI (fun σ z σ1 => σ = σ1 ∧ 0 ≤ z ∧ z ≤ 99 ∧ z < σ 0 3) σ) 6 [(0, .ref (ad 0)), (1, vI w), (2, vI a), (3, vI b), (4, vI sm), (5, vI k)] [] σ
  refine s_iload (pc := 6) C dX12_comesAt_6 5 rfl ?_
  refine s_iload_n (pc := 8) C dX12_comesAt_8 1 rfl ?_
  refine s_icmp_gt (pc := 9) C (tgt := 39) dX12_comesAt_9 (by decide) ⟨by omega, by omega⟩ ⟨by omega, by omega⟩ (fun h9 => ?_) (fun h9 => ?_)
  · skip
    refine s_aload_n (pc := 39) C dX12_comesAt_39 0 rfl ?_
    refine s_iload (pc := 40) C dX12_comesAt_40 4 rfl ?_
    refine s_callVi (pc := 42) C (c_X12_round l sm ⟨by omega, by omega⟩) [vI sm] [] rfl rfl dX12_comesAt_42 wlX12_144 wiX12_round weX12_round wcX12_round wnX12 noX12_round (by decide) (by decide) (Nat.le_of_ble_eq_true rfl) (gy_self g0) rfl rfl ?_
    rintro z42 _ ⟨rfl, k42⟩
    show hs_Wd _ _ _ _ _ _ _ _ _ _ _ _ _ _ _ _ _ 45 _ [vI z42] σ
    refine s_iret (pc := 45) C dX12_comesAt_45 ?_
    refine ⟨_, rfl, ?_⟩
    exact ⟨rfl, by first | omega | assumption | (constructor <;> omega) | (refine ⟨⟨?_, ?_⟩, ?_⟩ <;> omega) | (simp [hs_ss, hs_up]; omega) | (simp [hs_ss, hs_up]; done)⟩
  · skip
    refine s_iload_n (pc := 12) C dX12_comesAt_12 3 rfl ?_
    refine s_if_eq (pc := 13) C (tgt := 39) dX12_comesAt_13 (by decide) ⟨by omega, by omega⟩ (fun h13 => ?_) (fun h13 => ?_)
    · skip
      refine s_aload_n (pc := 39) C dX12_comesAt_39 0 rfl ?_
      refine s_iload (pc := 40) C dX12_comesAt_40 4 rfl ?_
      refine s_callVi (pc := 42) C (c_X12_round l sm ⟨by omega, by omega⟩) [vI sm] [] rfl rfl dX12_comesAt_42 wlX12_144 wiX12_round weX12_round wcX12_round wnX12 noX12_round (by decide) (by decide) (Nat.le_of_ble_eq_true rfl) (gy_self g0) rfl rfl ?_
      rintro z42 _ ⟨rfl, k42⟩
      show hs_Wd _ _ _ _ _ _ _ _ _ _ _ _ _ _ _ _ _ 45 _ [vI z42] σ
      refine s_iret (pc := 45) C dX12_comesAt_45 ?_
      refine ⟨_, rfl, ?_⟩
      exact ⟨rfl, by first | omega | assumption | (constructor <;> omega) | (refine ⟨⟨?_, ?_⟩, ?_⟩ <;> omega) | (simp [hs_ss, hs_up]; omega) | (simp [hs_ss, hs_up]; done)⟩
    · skip
      refine s_iload (pc := 16) C dX12_comesAt_16 4 rfl ?_
      refine s_aload_n (pc := 18) C dX12_comesAt_18 0 rfl ?_
      refine s_geti (q := 0) (ci := 12) (N := 68) (CN := RX12) (T := TX12) (pc := 19) C 3 dX12_comesAt_19 wlX12_13 rfl rfl rfl wfX12 (by decide) rfl (σ 0 3) rfl ?_
      have b19 : (10 : Int) ≤ σ 0 3 ∧ σ 0 3 ≤ 100 := g0.1 0 3
      refine s_aload_n (pc := 22) C dX12_comesAt_22 0 rfl ?_
      refine s_getr (q := 0) (ci := 12) (N := 68) (CN := RX12) (T := TX12) (pc := 23) C 7 dX12_comesAt_23 wlX12_17 rfl rfl rfl wfX12 (by decide) rfl ?_
      refine s_iload (pc := 26) C dX12_comesAt_26 5 rfl ?_
      refine s_iald (q := 2) (n := 4) (pc := 28) C (σ 2 k.toNat) rfl dX12_comesAt_28 rfl (by omega) (by omega) (by decide) ?_
      have b28 : (0 : Int) ≤ σ 2 k.toNat ∧ σ 2 k.toNat ≤ 9 := g0.1 2 k.toNat
      refine s_isub (pc := 29) C dX12_comesAt_29 ?_
      refine s_iadd (pc := 30) C dX12_comesAt_30 ?_
      refine s_istore (pc := 31) C [(4, vI (sm + ((σ 0 3) - (σ 2 k.toNat)))), (0, .ref (ad 0)), (1, vI w), (2, vI a), (3, vI b), (5, vI k)] dX12_comesAt_31 (by decide) rfl ?_
      refine s_iinc (pc := 33) C [(5, vI (k + 1)), (4, vI (sm + ((σ 0 3) - (σ 2 k.toNat)))), (0, .ref (ad 0)), (1, vI w), (2, vI a), (3, vI b)] dX12_comesAt_33 5 rfl (by decide) rfl ?_
      refine s_goto (pc := 36) C (tgt := 6) dX12_comesAt_36 (by decide) ?_
      refine s_sub C [2, 3, 4, 5, 1, 0] [(0, .ref (ad 0)), (1, vI w), (2, vI a), (3, vI b), (4, vI (sm + ((σ 0 3) - (σ 2 k.toNat)))), (5, vI (k + 1))] rfl ?_
      have hi6 : 0 ≤ (k + 1) ∧ (k + 1) ≤ w + 1 ∧ -1000 ≤ (sm + ((σ 0 3) - (σ 2 k.toNat))) ∧ (sm + ((σ 0 3) - (σ 2 k.toNat))) ≤ 1000 + 100 * (k + 1) := (by first | omega | assumption | (constructor <;> omega) | (refine ⟨⟨?_, ?_⟩, ?_⟩ <;> omega) | (simp [hs_ss, hs_up]; omega) | (simp [hs_ss, hs_up]; done))
      exact ih6 (k + 1, sm + ((σ 0 3) - (σ 2 k.toNat))) (by first | omega | (simp only []; omega)) hi6
set_option maxHeartbeats 4000000 in
set_option maxRecDepth 100000 in
theorem c_X12_comes (l : Launch) (w b : Int) (hw : hs_R w) (hb : b = 0 ∨ b = 1) : hs_Met l yX12_comes cX12_comes 3 (some .int) 4 SHY (fun ad => [.ref (ad 0), vI w, vI b]) (fun σ => GY σ σ) (hs_PI (fun σ z σ1 => GY σ σ1 ∧ -1 ≤ z ∧ z ≤ 99 ∧ (σ 0 6 = 0 → z = -1))) := by
  refine hs_from pfX12_comes (fun _ => Nat.le_of_ble_eq_true rfl) ?_
  intro p e s m args below meth c D dA ad A σ C hpre
  have C : hs_C p s m args meth c D dA SHY ad A 3 cX12_comes RX12 (some .int) := C
  have g0 := hpre
  have b06 : (0 : Int) ≤ σ 0 6 ∧ σ 0 6 ≤ 4 := g0.1 0 6
  show hs_Wd p l e 4 s m args below meth c D dA SHY ad A 3 (hs_PI (fun σ z σ1 => GY σ σ1 ∧ -1 ≤ z ∧ z ≤ 99 ∧ (σ 0 6 = 0 → z = -1)) σ) 0 [(0, .ref (ad 0)), (1, vI w), (2, vI b)] [] σ
  refine s_aload_n (pc := 0) C dX12_comes_0 0 rfl ?_
  refine s_iconst (pc := 1) C dX12_comes_1 ?_
  refine s_puti (q := 0) (ci := 12) (N := 68) (CN := RX12) (T := TX12) (ty0 := tyX12) (ty := .int) (pc := 2) C 2 dX12_comes_2 wlX12_135 rfl rfl rfl wfX12 tyX12_ok nmX12 (by decide) rfl rfl rfl (vp_nar_int _) rfl ?_
  have g2 := gy_set (z := 0) g0 0 2 rfl (0) (2) rfl ⟨by omega, by omega⟩
  refine s_aload_n (pc := 5) C dX12_comes_5 0 rfl ?_
  refine s_iload_n (pc := 6) C dX12_comes_6 1 rfl ?_
  have r7_0_6 : (hs_ss σ 0 2 0) 0 6 = σ 0 6 := rfl
  refine s_callVi (pc := 7) C (c_X12_isWheel l w ⟨by omega, by omega⟩) [vI w] [] rfl rfl dX12_comes_7 wlX12_208 wiX12_isWheel weX12_isWheel wcX12_isWheel wnX12 noX12_isWheel (by decide) (by decide) (Nat.le_of_ble_eq_true rfl) (gy_self g2) rfl rfl ?_
  rintro z7 _ ⟨rfl, k7⟩
  show hs_Wd _ _ _ _ _ _ _ _ _ _ _ _ _ _ _ _ _ 10 _ [vI z7] (hs_ss σ 0 2 0)
  refine s_if_eq (pc := 10) C (tgt := 28) dX12_comes_10 (by decide) ⟨by omega, by omega⟩ (fun h10 => ?_) (fun h10 => ?_)
  · skip
    refine s_iconst (pc := 28) C dX12_comes_28 ?_
    refine s_iret (pc := 29) C dX12_comes_29 ?_
    refine ⟨_, rfl, ?_⟩
    exact ⟨g2, by first | omega | assumption | (constructor <;> omega) | (refine ⟨⟨?_, ?_⟩, ?_⟩ <;> omega) | (simp [hs_ss, hs_up]; omega) | (simp [hs_ss, hs_up]; done)⟩
  · skip
    refine s_aload_n (pc := 13) C dX12_comes_13 0 rfl ?_
    refine s_iload_n (pc := 14) C dX12_comes_14 1 rfl ?_
    refine s_aload_n (pc := 15) C dX12_comes_15 0 rfl ?_
    refine s_getr (q := 0) (ci := 12) (N := 68) (CN := RX12) (T := TX12) (pc := 16) C 8 dX12_comes_16 wlX12_20 rfl rfl rfl wfX12 (by decide) rfl ?_
    refine s_iload_n (pc := 19) C dX12_comes_19 1 rfl ?_
    refine s_iald (q := 3) (n := 4) (pc := 20) C (σ 3 w.toNat) rfl dX12_comes_20 rfl (by omega) (by omega) (by decide) ?_
    have b20 : (0 : Int) ≤ σ 3 w.toNat ∧ σ 3 w.toNat ≤ 99 := g2.1 3 w.toNat
    refine s_iload_n (pc := 21) C dX12_comes_21 2 rfl ?_
    have r22_0_3 : (hs_ss σ 0 2 0) 0 3 = σ 0 3 := rfl
    refine s_callVi (pc := 22) C (c_X12_comesAt l w (σ 3 w.toNat) b (by first | omega | assumption | (constructor <;> omega) | (refine ⟨⟨?_, ?_⟩, ?_⟩ <;> omega) | (simp [hs_ss, hs_up]; omega) | (simp [hs_ss, hs_up]; done)) (by first | omega | assumption | (constructor <;> omega) | (refine ⟨⟨?_, ?_⟩, ?_⟩ <;> omega) | (simp [hs_ss, hs_up]; omega) | (simp [hs_ss, hs_up]; done)) (by first | omega | assumption | (constructor <;> omega) | (refine ⟨⟨?_, ?_⟩, ?_⟩ <;> omega) | (simp [hs_ss, hs_up]; omega) | (simp [hs_ss, hs_up]; done))) [vI w, vI (σ 3 w.toNat), vI b] [] rfl rfl dX12_comes_22 wlX12_220 wiX12_comesAt weX12_comesAt wcX12_comesAt wnX12 noX12_comesAt (by decide) (by decide) (Nat.le_of_ble_eq_true rfl) (gy_self g2) rfl rfl ?_
    rintro z22 _ ⟨rfl, k22⟩
    show hs_Wd _ _ _ _ _ _ _ _ _ _ _ _ _ _ _ _ _ 25 _ [vI z22] (hs_ss σ 0 2 0)
    refine s_goto (pc := 25) C (tgt := 29) dX12_comes_25 (by decide) ?_
    refine s_iret (pc := 29) C dX12_comes_29 ?_
    refine ⟨_, rfl, ?_⟩
    exact ⟨g2, by first | omega | assumption | (constructor <;> omega) | (refine ⟨⟨?_, ?_⟩, ?_⟩ <;> omega) | (simp [hs_ss, hs_up]; omega) | (simp [hs_ss, hs_up]; done)⟩
set_option maxHeartbeats 4000000 in
set_option maxRecDepth 100000 in
theorem c_X12_change (l : Launch) (w : Int) (hw : hs_R w) (n : Int) (hn : hs_R n) : hs_Met l yX12_change cX12_change 4 (some .boolean) 7 SHY (fun ad => [.ref (ad 0), vI w, vI n]) (fun σ => GY σ σ) (hs_PI (fun σ z σ1 => GY σ σ1 ∧ (z = 0 ∨ z = 1) ∧ (σ 0 6 = 0 → z = 0))) := by
  refine hs_from pfX12_change (fun _ => Nat.le_of_ble_eq_true rfl) ?_
  intro p e s m args below meth c D dA ad A σ C hpre
  have C : hs_C p s m args meth c D dA SHY ad A 4 cX12_change RX12 (some .boolean) := C
  have g0 := hpre
  have b06 : (0 : Int) ≤ σ 0 6 ∧ σ 0 6 ≤ 4 := g0.1 0 6
  have b03 : (10 : Int) ≤ σ 0 3 ∧ σ 0 3 ≤ 100 := g0.1 0 3
  show hs_Wd p l e 7 s m args below meth c D dA SHY ad A 4 (hs_PI (fun σ z σ1 => GY σ σ1 ∧ (z = 0 ∨ z = 1) ∧ (σ 0 6 = 0 → z = 0)) σ) 0 [(0, .ref (ad 0)), (1, vI w), (2, vI n)] [] σ
  refine s_aload_n (pc := 0) C dX12_change_0 0 rfl ?_
  refine s_iconst (pc := 1) C dX12_change_1 ?_
  refine s_puti (q := 0) (ci := 12) (N := 68) (CN := RX12) (T := TX12) (ty0 := tyX12) (ty := .int) (pc := 2) C 2 dX12_change_2 wlX12_135 rfl rfl rfl wfX12 tyX12_ok nmX12 (by decide) rfl rfl rfl (vp_nar_int _) rfl ?_
  have g2 := gy_set (z := 0) g0 0 2 rfl (0) (2) rfl ⟨by omega, by omega⟩
  refine s_aload_n (pc := 5) C dX12_change_5 0 rfl ?_
  refine s_iload_n (pc := 6) C dX12_change_6 1 rfl ?_
  have r7_0_6 : (hs_ss σ 0 2 0) 0 6 = σ 0 6 := rfl
  refine s_callVi (pc := 7) C (c_X12_isWheel l w ⟨by omega, by omega⟩) [vI w] [] rfl rfl dX12_change_7 wlX12_208 wiX12_isWheel weX12_isWheel wcX12_isWheel wnX12 noX12_isWheel (by decide) (by decide) (Nat.le_of_ble_eq_true rfl) (gy_self g2) rfl rfl ?_
  rintro z7 _ ⟨rfl, k7⟩
  show hs_Wd _ _ _ _ _ _ _ _ _ _ _ _ _ _ _ _ _ 10 _ [vI z7] (hs_ss σ 0 2 0)
  refine s_if_eq (pc := 10) C (tgt := 28) dX12_change_10 (by decide) ⟨by omega, by omega⟩ (fun h10 => ?_) (fun h10 => ?_)
  · skip
    refine s_iconst (pc := 28) C dX12_change_28 ?_
    refine s_zret (pc := 29) C (by omega) dX12_change_29 ?_
    refine ⟨_, rfl, ?_⟩
    exact ⟨g2, by first | omega | assumption | (constructor <;> omega) | (refine ⟨⟨?_, ?_⟩, ?_⟩ <;> omega) | (simp [hs_ss, hs_up]; omega) | (simp [hs_ss, hs_up]; done)⟩
  · skip
    refine s_aload_n (pc := 13) C dX12_change_13 0 rfl ?_
    refine s_iload_n (pc := 14) C dX12_change_14 2 rfl ?_
    have r15_0_3 : (hs_ss σ 0 2 0) 0 3 = σ 0 3 := rfl
    refine s_callVi (pc := 15) C (c_X12_isNumber l n ⟨by omega, by omega⟩) [vI n] [] rfl rfl dX12_change_15 wlX12_205 wiX12_isNumber weX12_isNumber wcX12_isNumber wnX12 noX12_isNumber (by decide) (by decide) (Nat.le_of_ble_eq_true rfl) (gy_self g2) rfl rfl ?_
    rintro z15 _ ⟨rfl, k15⟩
    show hs_Wd _ _ _ _ _ _ _ _ _ _ _ _ _ _ _ _ _ 18 _ [vI z15] (hs_ss σ 0 2 0)
    refine s_if_eq (pc := 18) C (tgt := 28) dX12_change_18 (by decide) ⟨by omega, by omega⟩ (fun h18 => ?_) (fun h18 => ?_)
    · skip
      refine s_iconst (pc := 28) C dX12_change_28 ?_
      refine s_zret (pc := 29) C (by omega) dX12_change_29 ?_
      refine ⟨_, rfl, ?_⟩
      exact ⟨g2, by first | omega | assumption | (constructor <;> omega) | (refine ⟨⟨?_, ?_⟩, ?_⟩ <;> omega) | (simp [hs_ss, hs_up]; omega) | (simp [hs_ss, hs_up]; done)⟩
    · skip
      refine s_aload_n (pc := 21) C dX12_change_21 0 rfl ?_
      have r22_0_6 : (hs_ss σ 0 2 0) 0 6 = σ 0 6 := rfl
      refine s_callVi (pc := 22) C (c_X12_ridesNow l) [] [] rfl rfl dX12_change_22 wlX12_179 wiX12_ridesNow weX12_ridesNow wcX12_ridesNow wnX12 noX12_ridesNow (by decide) (by decide) (Nat.le_of_ble_eq_true rfl) (gy_self g2) rfl rfl ?_
      rintro z22 _ ⟨rfl, k22⟩
      show hs_Wd _ _ _ _ _ _ _ _ _ _ _ _ _ _ _ _ _ 25 _ [vI z22] (hs_ss σ 0 2 0)
      refine s_if_eq (pc := 25) C (tgt := 30) dX12_change_25 (by decide) ⟨by omega, by omega⟩ (fun h25 => ?_) (fun h25 => ?_)
      · skip
        refine s_aload_n (pc := 30) C dX12_change_30 0 rfl ?_
        refine s_getr (q := 0) (ci := 12) (N := 68) (CN := RX12) (T := TX12) (pc := 31) C 8 dX12_change_31 wlX12_20 rfl rfl rfl wfX12 (by decide) rfl ?_
        refine s_iload_n (pc := 34) C dX12_change_34 1 rfl ?_
        refine s_iload_n (pc := 35) C dX12_change_35 2 rfl ?_
        refine s_iast (q := 3) (n := 4) (pc := 36) C dX12_change_36 rfl (by omega) (by omega) (by decide) ?_
        have g36 := gy_set (z := n) g2 3 w.toNat rfl (0) (99) rfl ⟨by omega, by omega⟩
        refine s_aload_n (pc := 37) C dX12_change_37 0 rfl ?_
        refine s_geti (q := 0) (ci := 12) (N := 68) (CN := RX12) (T := TX12) (pc := 38) C 18 dX12_change_38 wlX12_199 rfl rfl rfl wfX12 (by decide) rfl (σ 0 18) rfl ?_
        have b38 : (0 : Int) ≤ σ 0 18 ∧ σ 0 18 ≤ 999 := g36.1 0 18
        refine s_istore_n (pc := 41) C [(3, vI (σ 0 18)), (0, .ref (ad 0)), (1, vI w), (2, vI n)] dX12_change_41 (by decide) rfl ?_
        refine s_sub C [1, 2, 3, 0] [(0, .ref (ad 0)), (1, vI w), (2, vI n), (3, vI (σ 0 18))] rfl ?_
        have hi42 : GY σ ((hs_ss (hs_ss σ 0 2 0) 3 w.toNat n)) ∧ 0 ≤ (σ 0 18) ∧ (σ 0 18) ≤ 1000 := ⟨g36, by first | omega | assumption | (constructor <;> omega) | (refine ⟨⟨?_, ?_⟩, ?_⟩ <;> omega) | (simp [hs_ss, hs_up]; omega) | (simp [hs_ss, hs_up]; done)⟩
        refine hs_loop (α := Int × hs_S) (fun x_ => (GY σ x_.2 ∧ 0 ≤ x_.1 ∧ x_.1 ≤ 1000) → hs_Wd p l e 7 s m args below meth c D dA SHY ad A 4 (hs_PI (fun σ z σ1 => GY σ σ1 ∧ (z = 0 ∨ z = 1) ∧ (σ 0 6 = 0 → z = 0)) σ) 42 [(0, .ref (ad 0)), (1, vI w), (2, vI n), (3, vI x_.1)] [] x_.2) (fun x_ => (1001 - x_.1).toNat) ?_ (σ 0 18, (hs_ss (hs_ss σ 0 2 0) 3 w.toNat n)) hi42
        rintro ⟨k, σ1⟩ ih42 hinv
        replace hinv : GY σ σ1 ∧ 0 ≤ k ∧ k ≤ 1000 := hinv
        show hs_Wd p l e 7 s m args below meth c D dA SHY ad A 4 (hs_PI (fun σ z σ1 => GY σ σ1 ∧ (z = 0 ∨ z = 1) ∧ (σ 0 6 = 0 → z = 0)) σ) 42 [(0, .ref (ad 0)), (1, vI w), (2, vI n), (3, vI k)] [] σ1
        obtain ⟨hg, hk⟩ := hinv
        refine s_iload_n (pc := 42) C dX12_change_42 3 rfl ?_
        refine s_sipush (pc := 43) C dX12_change_43 (by decide) ?_
        refine s_icmp_ge (pc := 46) C (tgt := 68) dX12_change_46 (by decide) ⟨by omega, by omega⟩ ⟨by decide, by decide⟩ (fun h46 => ?_) (fun h46 => ?_)
        · skip
          refine s_iconst (pc := 68) C dX12_change_68 ?_
          refine s_zret (pc := 69) C (by omega) dX12_change_69 ?_
          refine ⟨_, rfl, ?_⟩
          exact ⟨hg, by first | omega | assumption | (constructor <;> omega) | (refine ⟨⟨?_, ?_⟩, ?_⟩ <;> omega) | (simp [hs_ss, hs_up]; omega) | (simp [hs_ss, hs_up]; done)⟩
        · skip
          refine s_aload_n (pc := 49) C dX12_change_49 0 rfl ?_
          refine s_getr (q := 0) (ci := 12) (N := 68) (CN := RX12) (T := TX12) (pc := 50) C 22 dX12_change_50 wlX12_50 rfl rfl rfl wfX12 (by decide) rfl ?_
          refine s_sipush (pc := 53) C dX12_change_53 (by decide) ?_
          refine s_iload_n (pc := 56) C dX12_change_56 1 rfl ?_
          refine s_imul (pc := 57) C dX12_change_57 ?_
          refine s_iload_n (pc := 58) C dX12_change_58 3 rfl ?_
          refine s_iadd (pc := 59) C dX12_change_59 ?_
          refine s_iload_n (pc := 60) C dX12_change_60 2 rfl ?_
          refine s_iast (q := 13) (n := 4000) (pc := 61) C dX12_change_61 rfl (by omega) (by omega) (by decide) ?_
          have g61 := gy_set (z := n) hg 13 (((1000 * w) + k).toNat) rfl (0) (99) rfl ⟨by omega, by omega⟩
          refine s_iinc (pc := 62) C [(3, vI (k + 1)), (0, .ref (ad 0)), (1, vI w), (2, vI n)] dX12_change_62 3 rfl (by decide) rfl ?_
          refine s_goto (pc := 65) C (tgt := 42) dX12_change_65 (by decide) ?_
          refine s_sub C [1, 2, 3, 0] [(0, .ref (ad 0)), (1, vI w), (2, vI n), (3, vI (k + 1))] rfl ?_
          have hi42 : GY σ ((hs_ss σ1 13 (((1000 * w) + k).toNat) n)) ∧ 0 ≤ (k + 1) ∧ (k + 1) ≤ 1000 := ⟨g61, by first | omega | assumption | (constructor <;> omega) | (refine ⟨⟨?_, ?_⟩, ?_⟩ <;> omega) | (simp [hs_ss, hs_up]; omega) | (simp [hs_ss, hs_up]; done)⟩
          exact ih42 (k + 1, (hs_ss σ1 13 (((1000 * w) + k).toNat) n)) (by first | omega | (simp only []; omega)) hi42
      · skip
        refine s_iconst (pc := 28) C dX12_change_28 ?_
        refine s_zret (pc := 29) C (by omega) dX12_change_29 ?_
        refine ⟨_, rfl, ?_⟩
        exact ⟨g2, by first | omega | assumption | (constructor <;> omega) | (refine ⟨⟨?_, ?_⟩, ?_⟩ <;> omega) | (simp [hs_ss, hs_up]; omega) | (simp [hs_ss, hs_up]; done)⟩
set_option maxHeartbeats 4000000 in
set_option maxRecDepth 100000 in
theorem c_X12_turned (l : Launch) (a : Int) (ha : hs_R a) : hs_Met l yX12_turned cX12_turned 2 (some .int) 1 SHY (fun ad => [.ref (ad 0), vI a]) (fun σ => GY σ σ) (hs_PI (fun σ z σ1 => GY σ σ1 ∧ hs_R z ∧ (a = 0 → z = σ 0 25) ∧ (a = 1 → z = σ 0 26) ∧ (a = 2 → z = σ 0 45) ∧ (a = 3 → z = σ 0 46) ∧ (a = 4 → z = σ 0 47) ∧ (a < 0 ∨ 4 < a → z = -1))) := by
  refine hs_from pfX12_turned (fun _ => Nat.le_of_ble_eq_true rfl) ?_
  intro p e s m args below meth c D dA ad A σ C hpre
  have C : hs_C p s m args meth c D dA SHY ad A 2 cX12_turned RX12 (some .int) := C
  have g0 := hpre
  show hs_Wd p l e 1 s m args below meth c D dA SHY ad A 2 (hs_PI (fun σ z σ1 => GY σ σ1 ∧ hs_R z ∧ (a = 0 → z = σ 0 25) ∧ (a = 1 → z = σ 0 26) ∧ (a = 2 → z = σ 0 45) ∧ (a = 3 → z = σ 0 46) ∧ (a = 4 → z = σ 0 47) ∧ (a < 0 ∨ 4 < a → z = -1)) σ) 0 [(0, .ref (ad 0)), (1, vI a)] [] σ
  refine s_aload_n (pc := 0) C dX12_turned_0 0 rfl ?_
  refine s_iconst (pc := 1) C dX12_turned_1 ?_
  refine s_puti (q := 0) (ci := 12) (N := 68) (CN := RX12) (T := TX12) (ty0 := tyX12) (ty := .int) (pc := 2) C 2 dX12_turned_2 wlX12_135 rfl rfl rfl wfX12 tyX12_ok nmX12 (by decide) rfl rfl rfl (vp_nar_int _) rfl ?_
  have g2 := gy_set (z := 0) g0 0 2 rfl (0) (2) rfl ⟨by omega, by omega⟩
  refine s_iload_n (pc := 5) C dX12_turned_5 1 rfl ?_
  by_cases sw6 : a < 0 ∨ 4 < a
  · refine s_swOut (pc := 6) C (tgt := 65) dX12_turned_6 ⟨by omega, by omega⟩ sw6 (by decide) ?_
    refine s_iconst (pc := 65) C dX12_turned_65 ?_
    refine s_iret (pc := 66) C dX12_turned_66 ?_
    refine ⟨_, rfl, ?_⟩
    exact ⟨g2, ⟨by omega, by omega⟩, by omega⟩
  · rcases (show a = 0 ∨ a = 1 ∨ a = 2 ∨ a = 3 ∨ a = 4 by omega) with sv6 | sv6 | sv6 | sv6 | sv6
    · refine s_swIn (pc := 6) (off := 34) C (tgt := 40) dX12_turned_6 ⟨by omega, by omega⟩ (by omega) (by omega) (by rw [sv6]; decide) (by decide) ?_
      refine s_aload_n (pc := 40) C dX12_turned_40 0 rfl ?_
      refine s_geti (q := 0) (ci := 12) (N := 68) (CN := RX12) (T := TX12) (pc := 41) C 25 dX12_turned_41 wlX12_224 rfl rfl rfl wfX12 (by decide) rfl (σ 0 25) rfl ?_
      have b41 : (0 : Int) ≤ σ 0 25 ∧ σ 0 25 ≤ 3 := g2.1 0 25
      refine s_iret (pc := 44) C dX12_turned_44 ?_
      refine ⟨_, rfl, ?_⟩
      exact ⟨g2, ⟨by omega, by omega⟩, by omega⟩
    · refine s_swIn (pc := 6) (off := 39) C (tgt := 45) dX12_turned_6 ⟨by omega, by omega⟩ (by omega) (by omega) (by rw [sv6]; decide) (by decide) ?_
      refine s_aload_n (pc := 45) C dX12_turned_45 0 rfl ?_
      refine s_geti (q := 0) (ci := 12) (N := 68) (CN := RX12) (T := TX12) (pc := 46) C 26 dX12_turned_46 wlX12_56 rfl rfl rfl wfX12 (by decide) rfl (σ 0 26) rfl ?_
      have b46 : (-1 : Int) ≤ σ 0 26 ∧ σ 0 26 ≤ 500 := g2.1 0 26
      refine s_iret (pc := 49) C dX12_turned_49 ?_
      refine ⟨_, rfl, ?_⟩
      exact ⟨g2, ⟨by omega, by omega⟩, by omega⟩
    · refine s_swIn (pc := 6) (off := 44) C (tgt := 50) dX12_turned_6 ⟨by omega, by omega⟩ (by omega) (by omega) (by rw [sv6]; decide) (by decide) ?_
      refine s_aload_n (pc := 50) C dX12_turned_50 0 rfl ?_
      refine s_geti (q := 0) (ci := 12) (N := 68) (CN := RX12) (T := TX12) (pc := 51) C 45 dX12_turned_51 wlX12_309 rfl rfl rfl wfX12 (by decide) rfl (σ 0 45) rfl ?_
      have b51 : (0 : Int) ≤ σ 0 45 ∧ σ 0 45 ≤ 100000 := g2.1 0 45
      refine s_iret (pc := 54) C dX12_turned_54 ?_
      refine ⟨_, rfl, ?_⟩
      exact ⟨g2, ⟨by omega, by omega⟩, by omega⟩
    · refine s_swIn (pc := 6) (off := 49) C (tgt := 55) dX12_turned_6 ⟨by omega, by omega⟩ (by omega) (by omega) (by rw [sv6]; decide) (by decide) ?_
      refine s_aload_n (pc := 55) C dX12_turned_55 0 rfl ?_
      refine s_geti (q := 0) (ci := 12) (N := 68) (CN := RX12) (T := TX12) (pc := 56) C 46 dX12_turned_56 wlX12_306 rfl rfl rfl wfX12 (by decide) rfl (σ 0 46) rfl ?_
      have b56 : (0 : Int) ≤ σ 0 46 ∧ σ 0 46 ≤ 5000 := g2.1 0 46
      refine s_iret (pc := 59) C dX12_turned_59 ?_
      refine ⟨_, rfl, ?_⟩
      exact ⟨g2, ⟨by omega, by omega⟩, by omega⟩
    · refine s_swIn (pc := 6) (off := 54) C (tgt := 60) dX12_turned_6 ⟨by omega, by omega⟩ (by omega) (by omega) (by rw [sv6]; decide) (by decide) ?_
      refine s_aload_n (pc := 60) C dX12_turned_60 0 rfl ?_
      refine s_geti (q := 0) (ci := 12) (N := 68) (CN := RX12) (T := TX12) (pc := 61) C 47 dX12_turned_61 wlX12_315 rfl rfl rfl wfX12 (by decide) rfl (σ 0 47) rfl ?_
      have b61 : (0 : Int) ≤ σ 0 47 ∧ σ 0 47 ≤ 5000 := g2.1 0 47
      refine s_iret (pc := 64) C dX12_turned_64 ?_
      refine ⟨_, rfl, ?_⟩
      exact ⟨g2, ⟨by omega, by omega⟩, by omega⟩
set_option maxHeartbeats 4000000 in
set_option maxRecDepth 100000 in
theorem c_X12_count (l : Launch) (a : Int) (ha : hs_R a) : hs_Met l yX12_count cX12_count 2 (some .int) 1 SHY (fun ad => [.ref (ad 0), vI a]) (fun σ => GY σ σ) (hs_PI (fun σ z σ1 => GY σ σ1 ∧ hs_R z ∧ (a = 0 → z = σ 0 3) ∧ (a = 1 → z = σ 0 6) ∧ (a = 2 → z = σ 0 20) ∧ (a = 3 → z = σ 0 61) ∧ (a = 4 → z = σ 0 4) ∧ (a = 5 → z = σ 0 17) ∧ (a = 6 → z = σ 0 18) ∧ (a = 7 → z = σ 0 19) ∧ (a < 0 ∨ 7 < a → z = -1))) := by
  refine hs_from pfX12_count (fun _ => Nat.le_of_ble_eq_true rfl) ?_
  intro p e s m args below meth c D dA ad A σ C hpre
  have C : hs_C p s m args meth c D dA SHY ad A 2 cX12_count RX12 (some .int) := C
  have g0 := hpre
  show hs_Wd p l e 1 s m args below meth c D dA SHY ad A 2 (hs_PI (fun σ z σ1 => GY σ σ1 ∧ hs_R z ∧ (a = 0 → z = σ 0 3) ∧ (a = 1 → z = σ 0 6) ∧ (a = 2 → z = σ 0 20) ∧ (a = 3 → z = σ 0 61) ∧ (a = 4 → z = σ 0 4) ∧ (a = 5 → z = σ 0 17) ∧ (a = 6 → z = σ 0 18) ∧ (a = 7 → z = σ 0 19) ∧ (a < 0 ∨ 7 < a → z = -1)) σ) 0 [(0, .ref (ad 0)), (1, vI a)] [] σ
  refine s_aload_n (pc := 0) C dX12_count_0 0 rfl ?_
  refine s_iconst (pc := 1) C dX12_count_1 ?_
  refine s_puti (q := 0) (ci := 12) (N := 68) (CN := RX12) (T := TX12) (ty0 := tyX12) (ty := .int) (pc := 2) C 2 dX12_count_2 wlX12_135 rfl rfl rfl wfX12 tyX12_ok nmX12 (by decide) rfl rfl rfl (vp_nar_int _) rfl ?_
  have g2 := gy_set (z := 0) g0 0 2 rfl (0) (2) rfl ⟨by omega, by omega⟩
  refine s_iload_n (pc := 5) C dX12_count_5 1 rfl ?_
  by_cases sw6 : a < 0 ∨ 7 < a
  · refine s_swOut (pc := 6) C (tgt := 92) dX12_count_6 ⟨by omega, by omega⟩ sw6 (by decide) ?_
    refine s_iconst (pc := 92) C dX12_count_92 ?_
    refine s_iret (pc := 93) C dX12_count_93 ?_
    refine ⟨_, rfl, ?_⟩
    exact ⟨g2, ⟨by omega, by omega⟩, by omega⟩
  · rcases (show a = 0 ∨ a = 1 ∨ a = 2 ∨ a = 3 ∨ a = 4 ∨ a = 5 ∨ a = 6 ∨ a = 7 by omega) with sv6 | sv6 | sv6 | sv6 | sv6 | sv6 | sv6 | sv6
    · refine s_swIn (pc := 6) (off := 46) C (tgt := 52) dX12_count_6 ⟨by omega, by omega⟩ (by omega) (by omega) (by rw [sv6]; decide) (by decide) ?_
      refine s_aload_n (pc := 52) C dX12_count_52 0 rfl ?_
      refine s_geti (q := 0) (ci := 12) (N := 68) (CN := RX12) (T := TX12) (pc := 53) C 3 dX12_count_53 wlX12_13 rfl rfl rfl wfX12 (by decide) rfl (σ 0 3) rfl ?_
      have b53 : (10 : Int) ≤ σ 0 3 ∧ σ 0 3 ≤ 100 := g2.1 0 3
      refine s_iret (pc := 56) C dX12_count_56 ?_
      refine ⟨_, rfl, ?_⟩
      exact ⟨g2, ⟨by omega, by omega⟩, by omega⟩
    · refine s_swIn (pc := 6) (off := 51) C (tgt := 57) dX12_count_6 ⟨by omega, by omega⟩ (by omega) (by omega) (by rw [sv6]; decide) (by decide) ?_
      refine s_aload_n (pc := 57) C dX12_count_57 0 rfl ?_
      refine s_geti (q := 0) (ci := 12) (N := 68) (CN := RX12) (T := TX12) (pc := 58) C 6 dX12_count_58 wlX12_141 rfl rfl rfl wfX12 (by decide) rfl (σ 0 6) rfl ?_
      have b58 : (0 : Int) ≤ σ 0 6 ∧ σ 0 6 ≤ 4 := g2.1 0 6
      refine s_iret (pc := 61) C dX12_count_61 ?_
      refine ⟨_, rfl, ?_⟩
      exact ⟨g2, ⟨by omega, by omega⟩, by omega⟩
    · refine s_swIn (pc := 6) (off := 56) C (tgt := 62) dX12_count_6 ⟨by omega, by omega⟩ (by omega) (by omega) (by rw [sv6]; decide) (by decide) ?_
      refine s_aload_n (pc := 62) C dX12_count_62 0 rfl ?_
      refine s_geti (q := 0) (ci := 12) (N := 68) (CN := RX12) (T := TX12) (pc := 63) C 20 dX12_count_63 wlX12_202 rfl rfl rfl wfX12 (by decide) rfl (σ 0 20) rfl ?_
      have b63 : (0 : Int) ≤ σ 0 20 ∧ σ 0 20 ≤ 100 := g2.1 0 20
      refine s_iret (pc := 66) C dX12_count_66 ?_
      refine ⟨_, rfl, ?_⟩
      exact ⟨g2, ⟨by omega, by omega⟩, by omega⟩
    · refine s_swIn (pc := 6) (off := 61) C (tgt := 67) dX12_count_6 ⟨by omega, by omega⟩ (by omega) (by omega) (by rw [sv6]; decide) (by decide) ?_
      refine s_aload_n (pc := 67) C dX12_count_67 0 rfl ?_
      refine s_geti (q := 0) (ci := 12) (N := 68) (CN := RX12) (T := TX12) (pc := 68) C 61 dX12_count_68 wlX12_196 rfl rfl rfl wfX12 (by decide) rfl (σ 0 61) rfl ?_
      have b68 : (0 : Int) ≤ σ 0 61 ∧ σ 0 61 ≤ 80 := g2.1 0 61
      refine s_iret (pc := 71) C dX12_count_71 ?_
      refine ⟨_, rfl, ?_⟩
      exact ⟨g2, ⟨by omega, by omega⟩, by omega⟩
    · refine s_swIn (pc := 6) (off := 66) C (tgt := 72) dX12_count_6 ⟨by omega, by omega⟩ (by omega) (by omega) (by rw [sv6]; decide) (by decide) ?_
      refine s_aload_n (pc := 72) C dX12_count_72 0 rfl ?_
      refine s_geti (q := 0) (ci := 12) (N := 68) (CN := RX12) (T := TX12) (pc := 73) C 4 dX12_count_73 wlX12_148 rfl rfl rfl wfX12 (by decide) rfl (σ 0 4) rfl ?_
      have b73 : (0 : Int) ≤ σ 0 4 ∧ σ 0 4 ≤ 99 := g2.1 0 4
      refine s_iret (pc := 76) C dX12_count_76 ?_
      refine ⟨_, rfl, ?_⟩
      exact ⟨g2, ⟨by omega, by omega⟩, by omega⟩
    · refine s_swIn (pc := 6) (off := 71) C (tgt := 77) dX12_count_6 ⟨by omega, by omega⟩ (by omega) (by omega) (by rw [sv6]; decide) (by decide) ?_
      refine s_aload_n (pc := 77) C dX12_count_77 0 rfl ?_
      refine s_geti (q := 0) (ci := 12) (N := 68) (CN := RX12) (T := TX12) (pc := 78) C 17 dX12_count_78 wlX12_183 rfl rfl rfl wfX12 (by decide) rfl (σ 0 17) rfl ?_
      have b78 : (0 : Int) ≤ σ 0 17 ∧ σ 0 17 ≤ 999 := g2.1 0 17
      refine s_iret (pc := 81) C dX12_count_81 ?_
      refine ⟨_, rfl, ?_⟩
      exact ⟨g2, ⟨by omega, by omega⟩, by omega⟩
    · refine s_swIn (pc := 6) (off := 76) C (tgt := 82) dX12_count_6 ⟨by omega, by omega⟩ (by omega) (by omega) (by rw [sv6]; decide) (by decide) ?_
      refine s_aload_n (pc := 82) C dX12_count_82 0 rfl ?_
      refine s_geti (q := 0) (ci := 12) (N := 68) (CN := RX12) (T := TX12) (pc := 83) C 18 dX12_count_83 wlX12_199 rfl rfl rfl wfX12 (by decide) rfl (σ 0 18) rfl ?_
      have b83 : (0 : Int) ≤ σ 0 18 ∧ σ 0 18 ≤ 999 := g2.1 0 18
      refine s_iret (pc := 86) C dX12_count_86 ?_
      refine ⟨_, rfl, ?_⟩
      exact ⟨g2, ⟨by omega, by omega⟩, by omega⟩
    · refine s_swIn (pc := 6) (off := 81) C (tgt := 87) dX12_count_6 ⟨by omega, by omega⟩ (by omega) (by omega) (by rw [sv6]; decide) (by decide) ?_
      refine s_aload_n (pc := 87) C dX12_count_87 0 rfl ?_
      refine s_geti (q := 0) (ci := 12) (N := 68) (CN := RX12) (T := TX12) (pc := 88) C 19 dX12_count_88 wlX12_327 rfl rfl rfl wfX12 (by decide) rfl (σ 0 19) rfl ?_
      have b88 : (0 : Int) ≤ σ 0 19 ∧ σ 0 19 ≤ 99 := g2.1 0 19
      refine s_iret (pc := 91) C dX12_count_91 ?_
      refine ⟨_, rfl, ?_⟩
      exact ⟨g2, ⟨by omega, by omega⟩, by omega⟩
set_option maxHeartbeats 4000000 in
set_option maxRecDepth 100000 in
theorem c_X12_feel (l : Launch) (k : Int) (hk : hs_R k) (n : Int) (hn : hs_R n) : hs_Met l yX12_feel cX12_feel 3 (some .int) 2 SHY (fun ad => [.ref (ad 0), vI k, vI n]) (fun σ => GY σ σ) (hs_PI (fun σ z σ1 => GY σ σ1 ∧ -10000 ≤ z ∧ z ≤ 10000 ∧ (σ 0 20 = 0 → z = -1))) := by
  refine hs_from pfX12_feel (fun _ => Nat.le_of_ble_eq_true rfl) ?_
  intro p e s m args below meth c D dA ad A σ C hpre
  have C : hs_C p s m args meth c D dA SHY ad A 3 cX12_feel RX12 (some .int) := C
  have g0 := hpre
  show hs_Wd p l e 2 s m args below meth c D dA SHY ad A 3 (hs_PI (fun σ z σ1 => GY σ σ1 ∧ -10000 ≤ z ∧ z ≤ 10000 ∧ (σ 0 20 = 0 → z = -1)) σ) 0 [(0, .ref (ad 0)), (1, vI k), (2, vI n)] [] σ
  refine s_aload_n (pc := 0) C dX12_feel_0 0 rfl ?_
  refine s_iconst (pc := 1) C dX12_feel_1 ?_
  refine s_puti (q := 0) (ci := 12) (N := 68) (CN := RX12) (T := TX12) (ty0 := tyX12) (ty := .int) (pc := 2) C 2 dX12_feel_2 wlX12_135 rfl rfl rfl wfX12 tyX12_ok nmX12 (by decide) rfl rfl rfl (vp_nar_int _) rfl ?_
  have g2 := gy_set (z := 0) g0 0 2 rfl (0) (2) rfl ⟨by omega, by omega⟩
  refine s_iload_n (pc := 5) C dX12_feel_5 1 rfl ?_
  refine s_if_lt (pc := 6) C (tgt := 42) dX12_feel_6 (by decide) ⟨by omega, by omega⟩ (fun h6 => ?_) (fun h6 => ?_)
  · skip
    refine s_iconst (pc := 42) C dX12_feel_42 ?_
    refine s_iret (pc := 43) C dX12_feel_43 ?_
    refine ⟨_, rfl, ?_⟩
    exact ⟨g2, by first | omega | assumption | (constructor <;> omega) | (refine ⟨⟨?_, ?_⟩, ?_⟩ <;> omega) | (simp [hs_ss, hs_up]; omega) | (simp [hs_ss, hs_up]; done)⟩
  · skip
    refine s_iload_n (pc := 9) C dX12_feel_9 1 rfl ?_
    refine s_aload_n (pc := 10) C dX12_feel_10 0 rfl ?_
    refine s_geti (q := 0) (ci := 12) (N := 68) (CN := RX12) (T := TX12) (pc := 11) C 20 dX12_feel_11 wlX12_202 rfl rfl rfl wfX12 (by decide) rfl (σ 0 20) rfl ?_
    have b11 : (0 : Int) ≤ σ 0 20 ∧ σ 0 20 ≤ 100 := g2.1 0 20
    refine s_icmp_ge (pc := 14) C (tgt := 42) dX12_feel_14 (by decide) ⟨by omega, by omega⟩ ⟨by omega, by omega⟩ (fun h14 => ?_) (fun h14 => ?_)
    · skip
      refine s_iconst (pc := 42) C dX12_feel_42 ?_
      refine s_iret (pc := 43) C dX12_feel_43 ?_
      refine ⟨_, rfl, ?_⟩
      exact ⟨g2, by first | omega | assumption | (constructor <;> omega) | (refine ⟨⟨?_, ?_⟩, ?_⟩ <;> omega) | (simp [hs_ss, hs_up]; omega) | (simp [hs_ss, hs_up]; done)⟩
    · skip
      refine s_iload_n (pc := 17) C dX12_feel_17 2 rfl ?_
      refine s_iconst (pc := 18) C dX12_feel_18 ?_
      refine s_aload_n (pc := 19) C dX12_feel_19 0 rfl ?_
      refine s_geti (q := 0) (ci := 12) (N := 68) (CN := RX12) (T := TX12) (pc := 20) C 6 dX12_feel_20 wlX12_141 rfl rfl rfl wfX12 (by decide) rfl (σ 0 6) rfl ?_
      have b20 : (0 : Int) ≤ σ 0 6 ∧ σ 0 6 ≤ 4 := g2.1 0 6
      refine s_callSi (pc := 23) C (c_X12_isIn l n ⟨by omega, by omega⟩ 0 ⟨by omega, by omega⟩ (σ 0 6) ⟨by omega, by omega⟩) [vI n, vI 0, vI (σ 0 6)] [] rfl rfl dX12_feel_23 wlX12_189 wtX12_isIn wcX12_isIn wnX12 noX12_isIn (by decide) (by decide) (Nat.le_of_ble_eq_true rfl) (gy_self g2) ?_
      rintro z23 _ ⟨rfl, k23⟩
      show hs_Wd _ _ _ _ _ _ _ _ _ _ _ _ _ _ _ _ _ 26 _ [vI z23] (hs_ss σ 0 2 0)
      refine s_if_eq (pc := 26) C (tgt := 42) dX12_feel_26 (by decide) ⟨by omega, by omega⟩ (fun h26 => ?_) (fun h26 => ?_)
      · skip
        refine s_iconst (pc := 42) C dX12_feel_42 ?_
        refine s_iret (pc := 43) C dX12_feel_43 ?_
        refine ⟨_, rfl, ?_⟩
        exact ⟨g2, by first | omega | assumption | (constructor <;> omega) | (refine ⟨⟨?_, ?_⟩, ?_⟩ <;> omega) | (simp [hs_ss, hs_up]; omega) | (simp [hs_ss, hs_up]; done)⟩
      · skip
        refine s_aload_n (pc := 29) C dX12_feel_29 0 rfl ?_
        refine s_getr (q := 0) (ci := 12) (N := 68) (CN := RX12) (T := TX12) (pc := 30) C 21 dX12_feel_30 wlX12_47 rfl rfl rfl wfX12 (by decide) rfl ?_
        refine s_iconst (pc := 33) C dX12_feel_33 ?_
        refine s_iload_n (pc := 34) C dX12_feel_34 1 rfl ?_
        refine s_imul (pc := 35) C dX12_feel_35 ?_
        refine s_iload_n (pc := 36) C dX12_feel_36 2 rfl ?_
        refine s_iadd (pc := 37) C dX12_feel_37 ?_
        refine s_iald (q := 12) (n := 500) (pc := 38) C (σ 12 (((5 * k) + n).toNat)) rfl dX12_feel_38 rfl (by omega) (by omega) (by decide) ?_
        have b38 : (-10000 : Int) ≤ σ 12 (((5 * k) + n).toNat) ∧ σ 12 (((5 * k) + n).toNat) ≤ 10000 := g2.1 12 (((5 * k) + n).toNat)
        refine s_goto (pc := 39) C (tgt := 43) dX12_feel_39 (by decide) ?_
        refine s_iret (pc := 43) C dX12_feel_43 ?_
        refine ⟨_, rfl, ?_⟩
        exact ⟨g2, by first | omega | assumption | (constructor <;> omega) | (refine ⟨⟨?_, ?_⟩, ?_⟩ <;> omega) | (simp [hs_ss, hs_up]; omega) | (simp [hs_ss, hs_up]; done)⟩
set_option maxHeartbeats 4000000 in
set_option maxRecDepth 100000 in
theorem c_X12_doubt (l : Launch) (n : Int) (hn : hs_R n) : hs_Met l yX12_doubt cX12_doubt 2 (some .boolean) 2 SHY (fun ad => [.ref (ad 0), vI n]) (fun σ => GY σ σ) (hs_PI (fun σ z σ1 => GY σ σ1 ∧ (z = 0 ∨ z = 1) ∧ (z = 1 ↔ 0 ≤ n ∧ n ≤ 99))) := by
  refine hs_from pfX12_doubt (fun _ => Nat.le_of_ble_eq_true rfl) ?_
  intro p e s m args below meth c D dA ad A σ C hpre
  have C : hs_C p s m args meth c D dA SHY ad A 2 cX12_doubt RX12 (some .boolean) := C
  have g0 := hpre
  show hs_Wd p l e 2 s m args below meth c D dA SHY ad A 2 (hs_PI (fun σ z σ1 => GY σ σ1 ∧ (z = 0 ∨ z = 1) ∧ (z = 1 ↔ 0 ≤ n ∧ n ≤ 99)) σ) 0 [(0, .ref (ad 0)), (1, vI n)] [] σ
  refine s_aload_n (pc := 0) C dX12_doubt_0 0 rfl ?_
  refine s_iconst (pc := 1) C dX12_doubt_1 ?_
  refine s_puti (q := 0) (ci := 12) (N := 68) (CN := RX12) (T := TX12) (ty0 := tyX12) (ty := .int) (pc := 2) C 2 dX12_doubt_2 wlX12_135 rfl rfl rfl wfX12 tyX12_ok nmX12 (by decide) rfl rfl rfl (vp_nar_int _) rfl ?_
  have g2 := gy_set (z := 0) g0 0 2 rfl (0) (2) rfl ⟨by omega, by omega⟩
  refine s_iload_n (pc := 5) C dX12_doubt_5 1 rfl ?_
  refine s_iconst (pc := 6) C dX12_doubt_6 ?_
  refine s_bipush (pc := 7) C dX12_doubt_7 (by decide) ?_
  refine s_callSi (pc := 9) C (c_X12_isIn l n ⟨by omega, by omega⟩ 0 ⟨by omega, by omega⟩ 99 ⟨by omega, by omega⟩) [vI n, vI 0, vI 99] [] rfl rfl dX12_doubt_9 wlX12_189 wtX12_isIn wcX12_isIn wnX12 noX12_isIn (by decide) (by decide) (Nat.le_of_ble_eq_true rfl) (gy_self g2) ?_
  rintro z9 _ ⟨rfl, k9⟩
  show hs_Wd _ _ _ _ _ _ _ _ _ _ _ _ _ _ _ _ _ 12 _ [vI z9] (hs_ss σ 0 2 0)
  refine s_if_ne (pc := 12) C (tgt := 17) dX12_doubt_12 (by decide) ⟨by omega, by omega⟩ (fun h12 => ?_) (fun h12 => ?_)
  · skip
    refine s_aload_n (pc := 17) C dX12_doubt_17 0 rfl ?_
    refine s_iload_n (pc := 18) C dX12_doubt_18 1 rfl ?_
    refine s_puti (q := 0) (ci := 12) (N := 68) (CN := RX12) (T := TX12) (ty0 := tyX12) (ty := .int) (pc := 19) C 19 dX12_doubt_19 wlX12_327 rfl rfl rfl wfX12 tyX12_ok nmX12 (by decide) rfl rfl rfl (vp_nar_int _) rfl ?_
    have g19 := gy_set (z := n) g2 0 19 rfl (0) (99) rfl ⟨by omega, by omega⟩
    refine s_iconst (pc := 22) C dX12_doubt_22 ?_
    refine s_zret (pc := 23) C (by omega) dX12_doubt_23 ?_
    refine ⟨_, rfl, ?_⟩
    exact ⟨g19, by first | omega | assumption | (constructor <;> omega) | (refine ⟨⟨?_, ?_⟩, ?_⟩ <;> omega) | (simp [hs_ss, hs_up]; omega) | (simp [hs_ss, hs_up]; done)⟩
  · skip
    refine s_iconst (pc := 15) C dX12_doubt_15 ?_
    refine s_zret (pc := 16) C (by omega) dX12_doubt_16 ?_
    refine ⟨_, rfl, ?_⟩
    exact ⟨g2, by first | omega | assumption | (constructor <;> omega) | (refine ⟨⟨?_, ?_⟩, ?_⟩ <;> omega) | (simp [hs_ss, hs_up]; omega) | (simp [hs_ss, hs_up]; done)⟩
set_option maxHeartbeats 4000000 in
set_option maxRecDepth 100000 in
theorem c_X12_days (l : Launch) (n : Int) (hn : hs_R n) : hs_Met l yX12_days cX12_days 2 (some .int) 2 SHY (fun ad => [.ref (ad 0), vI n]) (fun σ => GY σ σ) (hs_PI (fun σ z σ1 => (¬ (0 ≤ n ∧ n ≤ 999 ∧ σ 0 18 + n ≤ 999) → z = -1 ∧ GY σ σ1) ∧ (0 ≤ n ∧ n ≤ 999 ∧ σ 0 18 + n ≤ 999 → z = σ 0 18 + n ∧ GY σ1 σ1 ∧ σ1 0 18 = σ 0 18 + n ∧ σ1 0 1 = σ 0 1 ∧ σ1 0 3 = σ 0 3 ∧ σ1 0 6 = σ 0 6 ∧ σ1 0 61 = σ 0 61))) := by
  refine hs_from pfX12_days (fun _ => Nat.le_of_ble_eq_true rfl) ?_
  intro p e s m args below meth c D dA ad A σ C hpre
  have C : hs_C p s m args meth c D dA SHY ad A 2 cX12_days RX12 (some .int) := C
  have g0 := hpre
  show hs_Wd p l e 2 s m args below meth c D dA SHY ad A 2 (hs_PI (fun σ z σ1 => (¬ (0 ≤ n ∧ n ≤ 999 ∧ σ 0 18 + n ≤ 999) → z = -1 ∧ GY σ σ1) ∧ (0 ≤ n ∧ n ≤ 999 ∧ σ 0 18 + n ≤ 999 → z = σ 0 18 + n ∧ GY σ1 σ1 ∧ σ1 0 18 = σ 0 18 + n ∧ σ1 0 1 = σ 0 1 ∧ σ1 0 3 = σ 0 3 ∧ σ1 0 6 = σ 0 6 ∧ σ1 0 61 = σ 0 61)) σ) 0 [(0, .ref (ad 0)), (1, vI n)] [] σ
  refine s_aload_n (pc := 0) C dX12_days_0 0 rfl ?_
  refine s_iconst (pc := 1) C dX12_days_1 ?_
  refine s_puti (q := 0) (ci := 12) (N := 68) (CN := RX12) (T := TX12) (ty0 := tyX12) (ty := .int) (pc := 2) C 2 dX12_days_2 wlX12_135 rfl rfl rfl wfX12 tyX12_ok nmX12 (by decide) rfl rfl rfl (vp_nar_int _) rfl ?_
  have g2 := gy_set (z := 0) g0 0 2 rfl (0) (2) rfl ⟨by omega, by omega⟩
  refine s_iload_n (pc := 5) C dX12_days_5 1 rfl ?_
  refine s_iconst (pc := 6) C dX12_days_6 ?_
  refine s_sipush (pc := 7) C dX12_days_7 (by decide) ?_
  refine s_callSi (pc := 10) C (c_X12_isIn l n ⟨by omega, by omega⟩ 0 ⟨by omega, by omega⟩ 999 ⟨by omega, by omega⟩) [vI n, vI 0, vI 999] [] rfl rfl dX12_days_10 wlX12_189 wtX12_isIn wcX12_isIn wnX12 noX12_isIn (by decide) (by decide) (Nat.le_of_ble_eq_true rfl) (gy_self g2) ?_
  rintro z10 _ ⟨rfl, k10⟩
  show hs_Wd _ _ _ _ _ _ _ _ _ _ _ _ _ _ _ _ _ 13 _ [vI z10] (hs_ss σ 0 2 0)
  refine s_if_eq (pc := 13) C (tgt := 28) dX12_days_13 (by decide) ⟨by omega, by omega⟩ (fun h13 => ?_) (fun h13 => ?_)
  · skip
    refine s_iconst (pc := 28) C dX12_days_28 ?_
    refine s_iret (pc := 29) C dX12_days_29 ?_
    refine ⟨_, rfl, ?_⟩
    first | exact ⟨fun _ => ⟨rfl, g2⟩, fun q => by exfalso; omega⟩ | exact ⟨fun q => by exfalso; omega, fun _ => ⟨rfl, g2, rfl, rfl, rfl, rfl, rfl⟩⟩
  · skip
    refine s_aload_n (pc := 16) C dX12_days_16 0 rfl ?_
    refine s_geti (q := 0) (ci := 12) (N := 68) (CN := RX12) (T := TX12) (pc := 17) C 18 dX12_days_17 wlX12_199 rfl rfl rfl wfX12 (by decide) rfl (σ 0 18) rfl ?_
    have b17 : (0 : Int) ≤ σ 0 18 ∧ σ 0 18 ≤ 999 := g2.1 0 18
    refine s_iload_n (pc := 20) C dX12_days_20 1 rfl ?_
    refine s_iadd (pc := 21) C dX12_days_21 ?_
    refine s_sipush (pc := 22) C dX12_days_22 (by decide) ?_
    refine s_icmp_le (pc := 25) C (tgt := 30) dX12_days_25 (by decide) ⟨by omega, by omega⟩ ⟨by decide, by decide⟩ (fun h25 => ?_) (fun h25 => ?_)
    · skip
      refine s_aload_n (pc := 30) C dX12_days_30 0 rfl ?_
      refine s_dup (pc := 31) C dX12_days_31 rfl ?_
      refine s_geti (q := 0) (ci := 12) (N := 68) (CN := RX12) (T := TX12) (pc := 32) C 18 dX12_days_32 wlX12_199 rfl rfl rfl wfX12 (by decide) rfl (σ 0 18) rfl ?_
      have b32 : (0 : Int) ≤ σ 0 18 ∧ σ 0 18 ≤ 999 := g2.1 0 18
      refine s_iload_n (pc := 35) C dX12_days_35 1 rfl ?_
      refine s_iadd (pc := 36) C dX12_days_36 ?_
      refine s_puti (q := 0) (ci := 12) (N := 68) (CN := RX12) (T := TX12) (ty0 := tyX12) (ty := .int) (pc := 37) C 18 dX12_days_37 wlX12_199 rfl rfl rfl wfX12 tyX12_ok nmX12 (by decide) rfl rfl rfl (vp_nar_int _) rfl ?_
      have g37 : GY ((hs_ss (hs_ss σ 0 2 0) 0 18 ((σ 0 18) + n))) ((hs_ss (hs_ss σ 0 2 0) 0 18 ((σ 0 18) + n))) := ⟨iby_set (z := σ 0 18 + n) (g2).1 0 18 0 999 rfl (by omega), ky_rf⟩
      refine s_aload_n (pc := 40) C dX12_days_40 0 rfl ?_
      refine s_geti (q := 0) (ci := 12) (N := 68) (CN := RX12) (T := TX12) (pc := 41) C 18 dX12_days_41 wlX12_199 rfl rfl rfl wfX12 (by decide) rfl ((σ 0 18) + n) rfl ?_
      have b41 : (0 : Int) ≤ (σ 0 18) + n ∧ (σ 0 18) + n ≤ 999 := g37.1 0 18
      refine s_iret (pc := 44) C dX12_days_44 ?_
      refine ⟨_, rfl, ?_⟩
      first | exact ⟨fun _ => ⟨rfl, g37⟩, fun q => by exfalso; omega⟩ | exact ⟨fun q => by exfalso; omega, fun _ => ⟨rfl, g37, rfl, rfl, rfl, rfl, rfl⟩⟩
    · skip
      refine s_iconst (pc := 28) C dX12_days_28 ?_
      refine s_iret (pc := 29) C dX12_days_29 ?_
      refine ⟨_, rfl, ?_⟩
      first | exact ⟨fun _ => ⟨rfl, g2⟩, fun q => by exfalso; omega⟩ | exact ⟨fun q => by exfalso; omega, fun _ => ⟨rfl, g2, rfl, rfl, rfl, rfl, rfl⟩⟩
set_option maxHeartbeats 4000000 in
set_option maxRecDepth 100000 in
theorem c_X12_says (l : Launch) (a b w n : Int) (ha : 0 ≤ a ∧ a ≤ 1) (hb : 0 ≤ b ∧ b ≤ 79) (hw : 0 ≤ w ∧ w ≤ 3) (hn : -1 ≤ n ∧ n ≤ 99) : hs_Met l yX12_says cX12_says 5 (some .int) 1 SHY (fun ad => [.ref (ad 0), vI a, vI b, vI w, vI n]) (fun σ => GY σ σ ∧ σ 0 61 < 80) (hs_PI (fun σ z σ1 => z = σ 0 61 ∧ GY σ1 σ1 ∧ σ1 0 61 = σ 0 61 + 1 ∧ σ1 0 1 = σ 0 1 ∧ σ1 0 3 = σ 0 3 ∧ σ1 0 6 = σ 0 6 ∧ σ1 0 18 = σ 0 18)) := by
  refine hs_from pfX12_says (fun _ => Nat.le_of_ble_eq_true rfl) ?_
  intro p e s m args below meth c D dA ad A σ C hpre
  have C : hs_C p s m args meth c D dA SHY ad A 5 cX12_says RX12 (some .int) := C
  obtain ⟨g0, hpre⟩ := hpre
  show hs_Wd p l e 1 s m args below meth c D dA SHY ad A 5 (hs_PI (fun σ z σ1 => z = σ 0 61 ∧ GY σ1 σ1 ∧ σ1 0 61 = σ 0 61 + 1 ∧ σ1 0 1 = σ 0 1 ∧ σ1 0 3 = σ 0 3 ∧ σ1 0 6 = σ 0 6 ∧ σ1 0 18 = σ 0 18) σ) 0 [(0, .ref (ad 0)), (1, vI a), (2, vI b), (3, vI w), (4, vI n)] [] σ
  refine s_aload_n (pc := 0) C dX12_says_0 0 rfl ?_
  refine s_getr (q := 0) (ci := 12) (N := 68) (CN := RX12) (T := TX12) (pc := 1) C 62 dX12_says_1 wlX12_117 rfl rfl rfl wfX12 (by decide) rfl ?_
  refine s_aload_n (pc := 4) C dX12_says_4 0 rfl ?_
  refine s_geti (q := 0) (ci := 12) (N := 68) (CN := RX12) (T := TX12) (pc := 5) C 61 dX12_says_5 wlX12_196 rfl rfl rfl wfX12 (by decide) rfl (σ 0 61) rfl ?_
  have b5 : (0 : Int) ≤ σ 0 61 ∧ σ 0 61 ≤ 80 := g0.1 0 61
  refine s_iload_n (pc := 8) C dX12_says_8 1 rfl ?_
  refine s_iast (q := 34) (n := 80) (pc := 9) C dX12_says_9 rfl (by omega) (by omega) (by decide) ?_
  have g9 := gy_set (z := a) g0 34 ((σ 0 61).toNat) rfl (0) (1) rfl ⟨by omega, by omega⟩
  refine s_aload_n (pc := 10) C dX12_says_10 0 rfl ?_
  refine s_getr (q := 0) (ci := 12) (N := 68) (CN := RX12) (T := TX12) (pc := 11) C 63 dX12_says_11 wlX12_120 rfl rfl rfl wfX12 (by decide) rfl ?_
  refine s_aload_n (pc := 14) C dX12_says_14 0 rfl ?_
  refine s_geti (q := 0) (ci := 12) (N := 68) (CN := RX12) (T := TX12) (pc := 15) C 61 dX12_says_15 wlX12_196 rfl rfl rfl wfX12 (by decide) rfl (σ 0 61) rfl ?_
  have b15 : (0 : Int) ≤ σ 0 61 ∧ σ 0 61 ≤ 80 := g9.1 0 61
  refine s_aload_n (pc := 18) C dX12_says_18 0 rfl ?_
  refine s_geti (q := 0) (ci := 12) (N := 68) (CN := RX12) (T := TX12) (pc := 19) C 18 dX12_says_19 wlX12_199 rfl rfl rfl wfX12 (by decide) rfl (σ 0 18) rfl ?_
  have b19 : (0 : Int) ≤ σ 0 18 ∧ σ 0 18 ≤ 999 := g9.1 0 18
  refine s_iast (q := 35) (n := 80) (pc := 22) C dX12_says_22 rfl (by omega) (by omega) (by decide) ?_
  have g22 := gy_set (z := (σ 0 18)) g9 35 ((σ 0 61).toNat) rfl (0) (999) rfl ⟨by omega, by omega⟩
  refine s_aload_n (pc := 23) C dX12_says_23 0 rfl ?_
  refine s_getr (q := 0) (ci := 12) (N := 68) (CN := RX12) (T := TX12) (pc := 24) C 64 dX12_says_24 wlX12_123 rfl rfl rfl wfX12 (by decide) rfl ?_
  refine s_aload_n (pc := 27) C dX12_says_27 0 rfl ?_
  refine s_geti (q := 0) (ci := 12) (N := 68) (CN := RX12) (T := TX12) (pc := 28) C 61 dX12_says_28 wlX12_196 rfl rfl rfl wfX12 (by decide) rfl (σ 0 61) rfl ?_
  have b28 : (0 : Int) ≤ σ 0 61 ∧ σ 0 61 ≤ 80 := g22.1 0 61
  refine s_iload_n (pc := 31) C dX12_says_31 2 rfl ?_
  refine s_iast (q := 36) (n := 80) (pc := 32) C dX12_says_32 rfl (by omega) (by omega) (by decide) ?_
  have g32 := gy_set (z := b) g22 36 ((σ 0 61).toNat) rfl (0) (79) rfl ⟨by omega, by omega⟩
  refine s_aload_n (pc := 33) C dX12_says_33 0 rfl ?_
  refine s_getr (q := 0) (ci := 12) (N := 68) (CN := RX12) (T := TX12) (pc := 34) C 65 dX12_says_34 wlX12_126 rfl rfl rfl wfX12 (by decide) rfl ?_
  refine s_aload_n (pc := 37) C dX12_says_37 0 rfl ?_
  refine s_geti (q := 0) (ci := 12) (N := 68) (CN := RX12) (T := TX12) (pc := 38) C 61 dX12_says_38 wlX12_196 rfl rfl rfl wfX12 (by decide) rfl (σ 0 61) rfl ?_
  have b38 : (0 : Int) ≤ σ 0 61 ∧ σ 0 61 ≤ 80 := g32.1 0 61
  refine s_iload_n (pc := 41) C dX12_says_41 3 rfl ?_
  refine s_iast (q := 37) (n := 80) (pc := 42) C dX12_says_42 rfl (by omega) (by omega) (by decide) ?_
  have g42 := gy_set (z := w) g32 37 ((σ 0 61).toNat) rfl (0) (3) rfl ⟨by omega, by omega⟩
  refine s_aload_n (pc := 43) C dX12_says_43 0 rfl ?_
  refine s_getr (q := 0) (ci := 12) (N := 68) (CN := RX12) (T := TX12) (pc := 44) C 66 dX12_says_44 wlX12_129 rfl rfl rfl wfX12 (by decide) rfl ?_
  refine s_aload_n (pc := 47) C dX12_says_47 0 rfl ?_
  refine s_geti (q := 0) (ci := 12) (N := 68) (CN := RX12) (T := TX12) (pc := 48) C 61 dX12_says_48 wlX12_196 rfl rfl rfl wfX12 (by decide) rfl (σ 0 61) rfl ?_
  have b48 : (0 : Int) ≤ σ 0 61 ∧ σ 0 61 ≤ 80 := g42.1 0 61
  refine s_iload (pc := 51) C dX12_says_51 4 rfl ?_
  refine s_iast (q := 38) (n := 80) (pc := 53) C dX12_says_53 rfl (by omega) (by omega) (by decide) ?_
  have g53 := gy_set (z := n) g42 38 ((σ 0 61).toNat) rfl (-1) (99) rfl ⟨by omega, by omega⟩
  refine s_aload_n (pc := 54) C dX12_says_54 0 rfl ?_
  refine s_dup (pc := 55) C dX12_says_55 rfl ?_
  refine s_geti (q := 0) (ci := 12) (N := 68) (CN := RX12) (T := TX12) (pc := 56) C 61 dX12_says_56 wlX12_196 rfl rfl rfl wfX12 (by decide) rfl (σ 0 61) rfl ?_
  have b56 : (0 : Int) ≤ σ 0 61 ∧ σ 0 61 ≤ 80 := g53.1 0 61
  refine s_iconst (pc := 59) C dX12_says_59 ?_
  refine s_iadd (pc := 60) C dX12_says_60 ?_
  refine s_puti (q := 0) (ci := 12) (N := 68) (CN := RX12) (T := TX12) (ty0 := tyX12) (ty := .int) (pc := 61) C 61 dX12_says_61 wlX12_196 rfl rfl rfl wfX12 tyX12_ok nmX12 (by decide) rfl rfl rfl (vp_nar_int _) rfl ?_
  have g61 : GY ((hs_ss (hs_ss (hs_ss (hs_ss (hs_ss (hs_ss σ 34 ((σ 0 61).toNat) a) 35 ((σ 0 61).toNat) (σ 0 18)) 36 ((σ 0 61).toNat) b) 37 ((σ 0 61).toNat) w) 38 ((σ 0 61).toNat) n) 0 61 ((σ 0 61) + 1))) ((hs_ss (hs_ss (hs_ss (hs_ss (hs_ss (hs_ss σ 34 ((σ 0 61).toNat) a) 35 ((σ 0 61).toNat) (σ 0 18)) 36 ((σ 0 61).toNat) b) 37 ((σ 0 61).toNat) w) 38 ((σ 0 61).toNat) n) 0 61 ((σ 0 61) + 1))) := ⟨iby_set (z := σ 0 61 + 1) (g53).1 0 61 0 80 rfl (by omega), ky_rf⟩
  refine s_aload_n (pc := 64) C dX12_says_64 0 rfl ?_
  refine s_geti (q := 0) (ci := 12) (N := 68) (CN := RX12) (T := TX12) (pc := 65) C 61 dX12_says_65 wlX12_196 rfl rfl rfl wfX12 (by decide) rfl ((σ 0 61) + 1) rfl ?_
  have b65 : (0 : Int) ≤ (σ 0 61) + 1 ∧ (σ 0 61) + 1 ≤ 80 := g61.1 0 61
  refine s_iconst (pc := 68) C dX12_says_68 ?_
  refine s_isub (pc := 69) C dX12_says_69 ?_
  refine s_iret (pc := 70) C dX12_says_70 ?_
  refine ⟨_, rfl, ?_⟩
  exact ⟨by omega, g61, rfl, rfl, rfl, rfl, rfl⟩
set_option maxHeartbeats 4000000 in
set_option maxRecDepth 100000 in
theorem c_X12_tell (l : Launch) (a : Int) (ha : hs_R a) (w : Int) (hw : hs_R w) (n : Int) (hn : hs_R n) : hs_Met l yX12_tell cX12_tell 4 (some .int) 3 SHY (fun ad => [.ref (ad 0), vI a, vI w, vI n]) (fun σ => GY σ σ) (hs_PI (fun σ z σ1 => (¬ (0 ≤ a ∧ a ≤ 5 ∧ 0 ≤ w ∧ w < σ 0 6 ∧ (n = -1 ∨ (0 ≤ n ∧ n < σ 0 3)) ∧ σ 0 61 < 80) → z = -1 ∧ GY σ σ1) ∧ (0 ≤ a ∧ a ≤ 5 ∧ 0 ≤ w ∧ w < σ 0 6 ∧ (n = -1 ∨ (0 ≤ n ∧ n < σ 0 3)) ∧ σ 0 61 < 80 → z = σ 0 61 ∧ GY σ1 σ1 ∧ σ1 0 61 = σ 0 61 + 1 ∧ σ1 0 1 = σ 0 1 ∧ σ1 0 3 = σ 0 3 ∧ σ1 0 6 = σ 0 6 ∧ σ1 0 18 = σ 0 18))) := by
  refine hs_from pfX12_tell (fun _ => Nat.le_of_ble_eq_true rfl) ?_
  intro p e s m args below meth c D dA ad A σ C hpre
  have C : hs_C p s m args meth c D dA SHY ad A 4 cX12_tell RX12 (some .int) := C
  have g0 := hpre
  have b06 : (0 : Int) ≤ σ 0 6 ∧ σ 0 6 ≤ 4 := g0.1 0 6
  have b03 : (10 : Int) ≤ σ 0 3 ∧ σ 0 3 ≤ 100 := g0.1 0 3
  have b61 : (0 : Int) ≤ σ 0 61 ∧ σ 0 61 ≤ 80 := g0.1 0 61
  show hs_Wd p l e 3 s m args below meth c D dA SHY ad A 4 (hs_PI (fun σ z σ1 => (¬ (0 ≤ a ∧ a ≤ 5 ∧ 0 ≤ w ∧ w < σ 0 6 ∧ (n = -1 ∨ (0 ≤ n ∧ n < σ 0 3)) ∧ σ 0 61 < 80) → z = -1 ∧ GY σ σ1) ∧ (0 ≤ a ∧ a ≤ 5 ∧ 0 ≤ w ∧ w < σ 0 6 ∧ (n = -1 ∨ (0 ≤ n ∧ n < σ 0 3)) ∧ σ 0 61 < 80 → z = σ 0 61 ∧ GY σ1 σ1 ∧ σ1 0 61 = σ 0 61 + 1 ∧ σ1 0 1 = σ 0 1 ∧ σ1 0 3 = σ 0 3 ∧ σ1 0 6 = σ 0 6 ∧ σ1 0 18 = σ 0 18)) σ) 0 [(0, .ref (ad 0)), (1, vI a), (2, vI w), (3, vI n)] [] σ
  refine s_aload_n (pc := 0) C dX12_tell_0 0 rfl ?_
  refine s_iconst (pc := 1) C dX12_tell_1 ?_
  refine s_puti (q := 0) (ci := 12) (N := 68) (CN := RX12) (T := TX12) (ty0 := tyX12) (ty := .int) (pc := 2) C 2 dX12_tell_2 wlX12_135 rfl rfl rfl wfX12 tyX12_ok nmX12 (by decide) rfl rfl rfl (vp_nar_int _) rfl ?_
  have g2 := gy_set (z := 0) g0 0 2 rfl (0) (2) rfl ⟨by omega, by omega⟩
  refine s_aload_n (pc := 5) C dX12_tell_5 0 rfl ?_
  refine s_geti (q := 0) (ci := 12) (N := 68) (CN := RX12) (T := TX12) (pc := 6) C 61 dX12_tell_6 wlX12_196 rfl rfl rfl wfX12 (by decide) rfl (σ 0 61) rfl ?_
  have b6 : (0 : Int) ≤ σ 0 61 ∧ σ 0 61 ≤ 80 := g2.1 0 61
  refine s_bipush (pc := 9) C dX12_tell_9 (by decide) ?_
  refine s_icmp_eq (pc := 11) C (tgt := 44) dX12_tell_11 (by decide) ⟨by omega, by omega⟩ ⟨by decide, by decide⟩ (fun h11 => ?_) (fun h11 => ?_)
  · skip
    refine s_iconst (pc := 44) C dX12_tell_44 ?_
    refine s_goto (pc := 45) C (tgt := 56) dX12_tell_45 (by decide) ?_
    refine s_iret (pc := 56) C dX12_tell_56 ?_
    refine ⟨_, rfl, ?_⟩
    first | exact ⟨fun _ => ⟨rfl, g2⟩, fun q => by exfalso; omega⟩ | exact ⟨fun q => absurd (by omega) q, fun _ => k53⟩
  · skip
    refine s_iload_n (pc := 14) C dX12_tell_14 1 rfl ?_
    refine s_iconst (pc := 15) C dX12_tell_15 ?_
    refine s_iconst (pc := 16) C dX12_tell_16 ?_
    refine s_callSi (pc := 17) C (c_X12_isIn l a ⟨by omega, by omega⟩ 0 ⟨by omega, by omega⟩ 5 ⟨by omega, by omega⟩) [vI a, vI 0, vI 5] [] rfl rfl dX12_tell_17 wlX12_189 wtX12_isIn wcX12_isIn wnX12 noX12_isIn (by decide) (by decide) (Nat.le_of_ble_eq_true rfl) (gy_self g2) ?_
    rintro z17 _ ⟨rfl, k17⟩
    show hs_Wd _ _ _ _ _ _ _ _ _ _ _ _ _ _ _ _ _ 20 _ [vI z17] (hs_ss σ 0 2 0)
    refine s_if_eq (pc := 20) C (tgt := 44) dX12_tell_20 (by decide) ⟨by omega, by omega⟩ (fun h20 => ?_) (fun h20 => ?_)
    · skip
      refine s_iconst (pc := 44) C dX12_tell_44 ?_
      refine s_goto (pc := 45) C (tgt := 56) dX12_tell_45 (by decide) ?_
      refine s_iret (pc := 56) C dX12_tell_56 ?_
      refine ⟨_, rfl, ?_⟩
      first | exact ⟨fun _ => ⟨rfl, g2⟩, fun q => by exfalso; omega⟩ | exact ⟨fun q => absurd (by omega) q, fun _ => k53⟩
    · skip
      refine s_aload_n (pc := 23) C dX12_tell_23 0 rfl ?_
      refine s_iload_n (pc := 24) C dX12_tell_24 2 rfl ?_
      have r25_0_6 : (hs_ss σ 0 2 0) 0 6 = σ 0 6 := rfl
      refine s_callVi (pc := 25) C (c_X12_isWheel l w ⟨by omega, by omega⟩) [vI w] [] rfl rfl dX12_tell_25 wlX12_208 wiX12_isWheel weX12_isWheel wcX12_isWheel wnX12 noX12_isWheel (by decide) (by decide) (Nat.le_of_ble_eq_true rfl) (gy_self g2) rfl rfl ?_
      rintro z25 _ ⟨rfl, k25⟩
      show hs_Wd _ _ _ _ _ _ _ _ _ _ _ _ _ _ _ _ _ 28 _ [vI z25] (hs_ss σ 0 2 0)
      refine s_if_eq (pc := 28) C (tgt := 44) dX12_tell_28 (by decide) ⟨by omega, by omega⟩ (fun h28 => ?_) (fun h28 => ?_)
      · skip
        refine s_iconst (pc := 44) C dX12_tell_44 ?_
        refine s_goto (pc := 45) C (tgt := 56) dX12_tell_45 (by decide) ?_
        refine s_iret (pc := 56) C dX12_tell_56 ?_
        refine ⟨_, rfl, ?_⟩
        first | exact ⟨fun _ => ⟨rfl, g2⟩, fun q => by exfalso; omega⟩ | exact ⟨fun q => absurd (by omega) q, fun _ => k53⟩
      · skip
        refine s_iload_n (pc := 31) C dX12_tell_31 3 rfl ?_
        refine s_iconst (pc := 32) C dX12_tell_32 ?_
        refine s_icmp_eq (pc := 33) C (tgt := 48) dX12_tell_33 (by decide) ⟨by omega, by omega⟩ ⟨by decide, by decide⟩ (fun h33 => ?_) (fun h33 => ?_)
        · skip
          refine s_aload_n (pc := 48) C dX12_tell_48 0 rfl ?_
          refine s_iconst (pc := 49) C dX12_tell_49 ?_
          refine s_iload_n (pc := 50) C dX12_tell_50 1 rfl ?_
          refine s_iload_n (pc := 51) C dX12_tell_51 2 rfl ?_
          refine s_iload_n (pc := 52) C dX12_tell_52 3 rfl ?_
          have r53_0_1 : (hs_ss σ 0 2 0) 0 1 = σ 0 1 := rfl
          have r53_0_18 : (hs_ss σ 0 2 0) 0 18 = σ 0 18 := rfl
          have r53_0_3 : (hs_ss σ 0 2 0) 0 3 = σ 0 3 := rfl
          have r53_0_6 : (hs_ss σ 0 2 0) 0 6 = σ 0 6 := rfl
          have r53_0_61 : (hs_ss σ 0 2 0) 0 61 = σ 0 61 := rfl
          refine s_callVi (pc := 53) C (c_X12_says l 0 a w n (by first | omega | assumption | (constructor <;> omega) | (refine ⟨⟨?_, ?_⟩, ?_⟩ <;> omega) | (simp [hs_ss, hs_up]; omega) | (simp [hs_ss, hs_up]; done)) (by first | omega | assumption | (constructor <;> omega) | (refine ⟨⟨?_, ?_⟩, ?_⟩ <;> omega) | (simp [hs_ss, hs_up]; omega) | (simp [hs_ss, hs_up]; done)) (by first | omega | assumption | (constructor <;> omega) | (refine ⟨⟨?_, ?_⟩, ?_⟩ <;> omega) | (simp [hs_ss, hs_up]; omega) | (simp [hs_ss, hs_up]; done)) (by first | omega | assumption | (constructor <;> omega) | (refine ⟨⟨?_, ?_⟩, ?_⟩ <;> omega) | (simp [hs_ss, hs_up]; omega) | (simp [hs_ss, hs_up]; done))) [vI 0, vI a, vI w, vI n] [] rfl rfl dX12_tell_53 wlX12_376 wiX12_says weX12_says wcX12_says wnX12 noX12_says (by decide) (by decide) (Nat.le_of_ble_eq_true rfl) ⟨gy_self g2, by show σ 0 61 < 80; omega⟩ rfl rfl ?_
          rintro z53 σ53 k53
          show hs_Wd _ _ _ _ _ _ _ _ _ _ _ _ _ _ _ _ _ 56 _ [vI z53] σ53
          refine s_iret (pc := 56) C dX12_tell_56 ?_
          refine ⟨_, rfl, ?_⟩
          first | exact ⟨fun _ => ⟨rfl, g2⟩, fun q => by exfalso; omega⟩ | exact ⟨fun q => absurd (by omega) q, fun _ => k53⟩
        · skip
          refine s_aload_n (pc := 36) C dX12_tell_36 0 rfl ?_
          refine s_iload_n (pc := 37) C dX12_tell_37 3 rfl ?_
          have r38_0_3 : (hs_ss σ 0 2 0) 0 3 = σ 0 3 := rfl
          refine s_callVi (pc := 38) C (c_X12_isNumber l n ⟨by omega, by omega⟩) [vI n] [] rfl rfl dX12_tell_38 wlX12_205 wiX12_isNumber weX12_isNumber wcX12_isNumber wnX12 noX12_isNumber (by decide) (by decide) (Nat.le_of_ble_eq_true rfl) (gy_self g2) rfl rfl ?_
          rintro z38 _ ⟨rfl, k38⟩
          show hs_Wd _ _ _ _ _ _ _ _ _ _ _ _ _ _ _ _ _ 41 _ [vI z38] (hs_ss σ 0 2 0)
          refine s_if_ne (pc := 41) C (tgt := 48) dX12_tell_41 (by decide) ⟨by omega, by omega⟩ (fun h41 => ?_) (fun h41 => ?_)
          · skip
            refine s_aload_n (pc := 48) C dX12_tell_48 0 rfl ?_
            refine s_iconst (pc := 49) C dX12_tell_49 ?_
            refine s_iload_n (pc := 50) C dX12_tell_50 1 rfl ?_
            refine s_iload_n (pc := 51) C dX12_tell_51 2 rfl ?_
            refine s_iload_n (pc := 52) C dX12_tell_52 3 rfl ?_
            have r53_0_1 : (hs_ss σ 0 2 0) 0 1 = σ 0 1 := rfl
            have r53_0_18 : (hs_ss σ 0 2 0) 0 18 = σ 0 18 := rfl
            have r53_0_3 : (hs_ss σ 0 2 0) 0 3 = σ 0 3 := rfl
            have r53_0_6 : (hs_ss σ 0 2 0) 0 6 = σ 0 6 := rfl
            have r53_0_61 : (hs_ss σ 0 2 0) 0 61 = σ 0 61 := rfl
            refine s_callVi (pc := 53) C (c_X12_says l 0 a w n (by first | omega | assumption | (constructor <;> omega) | (refine ⟨⟨?_, ?_⟩, ?_⟩ <;> omega) | (simp [hs_ss, hs_up]; omega) | (simp [hs_ss, hs_up]; done)) (by first | omega | assumption | (constructor <;> omega) | (refine ⟨⟨?_, ?_⟩, ?_⟩ <;> omega) | (simp [hs_ss, hs_up]; omega) | (simp [hs_ss, hs_up]; done)) (by first | omega | assumption | (constructor <;> omega) | (refine ⟨⟨?_, ?_⟩, ?_⟩ <;> omega) | (simp [hs_ss, hs_up]; omega) | (simp [hs_ss, hs_up]; done)) (by first | omega | assumption | (constructor <;> omega) | (refine ⟨⟨?_, ?_⟩, ?_⟩ <;> omega) | (simp [hs_ss, hs_up]; omega) | (simp [hs_ss, hs_up]; done))) [vI 0, vI a, vI w, vI n] [] rfl rfl dX12_tell_53 wlX12_376 wiX12_says weX12_says wcX12_says wnX12 noX12_says (by decide) (by decide) (Nat.le_of_ble_eq_true rfl) ⟨gy_self g2, by show σ 0 61 < 80; omega⟩ rfl rfl ?_
            rintro z53 σ53 k53
            show hs_Wd _ _ _ _ _ _ _ _ _ _ _ _ _ _ _ _ _ 56 _ [vI z53] σ53
            refine s_iret (pc := 56) C dX12_tell_56 ?_
            refine ⟨_, rfl, ?_⟩
            first | exact ⟨fun _ => ⟨rfl, g2⟩, fun q => by exfalso; omega⟩ | exact ⟨fun q => absurd (by omega) q, fun _ => k53⟩
          · skip
            refine s_iconst (pc := 44) C dX12_tell_44 ?_
            refine s_goto (pc := 45) C (tgt := 56) dX12_tell_45 (by decide) ?_
            refine s_iret (pc := 56) C dX12_tell_56 ?_
            refine ⟨_, rfl, ?_⟩
            first | exact ⟨fun _ => ⟨rfl, g2⟩, fun q => by exfalso; omega⟩ | exact ⟨fun q => absurd (by omega) q, fun _ => k53⟩
set_option maxHeartbeats 4000000 in
set_option maxRecDepth 100000 in
theorem c_X12_strike (l : Launch) (n : Int) (hn : hs_R n) : hs_Met l yX12_strike cX12_strike 2 (some .int) 3 SHY (fun ad => [.ref (ad 0), vI n]) (fun σ => GY σ σ) (hs_PI (fun σ z σ1 => (¬ (0 ≤ n ∧ n < σ 0 61 ∧ σ 0 61 < 80) → z = -1 ∧ GY σ σ1) ∧ (0 ≤ n ∧ n < σ 0 61 ∧ σ 0 61 < 80 → z = σ 0 61 ∧ GY σ1 σ1 ∧ σ1 0 61 = σ 0 61 + 1 ∧ σ1 0 1 = σ 0 1 ∧ σ1 0 3 = σ 0 3 ∧ σ1 0 6 = σ 0 6 ∧ σ1 0 18 = σ 0 18))) := by
  refine hs_from pfX12_strike (fun _ => Nat.le_of_ble_eq_true rfl) ?_
  intro p e s m args below meth c D dA ad A σ C hpre
  have C : hs_C p s m args meth c D dA SHY ad A 2 cX12_strike RX12 (some .int) := C
  have g0 := hpre
  have b06 : (0 : Int) ≤ σ 0 6 ∧ σ 0 6 ≤ 4 := g0.1 0 6
  have b03 : (10 : Int) ≤ σ 0 3 ∧ σ 0 3 ≤ 100 := g0.1 0 3
  have b61 : (0 : Int) ≤ σ 0 61 ∧ σ 0 61 ≤ 80 := g0.1 0 61
  show hs_Wd p l e 3 s m args below meth c D dA SHY ad A 2 (hs_PI (fun σ z σ1 => (¬ (0 ≤ n ∧ n < σ 0 61 ∧ σ 0 61 < 80) → z = -1 ∧ GY σ σ1) ∧ (0 ≤ n ∧ n < σ 0 61 ∧ σ 0 61 < 80 → z = σ 0 61 ∧ GY σ1 σ1 ∧ σ1 0 61 = σ 0 61 + 1 ∧ σ1 0 1 = σ 0 1 ∧ σ1 0 3 = σ 0 3 ∧ σ1 0 6 = σ 0 6 ∧ σ1 0 18 = σ 0 18)) σ) 0 [(0, .ref (ad 0)), (1, vI n)] [] σ
  refine s_aload_n (pc := 0) C dX12_strike_0 0 rfl ?_
  refine s_iconst (pc := 1) C dX12_strike_1 ?_
  refine s_puti (q := 0) (ci := 12) (N := 68) (CN := RX12) (T := TX12) (ty0 := tyX12) (ty := .int) (pc := 2) C 2 dX12_strike_2 wlX12_135 rfl rfl rfl wfX12 tyX12_ok nmX12 (by decide) rfl rfl rfl (vp_nar_int _) rfl ?_
  have g2 := gy_set (z := 0) g0 0 2 rfl (0) (2) rfl ⟨by omega, by omega⟩
  refine s_aload_n (pc := 5) C dX12_strike_5 0 rfl ?_
  refine s_geti (q := 0) (ci := 12) (N := 68) (CN := RX12) (T := TX12) (pc := 6) C 61 dX12_strike_6 wlX12_196 rfl rfl rfl wfX12 (by decide) rfl (σ 0 61) rfl ?_
  have b6 : (0 : Int) ≤ σ 0 61 ∧ σ 0 61 ≤ 80 := g2.1 0 61
  refine s_bipush (pc := 9) C dX12_strike_9 (by decide) ?_
  refine s_icmp_eq (pc := 11) C (tgt := 26) dX12_strike_11 (by decide) ⟨by omega, by omega⟩ ⟨by decide, by decide⟩ (fun h11 => ?_) (fun h11 => ?_)
  · skip
    refine s_iconst (pc := 26) C dX12_strike_26 ?_
    refine s_goto (pc := 27) C (tgt := 38) dX12_strike_27 (by decide) ?_
    refine s_iret (pc := 38) C dX12_strike_38 ?_
    refine ⟨_, rfl, ?_⟩
    first | exact ⟨fun _ => ⟨rfl, g2⟩, fun q => by exfalso; omega⟩ | exact ⟨fun q => absurd (by omega) q, fun _ => k35⟩
  · skip
    refine s_iload_n (pc := 14) C dX12_strike_14 1 rfl ?_
    refine s_if_lt (pc := 15) C (tgt := 26) dX12_strike_15 (by decide) ⟨by omega, by omega⟩ (fun h15 => ?_) (fun h15 => ?_)
    · skip
      refine s_iconst (pc := 26) C dX12_strike_26 ?_
      refine s_goto (pc := 27) C (tgt := 38) dX12_strike_27 (by decide) ?_
      refine s_iret (pc := 38) C dX12_strike_38 ?_
      refine ⟨_, rfl, ?_⟩
      first | exact ⟨fun _ => ⟨rfl, g2⟩, fun q => by exfalso; omega⟩ | exact ⟨fun q => absurd (by omega) q, fun _ => k35⟩
    · skip
      refine s_iload_n (pc := 18) C dX12_strike_18 1 rfl ?_
      refine s_aload_n (pc := 19) C dX12_strike_19 0 rfl ?_
      refine s_geti (q := 0) (ci := 12) (N := 68) (CN := RX12) (T := TX12) (pc := 20) C 61 dX12_strike_20 wlX12_196 rfl rfl rfl wfX12 (by decide) rfl (σ 0 61) rfl ?_
      have b20 : (0 : Int) ≤ σ 0 61 ∧ σ 0 61 ≤ 80 := g2.1 0 61
      refine s_icmp_lt (pc := 23) C (tgt := 30) dX12_strike_23 (by decide) ⟨by omega, by omega⟩ ⟨by omega, by omega⟩ (fun h23 => ?_) (fun h23 => ?_)
      · skip
        refine s_aload_n (pc := 30) C dX12_strike_30 0 rfl ?_
        refine s_iconst (pc := 31) C dX12_strike_31 ?_
        refine s_iload_n (pc := 32) C dX12_strike_32 1 rfl ?_
        refine s_iconst (pc := 33) C dX12_strike_33 ?_
        refine s_iconst (pc := 34) C dX12_strike_34 ?_
        have r35_0_1 : (hs_ss σ 0 2 0) 0 1 = σ 0 1 := rfl
        have r35_0_18 : (hs_ss σ 0 2 0) 0 18 = σ 0 18 := rfl
        have r35_0_3 : (hs_ss σ 0 2 0) 0 3 = σ 0 3 := rfl
        have r35_0_6 : (hs_ss σ 0 2 0) 0 6 = σ 0 6 := rfl
        have r35_0_61 : (hs_ss σ 0 2 0) 0 61 = σ 0 61 := rfl
        refine s_callVi (pc := 35) C (c_X12_says l 1 n 0 0 (by first | omega | assumption | (constructor <;> omega) | (refine ⟨⟨?_, ?_⟩, ?_⟩ <;> omega) | (simp [hs_ss, hs_up]; omega) | (simp [hs_ss, hs_up]; done)) (by first | omega | assumption | (constructor <;> omega) | (refine ⟨⟨?_, ?_⟩, ?_⟩ <;> omega) | (simp [hs_ss, hs_up]; omega) | (simp [hs_ss, hs_up]; done)) (by first | omega | assumption | (constructor <;> omega) | (refine ⟨⟨?_, ?_⟩, ?_⟩ <;> omega) | (simp [hs_ss, hs_up]; omega) | (simp [hs_ss, hs_up]; done)) (by first | omega | assumption | (constructor <;> omega) | (refine ⟨⟨?_, ?_⟩, ?_⟩ <;> omega) | (simp [hs_ss, hs_up]; omega) | (simp [hs_ss, hs_up]; done))) [vI 1, vI n, vI 0, vI 0] [] rfl rfl dX12_strike_35 wlX12_376 wiX12_says weX12_says wcX12_says wnX12 noX12_says (by decide) (by decide) (Nat.le_of_ble_eq_true rfl) ⟨gy_self g2, by show σ 0 61 < 80; omega⟩ rfl rfl ?_
        rintro z35 σ35 k35
        show hs_Wd _ _ _ _ _ _ _ _ _ _ _ _ _ _ _ _ _ 38 _ [vI z35] σ35
        refine s_iret (pc := 38) C dX12_strike_38 ?_
        refine ⟨_, rfl, ?_⟩
        first | exact ⟨fun _ => ⟨rfl, g2⟩, fun q => by exfalso; omega⟩ | exact ⟨fun q => absurd (by omega) q, fun _ => k35⟩
      · skip
        refine s_iconst (pc := 26) C dX12_strike_26 ?_
        refine s_goto (pc := 27) C (tgt := 38) dX12_strike_27 (by decide) ?_
        refine s_iret (pc := 38) C dX12_strike_38 ?_
        refine ⟨_, rfl, ?_⟩
        first | exact ⟨fun _ => ⟨rfl, g2⟩, fun q => by exfalso; omega⟩ | exact ⟨fun q => absurd (by omega) q, fun _ => k35⟩
set_option maxHeartbeats 4000000 in
set_option maxRecDepth 100000 in
theorem c_X12_gate (l : Launch) (w : Int) (hw : hs_R w) (d : Int) (hd : hs_R d) : hs_Met l yX12_gate cX12_gate 3 (some .int) 2 SHY (fun ad => [.ref (ad 0), vI w, vI d]) (fun σ => GY σ σ) (hs_PI (fun σ z σ1 => GY σ σ1 ∧ -1 ≤ z ∧ z ≤ 99 ∧ (σ 0 6 = 0 → z = -1))) := by
  refine hs_from pfX12_gate (fun _ => Nat.le_of_ble_eq_true rfl) ?_
  intro p e s m args below meth c D dA ad A σ C hpre
  have C : hs_C p s m args meth c D dA SHY ad A 3 cX12_gate RX12 (some .int) := C
  have g0 := hpre
  have b06 : (0 : Int) ≤ σ 0 6 ∧ σ 0 6 ≤ 4 := g0.1 0 6
  show hs_Wd p l e 2 s m args below meth c D dA SHY ad A 3 (hs_PI (fun σ z σ1 => GY σ σ1 ∧ -1 ≤ z ∧ z ≤ 99 ∧ (σ 0 6 = 0 → z = -1)) σ) 0 [(0, .ref (ad 0)), (1, vI w), (2, vI d)] [] σ
  refine s_aload_n (pc := 0) C dX12_gate_0 0 rfl ?_
  refine s_iconst (pc := 1) C dX12_gate_1 ?_
  refine s_puti (q := 0) (ci := 12) (N := 68) (CN := RX12) (T := TX12) (ty0 := tyX12) (ty := .int) (pc := 2) C 2 dX12_gate_2 wlX12_135 rfl rfl rfl wfX12 tyX12_ok nmX12 (by decide) rfl rfl rfl (vp_nar_int _) rfl ?_
  have g2 := gy_set (z := 0) g0 0 2 rfl (0) (2) rfl ⟨by omega, by omega⟩
  refine s_aload_n (pc := 5) C dX12_gate_5 0 rfl ?_
  refine s_iload_n (pc := 6) C dX12_gate_6 1 rfl ?_
  have r7_0_6 : (hs_ss σ 0 2 0) 0 6 = σ 0 6 := rfl
  refine s_callVi (pc := 7) C (c_X12_isWheel l w ⟨by omega, by omega⟩) [vI w] [] rfl rfl dX12_gate_7 wlX12_208 wiX12_isWheel weX12_isWheel wcX12_isWheel wnX12 noX12_isWheel (by decide) (by decide) (Nat.le_of_ble_eq_true rfl) (gy_self g2) rfl rfl ?_
  rintro z7 _ ⟨rfl, k7⟩
  show hs_Wd _ _ _ _ _ _ _ _ _ _ _ _ _ _ _ _ _ 10 _ [vI z7] (hs_ss σ 0 2 0)
  refine s_if_eq (pc := 10) C (tgt := 39) dX12_gate_10 (by decide) ⟨by omega, by omega⟩ (fun h10 => ?_) (fun h10 => ?_)
  · skip
    refine s_iconst (pc := 39) C dX12_gate_39 ?_
    refine s_iret (pc := 40) C dX12_gate_40 ?_
    refine ⟨_, rfl, ?_⟩
    exact ⟨g2, by first | omega | assumption | (constructor <;> omega) | (refine ⟨⟨?_, ?_⟩, ?_⟩ <;> omega) | (simp [hs_ss, hs_up]; omega) | (simp [hs_ss, hs_up]; done)⟩
  · skip
    refine s_iload_n (pc := 13) C dX12_gate_13 2 rfl ?_
    refine s_iconst (pc := 14) C dX12_gate_14 ?_
    refine s_sipush (pc := 15) C dX12_gate_15 (by decide) ?_
    refine s_callSi (pc := 18) C (c_X12_isIn l d ⟨by omega, by omega⟩ 0 ⟨by omega, by omega⟩ 999 ⟨by omega, by omega⟩) [vI d, vI 0, vI 999] [] rfl rfl dX12_gate_18 wlX12_189 wtX12_isIn wcX12_isIn wnX12 noX12_isIn (by decide) (by decide) (Nat.le_of_ble_eq_true rfl) (gy_self g2) ?_
    rintro z18 _ ⟨rfl, k18⟩
    show hs_Wd _ _ _ _ _ _ _ _ _ _ _ _ _ _ _ _ _ 21 _ [vI z18] (hs_ss σ 0 2 0)
    refine s_if_eq (pc := 21) C (tgt := 39) dX12_gate_21 (by decide) ⟨by omega, by omega⟩ (fun h21 => ?_) (fun h21 => ?_)
    · skip
      refine s_iconst (pc := 39) C dX12_gate_39 ?_
      refine s_iret (pc := 40) C dX12_gate_40 ?_
      refine ⟨_, rfl, ?_⟩
      exact ⟨g2, by first | omega | assumption | (constructor <;> omega) | (refine ⟨⟨?_, ?_⟩, ?_⟩ <;> omega) | (simp [hs_ss, hs_up]; omega) | (simp [hs_ss, hs_up]; done)⟩
    · skip
      refine s_aload_n (pc := 24) C dX12_gate_24 0 rfl ?_
      refine s_getr (q := 0) (ci := 12) (N := 68) (CN := RX12) (T := TX12) (pc := 25) C 22 dX12_gate_25 wlX12_50 rfl rfl rfl wfX12 (by decide) rfl ?_
      refine s_sipush (pc := 28) C dX12_gate_28 (by decide) ?_
      refine s_iload_n (pc := 31) C dX12_gate_31 1 rfl ?_
      refine s_imul (pc := 32) C dX12_gate_32 ?_
      refine s_iload_n (pc := 33) C dX12_gate_33 2 rfl ?_
      refine s_iadd (pc := 34) C dX12_gate_34 ?_
      refine s_iald (q := 13) (n := 4000) (pc := 35) C (σ 13 (((1000 * w) + d).toNat)) rfl dX12_gate_35 rfl (by omega) (by omega) (by decide) ?_
      have b35 : (0 : Int) ≤ σ 13 (((1000 * w) + d).toNat) ∧ σ 13 (((1000 * w) + d).toNat) ≤ 99 := g2.1 13 (((1000 * w) + d).toNat)
      refine s_goto (pc := 36) C (tgt := 40) dX12_gate_36 (by decide) ?_
      refine s_iret (pc := 40) C dX12_gate_40 ?_
      refine ⟨_, rfl, ?_⟩
      exact ⟨g2, by first | omega | assumption | (constructor <;> omega) | (refine ⟨⟨?_, ?_⟩, ?_⟩ <;> omega) | (simp [hs_ss, hs_up]; omega) | (simp [hs_ss, hs_up]; done)⟩
set_option maxHeartbeats 4000000 in
set_option maxRecDepth 100000 in
theorem c_X12_know (l : Launch) (d : Int) (hd : hs_R d) : hs_Met l yX12_know cX12_know 3 none 1 SHY (fun ad => [.ref (ad 0), vI d]) (fun σ => GY σ σ) (hs_PV (fun σ σ1 => GY σ σ1)) := by
  refine hs_from pfX12_know (fun _ => Nat.le_of_ble_eq_true rfl) ?_
  intro p e s m args below meth c D dA ad A σ C hpre
  have C : hs_C p s m args meth c D dA SHY ad A 3 cX12_know RX12 none := C
  have g0 := hpre
  show hs_Wd p l e 1 s m args below meth c D dA SHY ad A 3 (hs_PV (fun σ σ1 => GY σ σ1) σ) 0 [(0, .ref (ad 0)), (1, vI d)] [] σ
  refine s_iconst (pc := 0) C dX12_know_0 ?_
  refine s_istore_n (pc := 1) C [(2, vI 0), (0, .ref (ad 0)), (1, vI d)] dX12_know_1 (by decide) rfl ?_
  refine s_sub C [1, 2, 0] [(0, .ref (ad 0)), (1, vI d), (2, vI 0)] rfl ?_
  have hi2 : GY σ σ ∧ 0 ≤ (0 : Int) ∧ (0 : Int) ≤ 80 := ⟨g0, by first | omega | assumption | (constructor <;> omega) | (refine ⟨⟨?_, ?_⟩, ?_⟩ <;> omega) | (simp [hs_ss, hs_up]; omega) | (simp [hs_ss, hs_up]; done)⟩
  refine hs_loop (α := Int × hs_S) (fun x_ => (GY σ x_.2 ∧ 0 ≤ x_.1 ∧ x_.1 ≤ 80) → hs_Wd p l e 1 s m args below meth c D dA SHY ad A 3 (hs_PV (fun σ σ1 => GY σ σ1) σ) 2 [(0, .ref (ad 0)), (1, vI d), (2, vI x_.1)] [] x_.2) (fun x_ => (81 - x_.1).toNat) ?_ (0, σ) hi2
  rintro ⟨k, σ1⟩ ih2 hinv
  replace hinv : GY σ σ1 ∧ 0 ≤ k ∧ k ≤ 80 := hinv
  show hs_Wd p l e 1 s m args below meth c D dA SHY ad A 3 (hs_PV (fun σ σ1 => GY σ σ1) σ) 2 [(0, .ref (ad 0)), (1, vI d), (2, vI k)] [] σ1
  obtain ⟨hg, hk⟩ := hinv
  refine s_iload_n (pc := 2) C dX12_know_2 2 rfl ?_
  refine s_aload_n (pc := 3) C dX12_know_3 0 rfl ?_
  refine s_geti (q := 0) (ci := 12) (N := 68) (CN := RX12) (T := TX12) (pc := 4) C 61 dX12_know_4 wlX12_196 rfl rfl rfl wfX12 (by decide) rfl (σ1 0 61) rfl ?_
  have b4 : (0 : Int) ≤ σ1 0 61 ∧ σ1 0 61 ≤ 80 := hg.1 0 61
  refine s_icmp_ge (pc := 7) C (tgt := 37) dX12_know_7 (by decide) ⟨by omega, by omega⟩ ⟨by omega, by omega⟩ (fun h7 => ?_) (fun h7 => ?_)
  · skip
    refine s_aload_n (pc := 37) C dX12_know_37 0 rfl ?_
    refine s_geti (q := 0) (ci := 12) (N := 68) (CN := RX12) (T := TX12) (pc := 38) C 61 dX12_know_38 wlX12_196 rfl rfl rfl wfX12 (by decide) rfl (σ1 0 61) rfl ?_
    have b38 : (0 : Int) ≤ σ1 0 61 ∧ σ1 0 61 ≤ 80 := hg.1 0 61
    refine s_iconst (pc := 41) C dX12_know_41 ?_
    refine s_isub (pc := 42) C dX12_know_42 ?_
    refine s_istore_n (pc := 43) C [(2, vI ((σ1 0 61) - 1)), (0, .ref (ad 0)), (1, vI d)] dX12_know_43 (by decide) rfl ?_
    refine s_sub C [1, 2, 0] [(0, .ref (ad 0)), (1, vI d), (2, vI ((σ1 0 61) - 1))] rfl ?_
    have hi44 : GY σ σ1 ∧ -1 ≤ ((σ1 0 61) - 1) ∧ ((σ1 0 61) - 1) ≤ 79 := ⟨hg, by first | omega | assumption | (constructor <;> omega) | (refine ⟨⟨?_, ?_⟩, ?_⟩ <;> omega) | (simp [hs_ss, hs_up]; omega) | (simp [hs_ss, hs_up]; done)⟩
    refine hs_loop (α := Int × hs_S) (fun x_ => (GY σ x_.2 ∧ -1 ≤ x_.1 ∧ x_.1 ≤ 79) → hs_Wd p l e 1 s m args below meth c D dA SHY ad A 3 (hs_PV (fun σ σ1 => GY σ σ1) σ) 44 [(0, .ref (ad 0)), (1, vI d), (2, vI x_.1)] [] x_.2) (fun x_ => (x_.1 + 1).toNat) ?_ ((σ1 0 61) - 1, σ1) hi44
    rintro ⟨k, σ2⟩ ih44 hinv
    replace hinv : GY σ σ2 ∧ -1 ≤ k ∧ k ≤ 79 := hinv
    show hs_Wd p l e 1 s m args below meth c D dA SHY ad A 3 (hs_PV (fun σ σ1 => GY σ σ1) σ) 44 [(0, .ref (ad 0)), (1, vI d), (2, vI k)] [] σ2
    obtain ⟨hg, hk⟩ := hinv
    refine s_iload_n (pc := 44) C dX12_know_44 2 rfl ?_
    refine s_if_lt (pc := 45) C (tgt := 85) dX12_know_45 (by decide) ⟨by omega, by omega⟩ (fun h45 => ?_) (fun h45 => ?_)
    · skip
      refine s_vret (pc := 85) C dX12_know_85 ?_
      refine ⟨rfl, ?_⟩
      exact hg
    · skip
      refine s_aload_n (pc := 48) C dX12_know_48 0 rfl ?_
      refine s_getr (q := 0) (ci := 12) (N := 68) (CN := RX12) (T := TX12) (pc := 49) C 62 dX12_know_49 wlX12_117 rfl rfl rfl wfX12 (by decide) rfl ?_
      refine s_iload_n (pc := 52) C dX12_know_52 2 rfl ?_
      refine s_iald (q := 34) (n := 80) (pc := 53) C (σ2 34 k.toNat) rfl dX12_know_53 rfl (by omega) (by omega) (by decide) ?_
      have b53 : (0 : Int) ≤ σ2 34 k.toNat ∧ σ2 34 k.toNat ≤ 1 := hg.1 34 k.toNat
      refine s_iconst (pc := 54) C dX12_know_54 ?_
      refine s_icmp_ne (pc := 55) C (tgt := 79) dX12_know_55 (by decide) ⟨by omega, by omega⟩ ⟨by decide, by decide⟩ (fun h55 => ?_) (fun h55 => ?_)
      · skip
        refine s_iinc (pc := 79) C [(2, vI (k + (-1))), (0, .ref (ad 0)), (1, vI d)] dX12_know_79 2 rfl (by decide) rfl ?_
        refine s_goto (pc := 82) C (tgt := 44) dX12_know_82 (by decide) ?_
        refine s_sub C [1, 2, 0] [(0, .ref (ad 0)), (1, vI d), (2, vI (k + (-1)))] rfl ?_
        have hi44 : GY σ σ2 ∧ -1 ≤ (k + (-1)) ∧ (k + (-1)) ≤ 79 := ⟨hg, by first | omega | assumption | (constructor <;> omega) | (refine ⟨⟨?_, ?_⟩, ?_⟩ <;> omega) | (simp [hs_ss, hs_up]; omega) | (simp [hs_ss, hs_up]; done)⟩
        exact ih44 (k + (-1), σ2) (by first | omega | (simp only []; omega)) hi44
      · skip
        refine s_aload_n (pc := 58) C dX12_know_58 0 rfl ?_
        refine s_getr (q := 0) (ci := 12) (N := 68) (CN := RX12) (T := TX12) (pc := 59) C 67 dX12_know_59 wlX12_132 rfl rfl rfl wfX12 (by decide) rfl ?_
        refine s_iload_n (pc := 62) C dX12_know_62 2 rfl ?_
        refine s_zald (q := 39) (n := 80) (pc := 63) C (σ2 39 k.toNat) rfl dX12_know_63 rfl (by omega) (by omega) (by decide) ?_
        have b63 : (0 : Int) ≤ σ2 39 k.toNat ∧ σ2 39 k.toNat ≤ 1 := hg.1 39 k.toNat
        refine s_if_eq (pc := 64) C (tgt := 79) dX12_know_64 (by decide) ⟨by omega, by omega⟩ (fun h64 => ?_) (fun h64 => ?_)
        · skip
          refine s_iinc (pc := 79) C [(2, vI (k + (-1))), (0, .ref (ad 0)), (1, vI d)] dX12_know_79 2 rfl (by decide) rfl ?_
          refine s_goto (pc := 82) C (tgt := 44) dX12_know_82 (by decide) ?_
          refine s_sub C [1, 2, 0] [(0, .ref (ad 0)), (1, vI d), (2, vI (k + (-1)))] rfl ?_
          have hi44 : GY σ σ2 ∧ -1 ≤ (k + (-1)) ∧ (k + (-1)) ≤ 79 := ⟨hg, by first | omega | assumption | (constructor <;> omega) | (refine ⟨⟨?_, ?_⟩, ?_⟩ <;> omega) | (simp [hs_ss, hs_up]; omega) | (simp [hs_ss, hs_up]; done)⟩
          exact ih44 (k + (-1), σ2) (by first | omega | (simp only []; omega)) hi44
        · skip
          refine s_aload_n (pc := 67) C dX12_know_67 0 rfl ?_
          refine s_getr (q := 0) (ci := 12) (N := 68) (CN := RX12) (T := TX12) (pc := 68) C 67 dX12_know_68 wlX12_132 rfl rfl rfl wfX12 (by decide) rfl ?_
          refine s_aload_n (pc := 71) C dX12_know_71 0 rfl ?_
          refine s_getr (q := 0) (ci := 12) (N := 68) (CN := RX12) (T := TX12) (pc := 72) C 64 dX12_know_72 wlX12_123 rfl rfl rfl wfX12 (by decide) rfl ?_
          refine s_iload_n (pc := 75) C dX12_know_75 2 rfl ?_
          refine s_iald (q := 36) (n := 80) (pc := 76) C (σ2 36 k.toNat) rfl dX12_know_76 rfl (by omega) (by omega) (by decide) ?_
          have b76 : (0 : Int) ≤ σ2 36 k.toNat ∧ σ2 36 k.toNat ≤ 79 := hg.1 36 k.toNat
          refine s_iconst (pc := 77) C dX12_know_77 ?_
          refine s_zast (q := 39) (n := 80) (pc := 78) C dX12_know_78 rfl (by omega) (by omega) (by decide) (by omega) ?_
          have g78 := gy_set (z := 0) hg 39 ((σ2 36 k.toNat).toNat) rfl (0) (1) rfl ⟨by omega, by omega⟩
          refine s_iinc (pc := 79) C [(2, vI (k + (-1))), (0, .ref (ad 0)), (1, vI d)] dX12_know_79 2 rfl (by decide) rfl ?_
          refine s_goto (pc := 82) C (tgt := 44) dX12_know_82 (by decide) ?_
          refine s_sub C [1, 2, 0] [(0, .ref (ad 0)), (1, vI d), (2, vI (k + (-1)))] rfl ?_
          have hi44 : GY σ ((hs_ss σ2 39 ((σ2 36 k.toNat).toNat) 0)) ∧ -1 ≤ (k + (-1)) ∧ (k + (-1)) ≤ 79 := ⟨g78, by first | omega | assumption | (constructor <;> omega) | (refine ⟨⟨?_, ?_⟩, ?_⟩ <;> omega) | (simp [hs_ss, hs_up]; omega) | (simp [hs_ss, hs_up]; done)⟩
          exact ih44 (k + (-1), (hs_ss σ2 39 ((σ2 36 k.toNat).toNat) 0)) (by first | omega | (simp only []; omega)) hi44
  · skip
    refine s_aload_n (pc := 10) C dX12_know_10 0 rfl ?_
    refine s_getr (q := 0) (ci := 12) (N := 68) (CN := RX12) (T := TX12) (pc := 11) C 67 dX12_know_11 wlX12_132 rfl rfl rfl wfX12 (by decide) rfl ?_
    refine s_iload_n (pc := 14) C dX12_know_14 2 rfl ?_
    refine s_aload_n (pc := 15) C dX12_know_15 0 rfl ?_
    refine s_getr (q := 0) (ci := 12) (N := 68) (CN := RX12) (T := TX12) (pc := 16) C 63 dX12_know_16 wlX12_120 rfl rfl rfl wfX12 (by decide) rfl ?_
    refine s_iload_n (pc := 19) C dX12_know_19 2 rfl ?_
    refine s_iald (q := 35) (n := 80) (pc := 20) C (σ1 35 k.toNat) rfl dX12_know_20 rfl (by omega) (by omega) (by decide) ?_
    have b20 : (0 : Int) ≤ σ1 35 k.toNat ∧ σ1 35 k.toNat ≤ 999 := hg.1 35 k.toNat
    refine s_iload_n (pc := 21) C dX12_know_21 1 rfl ?_
    refine s_icmp_gt (pc := 22) C (tgt := 29) dX12_know_22 (by decide) ⟨by omega, by omega⟩ ⟨by omega, by omega⟩ (fun h22 => ?_) (fun h22 => ?_)
    · skip
      refine s_iconst (pc := 29) C dX12_know_29 ?_
      refine s_zast (q := 39) (n := 80) (pc := 30) C dX12_know_30 rfl (by omega) (by omega) (by decide) (by omega) ?_
      have g30 := gy_set (z := 0) hg 39 k.toNat rfl (0) (1) rfl ⟨by omega, by omega⟩
      refine s_iinc (pc := 31) C [(2, vI (k + 1)), (0, .ref (ad 0)), (1, vI d)] dX12_know_31 2 rfl (by decide) rfl ?_
      refine s_goto (pc := 34) C (tgt := 2) dX12_know_34 (by decide) ?_
      refine s_sub C [1, 2, 0] [(0, .ref (ad 0)), (1, vI d), (2, vI (k + 1))] rfl ?_
      have hi2 : GY σ ((hs_ss σ1 39 k.toNat 0)) ∧ 0 ≤ (k + 1) ∧ (k + 1) ≤ 80 := ⟨g30, by first | omega | assumption | (constructor <;> omega) | (refine ⟨⟨?_, ?_⟩, ?_⟩ <;> omega) | (simp [hs_ss, hs_up]; omega) | (simp [hs_ss, hs_up]; done)⟩
      exact ih2 (k + 1, (hs_ss σ1 39 k.toNat 0)) (by first | omega | (simp only []; omega)) hi2
    · skip
      refine s_iconst (pc := 25) C dX12_know_25 ?_
      refine s_goto (pc := 26) C (tgt := 30) dX12_know_26 (by decide) ?_
      refine s_zast (q := 39) (n := 80) (pc := 30) C dX12_know_30 rfl (by omega) (by omega) (by decide) (by omega) ?_
      have g30 := gy_set (z := 1) hg 39 k.toNat rfl (0) (1) rfl ⟨by omega, by omega⟩
      refine s_iinc (pc := 31) C [(2, vI (k + 1)), (0, .ref (ad 0)), (1, vI d)] dX12_know_31 2 rfl (by decide) rfl ?_
      refine s_goto (pc := 34) C (tgt := 2) dX12_know_34 (by decide) ?_
      refine s_sub C [1, 2, 0] [(0, .ref (ad 0)), (1, vI d), (2, vI (k + 1))] rfl ?_
      have hi2 : GY σ ((hs_ss σ1 39 k.toNat 1)) ∧ 0 ≤ (k + 1) ∧ (k + 1) ≤ 80 := ⟨g30, by first | omega | assumption | (constructor <;> omega) | (refine ⟨⟨?_, ?_⟩, ?_⟩ <;> omega) | (simp [hs_ss, hs_up]; omega) | (simp [hs_ss, hs_up]; done)⟩
      exact ih2 (k + 1, (hs_ss σ1 39 k.toNat 1)) (by first | omega | (simp only []; omega)) hi2
set_option maxHeartbeats 4000000 in
set_option maxRecDepth 100000 in
theorem c_X12_knownBy (l : Launch) (a d : Int) (ha : hs_R a) (hd : 0 ≤ d ∧ d ≤ 999) : hs_Met l yX12_knownBy cX12_knownBy 7 (some .int) 3 SHY (fun ad => [.ref (ad 0), vI a, vI d]) (fun σ => GY σ σ) (hs_PI (fun σ z σ1 => σ = σ1 ∧ hs_R z ∧ (σ 0 6 = 0 → z = 0))) := by
  refine hs_from pfX12_knownBy (fun _ => Nat.le_of_ble_eq_true rfl) ?_
  intro p e s m args below meth c D dA ad A σ C hpre
  have C : hs_C p s m args meth c D dA SHY ad A 7 cX12_knownBy RX12 (some .int) := C
  have g0 := hpre
  show hs_Wd p l e 3 s m args below meth c D dA SHY ad A 7 (hs_PI (fun σ z σ1 => σ = σ1 ∧ hs_R z ∧ (σ 0 6 = 0 → z = 0)) σ) 0 [(0, .ref (ad 0)), (1, vI a), (2, vI d)] [] σ
  refine s_iconst (pc := 0) C dX12_knownBy_0 ?_
  refine s_istore_n (pc := 1) C [(3, vI 0), (0, .ref (ad 0)), (1, vI a), (2, vI d)] dX12_knownBy_1 (by decide) rfl ?_
  refine s_iconst (pc := 2) C dX12_knownBy_2 ?_
  refine s_istore (pc := 3) C [(4, vI 0), (3, vI 0), (0, .ref (ad 0)), (1, vI a), (2, vI d)] dX12_knownBy_3 (by decide) rfl ?_
  refine s_sub C [2, 3, 4, 1, 0] [(0, .ref (ad 0)), (1, vI a), (2, vI d), (3, vI 0), (4, vI 0)] rfl ?_
  have hi5 : 0 ≤ (0 : Int) ∧ (0 : Int) ≤ 4 ∧ (-2147483648 ≤ (0 : Int) ∧ (0 : Int) ≤ 2147483647) ∧ (σ 0 6 = 0 → (0 : Int) = 0) := (by first | omega | assumption | (constructor <;> omega) | (refine ⟨⟨?_, ?_⟩, ?_⟩ <;> omega) | (simp [hs_ss, hs_up]; omega) | (simp [hs_ss, hs_up]; done))
  refine hs_loop (α := Int × Int) (fun x_ => (0 ≤ x_.1 ∧ x_.1 ≤ 4 ∧ (-2147483648 ≤ x_.2 ∧ x_.2 ≤ 2147483647) ∧ (σ 0 6 = 0 → x_.2 = 0)) → hs_Wd p l e 3 s m args below meth c D dA SHY ad A 7 (hs_PI (fun σ z σ1 => σ = σ1 ∧ hs_R z ∧ (σ 0 6 = 0 → z = 0)) σ) 5 [(0, .ref (ad 0)), (1, vI a), (2, vI d), (3, vI x_.2), (4, vI x_.1)] [] σ) (fun x_ => (5 - x_.1).toNat) ?_ (0, 0) hi5
  rintro ⟨w, bt⟩ ih5 hinv
  replace hinv : 0 ≤ w ∧ w ≤ 4 ∧ (-2147483648 ≤ bt ∧ bt ≤ 2147483647) ∧ (σ 0 6 = 0 → bt = 0) := hinv
  show hs_Wd p l e 3 s m args below meth c D dA SHY ad A 7 (hs_PI (fun σ z σ1 => σ = σ1 ∧ hs_R z ∧ (σ 0 6 = 0 → z = 0)) σ) 5 [(0, .ref (ad 0)), (1, vI a), (2, vI d), (3, vI bt), (4, vI w)] [] σ
  refine s_iload (pc := 5) C dX12_knownBy_5 4 rfl ?_
  refine s_aload_n (pc := 7) C dX12_knownBy_7 0 rfl ?_
  refine s_geti (q := 0) (ci := 12) (N := 68) (CN := RX12) (T := TX12) (pc := 8) C 6 dX12_knownBy_8 wlX12_141 rfl rfl rfl wfX12 (by decide) rfl (σ 0 6) rfl ?_
  have b8 : (0 : Int) ≤ σ 0 6 ∧ σ 0 6 ≤ 4 := g0.1 0 6
  refine s_icmp_ge (pc := 11) C (tgt := 146) dX12_knownBy_11 (by decide) ⟨by omega, by omega⟩ ⟨by omega, by omega⟩ (fun h11 => ?_) (fun h11 => ?_)
  · skip
    refine s_iload_n (pc := 146) C dX12_knownBy_146 3 rfl ?_
    refine s_iret (pc := 147) C dX12_knownBy_147 ?_
    refine ⟨_, rfl, ?_⟩
    exact ⟨rfl, ⟨by omega, by omega⟩, by omega⟩
  · skip
    refine s_iconst (pc := 14) C dX12_knownBy_14 ?_
    refine s_istore (pc := 15) C [(5, vI ((-1))), (0, .ref (ad 0)), (1, vI a), (2, vI d), (3, vI bt), (4, vI w)] dX12_knownBy_15 (by decide) rfl ?_
    refine s_iconst (pc := 17) C dX12_knownBy_17 ?_
    refine s_istore (pc := 18) C [(6, vI 0), (5, vI ((-1))), (0, .ref (ad 0)), (1, vI a), (2, vI d), (3, vI bt), (4, vI w)] dX12_knownBy_18 (by decide) rfl ?_
    refine s_sub C [2, 3, 4, 5, 6, 1, 0] [(0, .ref (ad 0)), (1, vI a), (2, vI d), (3, vI bt), (4, vI w), (5, vI ((-1))), (6, vI 0)] rfl ?_
    have hi20 : 0 ≤ (0 : Int) ∧ (0 : Int) ≤ 80 ∧ -1 ≤ (-1 : Int) ∧ (-1 : Int) ≤ 99 := (by first | omega | assumption | (constructor <;> omega) | (refine ⟨⟨?_, ?_⟩, ?_⟩ <;> omega) | (simp [hs_ss, hs_up]; omega) | (simp [hs_ss, hs_up]; done))
    refine hs_loop (α := Int × Int) (fun x_ => (0 ≤ x_.1 ∧ x_.1 ≤ 80 ∧ -1 ≤ x_.2 ∧ x_.2 ≤ 99) → hs_Wd p l e 3 s m args below meth c D dA SHY ad A 7 (hs_PI (fun σ z σ1 => σ = σ1 ∧ hs_R z ∧ (σ 0 6 = 0 → z = 0)) σ) 20 [(0, .ref (ad 0)), (1, vI a), (2, vI d), (3, vI bt), (4, vI w), (5, vI x_.2), (6, vI x_.1)] [] σ) (fun x_ => (81 - x_.1).toNat) ?_ (0, (-1)) hi20
    rintro ⟨k, q⟩ ih20 hinv
    replace hinv : 0 ≤ k ∧ k ≤ 80 ∧ -1 ≤ q ∧ q ≤ 99 := hinv
    show hs_Wd p l e 3 s m args below meth c D dA SHY ad A 7 (hs_PI (fun σ z σ1 => σ = σ1 ∧ hs_R z ∧ (σ 0 6 = 0 → z = 0)) σ) 20 [(0, .ref (ad 0)), (1, vI a), (2, vI d), (3, vI bt), (4, vI w), (5, vI q), (6, vI k)] [] σ
    have hinv2 := hinv
    refine s_iload (pc := 20) C dX12_knownBy_20 6 rfl ?_
    refine s_aload_n (pc := 22) C dX12_knownBy_22 0 rfl ?_
    refine s_geti (q := 0) (ci := 12) (N := 68) (CN := RX12) (T := TX12) (pc := 23) C 61 dX12_knownBy_23 wlX12_196 rfl rfl rfl wfX12 (by decide) rfl (σ 0 61) rfl ?_
    have b23 : (0 : Int) ≤ σ 0 61 ∧ σ 0 61 ≤ 80 := g0.1 0 61
    refine s_icmp_ge (pc := 26) C (tgt := 98) dX12_knownBy_26 (by decide) ⟨by omega, by omega⟩ ⟨by omega, by omega⟩ (fun h26 => ?_) (fun h26 => ?_)
    · skip
      refine s_iload (pc := 98) C dX12_knownBy_98 5 rfl ?_
      refine s_iconst (pc := 100) C dX12_knownBy_100 ?_
      refine s_icmp_eq (pc := 101) C (tgt := 140) dX12_knownBy_101 (by decide) ⟨by omega, by omega⟩ ⟨by decide, by decide⟩ (fun h101 => ?_) (fun h101 => ?_)
      · skip
        refine s_iinc (pc := 140) C [(4, vI (w + 1)), (0, .ref (ad 0)), (1, vI a), (2, vI d), (3, vI bt), (5, vI q), (6, vI k)] dX12_knownBy_140 4 rfl (by decide) rfl ?_
        refine s_goto (pc := 143) C (tgt := 5) dX12_knownBy_143 (by decide) ?_
        refine s_sub C [1, 2, 3, 4, 0] [(0, .ref (ad 0)), (1, vI a), (2, vI d), (3, vI bt), (4, vI (w + 1))] rfl ?_
        have hi5 : 0 ≤ (w + 1) ∧ (w + 1) ≤ 4 ∧ (-2147483648 ≤ bt ∧ bt ≤ 2147483647) ∧ (σ 0 6 = 0 → bt = 0) := (by first | omega | assumption | (constructor <;> omega) | (refine ⟨⟨?_, ?_⟩, ?_⟩ <;> omega) | (simp [hs_ss, hs_up]; omega) | (simp [hs_ss, hs_up]; done))
        exact ih5 (w + 1, bt) (by first | omega | (simp only []; omega)) hi5
      · skip
        refine s_aload_n (pc := 104) C dX12_knownBy_104 0 rfl ?_
        refine s_iload (pc := 105) C dX12_knownBy_105 5 rfl ?_
        refine s_aload_n (pc := 107) C dX12_knownBy_107 0 rfl ?_
        refine s_getr (q := 0) (ci := 12) (N := 68) (CN := RX12) (T := TX12) (pc := 108) C 22 dX12_knownBy_108 wlX12_50 rfl rfl rfl wfX12 (by decide) rfl ?_
        refine s_sipush (pc := 111) C dX12_knownBy_111 (by decide) ?_
        refine s_iload (pc := 114) C dX12_knownBy_114 4 rfl ?_
        refine s_imul (pc := 116) C dX12_knownBy_116 ?_
        refine s_iload_n (pc := 117) C dX12_knownBy_117 2 rfl ?_
        refine s_iadd (pc := 118) C dX12_knownBy_118 ?_
        refine s_iald (q := 13) (n := 4000) (pc := 119) C (σ 13 (((1000 * w) + d).toNat)) rfl dX12_knownBy_119 rfl (by omega) (by omega) (by decide) ?_
        have b119 : (0 : Int) ≤ σ 13 (((1000 * w) + d).toNat) ∧ σ 13 (((1000 * w) + d).toNat) ≤ 99 := g0.1 13 (((1000 * w) + d).toNat)
        refine s_callVi (pc := 120) C (c_X12_far l q (σ 13 (((1000 * w) + d).toNat)) (by first | omega | assumption | (constructor <;> omega) | (refine ⟨⟨?_, ?_⟩, ?_⟩ <;> omega) | (simp [hs_ss, hs_up]; omega) | (simp [hs_ss, hs_up]; done)) (by first | omega | assumption | (constructor <;> omega) | (refine ⟨⟨?_, ?_⟩, ?_⟩ <;> omega) | (simp [hs_ss, hs_up]; omega) | (simp [hs_ss, hs_up]; done))) [vI q, vI (σ 13 (((1000 * w) + d).toNat))] [] rfl rfl dX12_knownBy_120 wlX12_158 wiX12_far weX12_far wcX12_far wnX12 noX12_far (by decide) (by decide) (Nat.le_of_ble_eq_true rfl) (gy_self g0) rfl rfl ?_
        rintro z120 _ ⟨rfl, k120⟩
        show hs_Wd _ _ _ _ _ _ _ _ _ _ _ _ _ _ _ _ _ 123 _ [vI z120] σ
        refine s_aload_n (pc := 123) C dX12_knownBy_123 0 rfl ?_
        refine s_getr (q := 0) (ci := 12) (N := 68) (CN := RX12) (T := TX12) (pc := 124) C 10 dX12_knownBy_124 wlX12_26 rfl rfl rfl wfX12 (by decide) rfl ?_
        refine s_iload (pc := 127) C dX12_knownBy_127 4 rfl ?_
        refine s_iald (q := 5) (n := 4) (pc := 129) C (σ 5 w.toNat) rfl dX12_knownBy_129 rfl (by omega) (by omega) (by decide) ?_
        have b129 : (0 : Int) ≤ σ 5 w.toNat ∧ σ 5 w.toNat ≤ 3 := g0.1 5 w.toNat
        refine s_icmp_gt (pc := 130) C (tgt := 140) dX12_knownBy_130 (by decide) ⟨by omega, by omega⟩ ⟨by omega, by omega⟩ (fun h130 => ?_) (fun h130 => ?_)
        · skip
          refine s_iinc (pc := 140) C [(4, vI (w + 1)), (0, .ref (ad 0)), (1, vI a), (2, vI d), (3, vI bt), (5, vI q), (6, vI k)] dX12_knownBy_140 4 rfl (by decide) rfl ?_
          refine s_goto (pc := 143) C (tgt := 5) dX12_knownBy_143 (by decide) ?_
          refine s_sub C [1, 2, 3, 4, 0] [(0, .ref (ad 0)), (1, vI a), (2, vI d), (3, vI bt), (4, vI (w + 1))] rfl ?_
          have hi5 : 0 ≤ (w + 1) ∧ (w + 1) ≤ 4 ∧ (-2147483648 ≤ bt ∧ bt ≤ 2147483647) ∧ (σ 0 6 = 0 → bt = 0) := (by first | omega | assumption | (constructor <;> omega) | (refine ⟨⟨?_, ?_⟩, ?_⟩ <;> omega) | (simp [hs_ss, hs_up]; omega) | (simp [hs_ss, hs_up]; done))
          exact ih5 (w + 1, bt) (by first | omega | (simp only []; omega)) hi5
        · skip
          refine s_iload_n (pc := 133) C dX12_knownBy_133 3 rfl ?_
          refine s_iconst (pc := 134) C dX12_knownBy_134 ?_
          refine s_iload (pc := 135) C dX12_knownBy_135 4 rfl ?_
          refine s_ishl (pc := 137) C dX12_knownBy_137 (fun z137 hz137 ez137 => ?_)
          refine s_ior (pc := 138) C dX12_knownBy_138 (fun z138 hz138 ez138 => ?_)
          refine s_istore_n (pc := 139) C [(3, vI z138), (0, .ref (ad 0)), (1, vI a), (2, vI d), (4, vI w), (5, vI q), (6, vI k)] dX12_knownBy_139 (by decide) rfl ?_
          refine s_iinc (pc := 140) C [(4, vI (w + 1)), (3, vI z138), (0, .ref (ad 0)), (1, vI a), (2, vI d), (5, vI q), (6, vI k)] dX12_knownBy_140 4 rfl (by decide) rfl ?_
          refine s_goto (pc := 143) C (tgt := 5) dX12_knownBy_143 (by decide) ?_
          refine s_sub C [2, 3, 4, 1, 0] [(0, .ref (ad 0)), (1, vI a), (2, vI d), (3, vI z138), (4, vI (w + 1))] rfl ?_
          have hi5 : 0 ≤ (w + 1) ∧ (w + 1) ≤ 4 ∧ (-2147483648 ≤ z138 ∧ z138 ≤ 2147483647) ∧ (σ 0 6 = 0 → z138 = 0) := (by first | omega | assumption | (constructor <;> omega) | (refine ⟨⟨?_, ?_⟩, ?_⟩ <;> omega) | (simp [hs_ss, hs_up]; omega) | (simp [hs_ss, hs_up]; done))
          exact ih5 (w + 1, z138) (by first | omega | (simp only []; omega)) hi5
    · skip
      refine s_aload_n (pc := 29) C dX12_knownBy_29 0 rfl ?_
      refine s_getr (q := 0) (ci := 12) (N := 68) (CN := RX12) (T := TX12) (pc := 30) C 67 dX12_knownBy_30 wlX12_132 rfl rfl rfl wfX12 (by decide) rfl ?_
      refine s_iload (pc := 33) C dX12_knownBy_33 6 rfl ?_
      refine s_zald (q := 39) (n := 80) (pc := 35) C (σ 39 k.toNat) rfl dX12_knownBy_35 rfl (by omega) (by omega) (by decide) ?_
      have b35 : (0 : Int) ≤ σ 39 k.toNat ∧ σ 39 k.toNat ≤ 1 := g0.1 39 k.toNat
      refine s_if_eq (pc := 36) C (tgt := 92) dX12_knownBy_36 (by decide) ⟨by omega, by omega⟩ (fun h36 => ?_) (fun h36 => ?_)
      · skip
        refine s_iinc (pc := 92) C [(6, vI (k + 1)), (0, .ref (ad 0)), (1, vI a), (2, vI d), (3, vI bt), (4, vI w), (5, vI q)] dX12_knownBy_92 6 rfl (by decide) rfl ?_
        refine s_goto (pc := 95) C (tgt := 20) dX12_knownBy_95 (by decide) ?_
        refine s_sub C [1, 2, 3, 4, 5, 6, 0] [(0, .ref (ad 0)), (1, vI a), (2, vI d), (3, vI bt), (4, vI w), (5, vI q), (6, vI (k + 1))] rfl ?_
        have hi20 : 0 ≤ (k + 1) ∧ (k + 1) ≤ 80 ∧ -1 ≤ q ∧ q ≤ 99 := (by first | omega | assumption | (constructor <;> omega) | (refine ⟨⟨?_, ?_⟩, ?_⟩ <;> omega) | (simp [hs_ss, hs_up]; omega) | (simp [hs_ss, hs_up]; done))
        exact ih20 (k + 1, q) (by first | omega | (simp only []; omega)) hi20
      · skip
        refine s_aload_n (pc := 39) C dX12_knownBy_39 0 rfl ?_
        refine s_getr (q := 0) (ci := 12) (N := 68) (CN := RX12) (T := TX12) (pc := 40) C 62 dX12_knownBy_40 wlX12_117 rfl rfl rfl wfX12 (by decide) rfl ?_
        refine s_iload (pc := 43) C dX12_knownBy_43 6 rfl ?_
        refine s_iald (q := 34) (n := 80) (pc := 45) C (σ 34 k.toNat) rfl dX12_knownBy_45 rfl (by omega) (by omega) (by decide) ?_
        have b45 : (0 : Int) ≤ σ 34 k.toNat ∧ σ 34 k.toNat ≤ 1 := g0.1 34 k.toNat
        refine s_if_ne (pc := 46) C (tgt := 92) dX12_knownBy_46 (by decide) ⟨by omega, by omega⟩ (fun h46 => ?_) (fun h46 => ?_)
        · skip
          refine s_iinc (pc := 92) C [(6, vI (k + 1)), (0, .ref (ad 0)), (1, vI a), (2, vI d), (3, vI bt), (4, vI w), (5, vI q)] dX12_knownBy_92 6 rfl (by decide) rfl ?_
          refine s_goto (pc := 95) C (tgt := 20) dX12_knownBy_95 (by decide) ?_
          refine s_sub C [1, 2, 3, 4, 5, 6, 0] [(0, .ref (ad 0)), (1, vI a), (2, vI d), (3, vI bt), (4, vI w), (5, vI q), (6, vI (k + 1))] rfl ?_
          have hi20 : 0 ≤ (k + 1) ∧ (k + 1) ≤ 80 ∧ -1 ≤ q ∧ q ≤ 99 := (by first | omega | assumption | (constructor <;> omega) | (refine ⟨⟨?_, ?_⟩, ?_⟩ <;> omega) | (simp [hs_ss, hs_up]; omega) | (simp [hs_ss, hs_up]; done))
          exact ih20 (k + 1, q) (by first | omega | (simp only []; omega)) hi20
        · skip
          refine s_aload_n (pc := 49) C dX12_knownBy_49 0 rfl ?_
          refine s_getr (q := 0) (ci := 12) (N := 68) (CN := RX12) (T := TX12) (pc := 50) C 63 dX12_knownBy_50 wlX12_120 rfl rfl rfl wfX12 (by decide) rfl ?_
          refine s_iload (pc := 53) C dX12_knownBy_53 6 rfl ?_
          refine s_iald (q := 35) (n := 80) (pc := 55) C (σ 35 k.toNat) rfl dX12_knownBy_55 rfl (by omega) (by omega) (by decide) ?_
          have b55 : (0 : Int) ≤ σ 35 k.toNat ∧ σ 35 k.toNat ≤ 999 := g0.1 35 k.toNat
          refine s_iload_n (pc := 56) C dX12_knownBy_56 2 rfl ?_
          refine s_icmp_gt (pc := 57) C (tgt := 92) dX12_knownBy_57 (by decide) ⟨by omega, by omega⟩ ⟨by omega, by omega⟩ (fun h57 => ?_) (fun h57 => ?_)
          · skip
            refine s_iinc (pc := 92) C [(6, vI (k + 1)), (0, .ref (ad 0)), (1, vI a), (2, vI d), (3, vI bt), (4, vI w), (5, vI q)] dX12_knownBy_92 6 rfl (by decide) rfl ?_
            refine s_goto (pc := 95) C (tgt := 20) dX12_knownBy_95 (by decide) ?_
            refine s_sub C [1, 2, 3, 4, 5, 6, 0] [(0, .ref (ad 0)), (1, vI a), (2, vI d), (3, vI bt), (4, vI w), (5, vI q), (6, vI (k + 1))] rfl ?_
            have hi20 : 0 ≤ (k + 1) ∧ (k + 1) ≤ 80 ∧ -1 ≤ q ∧ q ≤ 99 := (by first | omega | assumption | (constructor <;> omega) | (refine ⟨⟨?_, ?_⟩, ?_⟩ <;> omega) | (simp [hs_ss, hs_up]; omega) | (simp [hs_ss, hs_up]; done))
            exact ih20 (k + 1, q) (by first | omega | (simp only []; omega)) hi20
          · skip
            refine s_aload_n (pc := 60) C dX12_knownBy_60 0 rfl ?_
            refine s_getr (q := 0) (ci := 12) (N := 68) (CN := RX12) (T := TX12) (pc := 61) C 64 dX12_knownBy_61 wlX12_123 rfl rfl rfl wfX12 (by decide) rfl ?_
            refine s_iload (pc := 64) C dX12_knownBy_64 6 rfl ?_
            refine s_iald (q := 36) (n := 80) (pc := 66) C (σ 36 k.toNat) rfl dX12_knownBy_66 rfl (by omega) (by omega) (by decide) ?_
            have b66 : (0 : Int) ≤ σ 36 k.toNat ∧ σ 36 k.toNat ≤ 79 := g0.1 36 k.toNat
            refine s_iload_n (pc := 67) C dX12_knownBy_67 1 rfl ?_
            refine s_icmp_ne (pc := 68) C (tgt := 92) dX12_knownBy_68 (by decide) ⟨by omega, by omega⟩ ⟨by omega, by omega⟩ (fun h68 => ?_) (fun h68 => ?_)
            · skip
              refine s_iinc (pc := 92) C [(6, vI (k + 1)), (0, .ref (ad 0)), (1, vI a), (2, vI d), (3, vI bt), (4, vI w), (5, vI q)] dX12_knownBy_92 6 rfl (by decide) rfl ?_
              refine s_goto (pc := 95) C (tgt := 20) dX12_knownBy_95 (by decide) ?_
              refine s_sub C [1, 2, 3, 4, 5, 6, 0] [(0, .ref (ad 0)), (1, vI a), (2, vI d), (3, vI bt), (4, vI w), (5, vI q), (6, vI (k + 1))] rfl ?_
              have hi20 : 0 ≤ (k + 1) ∧ (k + 1) ≤ 80 ∧ -1 ≤ q ∧ q ≤ 99 := (by first | omega | assumption | (constructor <;> omega) | (refine ⟨⟨?_, ?_⟩, ?_⟩ <;> omega) | (simp [hs_ss, hs_up]; omega) | (simp [hs_ss, hs_up]; done))
              exact ih20 (k + 1, q) (by first | omega | (simp only []; omega)) hi20
            · skip
              refine s_aload_n (pc := 71) C dX12_knownBy_71 0 rfl ?_
              refine s_getr (q := 0) (ci := 12) (N := 68) (CN := RX12) (T := TX12) (pc := 72) C 65 dX12_knownBy_72 wlX12_126 rfl rfl rfl wfX12 (by decide) rfl ?_
              refine s_iload (pc := 75) C dX12_knownBy_75 6 rfl ?_
              refine s_iald (q := 37) (n := 80) (pc := 77) C (σ 37 k.toNat) rfl dX12_knownBy_77 rfl (by omega) (by omega) (by decide) ?_
              have b77 : (0 : Int) ≤ σ 37 k.toNat ∧ σ 37 k.toNat ≤ 3 := g0.1 37 k.toNat
              refine s_iload (pc := 78) C dX12_knownBy_78 4 rfl ?_
              refine s_icmp_ne (pc := 80) C (tgt := 92) dX12_knownBy_80 (by decide) ⟨by omega, by omega⟩ ⟨by omega, by omega⟩ (fun h80 => ?_) (fun h80 => ?_)
              · skip
                refine s_iinc (pc := 92) C [(6, vI (k + 1)), (0, .ref (ad 0)), (1, vI a), (2, vI d), (3, vI bt), (4, vI w), (5, vI q)] dX12_knownBy_92 6 rfl (by decide) rfl ?_
                refine s_goto (pc := 95) C (tgt := 20) dX12_knownBy_95 (by decide) ?_
                refine s_sub C [1, 2, 3, 4, 5, 6, 0] [(0, .ref (ad 0)), (1, vI a), (2, vI d), (3, vI bt), (4, vI w), (5, vI q), (6, vI (k + 1))] rfl ?_
                have hi20 : 0 ≤ (k + 1) ∧ (k + 1) ≤ 80 ∧ -1 ≤ q ∧ q ≤ 99 := (by first | omega | assumption | (constructor <;> omega) | (refine ⟨⟨?_, ?_⟩, ?_⟩ <;> omega) | (simp [hs_ss, hs_up]; omega) | (simp [hs_ss, hs_up]; done))
                exact ih20 (k + 1, q) (by first | omega | (simp only []; omega)) hi20
              · skip
                refine s_aload_n (pc := 83) C dX12_knownBy_83 0 rfl ?_
                refine s_getr (q := 0) (ci := 12) (N := 68) (CN := RX12) (T := TX12) (pc := 84) C 66 dX12_knownBy_84 wlX12_129 rfl rfl rfl wfX12 (by decide) rfl ?_
                refine s_iload (pc := 87) C dX12_knownBy_87 6 rfl ?_
                refine s_iald (q := 38) (n := 80) (pc := 89) C (σ 38 k.toNat) rfl dX12_knownBy_89 rfl (by omega) (by omega) (by decide) ?_
                have b89 : (-1 : Int) ≤ σ 38 k.toNat ∧ σ 38 k.toNat ≤ 99 := g0.1 38 k.toNat
                refine s_istore (pc := 90) C [(5, vI (σ 38 k.toNat)), (0, .ref (ad 0)), (1, vI a), (2, vI d), (3, vI bt), (4, vI w), (6, vI k)] dX12_knownBy_90 (by decide) rfl ?_
                refine s_iinc (pc := 92) C [(6, vI (k + 1)), (5, vI (σ 38 k.toNat)), (0, .ref (ad 0)), (1, vI a), (2, vI d), (3, vI bt), (4, vI w)] dX12_knownBy_92 6 rfl (by decide) rfl ?_
                refine s_goto (pc := 95) C (tgt := 20) dX12_knownBy_95 (by decide) ?_
                refine s_sub C [2, 3, 4, 5, 6, 1, 0] [(0, .ref (ad 0)), (1, vI a), (2, vI d), (3, vI bt), (4, vI w), (5, vI (σ 38 k.toNat)), (6, vI (k + 1))] rfl ?_
                have hi20 : 0 ≤ (k + 1) ∧ (k + 1) ≤ 80 ∧ -1 ≤ (σ 38 k.toNat) ∧ (σ 38 k.toNat) ≤ 99 := (by first | omega | assumption | (constructor <;> omega) | (refine ⟨⟨?_, ?_⟩, ?_⟩ <;> omega) | (simp [hs_ss, hs_up]; omega) | (simp [hs_ss, hs_up]; done))
                exact ih20 (k + 1, σ 38 k.toNat) (by first | omega | (simp only []; omega)) hi20
set_option maxHeartbeats 4000000 in
set_option maxRecDepth 100000 in
theorem c_X12_areDays (l : Launch) (d : Int) (hd : hs_R d) (k : Int) (hk : hs_R k) : hs_Met l yX12_areDays cX12_areDays 2 (some .boolean) 2 SHY (fun ad => [vI d, vI k]) (fun σ => GY σ σ) (hs_PI (fun σ z σ1 => σ = σ1 ∧ (z = 0 ∨ z = 1) ∧ (z = 1 ↔ 0 ≤ d ∧ d ≤ k ∧ 0 ≤ k ∧ k ≤ 999))) := by
  refine hs_from pfX12_areDays (fun _ => Nat.le_of_ble_eq_true rfl) ?_
  intro p e s m args below meth c D dA ad A σ C hpre
  have C : hs_C p s m args meth c D dA SHY ad A 2 cX12_areDays RX12 (some .boolean) := C
  have g0 := hpre
  show hs_Wd p l e 2 s m args below meth c D dA SHY ad A 2 (hs_PI (fun σ z σ1 => σ = σ1 ∧ (z = 0 ∨ z = 1) ∧ (z = 1 ↔ 0 ≤ d ∧ d ≤ k ∧ 0 ≤ k ∧ k ≤ 999)) σ) 0 [(0, vI d), (1, vI k)] [] σ
  refine s_iload_n (pc := 0) C dX12_areDays_0 1 rfl ?_
  refine s_iconst (pc := 1) C dX12_areDays_1 ?_
  refine s_sipush (pc := 2) C dX12_areDays_2 (by decide) ?_
  refine s_callSi (pc := 5) C (c_X12_isIn l k ⟨by omega, by omega⟩ 0 ⟨by omega, by omega⟩ 999 ⟨by omega, by omega⟩) [vI k, vI 0, vI 999] [] rfl rfl dX12_areDays_5 wlX12_189 wtX12_isIn wcX12_isIn wnX12 noX12_isIn (by decide) (by decide) (Nat.le_of_ble_eq_true rfl) (gy_self g0) ?_
  rintro z5 _ ⟨rfl, k5⟩
  show hs_Wd _ _ _ _ _ _ _ _ _ _ _ _ _ _ _ _ _ 8 _ [vI z5] σ
  refine s_if_eq (pc := 8) C (tgt := 24) dX12_areDays_8 (by decide) ⟨by omega, by omega⟩ (fun h8 => ?_) (fun h8 => ?_)
  · skip
    refine s_iconst (pc := 24) C dX12_areDays_24 ?_
    refine s_zret (pc := 25) C (by omega) dX12_areDays_25 ?_
    refine ⟨_, rfl, ?_⟩
    exact ⟨rfl, by first | omega | assumption | (constructor <;> omega) | (refine ⟨⟨?_, ?_⟩, ?_⟩ <;> omega) | (simp [hs_ss, hs_up]; omega) | (simp [hs_ss, hs_up]; done)⟩
  · skip
    refine s_iload_n (pc := 11) C dX12_areDays_11 0 rfl ?_
    refine s_iconst (pc := 12) C dX12_areDays_12 ?_
    refine s_iload_n (pc := 13) C dX12_areDays_13 1 rfl ?_
    refine s_callSi (pc := 14) C (c_X12_isIn l d ⟨by omega, by omega⟩ 0 ⟨by omega, by omega⟩ k ⟨by omega, by omega⟩) [vI d, vI 0, vI k] [] rfl rfl dX12_areDays_14 wlX12_189 wtX12_isIn wcX12_isIn wnX12 noX12_isIn (by decide) (by decide) (Nat.le_of_ble_eq_true rfl) (gy_self g0) ?_
    rintro z14 _ ⟨rfl, k14⟩
    show hs_Wd _ _ _ _ _ _ _ _ _ _ _ _ _ _ _ _ _ 17 _ [vI z14] σ
    refine s_if_eq (pc := 17) C (tgt := 24) dX12_areDays_17 (by decide) ⟨by omega, by omega⟩ (fun h17 => ?_) (fun h17 => ?_)
    · skip
      refine s_iconst (pc := 24) C dX12_areDays_24 ?_
      refine s_zret (pc := 25) C (by omega) dX12_areDays_25 ?_
      refine ⟨_, rfl, ?_⟩
      exact ⟨rfl, by first | omega | assumption | (constructor <;> omega) | (refine ⟨⟨?_, ?_⟩, ?_⟩ <;> omega) | (simp [hs_ss, hs_up]; omega) | (simp [hs_ss, hs_up]; done)⟩
    · skip
      refine s_iconst (pc := 20) C dX12_areDays_20 ?_
      refine s_goto (pc := 21) C (tgt := 25) dX12_areDays_21 (by decide) ?_
      refine s_zret (pc := 25) C (by omega) dX12_areDays_25 ?_
      refine ⟨_, rfl, ?_⟩
      exact ⟨rfl, by first | omega | assumption | (constructor <;> omega) | (refine ⟨⟨?_, ?_⟩, ?_⟩ <;> omega) | (simp [hs_ss, hs_up]; omega) | (simp [hs_ss, hs_up]; done)⟩
set_option maxHeartbeats 4000000 in
set_option maxRecDepth 100000 in
theorem c_X12_knows (l : Launch) (a : Int) (ha : hs_R a) (d : Int) (hd : hs_R d) (k : Int) (hk : hs_R k) : hs_Met l yX12_knows cX12_knows 4 (some .int) 4 SHY (fun ad => [.ref (ad 0), vI a, vI d, vI k]) (fun σ => GY σ σ) (hs_PI (fun σ z σ1 => GY σ σ1 ∧ hs_R z ∧ (¬ (0 ≤ a ∧ a ≤ 5 ∧ 0 ≤ d ∧ d ≤ k ∧ 0 ≤ k ∧ k ≤ 999) → z = -1) ∧ (σ 0 6 = 0 → 0 ≤ a ∧ a ≤ 5 ∧ 0 ≤ d ∧ d ≤ k ∧ 0 ≤ k ∧ k ≤ 999 → z = 0))) := by
  refine hs_from pfX12_knows (fun _ => Nat.le_of_ble_eq_true rfl) ?_
  intro p e s m args below meth c D dA ad A σ C hpre
  have C : hs_C p s m args meth c D dA SHY ad A 4 cX12_knows RX12 (some .int) := C
  have g0 := hpre
  show hs_Wd p l e 4 s m args below meth c D dA SHY ad A 4 (hs_PI (fun σ z σ1 => GY σ σ1 ∧ hs_R z ∧ (¬ (0 ≤ a ∧ a ≤ 5 ∧ 0 ≤ d ∧ d ≤ k ∧ 0 ≤ k ∧ k ≤ 999) → z = -1) ∧ (σ 0 6 = 0 → 0 ≤ a ∧ a ≤ 5 ∧ 0 ≤ d ∧ d ≤ k ∧ 0 ≤ k ∧ k ≤ 999 → z = 0)) σ) 0 [(0, .ref (ad 0)), (1, vI a), (2, vI d), (3, vI k)] [] σ
  refine s_aload_n (pc := 0) C dX12_knows_0 0 rfl ?_
  refine s_iconst (pc := 1) C dX12_knows_1 ?_
  refine s_puti (q := 0) (ci := 12) (N := 68) (CN := RX12) (T := TX12) (ty0 := tyX12) (ty := .int) (pc := 2) C 2 dX12_knows_2 wlX12_135 rfl rfl rfl wfX12 tyX12_ok nmX12 (by decide) rfl rfl rfl (vp_nar_int _) rfl ?_
  have g2 := gy_set (z := 0) g0 0 2 rfl (0) (2) rfl ⟨by omega, by omega⟩
  refine s_iload_n (pc := 5) C dX12_knows_5 1 rfl ?_
  refine s_iconst (pc := 6) C dX12_knows_6 ?_
  refine s_iconst (pc := 7) C dX12_knows_7 ?_
  refine s_callSi (pc := 8) C (c_X12_isIn l a ⟨by omega, by omega⟩ 0 ⟨by omega, by omega⟩ 5 ⟨by omega, by omega⟩) [vI a, vI 0, vI 5] [] rfl rfl dX12_knows_8 wlX12_189 wtX12_isIn wcX12_isIn wnX12 noX12_isIn (by decide) (by decide) (Nat.le_of_ble_eq_true rfl) (gy_self g2) ?_
  rintro z8 _ ⟨rfl, k8⟩
  show hs_Wd _ _ _ _ _ _ _ _ _ _ _ _ _ _ _ _ _ 11 _ [vI z8] (hs_ss σ 0 2 0)
  refine s_if_eq (pc := 11) C (tgt := 22) dX12_knows_11 (by decide) ⟨by omega, by omega⟩ (fun h11 => ?_) (fun h11 => ?_)
  · skip
    refine s_iconst (pc := 22) C dX12_knows_22 ?_
    refine s_iret (pc := 23) C dX12_knows_23 ?_
    refine ⟨_, rfl, ?_⟩
    exact ⟨g2, by first | omega | assumption | (constructor <;> omega) | (refine ⟨⟨?_, ?_⟩, ?_⟩ <;> omega) | (simp [hs_ss, hs_up]; omega) | (simp [hs_ss, hs_up]; done)⟩
  · skip
    refine s_iload_n (pc := 14) C dX12_knows_14 2 rfl ?_
    refine s_iload_n (pc := 15) C dX12_knows_15 3 rfl ?_
    refine s_callSi (pc := 16) C (c_X12_areDays l d ⟨by omega, by omega⟩ k ⟨by omega, by omega⟩) [vI d, vI k] [] rfl rfl dX12_knows_16 wlX12_380 wtX12_areDays wcX12_areDays wnX12 noX12_areDays (by decide) (by decide) (Nat.le_of_ble_eq_true rfl) (gy_self g2) ?_
    rintro z16 _ ⟨rfl, k16⟩
    show hs_Wd _ _ _ _ _ _ _ _ _ _ _ _ _ _ _ _ _ 19 _ [vI z16] (hs_ss σ 0 2 0)
    refine s_if_ne (pc := 19) C (tgt := 24) dX12_knows_19 (by decide) ⟨by omega, by omega⟩ (fun h19 => ?_) (fun h19 => ?_)
    · skip
      refine s_aload_n (pc := 24) C dX12_knows_24 0 rfl ?_
      refine s_iload_n (pc := 25) C dX12_knows_25 3 rfl ?_
      refine s_callVv (pc := 26) C (c_X12_know l k ⟨by omega, by omega⟩) [vI k] [] rfl rfl dX12_knows_26 wlX12_383 wiX12_know weX12_know wcX12_know wnX12 noX12_know (by decide) (by decide) (Nat.le_of_ble_eq_true rfl) (gy_self g2) rfl rfl ?_
      rintro σ26 k26
      have g26 := gy_trans g2 k26
      have e6 : σ26 0 6 = σ 0 6 := g26.2.2.2.1
      show hs_Wd _ _ _ _ _ _ _ _ _ _ _ _ _ _ _ _ _ 29 _ [] σ26
      refine s_aload_n (pc := 29) C dX12_knows_29 0 rfl ?_
      refine s_iload_n (pc := 30) C dX12_knows_30 1 rfl ?_
      refine s_iload_n (pc := 31) C dX12_knows_31 2 rfl ?_
      refine s_callVi (pc := 32) C (c_X12_knownBy l a d ⟨by omega, by omega⟩ (by first | omega | assumption | (constructor <;> omega) | (refine ⟨⟨?_, ?_⟩, ?_⟩ <;> omega) | (simp [hs_ss, hs_up]; omega) | (simp [hs_ss, hs_up]; done))) [vI a, vI d] [] rfl rfl dX12_knows_32 wlX12_386 wiX12_knownBy weX12_knownBy wcX12_knownBy wnX12 noX12_knownBy (by decide) (by decide) (Nat.le_of_ble_eq_true rfl) (gy_self g26) rfl rfl ?_
      rintro z32 _ ⟨rfl, k32⟩
      show hs_Wd _ _ _ _ _ _ _ _ _ _ _ _ _ _ _ _ _ 35 _ [vI z32] σ26
      refine s_iret (pc := 35) C dX12_knows_35 ?_
      refine ⟨_, rfl, ?_⟩
      exact ⟨g26, by first | omega | assumption | (constructor <;> omega) | (refine ⟨⟨?_, ?_⟩, ?_⟩ <;> omega) | (simp [hs_ss, hs_up]; omega) | (simp [hs_ss, hs_up]; done)⟩
    · skip
      refine s_iconst (pc := 22) C dX12_knows_22 ?_
      refine s_iret (pc := 23) C dX12_knows_23 ?_
      refine ⟨_, rfl, ?_⟩
      exact ⟨g2, by first | omega | assumption | (constructor <;> omega) | (refine ⟨⟨?_, ?_⟩, ?_⟩ <;> omega) | (simp [hs_ss, hs_up]; omega) | (simp [hs_ss, hs_up]; done)⟩
set_option maxHeartbeats 4000000 in
set_option maxRecDepth 100000 in
theorem c_X12_can (l : Launch) (d : Int) (hd : hs_R d) (k : Int) (hk : hs_R k) : hs_Met l yX12_can cX12_can 9 (some .int) 4 SHY (fun ad => [.ref (ad 0), vI d, vI k]) (fun σ => GY σ σ) (hs_PI (fun σ z σ1 => GY σ σ1 ∧ hs_R z ∧ (¬ (0 ≤ d ∧ d ≤ k ∧ 0 ≤ k ∧ k ≤ 999) → z = -1) ∧ (σ 0 6 = 0 → 0 ≤ d ∧ d ≤ k ∧ 0 ≤ k ∧ k ≤ 999 → z = 0))) := by
  refine hs_from pfX12_can (fun _ => Nat.le_of_ble_eq_true rfl) ?_
  intro p e s m args below meth c D dA ad A σ C hpre
  have C : hs_C p s m args meth c D dA SHY ad A 9 cX12_can RX12 (some .int) := C
  have g0 := hpre
  show hs_Wd p l e 4 s m args below meth c D dA SHY ad A 9 (hs_PI (fun σ z σ1 => GY σ σ1 ∧ hs_R z ∧ (¬ (0 ≤ d ∧ d ≤ k ∧ 0 ≤ k ∧ k ≤ 999) → z = -1) ∧ (σ 0 6 = 0 → 0 ≤ d ∧ d ≤ k ∧ 0 ≤ k ∧ k ≤ 999 → z = 0)) σ) 0 [(0, .ref (ad 0)), (1, vI d), (2, vI k)] [] σ
  refine s_aload_n (pc := 0) C dX12_can_0 0 rfl ?_
  refine s_iconst (pc := 1) C dX12_can_1 ?_
  refine s_puti (q := 0) (ci := 12) (N := 68) (CN := RX12) (T := TX12) (ty0 := tyX12) (ty := .int) (pc := 2) C 2 dX12_can_2 wlX12_135 rfl rfl rfl wfX12 tyX12_ok nmX12 (by decide) rfl rfl rfl (vp_nar_int _) rfl ?_
  have g2 := gy_set (z := 0) g0 0 2 rfl (0) (2) rfl ⟨by omega, by omega⟩
  refine s_iload_n (pc := 5) C dX12_can_5 1 rfl ?_
  refine s_iload_n (pc := 6) C dX12_can_6 2 rfl ?_
  refine s_callSi (pc := 7) C (c_X12_areDays l d ⟨by omega, by omega⟩ k ⟨by omega, by omega⟩) [vI d, vI k] [] rfl rfl dX12_can_7 wlX12_380 wtX12_areDays wcX12_areDays wnX12 noX12_areDays (by decide) (by decide) (Nat.le_of_ble_eq_true rfl) (gy_self g2) ?_
  rintro z7 _ ⟨rfl, k7⟩
  show hs_Wd _ _ _ _ _ _ _ _ _ _ _ _ _ _ _ _ _ 10 _ [vI z7] (hs_ss σ 0 2 0)
  refine s_if_ne (pc := 10) C (tgt := 15) dX12_can_10 (by decide) ⟨by omega, by omega⟩ (fun h10 => ?_) (fun h10 => ?_)
  · skip
    refine s_aload_n (pc := 15) C dX12_can_15 0 rfl ?_
    refine s_iload_n (pc := 16) C dX12_can_16 2 rfl ?_
    refine s_callVv (pc := 17) C (c_X12_know l k ⟨by omega, by omega⟩) [vI k] [] rfl rfl dX12_can_17 wlX12_383 wiX12_know weX12_know wcX12_know wnX12 noX12_know (by decide) (by decide) (Nat.le_of_ble_eq_true rfl) (gy_self g2) rfl rfl ?_
    rintro σ17 k17
    have g17 := gy_trans g2 k17
    have e6 : σ17 0 6 = σ 0 6 := g17.2.2.2.1
    show hs_Wd _ _ _ _ _ _ _ _ _ _ _ _ _ _ _ _ _ 20 _ [] σ17
    refine s_iconst (pc := 20) C dX12_can_20 ?_
    refine s_istore_n (pc := 21) C [(3, vI 0), (0, .ref (ad 0)), (1, vI d), (2, vI k)] dX12_can_21 (by decide) rfl ?_
    refine s_bipush (pc := 22) C dX12_can_22 (by decide) ?_
    refine s_istore (pc := 24) C [(4, vI 7), (3, vI 0), (0, .ref (ad 0)), (1, vI d), (2, vI k)] dX12_can_24 (by decide) rfl ?_
    refine s_iconst (pc := 26) C dX12_can_26 ?_
    refine s_istore (pc := 27) C [(5, vI 1), (4, vI 7), (3, vI 0), (0, .ref (ad 0)), (1, vI d), (2, vI k)] dX12_can_27 (by decide) rfl ?_
    refine s_sub C [3, 4, 5, 2, 1, 0] [(0, .ref (ad 0)), (1, vI d), (2, vI k), (3, vI 0), (4, vI 7), (5, vI 1)] rfl ?_
    have hi29 : 1 ≤ (1 : Int) ∧ (1 : Int) ≤ 64 ∧ 0 ≤ (0 : Int) ∧ (0 : Int) ≤ 64 ∧ 0 ≤ (7 : Int) ∧ (7 : Int) ≤ 7 ∧ (σ17 0 6 = 0 → (0 : Int) = 0) := (by first | omega | assumption | (constructor <;> omega) | (refine ⟨⟨?_, ?_⟩, ?_⟩ <;> omega) | (simp [hs_ss, hs_up]; omega) | (simp [hs_ss, hs_up]; done))
    refine hs_loop (α := Int × Int × Int) (fun x_ => (1 ≤ x_.1 ∧ x_.1 ≤ 64 ∧ 0 ≤ x_.2.1 ∧ x_.2.1 ≤ 64 ∧ 0 ≤ x_.2.2 ∧ x_.2.2 ≤ 7 ∧ (σ17 0 6 = 0 → x_.2.1 = 0)) → hs_Wd p l e 4 s m args below meth c D dA SHY ad A 9 (hs_PI (fun σ z σ1 => GY σ σ1 ∧ hs_R z ∧ (¬ (0 ≤ d ∧ d ≤ k ∧ 0 ≤ k ∧ k ≤ 999) → z = -1) ∧ (σ 0 6 = 0 → 0 ≤ d ∧ d ≤ k ∧ 0 ≤ k ∧ k ≤ 999 → z = 0)) σ) 29 [(0, .ref (ad 0)), (1, vI d), (2, vI k), (3, vI x_.2.1), (4, vI x_.2.2), (5, vI x_.1)] [] σ17) (fun x_ => (65 - x_.1).toNat) ?_ (1, 0, 7) hi29
    rintro ⟨u, bb, fw⟩ ih29 hinv
    replace hinv : 1 ≤ u ∧ u ≤ 64 ∧ 0 ≤ bb ∧ bb ≤ 64 ∧ 0 ≤ fw ∧ fw ≤ 7 ∧ (σ17 0 6 = 0 → bb = 0) := hinv
    show hs_Wd p l e 4 s m args below meth c D dA SHY ad A 9 (hs_PI (fun σ z σ1 => GY σ σ1 ∧ hs_R z ∧ (¬ (0 ≤ d ∧ d ≤ k ∧ 0 ≤ k ∧ k ≤ 999) → z = -1) ∧ (σ 0 6 = 0 → 0 ≤ d ∧ d ≤ k ∧ 0 ≤ k ∧ k ≤ 999 → z = 0)) σ) 29 [(0, .ref (ad 0)), (1, vI d), (2, vI k), (3, vI bb), (4, vI fw), (5, vI u)] [] σ17
    have hu := hinv
    refine s_iload (pc := 29) C dX12_can_29 5 rfl ?_
    refine s_bipush (pc := 31) C dX12_can_31 (by decide) ?_
    refine s_icmp_ge (pc := 33) C (tgt := 129) dX12_can_33 (by decide) ⟨by omega, by omega⟩ ⟨by decide, by decide⟩ (fun h33 => ?_) (fun h33 => ?_)
    · skip
      refine s_iload_n (pc := 129) C dX12_can_129 3 rfl ?_
      refine s_iret (pc := 130) C dX12_can_130 ?_
      refine ⟨_, rfl, ?_⟩
      exact ⟨g17, ⟨by omega, by omega⟩, by omega, by omega⟩
    · skip
      refine s_iconst (pc := 36) C dX12_can_36 ?_
      refine s_istore (pc := 37) C [(6, vI 0), (0, .ref (ad 0)), (1, vI d), (2, vI k), (3, vI bb), (4, vI fw), (5, vI u)] dX12_can_37 (by decide) rfl ?_
      refine s_iconst (pc := 39) C dX12_can_39 ?_
      refine s_istore (pc := 40) C [(7, vI 0), (6, vI 0), (0, .ref (ad 0)), (1, vI d), (2, vI k), (3, vI bb), (4, vI fw), (5, vI u)] dX12_can_40 (by decide) rfl ?_
      refine s_iconst (pc := 42) C dX12_can_42 ?_
      refine s_istore (pc := 43) C [(8, vI 0), (7, vI 0), (6, vI 0), (0, .ref (ad 0)), (1, vI d), (2, vI k), (3, vI bb), (4, vI fw), (5, vI u)] dX12_can_43 (by decide) rfl ?_
      refine s_sub C [3, 4, 5, 6, 7, 8, 2, 1, 0] [(0, .ref (ad 0)), (1, vI d), (2, vI k), (3, vI bb), (4, vI fw), (5, vI u), (6, vI 0), (7, vI 0), (8, vI 0)] rfl ?_
      have hi45 : 0 ≤ (0 : Int) ∧ (0 : Int) ≤ 6 ∧ 0 ≤ (0 : Int) ∧ (0 : Int) ≤ (0 : Int) ∧ (-2147483648 ≤ (0 : Int) ∧ (0 : Int) ≤ 2147483647) := (by first | omega | assumption | (constructor <;> omega) | (refine ⟨⟨?_, ?_⟩, ?_⟩ <;> omega) | (simp [hs_ss, hs_up]; omega) | (simp [hs_ss, hs_up]; done))
      refine hs_loop (α := Int × Int × Int) (fun x_ => (0 ≤ x_.1 ∧ x_.1 ≤ 6 ∧ 0 ≤ x_.2.1 ∧ x_.2.1 ≤ x_.1 ∧ (-2147483648 ≤ x_.2.2 ∧ x_.2.2 ≤ 2147483647)) → hs_Wd p l e 4 s m args below meth c D dA SHY ad A 9 (hs_PI (fun σ z σ1 => GY σ σ1 ∧ hs_R z ∧ (¬ (0 ≤ d ∧ d ≤ k ∧ 0 ≤ k ∧ k ≤ 999) → z = -1) ∧ (σ 0 6 = 0 → 0 ≤ d ∧ d ≤ k ∧ 0 ≤ k ∧ k ≤ 999 → z = 0)) σ) 45 [(0, .ref (ad 0)), (1, vI d), (2, vI k), (3, vI bb), (4, vI fw), (5, vI u), (6, vI x_.2.1), (7, vI x_.2.2), (8, vI x_.1)] [] σ17) (fun x_ => (7 - x_.1).toNat) ?_ (0, 0, 0) hi45
      rintro ⟨v, nn, al⟩ ih45 hinv
      replace hinv : 0 ≤ v ∧ v ≤ 6 ∧ 0 ≤ nn ∧ nn ≤ v ∧ (-2147483648 ≤ al ∧ al ≤ 2147483647) := hinv
      show hs_Wd p l e 4 s m args below meth c D dA SHY ad A 9 (hs_PI (fun σ z σ1 => GY σ σ1 ∧ hs_R z ∧ (¬ (0 ≤ d ∧ d ≤ k ∧ 0 ≤ k ∧ k ≤ 999) → z = -1) ∧ (σ 0 6 = 0 → 0 ≤ d ∧ d ≤ k ∧ 0 ≤ k ∧ k ≤ 999 → z = 0)) σ) 45 [(0, .ref (ad 0)), (1, vI d), (2, vI k), (3, vI bb), (4, vI fw), (5, vI u), (6, vI nn), (7, vI al), (8, vI v)] [] σ17
      refine s_iload (pc := 45) C dX12_can_45 8 rfl ?_
      refine s_bipush (pc := 47) C dX12_can_47 (by decide) ?_
      refine s_icmp_ge (pc := 49) C (tgt := 86) dX12_can_49 (by decide) ⟨by omega, by omega⟩ ⟨by decide, by decide⟩ (fun h49 => ?_) (fun h49 => ?_)
      · skip
        refine s_aload_n (pc := 86) C dX12_can_86 0 rfl ?_
        refine s_geti (q := 0) (ci := 12) (N := 68) (CN := RX12) (T := TX12) (pc := 87) C 6 dX12_can_87 wlX12_141 rfl rfl rfl wfX12 (by decide) rfl (σ17 0 6) rfl ?_
        have b87 : (0 : Int) ≤ σ17 0 6 ∧ σ17 0 6 ≤ 4 := g17.1 0 6
        refine s_if_eq (pc := 90) C (tgt := 123) dX12_can_90 (by decide) ⟨by omega, by omega⟩ (fun h90 => ?_) (fun h90 => ?_)
        · skip
          refine s_iinc (pc := 123) C [(5, vI (u + 1)), (0, .ref (ad 0)), (1, vI d), (2, vI k), (3, vI bb), (4, vI fw), (6, vI nn), (7, vI al), (8, vI v)] dX12_can_123 5 rfl (by decide) rfl ?_
          refine s_goto (pc := 126) C (tgt := 29) dX12_can_126 (by decide) ?_
          refine s_sub C [1, 2, 3, 4, 5, 0] [(0, .ref (ad 0)), (1, vI d), (2, vI k), (3, vI bb), (4, vI fw), (5, vI (u + 1))] rfl ?_
          have hi29 : 1 ≤ (u + 1) ∧ (u + 1) ≤ 64 ∧ 0 ≤ bb ∧ bb ≤ 64 ∧ 0 ≤ fw ∧ fw ≤ 7 ∧ (σ17 0 6 = 0 → bb = 0) := (by first | omega | assumption | (constructor <;> omega) | (refine ⟨⟨?_, ?_⟩, ?_⟩ <;> omega) | (simp [hs_ss, hs_up]; omega) | (simp [hs_ss, hs_up]; done))
          exact ih29 (u + 1, bb, fw) (by first | omega | (simp only []; omega)) hi29
        · skip
          refine s_iload (pc := 93) C dX12_can_93 7 rfl ?_
          refine s_iconst (pc := 95) C dX12_can_95 ?_
          refine s_aload_n (pc := 96) C dX12_can_96 0 rfl ?_
          refine s_geti (q := 0) (ci := 12) (N := 68) (CN := RX12) (T := TX12) (pc := 97) C 6 dX12_can_97 wlX12_141 rfl rfl rfl wfX12 (by decide) rfl (σ17 0 6) rfl ?_
          have b97 : (0 : Int) ≤ σ17 0 6 ∧ σ17 0 6 ≤ 4 := g17.1 0 6
          refine s_ishl (pc := 100) C dX12_can_100 (fun z100 hz100 ez100 => ?_)
          have hsl := hs_shl b97 ez100
          refine s_iconst (pc := 101) C dX12_can_101 ?_
          refine s_isub (pc := 102) C dX12_can_102 ?_
          refine s_icmp_ne (pc := 103) C (tgt := 123) dX12_can_103 (by decide) ⟨by omega, by omega⟩ ⟨by omega, by omega⟩ (fun h103 => ?_) (fun h103 => ?_)
          · skip
            refine s_iinc (pc := 123) C [(5, vI (u + 1)), (0, .ref (ad 0)), (1, vI d), (2, vI k), (3, vI bb), (4, vI fw), (6, vI nn), (7, vI al), (8, vI v)] dX12_can_123 5 rfl (by decide) rfl ?_
            refine s_goto (pc := 126) C (tgt := 29) dX12_can_126 (by decide) ?_
            refine s_sub C [1, 2, 3, 4, 5, 0] [(0, .ref (ad 0)), (1, vI d), (2, vI k), (3, vI bb), (4, vI fw), (5, vI (u + 1))] rfl ?_
            have hi29 : 1 ≤ (u + 1) ∧ (u + 1) ≤ 64 ∧ 0 ≤ bb ∧ bb ≤ 64 ∧ 0 ≤ fw ∧ fw ≤ 7 ∧ (σ17 0 6 = 0 → bb = 0) := (by first | omega | assumption | (constructor <;> omega) | (refine ⟨⟨?_, ?_⟩, ?_⟩ <;> omega) | (simp [hs_ss, hs_up]; omega) | (simp [hs_ss, hs_up]; done))
            exact ih29 (u + 1, bb, fw) (by first | omega | (simp only []; omega)) hi29
          · skip
            refine s_iload (pc := 106) C dX12_can_106 6 rfl ?_
            refine s_iload (pc := 108) C dX12_can_108 4 rfl ?_
            refine s_icmp_lt (pc := 110) C (tgt := 116) dX12_can_110 (by decide) ⟨by omega, by omega⟩ ⟨by omega, by omega⟩ (fun h110 => ?_) (fun h110 => ?_)
            · skip
              refine s_iload (pc := 116) C dX12_can_116 6 rfl ?_
              refine s_istore (pc := 118) C [(4, vI nn), (0, .ref (ad 0)), (1, vI d), (2, vI k), (3, vI bb), (5, vI u), (6, vI nn), (7, vI al), (8, vI v)] dX12_can_118 (by decide) rfl ?_
              refine s_iload (pc := 120) C dX12_can_120 5 rfl ?_
              refine s_istore_n (pc := 122) C [(3, vI u), (4, vI nn), (0, .ref (ad 0)), (1, vI d), (2, vI k), (5, vI u), (6, vI nn), (7, vI al), (8, vI v)] dX12_can_122 (by decide) rfl ?_
              refine s_iinc (pc := 123) C [(5, vI (u + 1)), (3, vI u), (4, vI nn), (0, .ref (ad 0)), (1, vI d), (2, vI k), (6, vI nn), (7, vI al), (8, vI v)] dX12_can_123 5 rfl (by decide) rfl ?_
              refine s_goto (pc := 126) C (tgt := 29) dX12_can_126 (by decide) ?_
              refine s_sub C [3, 4, 5, 1, 2, 0] [(0, .ref (ad 0)), (1, vI d), (2, vI k), (3, vI u), (4, vI nn), (5, vI (u + 1))] rfl ?_
              have hi29 : 1 ≤ (u + 1) ∧ (u + 1) ≤ 64 ∧ 0 ≤ u ∧ u ≤ 64 ∧ 0 ≤ nn ∧ nn ≤ 7 ∧ (σ17 0 6 = 0 → u = 0) := (by first | omega | assumption | (constructor <;> omega) | (refine ⟨⟨?_, ?_⟩, ?_⟩ <;> omega) | (simp [hs_ss, hs_up]; omega) | (simp [hs_ss, hs_up]; done))
              exact ih29 (u + 1, u, nn) (by first | omega | (simp only []; omega)) hi29
            · skip
              refine s_goto (pc := 113) C (tgt := 123) dX12_can_113 (by decide) ?_
              refine s_iinc (pc := 123) C [(5, vI (u + 1)), (0, .ref (ad 0)), (1, vI d), (2, vI k), (3, vI bb), (4, vI fw), (6, vI nn), (7, vI al), (8, vI v)] dX12_can_123 5 rfl (by decide) rfl ?_
              refine s_goto (pc := 126) C (tgt := 29) dX12_can_126 (by decide) ?_
              refine s_sub C [1, 2, 3, 4, 5, 0] [(0, .ref (ad 0)), (1, vI d), (2, vI k), (3, vI bb), (4, vI fw), (5, vI (u + 1))] rfl ?_
              have hi29 : 1 ≤ (u + 1) ∧ (u + 1) ≤ 64 ∧ 0 ≤ bb ∧ bb ≤ 64 ∧ 0 ≤ fw ∧ fw ≤ 7 ∧ (σ17 0 6 = 0 → bb = 0) := (by first | omega | assumption | (constructor <;> omega) | (refine ⟨⟨?_, ?_⟩, ?_⟩ <;> omega) | (simp [hs_ss, hs_up]; omega) | (simp [hs_ss, hs_up]; done))
              exact ih29 (u + 1, bb, fw) (by first | omega | (simp only []; omega)) hi29
      · skip
        refine s_iload (pc := 52) C dX12_can_52 5 rfl ?_
        refine s_iload (pc := 54) C dX12_can_54 8 rfl ?_
        refine s_ishr (pc := 56) C dX12_can_56 (fun z56 hz56 ez56 => ?_)
        refine s_iconst (pc := 57) C dX12_can_57 ?_
        refine s_iand (pc := 58) C dX12_can_58 (fun z58 hz58 ez58 => ?_)
        refine s_if_ne (pc := 59) C (tgt := 65) dX12_can_59 (by decide) ⟨by omega, by omega⟩ (fun h59 => ?_) (fun h59 => ?_)
        · skip
          refine s_iinc (pc := 65) C [(6, vI (nn + 1)), (0, .ref (ad 0)), (1, vI d), (2, vI k), (3, vI bb), (4, vI fw), (5, vI u), (7, vI al), (8, vI v)] dX12_can_65 6 rfl (by decide) rfl ?_
          refine s_iload (pc := 68) C dX12_can_68 7 rfl ?_
          refine s_aload_n (pc := 70) C dX12_can_70 1 rfl ?_
          refine s_iload (pc := 71) C dX12_can_71 8 rfl ?_
          refine s_iload_n (pc := 73) C dX12_can_73 2 rfl ?_
          refine s_callVi (pc := 74) C (c_X12_knownBy l v d ⟨by omega, by omega⟩ (by first | omega | assumption | (constructor <;> omega) | (refine ⟨⟨?_, ?_⟩, ?_⟩ <;> omega) | (simp [hs_ss, hs_up]; omega) | (simp [hs_ss, hs_up]; done))) [vI v, vI d] [vI al] rfl rfl dX12_can_74 wlX12_386 wiX12_knownBy weX12_knownBy wcX12_knownBy wnX12 noX12_knownBy (by decide) (by decide) (Nat.le_of_ble_eq_true rfl) (gy_self g17) rfl rfl ?_
          rintro z74 _ ⟨rfl, k74⟩
          show hs_Wd _ _ _ _ _ _ _ _ _ _ _ _ _ _ _ _ _ 77 _ [vI z74, vI al] σ17
          refine s_ior (pc := 77) C dX12_can_77 (fun z77 hz77 ez77 => ?_)
          refine s_istore (pc := 78) C [(7, vI z77), (6, vI (nn + 1)), (0, .ref (ad 0)), (1, vI d), (2, vI k), (3, vI bb), (4, vI fw), (5, vI u), (8, vI v)] dX12_can_78 (by decide) rfl ?_
          refine s_iinc (pc := 80) C [(8, vI (v + 1)), (7, vI z77), (6, vI (nn + 1)), (0, .ref (ad 0)), (1, vI d), (2, vI k), (3, vI bb), (4, vI fw), (5, vI u)] dX12_can_80 8 rfl (by decide) rfl ?_
          refine s_goto (pc := 83) C (tgt := 45) dX12_can_83 (by decide) ?_
          refine s_sub C [3, 4, 5, 6, 7, 8, 2, 1, 0] [(0, .ref (ad 0)), (1, vI d), (2, vI k), (3, vI bb), (4, vI fw), (5, vI u), (6, vI (nn + 1)), (7, vI z77), (8, vI (v + 1))] rfl ?_
          have hi45 : 0 ≤ (v + 1) ∧ (v + 1) ≤ 6 ∧ 0 ≤ (nn + 1) ∧ (nn + 1) ≤ (v + 1) ∧ (-2147483648 ≤ z77 ∧ z77 ≤ 2147483647) := (by first | omega | assumption | (constructor <;> omega) | (refine ⟨⟨?_, ?_⟩, ?_⟩ <;> omega) | (simp [hs_ss, hs_up]; omega) | (simp [hs_ss, hs_up]; done))
          exact ih45 (v + 1, nn + 1, z77) (by first | omega | (simp only []; omega)) hi45
        · skip
          refine s_goto (pc := 62) C (tgt := 80) dX12_can_62 (by decide) ?_
          refine s_iinc (pc := 80) C [(8, vI (v + 1)), (0, .ref (ad 0)), (1, vI d), (2, vI k), (3, vI bb), (4, vI fw), (5, vI u), (6, vI nn), (7, vI al)] dX12_can_80 8 rfl (by decide) rfl ?_
          refine s_goto (pc := 83) C (tgt := 45) dX12_can_83 (by decide) ?_
          refine s_sub C [1, 2, 3, 4, 5, 6, 7, 8, 0] [(0, .ref (ad 0)), (1, vI d), (2, vI k), (3, vI bb), (4, vI fw), (5, vI u), (6, vI nn), (7, vI al), (8, vI (v + 1))] rfl ?_
          have hi45 : 0 ≤ (v + 1) ∧ (v + 1) ≤ 6 ∧ 0 ≤ nn ∧ nn ≤ (v + 1) ∧ (-2147483648 ≤ al ∧ al ≤ 2147483647) := (by first | omega | assumption | (constructor <;> omega) | (refine ⟨⟨?_, ?_⟩, ?_⟩ <;> omega) | (simp [hs_ss, hs_up]; omega) | (simp [hs_ss, hs_up]; done))
          exact ih45 (v + 1, nn, al) (by first | omega | (simp only []; omega)) hi45
  · skip
    refine s_iconst (pc := 13) C dX12_can_13 ?_
    refine s_iret (pc := 14) C dX12_can_14 ?_
    refine ⟨_, rfl, ?_⟩
    exact ⟨g2, ⟨by omega, by omega⟩, by omega, by omega⟩
