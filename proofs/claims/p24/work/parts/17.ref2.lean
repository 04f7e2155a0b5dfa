set_option maxHeartbeats 4000000 in
set_option maxRecDepth 100000 in
theorem c_X12_rides (l : Launch)  : hs_Met l yX12_rides cX12_rides 1 (some .int) 7 SHY (fun ad => [.ref (ad 0)]) (fun σ => GY σ σ) (hs_PI (fun σ z σ1 => GY σ σ1 ∧ -7000 ≤ z ∧ z ≤ 7000 ∧ (σ 0 6 = 0 → z = 0))) := by
  refine hs_from pfX12_rides (fun _ => Nat.le_of_ble_eq_true rfl) ?_
  intro p e s m args below meth c D dA ad A σ C hpre
  have C : hs_C p s m args meth c D dA SHY ad A 1 cX12_rides RX12 (some .int) := C
  have g0 := hpre
  show hs_Wd p l e 7 s m args below meth c D dA SHY ad A 1 (hs_PI (fun σ z σ1 => GY σ σ1 ∧ -7000 ≤ z ∧ z ≤ 7000 ∧ (σ 0 6 = 0 → z = 0)) σ) 0 [(0, .ref (ad 0))] [] σ
  refine s_aload_n (pc := 0) C dX12_rides_0 0 rfl ?_
  refine s_iconst (pc := 1) C dX12_rides_1 ?_
  refine s_puti (q := 0) (ci := 12) (N := 68) (CN := RX12) (T := TX12) (ty0 := tyX12) (ty := .int) (pc := 2) C 2 dX12_rides_2 wlX12_135 rfl rfl rfl wfX12 tyX12_ok nmX12 (by decide) rfl rfl rfl (vp_nar_int _) rfl ?_
  have g2 := gy_set (z := 0) g0 0 2 rfl (0) (2) rfl ⟨by omega, by omega⟩
  refine s_aload_n (pc := 5) C dX12_rides_5 0 rfl ?_
  have r6_0_6 : (hs_ss σ 0 2 0) 0 6 = σ 0 6 := rfl
  refine s_callVi (pc := 6) C (c_X12_ridesNow l) [] [] rfl rfl dX12_rides_6 wlX12_179 wiX12_ridesNow weX12_ridesNow wcX12_ridesNow wnX12 noX12_ridesNow (by decide) (by decide) (Nat.le_of_ble_eq_true rfl) (gy_self g2) rfl rfl ?_
  rintro z6 _ ⟨rfl, k6⟩
  show hs_Wd _ _ _ _ _ _ _ _ _ _ _ _ _ _ _ _ _ 9 _ [vI z6] (hs_ss σ 0 2 0)
  refine s_iret (pc := 9) C dX12_rides_9 ?_
  refine ⟨_, rfl, ?_⟩
  exact ⟨g2, by first | omega | assumption | (constructor <;> omega) | (refine ⟨⟨?_, ?_⟩, ?_⟩ <;> omega) | (simp [hs_ss, hs_up]; omega) | (simp [hs_ss, hs_up]; done)⟩
set_option maxHeartbeats 4000000 in
set_option maxRecDepth 100000 in
theorem c_X12_open (l : Launch)  : hs_Met l yX12_open cX12_open 1 (some .int) 8 SHY (fun ad => [.ref (ad 0)]) (fun σ => GY σ σ) (hs_PI (fun σ z σ1 => GY σ σ1 ∧ 0 ≤ z ∧ z ≤ 2 ∧ (σ 0 6 = 0 → σ 0 17 = 0 → z = 1))) := by
  refine hs_from pfX12_open (fun _ => Nat.le_of_ble_eq_true rfl) ?_
  intro p e s m args below meth c D dA ad A σ C hpre
  have C : hs_C p s m args meth c D dA SHY ad A 1 cX12_open RX12 (some .int) := C
  have g0 := hpre
  show hs_Wd p l e 8 s m args below meth c D dA SHY ad A 1 (hs_PI (fun σ z σ1 => GY σ σ1 ∧ 0 ≤ z ∧ z ≤ 2 ∧ (σ 0 6 = 0 → σ 0 17 = 0 → z = 1)) σ) 0 [(0, .ref (ad 0))] [] σ
  refine s_aload_n (pc := 0) C dX12_open_0 0 rfl ?_
  refine s_iconst (pc := 1) C dX12_open_1 ?_
  refine s_puti (q := 0) (ci := 12) (N := 68) (CN := RX12) (T := TX12) (ty0 := tyX12) (ty := .int) (pc := 2) C 2 dX12_open_2 wlX12_135 rfl rfl rfl wfX12 tyX12_ok nmX12 (by decide) rfl rfl rfl (vp_nar_int _) rfl ?_
  have g2 := gy_set (z := 0) g0 0 2 rfl (0) (2) rfl ⟨by omega, by omega⟩
  refine s_aload_n (pc := 5) C dX12_open_5 0 rfl ?_
  have r6_0_17 : (hs_ss σ 0 2 0) 0 17 = σ 0 17 := rfl
  have r6_0_6 : (hs_ss σ 0 2 0) 0 6 = σ 0 6 := rfl
  refine s_callVi (pc := 6) C (c_X12_tried l) [] [] rfl rfl dX12_open_6 wlX12_186 wiX12_tried weX12_tried wcX12_tried wnX12 noX12_tried (by decide) (by decide) (Nat.le_of_ble_eq_true rfl) (gy_self g2) rfl rfl ?_
  rintro z6 _ ⟨rfl, k6⟩
  show hs_Wd _ _ _ _ _ _ _ _ _ _ _ _ _ _ _ _ _ 9 _ [vI z6] (hs_ss σ 0 2 0)
  refine s_iret (pc := 9) C dX12_open_9 ?_
  refine ⟨_, rfl, ?_⟩
  exact ⟨g2, by first | omega | assumption | (constructor <;> omega) | (refine ⟨⟨?_, ?_⟩, ?_⟩ <;> omega) | (simp [hs_ss, hs_up]; omega) | (simp [hs_ss, hs_up]; done)⟩
set_option maxHeartbeats 4000000 in
set_option maxRecDepth 100000 in
theorem c_X12_feed (l : Launch) (a0 : Int) (ha0 : hs_R a0) (a1 : Int) (ha1 : hs_R a1) (a2 : Int) (ha2 : hs_R a2) (a3 : Int) (ha3 : hs_R a3) (a4 : Int) (ha4 : hs_R a4) : hs_Met l yX12_feed cX12_feed 8 (some .int) 1 SHY (fun ad => [.ref (ad 0), vI a0, vI a1, vI a2, vI a3, vI a4]) (fun σ => GY σ σ) (hs_PI (fun σ z σ1 => (500 < σ 0 1 + 20 → z = -1 ∧ GY σ σ1) ∧ (σ 0 1 + 20 ≤ 500 → z = σ 0 1 + 20 ∧ GY σ1 σ1 ∧ σ1 0 1 = σ 0 1 + 20 ∧ σ1 0 3 = σ 0 3 ∧ σ1 0 6 = σ 0 6 ∧ σ1 0 61 = σ 0 61 ∧ σ1 0 18 = σ 0 18))) := by
  refine hs_from pfX12_feed (fun _ => Nat.le_of_ble_eq_true rfl) ?_
  intro p e s m args below meth c D dA ad A σ C hpre
  have C : hs_C p s m args meth c D dA SHY ad A 8 cX12_feed RX12 (some .int) := C
  have g0 := hpre
  show hs_Wd p l e 1 s m args below meth c D dA SHY ad A 8 (hs_PI (fun σ z σ1 => (500 < σ 0 1 + 20 → z = -1 ∧ GY σ σ1) ∧ (σ 0 1 + 20 ≤ 500 → z = σ 0 1 + 20 ∧ GY σ1 σ1 ∧ σ1 0 1 = σ 0 1 + 20 ∧ σ1 0 3 = σ 0 3 ∧ σ1 0 6 = σ 0 6 ∧ σ1 0 61 = σ 0 61 ∧ σ1 0 18 = σ 0 18)) σ) 0 [(0, .ref (ad 0)), (1, vI a0), (2, vI a1), (3, vI a2), (4, vI a3), (5, vI a4)] [] σ
  refine s_aload_n (pc := 0) C dX12_feed_0 0 rfl ?_
  refine s_iconst (pc := 1) C dX12_feed_1 ?_
  refine s_puti (q := 0) (ci := 12) (N := 68) (CN := RX12) (T := TX12) (ty0 := tyX12) (ty := .int) (pc := 2) C 2 dX12_feed_2 wlX12_135 rfl rfl rfl wfX12 tyX12_ok nmX12 (by decide) rfl rfl rfl (vp_nar_int _) rfl ?_
  have g2 := gy_set (z := 0) g0 0 2 rfl (0) (2) rfl ⟨by omega, by omega⟩
  refine s_aload_n (pc := 5) C dX12_feed_5 0 rfl ?_
  refine s_geti (q := 0) (ci := 12) (N := 68) (CN := RX12) (T := TX12) (pc := 6) C 1 dX12_feed_6 wlX12_138 rfl rfl rfl wfX12 (by decide) rfl (σ 0 1) rfl ?_
  have b6 : (0 : Int) ≤ σ 0 1 ∧ σ 0 1 ≤ 500 := g2.1 0 1
  refine s_bipush (pc := 9) C dX12_feed_9 (by decide) ?_
  refine s_iadd (pc := 11) C dX12_feed_11 ?_
  refine s_sipush (pc := 12) C dX12_feed_12 (by decide) ?_
  refine s_icmp_le (pc := 15) C (tgt := 20) dX12_feed_15 (by decide) ⟨by omega, by omega⟩ ⟨by decide, by decide⟩ (fun h15 => ?_) (fun h15 => ?_)
  · skip
    refine s_iconst (pc := 20) C dX12_feed_20 ?_
    refine s_istore (pc := 21) C [(6, vI 0), (0, .ref (ad 0)), (1, vI a0), (2, vI a1), (3, vI a2), (4, vI a3), (5, vI a4)] dX12_feed_21 (by decide) rfl ?_
    refine s_sub C [1, 2, 3, 4, 5, 6, 0] [(0, .ref (ad 0)), (1, vI a0), (2, vI a1), (3, vI a2), (4, vI a3), (5, vI a4), (6, vI 0)] rfl ?_
    have hi23 : GY σ ((hs_ss σ 0 2 0)) ∧ 0 ≤ (0 : Int) ∧ (0 : Int) ≤ 20 := ⟨g2, by first | omega | assumption | (constructor <;> omega) | (refine ⟨⟨?_, ?_⟩, ?_⟩ <;> omega) | (simp [hs_ss, hs_up]; omega) | (simp [hs_ss, hs_up]; done)⟩
    refine hs_loop (α := Int × hs_S) (fun x_ => (GY σ x_.2 ∧ 0 ≤ x_.1 ∧ x_.1 ≤ 20) → hs_Wd p l e 1 s m args below meth c D dA SHY ad A 8 (hs_PI (fun σ z σ1 => (500 < σ 0 1 + 20 → z = -1 ∧ GY σ σ1) ∧ (σ 0 1 + 20 ≤ 500 → z = σ 0 1 + 20 ∧ GY σ1 σ1 ∧ σ1 0 1 = σ 0 1 + 20 ∧ σ1 0 3 = σ 0 3 ∧ σ1 0 6 = σ 0 6 ∧ σ1 0 61 = σ 0 61 ∧ σ1 0 18 = σ 0 18)) σ) 23 [(0, .ref (ad 0)), (1, vI a0), (2, vI a1), (3, vI a2), (4, vI a3), (5, vI a4), (6, vI x_.1)] [] x_.2) (fun x_ => (21 - x_.1).toNat) ?_ (0, (hs_ss σ 0 2 0)) hi23
    rintro ⟨k, σ1⟩ ih23 hinv
    replace hinv : GY σ σ1 ∧ 0 ≤ k ∧ k ≤ 20 := hinv
    show hs_Wd p l e 1 s m args below meth c D dA SHY ad A 8 (hs_PI (fun σ z σ1 => (500 < σ 0 1 + 20 → z = -1 ∧ GY σ σ1) ∧ (σ 0 1 + 20 ≤ 500 → z = σ 0 1 + 20 ∧ GY σ1 σ1 ∧ σ1 0 1 = σ 0 1 + 20 ∧ σ1 0 3 = σ 0 3 ∧ σ1 0 6 = σ 0 6 ∧ σ1 0 61 = σ 0 61 ∧ σ1 0 18 = σ 0 18)) σ) 23 [(0, .ref (ad 0)), (1, vI a0), (2, vI a1), (3, vI a2), (4, vI a3), (5, vI a4), (6, vI k)] [] σ1
    obtain ⟨hg, hk⟩ := hinv
    have e1 : σ1 0 1 = σ 0 1 := hg.2.1
    refine s_iload (pc := 23) C dX12_feed_23 6 rfl ?_
    refine s_bipush (pc := 25) C dX12_feed_25 (by decide) ?_
    refine s_icmp_ge (pc := 27) C (tgt := 113) dX12_feed_27 (by decide) ⟨by omega, by omega⟩ ⟨by decide, by decide⟩ (fun h27 => ?_) (fun h27 => ?_)
    · skip
      refine s_aload_n (pc := 113) C dX12_feed_113 0 rfl ?_
      refine s_dup (pc := 114) C dX12_feed_114 rfl ?_
      refine s_geti (q := 0) (ci := 12) (N := 68) (CN := RX12) (T := TX12) (pc := 115) C 1 dX12_feed_115 wlX12_138 rfl rfl rfl wfX12 (by decide) rfl (σ1 0 1) rfl ?_
      have b115 : (0 : Int) ≤ σ1 0 1 ∧ σ1 0 1 ≤ 500 := hg.1 0 1
      refine s_bipush (pc := 118) C dX12_feed_118 (by decide) ?_
      refine s_iadd (pc := 120) C dX12_feed_120 ?_
      refine s_puti (q := 0) (ci := 12) (N := 68) (CN := RX12) (T := TX12) (ty0 := tyX12) (ty := .int) (pc := 121) C 1 dX12_feed_121 wlX12_138 rfl rfl rfl wfX12 tyX12_ok nmX12 (by decide) rfl rfl rfl (vp_nar_int _) rfl ?_
      have g121 : GY ((hs_ss σ1 0 1 ((σ1 0 1) + 20))) ((hs_ss σ1 0 1 ((σ1 0 1) + 20))) := ⟨iby_set (z := σ1 0 1 + 20) hg.1 0 1 0 500 rfl (by omega), ky_rf⟩
      refine s_aload_n (pc := 124) C dX12_feed_124 0 rfl ?_
      refine s_geti (q := 0) (ci := 12) (N := 68) (CN := RX12) (T := TX12) (pc := 125) C 1 dX12_feed_125 wlX12_138 rfl rfl rfl wfX12 (by decide) rfl ((σ1 0 1) + 20) rfl ?_
      have b125 : (0 : Int) ≤ (σ1 0 1) + 20 ∧ (σ1 0 1) + 20 ≤ 500 := g121.1 0 1
      refine s_iret (pc := 128) C dX12_feed_128 ?_
      refine ⟨_, rfl, ?_⟩
      exact ⟨fun q => by exfalso; omega, fun _ => ⟨by omega, g121, by show σ1 0 1 + 20 = _; omega, hg.2.2.1, hg.2.2.2.1, hg.2.2.2.2.1, hg.2.2.2.2.2⟩⟩
    · skip
      refine s_iload (pc := 30) C dX12_feed_30 6 rfl ?_
      refine s_iconst (pc := 32) C dX12_feed_32 ?_
      refine s_icmp_ge (pc := 33) C (tgt := 40) dX12_feed_33 (by decide) ⟨by omega, by omega⟩ ⟨by decide, by decide⟩ (fun h33 => ?_) (fun h33 => ?_)
      · skip
        refine s_iload (pc := 40) C dX12_feed_40 6 rfl ?_
        refine s_bipush (pc := 42) C dX12_feed_42 (by decide) ?_
        refine s_icmp_ge (pc := 44) C (tgt := 51) dX12_feed_44 (by decide) ⟨by omega, by omega⟩ ⟨by decide, by decide⟩ (fun h44 => ?_) (fun h44 => ?_)
        · skip
          refine s_iload (pc := 51) C dX12_feed_51 6 rfl ?_
          refine s_bipush (pc := 53) C dX12_feed_53 (by decide) ?_
          refine s_icmp_ge (pc := 55) C (tgt := 62) dX12_feed_55 (by decide) ⟨by omega, by omega⟩ ⟨by decide, by decide⟩ (fun h55 => ?_) (fun h55 => ?_)
          · skip
            refine s_iload (pc := 62) C dX12_feed_62 6 rfl ?_
            refine s_bipush (pc := 64) C dX12_feed_64 (by decide) ?_
            refine s_icmp_ge (pc := 66) C (tgt := 74) dX12_feed_66 (by decide) ⟨by omega, by omega⟩ ⟨by decide, by decide⟩ (fun h66 => ?_) (fun h66 => ?_)
            · skip
              refine s_iload (pc := 74) C dX12_feed_74 5 rfl ?_
              refine s_istore (pc := 76) C [(7, vI a4), (0, .ref (ad 0)), (1, vI a0), (2, vI a1), (3, vI a2), (4, vI a3), (5, vI a4), (6, vI k)] dX12_feed_76 (by decide) rfl ?_
              refine s_aload_n (pc := 78) C dX12_feed_78 1 rfl ?_
              refine s_getr (q := 0) (ci := 12) (N := 68) (CN := RX12) (T := TX12) (pc := 79) C 0 dX12_feed_79 wlX12_7 rfl rfl rfl wfX12 (by decide) rfl ?_
              refine s_aload_n (pc := 82) C dX12_feed_82 1 rfl ?_
              refine s_geti (q := 0) (ci := 12) (N := 68) (CN := RX12) (T := TX12) (pc := 83) C 1 dX12_feed_83 wlX12_138 rfl rfl rfl wfX12 (by decide) rfl (σ1 0 1) rfl ?_
              have b83 : (0 : Int) ≤ σ1 0 1 ∧ σ1 0 1 ≤ 500 := hg.1 0 1
              refine s_iload (pc := 86) C dX12_feed_86 7 rfl ?_
              refine s_iadd (pc := 88) C dX12_feed_88 ?_
              refine s_iload (pc := 89) C dX12_feed_89 0 rfl ?_
              refine s_bipush (pc := 91) C dX12_feed_91 (by decide) ?_
              refine s_bipush (pc := 93) C dX12_feed_93 (by decide) ?_
              refine s_iload (pc := 95) C dX12_feed_95 7 rfl ?_
              refine s_iconst (pc := 97) C dX12_feed_97 ?_
              refine s_irem (pc := 98) C dX12_feed_98 ⟨by omega, by omega⟩ ⟨by decide, by decide⟩ (by omega) ?_
              refine s_imul (pc := 99) C dX12_feed_99 ?_
              refine s_isub (pc := 100) C dX12_feed_100 ?_
              refine s_ishr (pc := 101) C dX12_feed_101 (fun z101 hz101 ez101 => ?_)
              refine s_sipush (pc := 102) C dX12_feed_102 (by decide) ?_
              refine s_iand (pc := 105) C dX12_feed_105 (fun z105 hz105 ez105 => ?_)
              have ha255 := hs_and255 ez105
              refine s_iast (q := 1) (n := 500) (pc := 106) C dX12_feed_106 rfl (by omega) (by omega) (by decide) ?_
              have g106 := gy_set (z := z105) hg 1 (((σ1 0 1) + k).toNat) rfl (0) (255) rfl ⟨by omega, by omega⟩
              refine s_iinc (pc := 107) C [(6, vI (k + 1)), (7, vI a4), (0, .ref (ad 0)), (1, vI a0), (2, vI a1), (3, vI a2), (4, vI a3), (5, vI a4)] dX12_feed_107 7 rfl (by decide) rfl ?_
              refine s_goto (pc := 110) C (tgt := 23) dX12_feed_110 (by decide) ?_
              refine s_sub C [2, 3, 4, 5, 6, 7, 0] [(0, .ref (ad 0)), (1, vI a0), (2, vI a1), (3, vI a2), (4, vI a3), (5, vI a4), (6, vI (k + 1))] rfl ?_
              have hi23 : GY σ ((hs_ss σ1 1 (((σ1 0 1) + k).toNat) z105)) ∧ 0 ≤ (k + 1) ∧ (k + 1) ≤ 20 := ⟨g106, by first | omega | assumption | (constructor <;> omega) | (refine ⟨⟨?_, ?_⟩, ?_⟩ <;> omega) | (simp [hs_ss, hs_up]; omega) | (simp [hs_ss, hs_up]; done)⟩
              exact ih23 (k + 1, (hs_ss σ1 1 (((σ1 0 1) + k).toNat) z105)) (by first | omega | (simp only []; omega)) hi23
            · skip
              refine s_iload (pc := 69) C dX12_feed_69 4 rfl ?_
              refine s_goto (pc := 71) C (tgt := 76) dX12_feed_71 (by decide) ?_
              refine s_istore (pc := 76) C [(7, vI a3), (0, .ref (ad 0)), (1, vI a0), (2, vI a1), (3, vI a2), (4, vI a3), (5, vI a4), (6, vI k)] dX12_feed_76 (by decide) rfl ?_
              refine s_aload_n (pc := 78) C dX12_feed_78 1 rfl ?_
              refine s_getr (q := 0) (ci := 12) (N := 68) (CN := RX12) (T := TX12) (pc := 79) C 0 dX12_feed_79 wlX12_7 rfl rfl rfl wfX12 (by decide) rfl ?_
              refine s_aload_n (pc := 82) C dX12_feed_82 1 rfl ?_
              refine s_geti (q := 0) (ci := 12) (N := 68) (CN := RX12) (T := TX12) (pc := 83) C 1 dX12_feed_83 wlX12_138 rfl rfl rfl wfX12 (by decide) rfl (σ1 0 1) rfl ?_
              have b83 : (0 : Int) ≤ σ1 0 1 ∧ σ1 0 1 ≤ 500 := hg.1 0 1
              refine s_iload (pc := 86) C dX12_feed_86 7 rfl ?_
              refine s_iadd (pc := 88) C dX12_feed_88 ?_
              refine s_iload (pc := 89) C dX12_feed_89 0 rfl ?_
              refine s_bipush (pc := 91) C dX12_feed_91 (by decide) ?_
              refine s_bipush (pc := 93) C dX12_feed_93 (by decide) ?_
              refine s_iload (pc := 95) C dX12_feed_95 7 rfl ?_
              refine s_iconst (pc := 97) C dX12_feed_97 ?_
              refine s_irem (pc := 98) C dX12_feed_98 ⟨by omega, by omega⟩ ⟨by decide, by decide⟩ (by omega) ?_
              refine s_imul (pc := 99) C dX12_feed_99 ?_
              refine s_isub (pc := 100) C dX12_feed_100 ?_
              refine s_ishr (pc := 101) C dX12_feed_101 (fun z101 hz101 ez101 => ?_)
              refine s_sipush (pc := 102) C dX12_feed_102 (by decide) ?_
              refine s_iand (pc := 105) C dX12_feed_105 (fun z105 hz105 ez105 => ?_)
              have ha255 := hs_and255 ez105
              refine s_iast (q := 1) (n := 500) (pc := 106) C dX12_feed_106 rfl (by omega) (by omega) (by decide) ?_
              have g106 := gy_set (z := z105) hg 1 (((σ1 0 1) + k).toNat) rfl (0) (255) rfl ⟨by omega, by omega⟩
              refine s_iinc (pc := 107) C [(6, vI (k + 1)), (7, vI a3), (0, .ref (ad 0)), (1, vI a0), (2, vI a1), (3, vI a2), (4, vI a3), (5, vI a4)] dX12_feed_107 7 rfl (by decide) rfl ?_
              refine s_goto (pc := 110) C (tgt := 23) dX12_feed_110 (by decide) ?_
              refine s_sub C [2, 3, 4, 5, 6, 7, 0] [(0, .ref (ad 0)), (1, vI a0), (2, vI a1), (3, vI a2), (4, vI a3), (5, vI a4), (6, vI (k + 1))] rfl ?_
              have hi23 : GY σ ((hs_ss σ1 1 (((σ1 0 1) + k).toNat) z105)) ∧ 0 ≤ (k + 1) ∧ (k + 1) ≤ 20 := ⟨g106, by first | omega | assumption | (constructor <;> omega) | (refine ⟨⟨?_, ?_⟩, ?_⟩ <;> omega) | (simp [hs_ss, hs_up]; omega) | (simp [hs_ss, hs_up]; done)⟩
              exact ih23 (k + 1, (hs_ss σ1 1 (((σ1 0 1) + k).toNat) z105)) (by first | omega | (simp only []; omega)) hi23
          · skip
            refine s_iload_n (pc := 58) C dX12_feed_58 3 rfl ?_
            refine s_goto (pc := 59) C (tgt := 76) dX12_feed_59 (by decide) ?_
            refine s_istore (pc := 76) C [(7, vI a2), (0, .ref (ad 0)), (1, vI a0), (2, vI a1), (3, vI a2), (4, vI a3), (5, vI a4), (6, vI k)] dX12_feed_76 (by decide) rfl ?_
            refine s_aload_n (pc := 78) C dX12_feed_78 1 rfl ?_
            refine s_getr (q := 0) (ci := 12) (N := 68) (CN := RX12) (T := TX12) (pc := 79) C 0 dX12_feed_79 wlX12_7 rfl rfl rfl wfX12 (by decide) rfl ?_
            refine s_aload_n (pc := 82) C dX12_feed_82 1 rfl ?_
            refine s_geti (q := 0) (ci := 12) (N := 68) (CN := RX12) (T := TX12) (pc := 83) C 1 dX12_feed_83 wlX12_138 rfl rfl rfl wfX12 (by decide) rfl (σ1 0 1) rfl ?_
            have b83 : (0 : Int) ≤ σ1 0 1 ∧ σ1 0 1 ≤ 500 := hg.1 0 1
            refine s_iload (pc := 86) C dX12_feed_86 7 rfl ?_
            refine s_iadd (pc := 88) C dX12_feed_88 ?_
            refine s_iload (pc := 89) C dX12_feed_89 0 rfl ?_
            refine s_bipush (pc := 91) C dX12_feed_91 (by decide) ?_
            refine s_bipush (pc := 93) C dX12_feed_93 (by decide) ?_
            refine s_iload (pc := 95) C dX12_feed_95 7 rfl ?_
            refine s_iconst (pc := 97) C dX12_feed_97 ?_
            refine s_irem (pc := 98) C dX12_feed_98 ⟨by omega, by omega⟩ ⟨by decide, by decide⟩ (by omega) ?_
            refine s_imul (pc := 99) C dX12_feed_99 ?_
            refine s_isub (pc := 100) C dX12_feed_100 ?_
            refine s_ishr (pc := 101) C dX12_feed_101 (fun z101 hz101 ez101 => ?_)
            refine s_sipush (pc := 102) C dX12_feed_102 (by decide) ?_
            refine s_iand (pc := 105) C dX12_feed_105 (fun z105 hz105 ez105 => ?_)
            have ha255 := hs_and255 ez105
            refine s_iast (q := 1) (n := 500) (pc := 106) C dX12_feed_106 rfl (by omega) (by omega) (by decide) ?_
            have g106 := gy_set (z := z105) hg 1 (((σ1 0 1) + k).toNat) rfl (0) (255) rfl ⟨by omega, by omega⟩
            refine s_iinc (pc := 107) C [(6, vI (k + 1)), (7, vI a2), (0, .ref (ad 0)), (1, vI a0), (2, vI a1), (3, vI a2), (4, vI a3), (5, vI a4)] dX12_feed_107 7 rfl (by decide) rfl ?_
            refine s_goto (pc := 110) C (tgt := 23) dX12_feed_110 (by decide) ?_
            refine s_sub C [2, 3, 4, 5, 6, 7, 0] [(0, .ref (ad 0)), (1, vI a0), (2, vI a1), (3, vI a2), (4, vI a3), (5, vI a4), (6, vI (k + 1))] rfl ?_
            have hi23 : GY σ ((hs_ss σ1 1 (((σ1 0 1) + k).toNat) z105)) ∧ 0 ≤ (k + 1) ∧ (k + 1) ≤ 20 := ⟨g106, by first | omega | assumption | (constructor <;> omega) | (refine ⟨⟨?_, ?_⟩, ?_⟩ <;> omega) | (simp [hs_ss, hs_up]; omega) | (simp [hs_ss, hs_up]; done)⟩
            exact ih23 (k + 1, (hs_ss σ1 1 (((σ1 0 1) + k).toNat) z105)) (by first | omega | (simp only []; omega)) hi23
        · skip
          refine s_iload_n (pc := 47) C dX12_feed_47 2 rfl ?_
          refine s_goto (pc := 48) C (tgt := 76) dX12_feed_48 (by decide) ?_
          refine s_istore (pc := 76) C [(7, vI a1), (0, .ref (ad 0)), (1, vI a0), (2, vI a1), (3, vI a2), (4, vI a3), (5, vI a4), (6, vI k)] dX12_feed_76 (by decide) rfl ?_
          refine s_aload_n (pc := 78) C dX12_feed_78 1 rfl ?_
          refine s_getr (q := 0) (ci := 12) (N := 68) (CN := RX12) (T := TX12) (pc := 79) C 0 dX12_feed_79 wlX12_7 rfl rfl rfl wfX12 (by decide) rfl ?_
          refine s_aload_n (pc := 82) C dX12_feed_82 1 rfl ?_
          refine s_geti (q := 0) (ci := 12) (N := 68) (CN := RX12) (T := TX12) (pc := 83) C 1 dX12_feed_83 wlX12_138 rfl rfl rfl wfX12 (by decide) rfl (σ1 0 1) rfl ?_
          have b83 : (0 : Int) ≤ σ1 0 1 ∧ σ1 0 1 ≤ 500 := hg.1 0 1
          refine s_iload (pc := 86) C dX12_feed_86 7 rfl ?_
          refine s_iadd (pc := 88) C dX12_feed_88 ?_
          refine s_iload (pc := 89) C dX12_feed_89 0 rfl ?_
          refine s_bipush (pc := 91) C dX12_feed_91 (by decide) ?_
          refine s_bipush (pc := 93) C dX12_feed_93 (by decide) ?_
          refine s_iload (pc := 95) C dX12_feed_95 7 rfl ?_
          refine s_iconst (pc := 97) C dX12_feed_97 ?_
          refine s_irem (pc := 98) C dX12_feed_98 ⟨by omega, by omega⟩ ⟨by decide, by decide⟩ (by omega) ?_
          refine s_imul (pc := 99) C dX12_feed_99 ?_
          refine s_isub (pc := 100) C dX12_feed_100 ?_
          refine s_ishr (pc := 101) C dX12_feed_101 (fun z101 hz101 ez101 => ?_)
          refine s_sipush (pc := 102) C dX12_feed_102 (by decide) ?_
          refine s_iand (pc := 105) C dX12_feed_105 (fun z105 hz105 ez105 => ?_)
          have ha255 := hs_and255 ez105
          refine s_iast (q := 1) (n := 500) (pc := 106) C dX12_feed_106 rfl (by omega) (by omega) (by decide) ?_
          have g106 := gy_set (z := z105) hg 1 (((σ1 0 1) + k).toNat) rfl (0) (255) rfl ⟨by omega, by omega⟩
          refine s_iinc (pc := 107) C [(6, vI (k + 1)), (7, vI a1), (0, .ref (ad 0)), (1, vI a0), (2, vI a1), (3, vI a2), (4, vI a3), (5, vI a4)] dX12_feed_107 7 rfl (by decide) rfl ?_
          refine s_goto (pc := 110) C (tgt := 23) dX12_feed_110 (by decide) ?_
          refine s_sub C [2, 3, 4, 5, 6, 7, 0] [(0, .ref (ad 0)), (1, vI a0), (2, vI a1), (3, vI a2), (4, vI a3), (5, vI a4), (6, vI (k + 1))] rfl ?_
          have hi23 : GY σ ((hs_ss σ1 1 (((σ1 0 1) + k).toNat) z105)) ∧ 0 ≤ (k + 1) ∧ (k + 1) ≤ 20 := ⟨g106, by first | omega | assumption | (constructor <;> omega) | (refine ⟨⟨?_, ?_⟩, ?_⟩ <;> omega) | (simp [hs_ss, hs_up]; omega) | (simp [hs_ss, hs_up]; done)⟩
          exact ih23 (k + 1, (hs_ss σ1 1 (((σ1 0 1) + k).toNat) z105)) (by first | omega | (simp only []; omega)) hi23
      · skip
        refine s_iload_n (pc := 36) C dX12_feed_36 1 rfl ?_
        refine s_goto (pc := 37) C (tgt := 76) dX12_feed_37 (by decide) ?_
        refine s_istore (pc := 76) C [(7, vI a0), (0, .ref (ad 0)), (1, vI a0), (2, vI a1), (3, vI a2), (4, vI a3), (5, vI a4), (6, vI k)] dX12_feed_76 (by decide) rfl ?_
        refine s_aload_n (pc := 78) C dX12_feed_78 1 rfl ?_
        refine s_getr (q := 0) (ci := 12) (N := 68) (CN := RX12) (T := TX12) (pc := 79) C 0 dX12_feed_79 wlX12_7 rfl rfl rfl wfX12 (by decide) rfl ?_
        refine s_aload_n (pc := 82) C dX12_feed_82 1 rfl ?_
        refine s_geti (q := 0) (ci := 12) (N := 68) (CN := RX12) (T := TX12) (pc := 83) C 1 dX12_feed_83 wlX12_138 rfl rfl rfl wfX12 (by decide) rfl (σ1 0 1) rfl ?_
        have b83 : (0 : Int) ≤ σ1 0 1 ∧ σ1 0 1 ≤ 500 := hg.1 0 1
        refine s_iload (pc := 86) C dX12_feed_86 7 rfl ?_
        refine s_iadd (pc := 88) C dX12_feed_88 ?_
        refine s_iload (pc := 89) C dX12_feed_89 0 rfl ?_
        refine s_bipush (pc := 91) C dX12_feed_91 (by decide) ?_
        refine s_bipush (pc := 93) C dX12_feed_93 (by decide) ?_
        refine s_iload (pc := 95) C dX12_feed_95 7 rfl ?_
        refine s_iconst (pc := 97) C dX12_feed_97 ?_
        refine s_irem (pc := 98) C dX12_feed_98 ⟨by omega, by omega⟩ ⟨by decide, by decide⟩ (by omega) ?_
        refine s_imul (pc := 99) C dX12_feed_99 ?_
        refine s_isub (pc := 100) C dX12_feed_100 ?_
        refine s_ishr (pc := 101) C dX12_feed_101 (fun z101 hz101 ez101 => ?_)
        refine s_sipush (pc := 102) C dX12_feed_102 (by decide) ?_
        refine s_iand (pc := 105) C dX12_feed_105 (fun z105 hz105 ez105 => ?_)
        have ha255 := hs_and255 ez105
        refine s_iast (q := 1) (n := 500) (pc := 106) C dX12_feed_106 rfl (by omega) (by omega) (by decide) ?_
        have g106 := gy_set (z := z105) hg 1 (((σ1 0 1) + k).toNat) rfl (0) (255) rfl ⟨by omega, by omega⟩
        refine s_iinc (pc := 107) C [(6, vI (k + 1)), (7, vI a0), (0, .ref (ad 0)), (1, vI a0), (2, vI a1), (3, vI a2), (4, vI a3), (5, vI a4)] dX12_feed_107 7 rfl (by decide) rfl ?_
        refine s_goto (pc := 110) C (tgt := 23) dX12_feed_110 (by decide) ?_
        refine s_sub C [2, 3, 4, 5, 6, 7, 0] [(0, .ref (ad 0)), (1, vI a0), (2, vI a1), (3, vI a2), (4, vI a3), (5, vI a4), (6, vI (k + 1))] rfl ?_
        have hi23 : GY σ ((hs_ss σ1 1 (((σ1 0 1) + k).toNat) z105)) ∧ 0 ≤ (k + 1) ∧ (k + 1) ≤ 20 := ⟨g106, by first | omega | assumption | (constructor <;> omega) | (refine ⟨⟨?_, ?_⟩, ?_⟩ <;> omega) | (simp [hs_ss, hs_up]; omega) | (simp [hs_ss, hs_up]; done)⟩
        exact ih23 (k + 1, (hs_ss σ1 1 (((σ1 0 1) + k).toNat) z105)) (by first | omega | (simp only []; omega)) hi23
  · skip
    refine s_iconst (pc := 18) C dX12_feed_18 ?_
    refine s_iret (pc := 19) C dX12_feed_19 ?_
    refine ⟨_, rfl, ?_⟩
    exact ⟨fun _ => ⟨rfl, g2⟩, fun q => by exfalso; omega⟩
set_option maxHeartbeats 4000000 in
set_option maxRecDepth 100000 in
theorem c_X12_begins (l : Launch)  : hs_Met l yX12_begins cX12_begins 2 none 1 SHY (fun ad => [.ref (ad 0)]) (fun σ => GY σ σ) (hs_PV (fun σ σ1 => GY σ σ1)) := by
  refine hs_from pfX12_begins (fun _ => Nat.le_of_ble_eq_true rfl) ?_
  intro p e s m args below meth c D dA ad A σ C hpre
  have C : hs_C p s m args meth c D dA SHY ad A 2 cX12_begins RX12 none := C
  have g0 := hpre
  show hs_Wd p l e 1 s m args below meth c D dA SHY ad A 2 (hs_PV (fun σ σ1 => GY σ σ1) σ) 0 [(0, .ref (ad 0))] [] σ
  refine s_iconst (pc := 0) C dX12_begins_0 ?_
  refine s_istore_n (pc := 1) C [(1, vI 0), (0, .ref (ad 0))] dX12_begins_1 (by decide) rfl ?_
  refine s_sub C [1, 0] [(0, .ref (ad 0)), (1, vI 0)] rfl ?_
  have hi2 : GY σ σ ∧ 0 ≤ (0 : Int) ∧ (0 : Int) ≤ 4 := ⟨g0, by first | omega | assumption | (constructor <;> omega) | (refine ⟨⟨?_, ?_⟩, ?_⟩ <;> omega) | (simp [hs_ss, hs_up]; omega) | (simp [hs_ss, hs_up]; done)⟩
  refine hs_loop (α := Int × hs_S) (fun x_ => (GY σ x_.2 ∧ 0 ≤ x_.1 ∧ x_.1 ≤ 4) → hs_Wd p l e 1 s m args below meth c D dA SHY ad A 2 (hs_PV (fun σ σ1 => GY σ σ1) σ) 2 [(0, .ref (ad 0)), (1, vI x_.1)] [] x_.2) (fun x_ => (5 - x_.1).toNat) ?_ (0, σ) hi2
  rintro ⟨w, σ1⟩ ih2 hinv
  replace hinv : GY σ σ1 ∧ 0 ≤ w ∧ w ≤ 4 := hinv
  show hs_Wd p l e 1 s m args below meth c D dA SHY ad A 2 (hs_PV (fun σ σ1 => GY σ σ1) σ) 2 [(0, .ref (ad 0)), (1, vI w)] [] σ1
  obtain ⟨hg, hk⟩ := hinv
  refine s_iload_n (pc := 2) C dX12_begins_2 1 rfl ?_
  refine s_aload_n (pc := 3) C dX12_begins_3 0 rfl ?_
  refine s_geti (q := 0) (ci := 12) (N := 68) (CN := RX12) (T := TX12) (pc := 4) C 6 dX12_begins_4 wlX12_141 rfl rfl rfl wfX12 (by decide) rfl (σ1 0 6) rfl ?_
  have b4 : (0 : Int) ≤ σ1 0 6 ∧ σ1 0 6 ≤ 4 := hg.1 0 6
  refine s_icmp_ge (pc := 7) C (tgt := 30) dX12_begins_7 (by decide) ⟨by omega, by omega⟩ ⟨by omega, by omega⟩ (fun h7 => ?_) (fun h7 => ?_)
  · skip
    refine s_aload_n (pc := 30) C dX12_begins_30 0 rfl ?_
    refine s_iconst (pc := 31) C dX12_begins_31 ?_
    refine s_puti (q := 0) (ci := 12) (N := 68) (CN := RX12) (T := TX12) (ty0 := tyX12) (ty := .int) (pc := 32) C 4 dX12_begins_32 wlX12_148 rfl rfl rfl wfX12 tyX12_ok nmX12 (by decide) rfl rfl rfl (vp_nar_int _) rfl ?_
    have g32 := gy_set (z := 0) hg 0 4 rfl (0) (99) rfl ⟨by omega, by omega⟩
    refine s_aload_n (pc := 35) C dX12_begins_35 0 rfl ?_
    refine s_iconst (pc := 36) C dX12_begins_36 ?_
    refine s_puti (q := 0) (ci := 12) (N := 68) (CN := RX12) (T := TX12) (ty0 := tyX12) (ty := .int) (pc := 37) C 5 dX12_begins_37 wlX12_151 rfl rfl rfl wfX12 tyX12_ok nmX12 (by decide) rfl rfl rfl (vp_nar_int _) rfl ?_
    have g37 := gy_set (z := 0) g32 0 5 rfl (0) (2) rfl ⟨by omega, by omega⟩
    refine s_aload_n (pc := 40) C dX12_begins_40 0 rfl ?_
    refine s_iconst (pc := 41) C dX12_begins_41 ?_
    refine s_puti (q := 0) (ci := 12) (N := 68) (CN := RX12) (T := TX12) (ty0 := tyX12) (ty := .int) (pc := 42) C 20 dX12_begins_42 wlX12_202 rfl rfl rfl wfX12 tyX12_ok nmX12 (by decide) rfl rfl rfl (vp_nar_int _) rfl ?_
    have g42 := gy_set (z := 0) g37 0 20 rfl (0) (100) rfl ⟨by omega, by omega⟩
    refine s_vret (pc := 45) C dX12_begins_45 ?_
    refine ⟨rfl, ?_⟩
    exact g42
  · skip
    refine s_aload_n (pc := 10) C dX12_begins_10 0 rfl ?_
    refine s_getr (q := 0) (ci := 12) (N := 68) (CN := RX12) (T := TX12) (pc := 11) C 15 dX12_begins_11 wlX12_41 rfl rfl rfl wfX12 (by decide) rfl ?_
    refine s_iload_n (pc := 14) C dX12_begins_14 1 rfl ?_
    refine s_iconst (pc := 15) C dX12_begins_15 ?_
    refine s_iast (q := 10) (n := 4) (pc := 16) C dX12_begins_16 rfl (by omega) (by omega) (by decide) ?_
    have g16 := gy_set (z := 0) hg 10 w.toNat rfl (0) (99) rfl ⟨by omega, by omega⟩
    refine s_aload_n (pc := 17) C dX12_begins_17 0 rfl ?_
    refine s_getr (q := 0) (ci := 12) (N := 68) (CN := RX12) (T := TX12) (pc := 18) C 16 dX12_begins_18 wlX12_44 rfl rfl rfl wfX12 (by decide) rfl ?_
    refine s_iload_n (pc := 21) C dX12_begins_21 1 rfl ?_
    refine s_iconst (pc := 22) C dX12_begins_22 ?_
    refine s_iast (q := 11) (n := 4) (pc := 23) C dX12_begins_23 rfl (by omega) (by omega) (by decide) ?_
    have g23 := gy_set (z := 0) g16 11 w.toNat rfl (0) (100) rfl ⟨by omega, by omega⟩
    refine s_iinc (pc := 24) C [(1, vI (w + 1)), (0, .ref (ad 0))] dX12_begins_24 1 rfl (by decide) rfl ?_
    refine s_goto (pc := 27) C (tgt := 2) dX12_begins_27 (by decide) ?_
    refine s_sub C [1, 0] [(0, .ref (ad 0)), (1, vI (w + 1))] rfl ?_
    have hi2 : GY σ ((hs_ss (hs_ss σ1 10 w.toNat 0) 11 w.toNat 0)) ∧ 0 ≤ (w + 1) ∧ (w + 1) ≤ 4 := ⟨g23, by first | omega | assumption | (constructor <;> omega) | (refine ⟨⟨?_, ?_⟩, ?_⟩ <;> omega) | (simp [hs_ss, hs_up]; omega) | (simp [hs_ss, hs_up]; done)⟩
    exact ih2 (w + 1, (hs_ss (hs_ss σ1 10 w.toNat 0) 11 w.toNat 0)) (by first | omega | (simp only []; omega)) hi2
set_option maxHeartbeats 4000000 in
set_option maxRecDepth 100000 in
theorem c_X12_dial (l : Launch) (n : Int) (hn : hs_R n) : hs_Met l yX12_dial cX12_dial 2 (some .boolean) 3 SHY (fun ad => [.ref (ad 0), vI n]) (fun σ => GY σ σ) (hs_PI (fun σ z σ1 => (z = 0 ∨ z = 1) ∧ (z = 1 ↔ 10 ≤ n ∧ n ≤ 100) ∧ GY σ1 σ1 ∧ σ1 0 1 = σ 0 1 ∧ (z = 0 → GY σ σ1) ∧ (z = 1 → σ1 0 3 = n ∧ σ1 0 6 = 0 ∧ σ1 0 61 = 0 ∧ σ1 0 18 = 0))) := by
  refine hs_from pfX12_dial (fun _ => Nat.le_of_ble_eq_true rfl) ?_
  intro p e s m args below meth c D dA ad A σ C hpre
  have C : hs_C p s m args meth c D dA SHY ad A 2 cX12_dial RX12 (some .boolean) := C
  have g0 := hpre
  show hs_Wd p l e 3 s m args below meth c D dA SHY ad A 2 (hs_PI (fun σ z σ1 => (z = 0 ∨ z = 1) ∧ (z = 1 ↔ 10 ≤ n ∧ n ≤ 100) ∧ GY σ1 σ1 ∧ σ1 0 1 = σ 0 1 ∧ (z = 0 → GY σ σ1) ∧ (z = 1 → σ1 0 3 = n ∧ σ1 0 6 = 0 ∧ σ1 0 61 = 0 ∧ σ1 0 18 = 0)) σ) 0 [(0, .ref (ad 0)), (1, vI n)] [] σ
  refine s_aload_n (pc := 0) C dX12_dial_0 0 rfl ?_
  refine s_iconst (pc := 1) C dX12_dial_1 ?_
  refine s_puti (q := 0) (ci := 12) (N := 68) (CN := RX12) (T := TX12) (ty0 := tyX12) (ty := .int) (pc := 2) C 2 dX12_dial_2 wlX12_135 rfl rfl rfl wfX12 tyX12_ok nmX12 (by decide) rfl rfl rfl (vp_nar_int _) rfl ?_
  have g2 := gy_set (z := 0) g0 0 2 rfl (0) (2) rfl ⟨by omega, by omega⟩
  refine s_iload_n (pc := 5) C dX12_dial_5 1 rfl ?_
  refine s_bipush (pc := 6) C dX12_dial_6 (by decide) ?_
  refine s_bipush (pc := 8) C dX12_dial_8 (by decide) ?_
  refine s_callSi (pc := 10) C (c_X12_isIn l n ⟨by omega, by omega⟩ 10 ⟨by omega, by omega⟩ 100 ⟨by omega, by omega⟩) [vI n, vI 10, vI 100] [] rfl rfl dX12_dial_10 wlX12_189 wtX12_isIn wcX12_isIn wnX12 noX12_isIn (by decide) (by decide) (Nat.le_of_ble_eq_true rfl) (gy_self g2) ?_
  rintro z10 _ ⟨rfl, k10⟩
  show hs_Wd _ _ _ _ _ _ _ _ _ _ _ _ _ _ _ _ _ 13 _ [vI z10] (hs_ss σ 0 2 0)
  refine s_if_ne (pc := 13) C (tgt := 18) dX12_dial_13 (by decide) ⟨by omega, by omega⟩ (fun h13 => ?_) (fun h13 => ?_)
  · skip
    refine s_aload_n (pc := 18) C dX12_dial_18 0 rfl ?_
    refine s_iload_n (pc := 19) C dX12_dial_19 1 rfl ?_
    refine s_puti (q := 0) (ci := 12) (N := 68) (CN := RX12) (T := TX12) (ty0 := tyX12) (ty := .int) (pc := 20) C 3 dX12_dial_20 wlX12_13 rfl rfl rfl wfX12 tyX12_ok nmX12 (by decide) rfl rfl rfl (vp_nar_int _) rfl ?_
    have g20 : GY ((hs_ss (hs_ss σ 0 2 0) 0 3 n)) ((hs_ss (hs_ss σ 0 2 0) 0 3 n)) := ⟨iby_set (z := n) (g2).1 0 3 10 100 rfl (by omega), ky_rf⟩
    refine s_aload_n (pc := 23) C dX12_dial_23 0 rfl ?_
    refine s_iconst (pc := 24) C dX12_dial_24 ?_
    refine s_puti (q := 0) (ci := 12) (N := 68) (CN := RX12) (T := TX12) (ty0 := tyX12) (ty := .int) (pc := 25) C 6 dX12_dial_25 wlX12_141 rfl rfl rfl wfX12 tyX12_ok nmX12 (by decide) rfl rfl rfl (vp_nar_int _) rfl ?_
    have g25 : GY ((hs_ss (hs_ss (hs_ss σ 0 2 0) 0 3 n) 0 6 0)) ((hs_ss (hs_ss (hs_ss σ 0 2 0) 0 3 n) 0 6 0)) := ⟨iby_set (z := 0) (g20).1 0 6 0 4 rfl (by omega), ky_rf⟩
    refine s_aload_n (pc := 28) C dX12_dial_28 0 rfl ?_
    refine s_callVv (pc := 29) C (c_X12_begins l) [] [] rfl rfl dX12_dial_29 wlX12_193 wiX12_begins weX12_begins wcX12_begins wnX12 noX12_begins (by decide) (by decide) (Nat.le_of_ble_eq_true rfl) (gy_self g25) rfl rfl ?_
    rintro σ29 k29
    have g29 := gy_trans g25 k29
    show hs_Wd _ _ _ _ _ _ _ _ _ _ _ _ _ _ _ _ _ 32 _ [] σ29
    refine s_aload_n (pc := 32) C dX12_dial_32 0 rfl ?_
    refine s_iconst (pc := 33) C dX12_dial_33 ?_
    refine s_puti (q := 0) (ci := 12) (N := 68) (CN := RX12) (T := TX12) (ty0 := tyX12) (ty := .int) (pc := 34) C 61 dX12_dial_34 wlX12_196 rfl rfl rfl wfX12 tyX12_ok nmX12 (by decide) rfl rfl rfl (vp_nar_int _) rfl ?_
    have g34 : GY ((hs_ss σ29 0 61 0)) ((hs_ss σ29 0 61 0)) := ⟨iby_set (z := 0) (g29).1 0 61 0 80 rfl (by omega), ky_rf⟩
    refine s_aload_n (pc := 37) C dX12_dial_37 0 rfl ?_
    refine s_iconst (pc := 38) C dX12_dial_38 ?_
    refine s_puti (q := 0) (ci := 12) (N := 68) (CN := RX12) (T := TX12) (ty0 := tyX12) (ty := .int) (pc := 39) C 17 dX12_dial_39 wlX12_183 rfl rfl rfl wfX12 tyX12_ok nmX12 (by decide) rfl rfl rfl (vp_nar_int _) rfl ?_
    have g39 := gy_set (z := 0) g34 0 17 rfl (0) (999) rfl ⟨by omega, by omega⟩
    refine s_aload_n (pc := 42) C dX12_dial_42 0 rfl ?_
    refine s_iconst (pc := 43) C dX12_dial_43 ?_
    refine s_puti (q := 0) (ci := 12) (N := 68) (CN := RX12) (T := TX12) (ty0 := tyX12) (ty := .int) (pc := 44) C 18 dX12_dial_44 wlX12_199 rfl rfl rfl wfX12 tyX12_ok nmX12 (by decide) rfl rfl rfl (vp_nar_int _) rfl ?_
    have g44 : GY ((hs_ss (hs_ss (hs_ss σ29 0 61 0) 0 17 0) 0 18 0)) ((hs_ss (hs_ss (hs_ss σ29 0 61 0) 0 17 0) 0 18 0)) := ⟨iby_set (z := 0) (g39).1 0 18 0 999 rfl (by omega), ky_rf⟩
    refine s_iconst (pc := 47) C dX12_dial_47 ?_
    refine s_zret (pc := 48) C (by omega) dX12_dial_48 ?_
    refine ⟨_, rfl, ?_⟩
    have kk := k29.2
    exact ⟨Or.inr rfl, by omega, gy_self g44, kk.1, fun q => absurd q (by decide), fun _ => ⟨kk.2.1, kk.2.2.1, rfl, rfl⟩⟩
  · skip
    refine s_iconst (pc := 16) C dX12_dial_16 ?_
    refine s_zret (pc := 17) C (by omega) dX12_dial_17 ?_
    refine ⟨_, rfl, ?_⟩
    exact ⟨Or.inl rfl, by omega, gy_self g2, (g2).2.1, fun _ => g2, fun q => absurd q (by decide)⟩
set_option maxHeartbeats 4000000 in
set_option maxRecDepth 100000 in
theorem c_X12_wheel (l : Launch) (a0 : Int) (ha0 : hs_R a0) (a1 : Int) (ha1 : hs_R a1) (a2 : Int) (ha2 : hs_R a2) (a3 : Int) (ha3 : hs_R a3) (a4 : Int) (ha4 : hs_R a4) (a5 : Int) (ha5 : hs_R a5) (a6 : Int) (ha6 : hs_R a6) : hs_Met l yX12_wheel cX12_wheel 9 (some .int) 3 SHY (fun ad => [.ref (ad 0), vI a0, vI a1, vI a2, vI a3, vI a4, vI a5, vI a6]) (fun σ => GY σ σ) (hs_PI (fun σ z σ1 => (¬ (1 ≤ a0 ∧ a0 ≤ 9 ∧ 0 ≤ a1 ∧ a1 < σ 0 3 ∧ 0 ≤ a2 ∧ a2 ≤ 3 ∧ 200 ≤ a3 ∧ a3 ≤ 900 ∧ 0 ≤ a4 ∧ a4 ≤ 50 ∧ 0 ≤ a5 ∧ a5 < σ 0 3 ∧ 0 ≤ a6 ∧ a6 ≤ 60 ∧ σ 0 6 < 4) → z = -1 ∧ GY σ σ1) ∧ ((1 ≤ a0 ∧ a0 ≤ 9 ∧ 0 ≤ a1 ∧ a1 < σ 0 3 ∧ 0 ≤ a2 ∧ a2 ≤ 3 ∧ 200 ≤ a3 ∧ a3 ≤ 900 ∧ 0 ≤ a4 ∧ a4 ≤ 50 ∧ 0 ≤ a5 ∧ a5 < σ 0 3 ∧ 0 ≤ a6 ∧ a6 ≤ 60 ∧ σ 0 6 < 4) → z = σ 0 6 ∧ GY σ1 σ1 ∧ σ1 0 6 = σ 0 6 + 1 ∧ σ1 0 1 = σ 0 1 ∧ σ1 0 18 = σ 0 18 ∧ σ1 0 3 = σ 0 3 ∧ σ1 0 61 = σ 0 61))) := by
  refine hs_from pfX12_wheel (fun _ => Nat.le_of_ble_eq_true rfl) ?_
  intro p e s m args below meth c D dA ad A σ C hpre
  have C : hs_C p s m args meth c D dA SHY ad A 9 cX12_wheel RX12 (some .int) := C
  have g0 := hpre
  have b06 : (0 : Int) ≤ σ 0 6 ∧ σ 0 6 ≤ 4 := g0.1 0 6
  have b03 : (10 : Int) ≤ σ 0 3 ∧ σ 0 3 ≤ 100 := g0.1 0 3
  show hs_Wd p l e 3 s m args below meth c D dA SHY ad A 9 (hs_PI (fun σ z σ1 => (¬ (1 ≤ a0 ∧ a0 ≤ 9 ∧ 0 ≤ a1 ∧ a1 < σ 0 3 ∧ 0 ≤ a2 ∧ a2 ≤ 3 ∧ 200 ≤ a3 ∧ a3 ≤ 900 ∧ 0 ≤ a4 ∧ a4 ≤ 50 ∧ 0 ≤ a5 ∧ a5 < σ 0 3 ∧ 0 ≤ a6 ∧ a6 ≤ 60 ∧ σ 0 6 < 4) → z = -1 ∧ GY σ σ1) ∧ ((1 ≤ a0 ∧ a0 ≤ 9 ∧ 0 ≤ a1 ∧ a1 < σ 0 3 ∧ 0 ≤ a2 ∧ a2 ≤ 3 ∧ 200 ≤ a3 ∧ a3 ≤ 900 ∧ 0 ≤ a4 ∧ a4 ≤ 50 ∧ 0 ≤ a5 ∧ a5 < σ 0 3 ∧ 0 ≤ a6 ∧ a6 ≤ 60 ∧ σ 0 6 < 4) → z = σ 0 6 ∧ GY σ1 σ1 ∧ σ1 0 6 = σ 0 6 + 1 ∧ σ1 0 1 = σ 0 1 ∧ σ1 0 18 = σ 0 18 ∧ σ1 0 3 = σ 0 3 ∧ σ1 0 61 = σ 0 61)) σ) 0 [(0, .ref (ad 0)), (1, vI a0), (2, vI a1), (3, vI a2), (4, vI a3), (5, vI a4), (6, vI a5), (7, vI a6)] [] σ
  refine s_aload_n (pc := 0) C dX12_wheel_0 0 rfl ?_
  refine s_iconst (pc := 1) C dX12_wheel_1 ?_
  refine s_puti (q := 0) (ci := 12) (N := 68) (CN := RX12) (T := TX12) (ty0 := tyX12) (ty := .int) (pc := 2) C 2 dX12_wheel_2 wlX12_135 rfl rfl rfl wfX12 tyX12_ok nmX12 (by decide) rfl rfl rfl (vp_nar_int _) rfl ?_
  have g2 := gy_set (z := 0) g0 0 2 rfl (0) (2) rfl ⟨by omega, by omega⟩
  refine s_aload_n (pc := 5) C dX12_wheel_5 0 rfl ?_
  refine s_geti (q := 0) (ci := 12) (N := 68) (CN := RX12) (T := TX12) (pc := 6) C 6 dX12_wheel_6 wlX12_141 rfl rfl rfl wfX12 (by decide) rfl (σ 0 6) rfl ?_
  have b6 : (0 : Int) ≤ σ 0 6 ∧ σ 0 6 ≤ 4 := g2.1 0 6
  refine s_iconst (pc := 9) C dX12_wheel_9 ?_
  refine s_icmp_eq (pc := 10) C (tgt := 85) dX12_wheel_10 (by decide) ⟨by omega, by omega⟩ ⟨by decide, by decide⟩ (fun h10 => ?_) (fun h10 => ?_)
  · skip
    refine s_iconst (pc := 85) C dX12_wheel_85 ?_
    refine s_iret (pc := 86) C dX12_wheel_86 ?_
    refine ⟨_, rfl, ?_⟩
    exact ⟨fun _ => ⟨rfl, g2⟩, fun q => by exfalso; omega⟩
  · skip
    refine s_iload_n (pc := 13) C dX12_wheel_13 1 rfl ?_
    refine s_iconst (pc := 14) C dX12_wheel_14 ?_
    refine s_bipush (pc := 15) C dX12_wheel_15 (by decide) ?_
    refine s_callSi (pc := 17) C (c_X12_isIn l a0 ⟨by omega, by omega⟩ 1 ⟨by omega, by omega⟩ 9 ⟨by omega, by omega⟩) [vI a0, vI 1, vI 9] [] rfl rfl dX12_wheel_17 wlX12_189 wtX12_isIn wcX12_isIn wnX12 noX12_isIn (by decide) (by decide) (Nat.le_of_ble_eq_true rfl) (gy_self g2) ?_
    rintro z17 _ ⟨rfl, k17⟩
    show hs_Wd _ _ _ _ _ _ _ _ _ _ _ _ _ _ _ _ _ 20 _ [vI z17] (hs_ss σ 0 2 0)
    refine s_if_eq (pc := 20) C (tgt := 85) dX12_wheel_20 (by decide) ⟨by omega, by omega⟩ (fun h20 => ?_) (fun h20 => ?_)
    · skip
      refine s_iconst (pc := 85) C dX12_wheel_85 ?_
      refine s_iret (pc := 86) C dX12_wheel_86 ?_
      refine ⟨_, rfl, ?_⟩
      exact ⟨fun _ => ⟨rfl, g2⟩, fun q => by exfalso; omega⟩
    · skip
      refine s_aload_n (pc := 23) C dX12_wheel_23 0 rfl ?_
      refine s_iload_n (pc := 24) C dX12_wheel_24 2 rfl ?_
      have r25_0_3 : (hs_ss σ 0 2 0) 0 3 = σ 0 3 := rfl
      refine s_callVi (pc := 25) C (c_X12_isNumber l a1 ⟨by omega, by omega⟩) [vI a1] [] rfl rfl dX12_wheel_25 wlX12_205 wiX12_isNumber weX12_isNumber wcX12_isNumber wnX12 noX12_isNumber (by decide) (by decide) (Nat.le_of_ble_eq_true rfl) (gy_self g2) rfl rfl ?_
      rintro z25 _ ⟨rfl, k25⟩
      show hs_Wd _ _ _ _ _ _ _ _ _ _ _ _ _ _ _ _ _ 28 _ [vI z25] (hs_ss σ 0 2 0)
      refine s_if_eq (pc := 28) C (tgt := 85) dX12_wheel_28 (by decide) ⟨by omega, by omega⟩ (fun h28 => ?_) (fun h28 => ?_)
      · skip
        refine s_iconst (pc := 85) C dX12_wheel_85 ?_
        refine s_iret (pc := 86) C dX12_wheel_86 ?_
        refine ⟨_, rfl, ?_⟩
        exact ⟨fun _ => ⟨rfl, g2⟩, fun q => by exfalso; omega⟩
      · skip
        refine s_iload_n (pc := 31) C dX12_wheel_31 3 rfl ?_
        refine s_iconst (pc := 32) C dX12_wheel_32 ?_
        refine s_iconst (pc := 33) C dX12_wheel_33 ?_
        refine s_callSi (pc := 34) C (c_X12_isIn l a2 ⟨by omega, by omega⟩ 0 ⟨by omega, by omega⟩ 3 ⟨by omega, by omega⟩) [vI a2, vI 0, vI 3] [] rfl rfl dX12_wheel_34 wlX12_189 wtX12_isIn wcX12_isIn wnX12 noX12_isIn (by decide) (by decide) (Nat.le_of_ble_eq_true rfl) (gy_self g2) ?_
        rintro z34 _ ⟨rfl, k34⟩
        show hs_Wd _ _ _ _ _ _ _ _ _ _ _ _ _ _ _ _ _ 37 _ [vI z34] (hs_ss σ 0 2 0)
        refine s_if_eq (pc := 37) C (tgt := 85) dX12_wheel_37 (by decide) ⟨by omega, by omega⟩ (fun h37 => ?_) (fun h37 => ?_)
        · skip
          refine s_iconst (pc := 85) C dX12_wheel_85 ?_
          refine s_iret (pc := 86) C dX12_wheel_86 ?_
          refine ⟨_, rfl, ?_⟩
          exact ⟨fun _ => ⟨rfl, g2⟩, fun q => by exfalso; omega⟩
        · skip
          refine s_iload (pc := 40) C dX12_wheel_40 4 rfl ?_
          refine s_sipush (pc := 42) C dX12_wheel_42 (by decide) ?_
          refine s_sipush (pc := 45) C dX12_wheel_45 (by decide) ?_
          refine s_callSi (pc := 48) C (c_X12_isIn l a3 ⟨by omega, by omega⟩ 200 ⟨by omega, by omega⟩ 900 ⟨by omega, by omega⟩) [vI a3, vI 200, vI 900] [] rfl rfl dX12_wheel_48 wlX12_189 wtX12_isIn wcX12_isIn wnX12 noX12_isIn (by decide) (by decide) (Nat.le_of_ble_eq_true rfl) (gy_self g2) ?_
          rintro z48 _ ⟨rfl, k48⟩
          show hs_Wd _ _ _ _ _ _ _ _ _ _ _ _ _ _ _ _ _ 51 _ [vI z48] (hs_ss σ 0 2 0)
          refine s_if_eq (pc := 51) C (tgt := 85) dX12_wheel_51 (by decide) ⟨by omega, by omega⟩ (fun h51 => ?_) (fun h51 => ?_)
          · skip
            refine s_iconst (pc := 85) C dX12_wheel_85 ?_
            refine s_iret (pc := 86) C dX12_wheel_86 ?_
            refine ⟨_, rfl, ?_⟩
            exact ⟨fun _ => ⟨rfl, g2⟩, fun q => by exfalso; omega⟩
          · skip
            refine s_iload (pc := 54) C dX12_wheel_54 5 rfl ?_
            refine s_iconst (pc := 56) C dX12_wheel_56 ?_
            refine s_bipush (pc := 57) C dX12_wheel_57 (by decide) ?_
            refine s_callSi (pc := 59) C (c_X12_isIn l a4 ⟨by omega, by omega⟩ 0 ⟨by omega, by omega⟩ 50 ⟨by omega, by omega⟩) [vI a4, vI 0, vI 50] [] rfl rfl dX12_wheel_59 wlX12_189 wtX12_isIn wcX12_isIn wnX12 noX12_isIn (by decide) (by decide) (Nat.le_of_ble_eq_true rfl) (gy_self g2) ?_
            rintro z59 _ ⟨rfl, k59⟩
            show hs_Wd _ _ _ _ _ _ _ _ _ _ _ _ _ _ _ _ _ 62 _ [vI z59] (hs_ss σ 0 2 0)
            refine s_if_eq (pc := 62) C (tgt := 85) dX12_wheel_62 (by decide) ⟨by omega, by omega⟩ (fun h62 => ?_) (fun h62 => ?_)
            · skip
              refine s_iconst (pc := 85) C dX12_wheel_85 ?_
              refine s_iret (pc := 86) C dX12_wheel_86 ?_
              refine ⟨_, rfl, ?_⟩
              exact ⟨fun _ => ⟨rfl, g2⟩, fun q => by exfalso; omega⟩
            · skip
              refine s_aload_n (pc := 65) C dX12_wheel_65 0 rfl ?_
              refine s_iload (pc := 66) C dX12_wheel_66 6 rfl ?_
              have r68_0_3 : (hs_ss σ 0 2 0) 0 3 = σ 0 3 := rfl
              refine s_callVi (pc := 68) C (c_X12_isNumber l a5 ⟨by omega, by omega⟩) [vI a5] [] rfl rfl dX12_wheel_68 wlX12_205 wiX12_isNumber weX12_isNumber wcX12_isNumber wnX12 noX12_isNumber (by decide) (by decide) (Nat.le_of_ble_eq_true rfl) (gy_self g2) rfl rfl ?_
              rintro z68 _ ⟨rfl, k68⟩
              show hs_Wd _ _ _ _ _ _ _ _ _ _ _ _ _ _ _ _ _ 71 _ [vI z68] (hs_ss σ 0 2 0)
              refine s_if_eq (pc := 71) C (tgt := 85) dX12_wheel_71 (by decide) ⟨by omega, by omega⟩ (fun h71 => ?_) (fun h71 => ?_)
              · skip
                refine s_iconst (pc := 85) C dX12_wheel_85 ?_
                refine s_iret (pc := 86) C dX12_wheel_86 ?_
                refine ⟨_, rfl, ?_⟩
                exact ⟨fun _ => ⟨rfl, g2⟩, fun q => by exfalso; omega⟩
              · skip
                refine s_iload (pc := 74) C dX12_wheel_74 7 rfl ?_
                refine s_iconst (pc := 76) C dX12_wheel_76 ?_
                refine s_bipush (pc := 77) C dX12_wheel_77 (by decide) ?_
                refine s_callSi (pc := 79) C (c_X12_isIn l a6 ⟨by omega, by omega⟩ 0 ⟨by omega, by omega⟩ 60 ⟨by omega, by omega⟩) [vI a6, vI 0, vI 60] [] rfl rfl dX12_wheel_79 wlX12_189 wtX12_isIn wcX12_isIn wnX12 noX12_isIn (by decide) (by decide) (Nat.le_of_ble_eq_true rfl) (gy_self g2) ?_
                rintro z79 _ ⟨rfl, k79⟩
                show hs_Wd _ _ _ _ _ _ _ _ _ _ _ _ _ _ _ _ _ 82 _ [vI z79] (hs_ss σ 0 2 0)
                refine s_if_ne (pc := 82) C (tgt := 87) dX12_wheel_82 (by decide) ⟨by omega, by omega⟩ (fun h82 => ?_) (fun h82 => ?_)
                · skip
                  refine s_aload_n (pc := 87) C dX12_wheel_87 0 rfl ?_
                  refine s_getr (q := 0) (ci := 12) (N := 68) (CN := RX12) (T := TX12) (pc := 88) C 7 dX12_wheel_88 wlX12_17 rfl rfl rfl wfX12 (by decide) rfl ?_
                  refine s_aload_n (pc := 91) C dX12_wheel_91 0 rfl ?_
                  refine s_geti (q := 0) (ci := 12) (N := 68) (CN := RX12) (T := TX12) (pc := 92) C 6 dX12_wheel_92 wlX12_141 rfl rfl rfl wfX12 (by decide) rfl (σ 0 6) rfl ?_
                  have b92 : (0 : Int) ≤ σ 0 6 ∧ σ 0 6 ≤ 4 := g2.1 0 6
                  refine s_iload_n (pc := 95) C dX12_wheel_95 1 rfl ?_
                  refine s_iast (q := 2) (n := 4) (pc := 96) C dX12_wheel_96 rfl (by omega) (by omega) (by decide) ?_
                  have g96 := gy_set (z := a0) g2 2 ((σ 0 6).toNat) rfl (0) (9) rfl ⟨by omega, by omega⟩
                  refine s_aload_n (pc := 97) C dX12_wheel_97 0 rfl ?_
                  refine s_getr (q := 0) (ci := 12) (N := 68) (CN := RX12) (T := TX12) (pc := 98) C 8 dX12_wheel_98 wlX12_20 rfl rfl rfl wfX12 (by decide) rfl ?_
                  refine s_aload_n (pc := 101) C dX12_wheel_101 0 rfl ?_
                  refine s_geti (q := 0) (ci := 12) (N := 68) (CN := RX12) (T := TX12) (pc := 102) C 6 dX12_wheel_102 wlX12_141 rfl rfl rfl wfX12 (by decide) rfl (σ 0 6) rfl ?_
                  have b102 : (0 : Int) ≤ σ 0 6 ∧ σ 0 6 ≤ 4 := g96.1 0 6
                  refine s_iload_n (pc := 105) C dX12_wheel_105 2 rfl ?_
                  refine s_iast (q := 3) (n := 4) (pc := 106) C dX12_wheel_106 rfl (by omega) (by omega) (by decide) ?_
                  have g106 := gy_set (z := a1) g96 3 ((σ 0 6).toNat) rfl (0) (99) rfl ⟨by omega, by omega⟩
                  refine s_aload_n (pc := 107) C dX12_wheel_107 0 rfl ?_
                  refine s_getr (q := 0) (ci := 12) (N := 68) (CN := RX12) (T := TX12) (pc := 108) C 9 dX12_wheel_108 wlX12_23 rfl rfl rfl wfX12 (by decide) rfl ?_
                  refine s_aload_n (pc := 111) C dX12_wheel_111 0 rfl ?_
                  refine s_geti (q := 0) (ci := 12) (N := 68) (CN := RX12) (T := TX12) (pc := 112) C 6 dX12_wheel_112 wlX12_141 rfl rfl rfl wfX12 (by decide) rfl (σ 0 6) rfl ?_
                  have b112 : (0 : Int) ≤ σ 0 6 ∧ σ 0 6 ≤ 4 := g106.1 0 6
                  refine s_iconst (pc := 115) C dX12_wheel_115 ?_
                  refine s_iast (q := 4) (n := 4) (pc := 116) C dX12_wheel_116 rfl (by omega) (by omega) (by decide) ?_
                  have g116 := gy_set (z := ((-1))) g106 4 ((σ 0 6).toNat) rfl (-1) (99) rfl ⟨by omega, by omega⟩
                  refine s_aload_n (pc := 117) C dX12_wheel_117 0 rfl ?_
                  refine s_getr (q := 0) (ci := 12) (N := 68) (CN := RX12) (T := TX12) (pc := 118) C 10 dX12_wheel_118 wlX12_26 rfl rfl rfl wfX12 (by decide) rfl ?_
                  refine s_aload_n (pc := 121) C dX12_wheel_121 0 rfl ?_
                  refine s_geti (q := 0) (ci := 12) (N := 68) (CN := RX12) (T := TX12) (pc := 122) C 6 dX12_wheel_122 wlX12_141 rfl rfl rfl wfX12 (by decide) rfl (σ 0 6) rfl ?_
                  have b122 : (0 : Int) ≤ σ 0 6 ∧ σ 0 6 ≤ 4 := g116.1 0 6
                  refine s_iload_n (pc := 125) C dX12_wheel_125 3 rfl ?_
                  refine s_iast (q := 5) (n := 4) (pc := 126) C dX12_wheel_126 rfl (by omega) (by omega) (by decide) ?_
                  have g126 := gy_set (z := a2) g116 5 ((σ 0 6).toNat) rfl (0) (3) rfl ⟨by omega, by omega⟩
                  refine s_aload_n (pc := 127) C dX12_wheel_127 0 rfl ?_
                  refine s_getr (q := 0) (ci := 12) (N := 68) (CN := RX12) (T := TX12) (pc := 128) C 11 dX12_wheel_128 wlX12_29 rfl rfl rfl wfX12 (by decide) rfl ?_
                  refine s_aload_n (pc := 131) C dX12_wheel_131 0 rfl ?_
                  refine s_geti (q := 0) (ci := 12) (N := 68) (CN := RX12) (T := TX12) (pc := 132) C 6 dX12_wheel_132 wlX12_141 rfl rfl rfl wfX12 (by decide) rfl (σ 0 6) rfl ?_
                  have b132 : (0 : Int) ≤ σ 0 6 ∧ σ 0 6 ≤ 4 := g126.1 0 6
                  refine s_iload (pc := 135) C dX12_wheel_135 4 rfl ?_
                  refine s_iast (q := 6) (n := 4) (pc := 137) C dX12_wheel_137 rfl (by omega) (by omega) (by decide) ?_
                  have g137 := gy_set (z := a3) g126 6 ((σ 0 6).toNat) rfl (0) (900) rfl ⟨by omega, by omega⟩
                  refine s_aload_n (pc := 138) C dX12_wheel_138 0 rfl ?_
                  refine s_getr (q := 0) (ci := 12) (N := 68) (CN := RX12) (T := TX12) (pc := 139) C 12 dX12_wheel_139 wlX12_32 rfl rfl rfl wfX12 (by decide) rfl ?_
                  refine s_aload_n (pc := 142) C dX12_wheel_142 0 rfl ?_
                  refine s_geti (q := 0) (ci := 12) (N := 68) (CN := RX12) (T := TX12) (pc := 143) C 6 dX12_wheel_143 wlX12_141 rfl rfl rfl wfX12 (by decide) rfl (σ 0 6) rfl ?_
                  have b143 : (0 : Int) ≤ σ 0 6 ∧ σ 0 6 ≤ 4 := g137.1 0 6
                  refine s_iload (pc := 146) C dX12_wheel_146 5 rfl ?_
                  refine s_iast (q := 7) (n := 4) (pc := 148) C dX12_wheel_148 rfl (by omega) (by omega) (by decide) ?_
                  have g148 := gy_set (z := a4) g137 7 ((σ 0 6).toNat) rfl (0) (50) rfl ⟨by omega, by omega⟩
                  refine s_aload_n (pc := 149) C dX12_wheel_149 0 rfl ?_
                  refine s_getr (q := 0) (ci := 12) (N := 68) (CN := RX12) (T := TX12) (pc := 150) C 13 dX12_wheel_150 wlX12_35 rfl rfl rfl wfX12 (by decide) rfl ?_
                  refine s_aload_n (pc := 153) C dX12_wheel_153 0 rfl ?_
                  refine s_geti (q := 0) (ci := 12) (N := 68) (CN := RX12) (T := TX12) (pc := 154) C 6 dX12_wheel_154 wlX12_141 rfl rfl rfl wfX12 (by decide) rfl (σ 0 6) rfl ?_
                  have b154 : (0 : Int) ≤ σ 0 6 ∧ σ 0 6 ≤ 4 := g148.1 0 6
                  refine s_iload (pc := 157) C dX12_wheel_157 6 rfl ?_
                  refine s_iast (q := 8) (n := 4) (pc := 159) C dX12_wheel_159 rfl (by omega) (by omega) (by decide) ?_
                  have g159 := gy_set (z := a5) g148 8 ((σ 0 6).toNat) rfl (0) (99) rfl ⟨by omega, by omega⟩
                  refine s_aload_n (pc := 160) C dX12_wheel_160 0 rfl ?_
                  refine s_getr (q := 0) (ci := 12) (N := 68) (CN := RX12) (T := TX12) (pc := 161) C 14 dX12_wheel_161 wlX12_38 rfl rfl rfl wfX12 (by decide) rfl ?_
                  refine s_aload_n (pc := 164) C dX12_wheel_164 0 rfl ?_
                  refine s_geti (q := 0) (ci := 12) (N := 68) (CN := RX12) (T := TX12) (pc := 165) C 6 dX12_wheel_165 wlX12_141 rfl rfl rfl wfX12 (by decide) rfl (σ 0 6) rfl ?_
                  have b165 : (0 : Int) ≤ σ 0 6 ∧ σ 0 6 ≤ 4 := g159.1 0 6
                  refine s_iload (pc := 168) C dX12_wheel_168 7 rfl ?_
                  refine s_iast (q := 9) (n := 4) (pc := 170) C dX12_wheel_170 rfl (by omega) (by omega) (by decide) ?_
                  have g170 := gy_set (z := a6) g159 9 ((σ 0 6).toNat) rfl (0) (60) rfl ⟨by omega, by omega⟩
                  refine s_iconst (pc := 171) C dX12_wheel_171 ?_
                  refine s_istore (pc := 172) C [(8, vI 0), (0, .ref (ad 0)), (1, vI a0), (2, vI a1), (3, vI a2), (4, vI a3), (5, vI a4), (6, vI a5), (7, vI a6)] dX12_wheel_172 (by decide) rfl ?_
                  refine s_sub C [1, 2, 3, 4, 5, 6, 7, 8, 0] [(0, .ref (ad 0)), (1, vI a0), (2, vI a1), (3, vI a2), (4, vI a3), (5, vI a4), (6, vI a5), (7, vI a6), (8, vI 0)] rfl ?_
                  have hi174 : GY σ ((hs_ss (hs_ss (hs_ss (hs_ss (hs_ss (hs_ss (hs_ss (hs_ss (hs_ss σ 0 2 0) 2 ((σ 0 6).toNat) a0) 3 ((σ 0 6).toNat) a1) 4 ((σ 0 6).toNat) ((-1))) 5 ((σ 0 6).toNat) a2) 6 ((σ 0 6).toNat) a3) 7 ((σ 0 6).toNat) a4) 8 ((σ 0 6).toNat) a5) 9 ((σ 0 6).toNat) a6)) ∧ 0 ≤ (0 : Int) ∧ (0 : Int) ≤ 1000 := ⟨g170, by first | omega | assumption | (constructor <;> omega) | (refine ⟨⟨?_, ?_⟩, ?_⟩ <;> omega) | (simp [hs_ss, hs_up]; omega) | (simp [hs_ss, hs_up]; done)⟩
                  refine hs_loop (α := Int × hs_S) (fun x_ => (GY σ x_.2 ∧ 0 ≤ x_.1 ∧ x_.1 ≤ 1000) → hs_Wd p l e 3 s m args below meth c D dA SHY ad A 9 (hs_PI (fun σ z σ1 => (¬ (1 ≤ a0 ∧ a0 ≤ 9 ∧ 0 ≤ a1 ∧ a1 < σ 0 3 ∧ 0 ≤ a2 ∧ a2 ≤ 3 ∧ 200 ≤ a3 ∧ a3 ≤ 900 ∧ 0 ≤ a4 ∧ a4 ≤ 50 ∧ 0 ≤ a5 ∧ a5 < σ 0 3 ∧ 0 ≤ a6 ∧ a6 ≤ 60 ∧ σ 0 6 < 4) → z = -1 ∧ GY σ σ1) ∧ ((1 ≤ a0 ∧ a0 ≤ 9 ∧ 0 ≤ a1 ∧ a1 < σ 0 3 ∧ 0 ≤ a2 ∧ a2 ≤ 3 ∧ 200 ≤ a3 ∧ a3 ≤ 900 ∧ 0 ≤ a4 ∧ a4 ≤ 50 ∧ 0 ≤ a5 ∧ a5 < σ 0 3 ∧ 0 ≤ a6 ∧ a6 ≤ 60 ∧ σ 0 6 < 4) → z = σ 0 6 ∧ GY σ1 σ1 ∧ σ1 0 6 = σ 0 6 + 1 ∧ σ1 0 1 = σ 0 1 ∧ σ1 0 18 = σ 0 18 ∧ σ1 0 3 = σ 0 3 ∧ σ1 0 61 = σ 0 61)) σ) 174 [(0, .ref (ad 0)), (1, vI a0), (2, vI a1), (3, vI a2), (4, vI a3), (5, vI a4), (6, vI a5), (7, vI a6), (8, vI x_.1)] [] x_.2) (fun x_ => (1001 - x_.1).toNat) ?_ (0, (hs_ss (hs_ss (hs_ss (hs_ss (hs_ss (hs_ss (hs_ss (hs_ss (hs_ss σ 0 2 0) 2 ((σ 0 6).toNat) a0) 3 ((σ 0 6).toNat) a1) 4 ((σ 0 6).toNat) ((-1))) 5 ((σ 0 6).toNat) a2) 6 ((σ 0 6).toNat) a3) 7 ((σ 0 6).toNat) a4) 8 ((σ 0 6).toNat) a5) 9 ((σ 0 6).toNat) a6)) hi174
                  rintro ⟨k, σ1⟩ ih174 hinv
                  replace hinv : GY σ σ1 ∧ 0 ≤ k ∧ k ≤ 1000 := hinv
                  show hs_Wd p l e 3 s m args below meth c D dA SHY ad A 9 (hs_PI (fun σ z σ1 => (¬ (1 ≤ a0 ∧ a0 ≤ 9 ∧ 0 ≤ a1 ∧ a1 < σ 0 3 ∧ 0 ≤ a2 ∧ a2 ≤ 3 ∧ 200 ≤ a3 ∧ a3 ≤ 900 ∧ 0 ≤ a4 ∧ a4 ≤ 50 ∧ 0 ≤ a5 ∧ a5 < σ 0 3 ∧ 0 ≤ a6 ∧ a6 ≤ 60 ∧ σ 0 6 < 4) → z = -1 ∧ GY σ σ1) ∧ ((1 ≤ a0 ∧ a0 ≤ 9 ∧ 0 ≤ a1 ∧ a1 < σ 0 3 ∧ 0 ≤ a2 ∧ a2 ≤ 3 ∧ 200 ≤ a3 ∧ a3 ≤ 900 ∧ 0 ≤ a4 ∧ a4 ≤ 50 ∧ 0 ≤ a5 ∧ a5 < σ 0 3 ∧ 0 ≤ a6 ∧ a6 ≤ 60 ∧ σ 0 6 < 4) → z = σ 0 6 ∧ GY σ1 σ1 ∧ σ1 0 6 = σ 0 6 + 1 ∧ σ1 0 1 = σ 0 1 ∧ σ1 0 18 = σ 0 18 ∧ σ1 0 3 = σ 0 3 ∧ σ1 0 61 = σ 0 61)) σ) 174 [(0, .ref (ad 0)), (1, vI a0), (2, vI a1), (3, vI a2), (4, vI a3), (5, vI a4), (6, vI a5), (7, vI a6), (8, vI k)] [] σ1
                  obtain ⟨hg, hk⟩ := hinv
                  have e6 : σ1 0 6 = σ 0 6 := hg.2.2.2.1
                  refine s_iload (pc := 174) C dX12_wheel_174 8 rfl ?_
                  refine s_sipush (pc := 176) C dX12_wheel_176 (by decide) ?_
                  refine s_icmp_ge (pc := 179) C (tgt := 205) dX12_wheel_179 (by decide) ⟨by omega, by omega⟩ ⟨by decide, by decide⟩ (fun h179 => ?_) (fun h179 => ?_)
                  · skip
                    refine s_aload_n (pc := 205) C dX12_wheel_205 0 rfl ?_
                    refine s_dup (pc := 206) C dX12_wheel_206 rfl ?_
                    refine s_geti (q := 0) (ci := 12) (N := 68) (CN := RX12) (T := TX12) (pc := 207) C 6 dX12_wheel_207 wlX12_141 rfl rfl rfl wfX12 (by decide) rfl (σ1 0 6) rfl ?_
                    have b207 : (0 : Int) ≤ σ1 0 6 ∧ σ1 0 6 ≤ 4 := hg.1 0 6
                    refine s_iconst (pc := 210) C dX12_wheel_210 ?_
                    refine s_iadd (pc := 211) C dX12_wheel_211 ?_
                    refine s_puti (q := 0) (ci := 12) (N := 68) (CN := RX12) (T := TX12) (ty0 := tyX12) (ty := .int) (pc := 212) C 6 dX12_wheel_212 wlX12_141 rfl rfl rfl wfX12 tyX12_ok nmX12 (by decide) rfl rfl rfl (vp_nar_int _) rfl ?_
                    have g212 : GY ((hs_ss σ1 0 6 ((σ1 0 6) + 1))) ((hs_ss σ1 0 6 ((σ1 0 6) + 1))) := ⟨iby_set (z := σ1 0 6 + 1) (hg).1 0 6 0 4 rfl (by omega), ky_rf⟩
                    refine s_aload_n (pc := 215) C dX12_wheel_215 0 rfl ?_
                    refine s_callVv (pc := 216) C (c_X12_begins l) [] [] rfl rfl dX12_wheel_216 wlX12_193 wiX12_begins weX12_begins wcX12_begins wnX12 noX12_begins (by decide) (by decide) (Nat.le_of_ble_eq_true rfl) (gy_self g212) rfl rfl ?_
                    rintro σ216 k216
                    have g216 := gy_trans g212 k216
                    show hs_Wd _ _ _ _ _ _ _ _ _ _ _ _ _ _ _ _ _ 219 _ [] σ216
                    refine s_aload_n (pc := 219) C dX12_wheel_219 0 rfl ?_
                    refine s_geti (q := 0) (ci := 12) (N := 68) (CN := RX12) (T := TX12) (pc := 220) C 6 dX12_wheel_220 wlX12_141 rfl rfl rfl wfX12 (by decide) rfl (σ216 0 6) rfl ?_
                    have b220 : (0 : Int) ≤ σ216 0 6 ∧ σ216 0 6 ≤ 4 := g216.1 0 6
                    refine s_iconst (pc := 223) C dX12_wheel_223 ?_
                    refine s_isub (pc := 224) C dX12_wheel_224 ?_
                    refine s_iret (pc := 225) C dX12_wheel_225 ?_
                    refine ⟨_, rfl, ?_⟩
                    have kk := k216.2
                    have e06 : σ216 0 6 = σ1 0 6 + 1 := kk.2.2.1
                    have e01 : σ216 0 1 = σ1 0 1 := kk.1
                    have e03 : σ216 0 3 = σ1 0 3 := kk.2.1
                    have e61 : σ216 0 61 = σ1 0 61 := kk.2.2.2.1
                    have e18 : σ216 0 18 = σ1 0 18 := kk.2.2.2.2
                    have f := hg.2
                    unfold KY at f
                    exact ⟨fun q => absurd (by omega) q, fun _ => ⟨by omega, gy_self g216, by omega, by omega, by omega, by omega, by omega⟩⟩
                  · skip
                    refine s_aload_n (pc := 182) C dX12_wheel_182 0 rfl ?_
                    refine s_getr (q := 0) (ci := 12) (N := 68) (CN := RX12) (T := TX12) (pc := 183) C 22 dX12_wheel_183 wlX12_50 rfl rfl rfl wfX12 (by decide) rfl ?_
                    refine s_sipush (pc := 186) C dX12_wheel_186 (by decide) ?_
                    refine s_aload_n (pc := 189) C dX12_wheel_189 0 rfl ?_
                    refine s_geti (q := 0) (ci := 12) (N := 68) (CN := RX12) (T := TX12) (pc := 190) C 6 dX12_wheel_190 wlX12_141 rfl rfl rfl wfX12 (by decide) rfl (σ1 0 6) rfl ?_
                    have b190 : (0 : Int) ≤ σ1 0 6 ∧ σ1 0 6 ≤ 4 := hg.1 0 6
                    refine s_imul (pc := 193) C dX12_wheel_193 ?_
                    refine s_iload (pc := 194) C dX12_wheel_194 8 rfl ?_
                    refine s_iadd (pc := 196) C dX12_wheel_196 ?_
                    refine s_iload_n (pc := 197) C dX12_wheel_197 2 rfl ?_
                    refine s_iast (q := 13) (n := 4000) (pc := 198) C dX12_wheel_198 rfl (by omega) (by omega) (by decide) ?_
                    have g198 := gy_set (z := a1) hg 13 (((1000 * (σ1 0 6)) + k).toNat) rfl (0) (99) rfl ⟨by omega, by omega⟩
                    refine s_iinc (pc := 199) C [(8, vI (k + 1)), (0, .ref (ad 0)), (1, vI a0), (2, vI a1), (3, vI a2), (4, vI a3), (5, vI a4), (6, vI a5), (7, vI a6)] dX12_wheel_199 8 rfl (by decide) rfl ?_
                    refine s_goto (pc := 202) C (tgt := 174) dX12_wheel_202 (by decide) ?_
                    refine s_sub C [1, 2, 3, 4, 5, 6, 7, 8, 0] [(0, .ref (ad 0)), (1, vI a0), (2, vI a1), (3, vI a2), (4, vI a3), (5, vI a4), (6, vI a5), (7, vI a6), (8, vI (k + 1))] rfl ?_
                    have hi174 : GY σ ((hs_ss σ1 13 (((1000 * (σ1 0 6)) + k).toNat) a1)) ∧ 0 ≤ (k + 1) ∧ (k + 1) ≤ 1000 := ⟨g198, by first | omega | assumption | (constructor <;> omega) | (refine ⟨⟨?_, ?_⟩, ?_⟩ <;> omega) | (simp [hs_ss, hs_up]; omega) | (simp [hs_ss, hs_up]; done)⟩
                    exact ih174 (k + 1, (hs_ss σ1 13 (((1000 * (σ1 0 6)) + k).toNat) a1)) (by first | omega | (simp only []; omega)) hi174
                · skip
                  refine s_iconst (pc := 85) C dX12_wheel_85 ?_
                  refine s_iret (pc := 86) C dX12_wheel_86 ?_
                  refine ⟨_, rfl, ?_⟩
                  exact ⟨fun _ => ⟨rfl, g2⟩, fun q => by exfalso; omega⟩
