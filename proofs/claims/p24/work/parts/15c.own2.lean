set_option maxHeartbeats 4000000 in
set_option maxRecDepth 100000 in
theorem c_X11_may (l : Launch) (w : Int) (hw : hs_R w) (k : Int) (hk : hs_R k) : hs_Met l yX11_may cX11_may 3 (some .int) 6 SHX (fun ad => [.ref (ad 0), vI w, vI k]) (fun σ => GX σ σ) (hs_PI (fun σ z σ1 => GX σ σ1 ∧ -1 ≤ z ∧ z ≤ 100)) := by
  refine hs_from pfX11_may (fun _ => Nat.le_of_ble_eq_true rfl) ?_
  intro p e s m args below meth c D dA ad A σ C hpre
  have C : hs_C p s m args meth c D dA SHX ad A 3 cX11_may RX11 (some .int) := C
  have g0 := hpre
  have b34 : (0 : Int) ≤ σ 3 4 ∧ σ 3 4 ≤ 4 := g0.1 3 4
  show hs_Wd p l e 6 s m args below meth c D dA SHX ad A 3 (hs_PI (fun σ z σ1 => GX σ σ1 ∧ -1 ≤ z ∧ z ≤ 100) σ) 0 [(0, .ref (ad 0)), (1, vI w), (2, vI k)] [] σ
  refine s_aload_n (pc := 0) C dX11_may_0 0 rfl ?_
  refine s_getr (q := 0) (ci := 11) (N := 11) (CN := RX11) (T := TX11) (pc := 1) C 1 dX11_may_1 wlX11_16 rfl rfl rfl wfX11 (by decide) rfl ?_
  refine s_iload_n (pc := 4) C dX11_may_4 1 rfl ?_
  refine s_callVNi (pc := 5) C (c_X5_hasWheel l w ⟨by omega, by omega⟩) [vI w] [] rfl rfl dX11_may_5 wlX11_154 wiX5_hasWheel weX5_hasWheel wcX5_hasWheel wnX5 noX5_hasWheel (by decide) (by decide) (Nat.le_of_ble_eq_true rfl) (gx_self g0) rfl rfl ?_
  rintro z5 _ ⟨rfl, k5⟩
  show hs_Wd _ _ _ _ _ _ _ _ _ _ _ _ _ _ _ _ _ 8 _ [vI z5] σ
  refine s_if_ne (pc := 8) C (tgt := 13) dX11_may_8 (by decide) ⟨by omega, by omega⟩ (fun h8 => ?_) (fun h8 => ?_)
  · skip
    refine s_aload_n (pc := 13) C dX11_may_13 0 rfl ?_
    refine s_getr (q := 0) (ci := 11) (N := 11) (CN := RX11) (T := TX11) (pc := 14) C 5 dX11_may_14 wlX11_48 rfl rfl rfl wfX11 (by decide) rfl ?_
    refine s_iload_n (pc := 17) C dX11_may_17 1 rfl ?_
    refine s_callVNv (pc := 18) C (c_X2_weighGates l w (by first | omega | assumption | (constructor <;> omega) | (refine ⟨⟨?_, ?_⟩, ?_⟩ <;> omega) | (simp [hs_ss, hs_up]; omega) | (simp [hs_ss, hs_up]; done))) [vI w] [] rfl rfl dX11_may_18 wlX11_239 wiX2_weighGates weX2_weighGates wcX2_weighGates wnX2 noX2_weighGates (by decide) (by decide) (Nat.le_of_ble_eq_true rfl) (gx_self g0) rfl rfl ?_
    rintro σ18 k18
    obtain ⟨kg18, kf18⟩ := k18
    have g18 := gx_trans g0 kg18
    show hs_Wd _ _ _ _ _ _ _ _ _ _ _ _ _ _ _ _ _ 21 _ [] σ18
    refine s_iload_n (pc := 21) C dX11_may_21 2 rfl ?_
    refine s_iconst (pc := 22) C dX11_may_22 ?_
    refine s_icmp_ne (pc := 23) C (tgt := 36) dX11_may_23 (by decide) ⟨by omega, by omega⟩ ⟨by decide, by decide⟩ (fun h23 => ?_) (fun h23 => ?_)
    · skip
      refine s_aload_n (pc := 36) C dX11_may_36 0 rfl ?_
      refine s_getr (q := 0) (ci := 11) (N := 11) (CN := RX11) (T := TX11) (pc := 37) C 5 dX11_may_37 wlX11_48 rfl rfl rfl wfX11 (by decide) rfl ?_
      refine s_iload_n (pc := 40) C dX11_may_40 2 rfl ?_
      refine s_callVNi (pc := 41) C (c_X2_possibleAt l k ⟨by omega, by omega⟩) [vI k] [] rfl rfl dX11_may_41 wlX11_245 wiX2_possibleAt weX2_possibleAt wcX2_possibleAt wnX2 noX2_possibleAt (by decide) (by decide) (Nat.le_of_ble_eq_true rfl) (gx_self g18) rfl rfl ?_
      rintro z41 _ ⟨rfl, k41⟩
      show hs_Wd _ _ _ _ _ _ _ _ _ _ _ _ _ _ _ _ _ 44 _ [vI z41] σ18
      refine s_iret (pc := 44) C dX11_may_44 ?_
      refine ⟨_, rfl, ?_⟩
      exact ⟨g18, by first | omega | assumption | (constructor <;> omega) | (refine ⟨⟨?_, ?_⟩, ?_⟩ <;> omega) | (simp [hs_ss, hs_up]; omega) | (simp [hs_ss, hs_up]; done)⟩
    · skip
      refine s_aload_n (pc := 26) C dX11_may_26 0 rfl ?_
      refine s_getr (q := 0) (ci := 11) (N := 11) (CN := RX11) (T := TX11) (pc := 27) C 5 dX11_may_27 wlX11_48 rfl rfl rfl wfX11 (by decide) rfl ?_
      refine s_callVNi (pc := 30) C (c_X2_countPossible l) [] [] rfl rfl dX11_may_30 wlX11_242 wiX2_countPossible weX2_countPossible wcX2_countPossible wnX2 noX2_countPossible (by decide) (by decide) (Nat.le_of_ble_eq_true rfl) (gx_self g18) rfl rfl ?_
      rintro z30 _ ⟨rfl, k30⟩
      show hs_Wd _ _ _ _ _ _ _ _ _ _ _ _ _ _ _ _ _ 33 _ [vI z30] σ18
      refine s_goto (pc := 33) C (tgt := 44) dX11_may_33 (by decide) ?_
      refine s_iret (pc := 44) C dX11_may_44 ?_
      refine ⟨_, rfl, ?_⟩
      exact ⟨g18, by first | omega | assumption | (constructor <;> omega) | (refine ⟨⟨?_, ?_⟩, ?_⟩ <;> omega) | (simp [hs_ss, hs_up]; omega) | (simp [hs_ss, hs_up]; done)⟩
  · skip
    refine s_iconst (pc := 11) C dX11_may_11 ?_
    refine s_iret (pc := 12) C dX11_may_12 ?_
    refine ⟨_, rfl, ?_⟩
    exact ⟨g0, by first | omega | assumption | (constructor <;> omega) | (refine ⟨⟨?_, ?_⟩, ?_⟩ <;> omega) | (simp [hs_ss, hs_up]; omega) | (simp [hs_ss, hs_up]; done)⟩
set_option maxHeartbeats 4000000 in
set_option maxRecDepth 100000 in
theorem c_X11_cover (l : Launch) (w : Int) (hw : hs_R w) (k : Int) (hk : hs_R k) : hs_Met l yX11_cover cX11_cover 3 (some .int) 7 SHX (fun ad => [.ref (ad 0), vI w, vI k]) (fun σ => GX σ σ) (hs_PI (fun σ z σ1 => GX σ σ1 ∧ -10 ≤ z ∧ z ≤ 100)) := by
  refine hs_from pfX11_cover (fun _ => Nat.le_of_ble_eq_true rfl) ?_
  intro p e s m args below meth c D dA ad A σ C hpre
  have C : hs_C p s m args meth c D dA SHX ad A 3 cX11_cover RX11 (some .int) := C
  have g0 := hpre
  have b34 : (0 : Int) ≤ σ 3 4 ∧ σ 3 4 ≤ 4 := g0.1 3 4
  show hs_Wd p l e 7 s m args below meth c D dA SHX ad A 3 (hs_PI (fun σ z σ1 => GX σ σ1 ∧ -10 ≤ z ∧ z ≤ 100) σ) 0 [(0, .ref (ad 0)), (1, vI w), (2, vI k)] [] σ
  refine s_aload_n (pc := 0) C dX11_cover_0 0 rfl ?_
  refine s_getr (q := 0) (ci := 11) (N := 11) (CN := RX11) (T := TX11) (pc := 1) C 1 dX11_cover_1 wlX11_16 rfl rfl rfl wfX11 (by decide) rfl ?_
  refine s_iload_n (pc := 4) C dX11_cover_4 1 rfl ?_
  refine s_callVNi (pc := 5) C (c_X5_hasWheel l w ⟨by omega, by omega⟩) [vI w] [] rfl rfl dX11_cover_5 wlX11_154 wiX5_hasWheel weX5_hasWheel wcX5_hasWheel wnX5 noX5_hasWheel (by decide) (by decide) (Nat.le_of_ble_eq_true rfl) (gx_self g0) rfl rfl ?_
  rintro z5 _ ⟨rfl, k5⟩
  show hs_Wd _ _ _ _ _ _ _ _ _ _ _ _ _ _ _ _ _ 8 _ [vI z5] σ
  refine s_if_ne (pc := 8) C (tgt := 13) dX11_cover_8 (by decide) ⟨by omega, by omega⟩ (fun h8 => ?_) (fun h8 => ?_)
  · skip
    refine s_aload_n (pc := 13) C dX11_cover_13 0 rfl ?_
    refine s_getr (q := 0) (ci := 11) (N := 11) (CN := RX11) (T := TX11) (pc := 14) C 5 dX11_cover_14 wlX11_48 rfl rfl rfl wfX11 (by decide) rfl ?_
    refine s_iload_n (pc := 17) C dX11_cover_17 1 rfl ?_
    refine s_callVNv (pc := 18) C (c_X2_layOut l w (by first | omega | assumption | (constructor <;> omega) | (refine ⟨⟨?_, ?_⟩, ?_⟩ <;> omega) | (simp [hs_ss, hs_up]; omega) | (simp [hs_ss, hs_up]; done))) [vI w] [] rfl rfl dX11_cover_18 wlX11_248 wiX2_layOut weX2_layOut wcX2_layOut wnX2 noX2_layOut (by decide) (by decide) (Nat.le_of_ble_eq_true rfl) (gx_self g0) rfl rfl ?_
    rintro σ18 k18
    obtain ⟨kg18, kf18⟩ := k18
    have g18 := gx_trans g0 kg18
    show hs_Wd _ _ _ _ _ _ _ _ _ _ _ _ _ _ _ _ _ 21 _ [] σ18
    refine s_iload_n (pc := 21) C dX11_cover_21 2 rfl ?_
    refine s_iconst (pc := 22) C dX11_cover_22 ?_
    refine s_icmp_ne (pc := 23) C (tgt := 34) dX11_cover_23 (by decide) ⟨by omega, by omega⟩ ⟨by decide, by decide⟩ (fun h23 => ?_) (fun h23 => ?_)
    · skip
      refine s_iload_n (pc := 34) C dX11_cover_34 2 rfl ?_
      refine s_if_lt (pc := 35) C (tgt := 49) dX11_cover_35 (by decide) ⟨by omega, by omega⟩ (fun h35 => ?_) (fun h35 => ?_)
      · skip
        refine s_iconst (pc := 49) C dX11_cover_49 ?_
        refine s_goto (pc := 50) C (tgt := 62) dX11_cover_50 (by decide) ?_
        refine s_iret (pc := 62) C dX11_cover_62 ?_
        refine ⟨_, rfl, ?_⟩
        exact ⟨g18, by first | omega | assumption | (constructor <;> omega) | (refine ⟨⟨?_, ?_⟩, ?_⟩ <;> omega) | (simp [hs_ss, hs_up]; omega) | (simp [hs_ss, hs_up]; done)⟩
      · skip
        refine s_iload_n (pc := 38) C dX11_cover_38 2 rfl ?_
        refine s_aload_n (pc := 39) C dX11_cover_39 0 rfl ?_
        refine s_getr (q := 0) (ci := 11) (N := 11) (CN := RX11) (T := TX11) (pc := 40) C 5 dX11_cover_40 wlX11_48 rfl rfl rfl wfX11 (by decide) rfl ?_
        refine s_getiN (q := 29) (ci := 2) (N := 6) (CN := RX2) (T := TX2) (pc := 43) C 4 dX11_cover_43 wlX11_251 rfl rfl rfl wfX2 (by decide) rfl (σ18 29 4) rfl ?_
        have b43 : (0 : Int) ≤ σ18 29 4 ∧ σ18 29 4 ≤ 100 := g18.1 29 4
        refine s_icmp_lt (pc := 46) C (tgt := 53) dX11_cover_46 (by decide) ⟨by omega, by omega⟩ ⟨by omega, by omega⟩ (fun h46 => ?_) (fun h46 => ?_)
        · skip
          refine s_aload_n (pc := 53) C dX11_cover_53 0 rfl ?_
          refine s_getr (q := 0) (ci := 11) (N := 11) (CN := RX11) (T := TX11) (pc := 54) C 5 dX11_cover_54 wlX11_48 rfl rfl rfl wfX11 (by decide) rfl ?_
          refine s_getrN (q := 29) (ci := 2) (N := 6) (CN := RX2) (T := TX2) (pc := 57) C 3 dX11_cover_57 wlX11_254 rfl rfl rfl wfX2 (by decide) rfl ?_
          refine s_iload_n (pc := 60) C dX11_cover_60 2 rfl ?_
          refine s_iald (q := 31) (n := 100) (pc := 61) C (σ18 31 k.toNat) rfl dX11_cover_61 rfl (by omega) (by omega) (by decide) ?_
          have b61 : (-10 : Int) ≤ σ18 31 k.toNat ∧ σ18 31 k.toNat ≤ 99 := g18.1 31 k.toNat
          refine s_iret (pc := 62) C dX11_cover_62 ?_
          refine ⟨_, rfl, ?_⟩
          exact ⟨g18, by first | omega | assumption | (constructor <;> omega) | (refine ⟨⟨?_, ?_⟩, ?_⟩ <;> omega) | (simp [hs_ss, hs_up]; omega) | (simp [hs_ss, hs_up]; done)⟩
        · skip
          refine s_iconst (pc := 49) C dX11_cover_49 ?_
          refine s_goto (pc := 50) C (tgt := 62) dX11_cover_50 (by decide) ?_
          refine s_iret (pc := 62) C dX11_cover_62 ?_
          refine ⟨_, rfl, ?_⟩
          exact ⟨g18, by first | omega | assumption | (constructor <;> omega) | (refine ⟨⟨?_, ?_⟩, ?_⟩ <;> omega) | (simp [hs_ss, hs_up]; omega) | (simp [hs_ss, hs_up]; done)⟩
    · skip
      refine s_aload_n (pc := 26) C dX11_cover_26 0 rfl ?_
      refine s_getr (q := 0) (ci := 11) (N := 11) (CN := RX11) (T := TX11) (pc := 27) C 5 dX11_cover_27 wlX11_48 rfl rfl rfl wfX11 (by decide) rfl ?_
      refine s_getiN (q := 29) (ci := 2) (N := 6) (CN := RX2) (T := TX2) (pc := 30) C 4 dX11_cover_30 wlX11_251 rfl rfl rfl wfX2 (by decide) rfl (σ18 29 4) rfl ?_
      have b30 : (0 : Int) ≤ σ18 29 4 ∧ σ18 29 4 ≤ 100 := g18.1 29 4
      refine s_iret (pc := 33) C dX11_cover_33 ?_
      refine ⟨_, rfl, ?_⟩
      exact ⟨g18, by first | omega | assumption | (constructor <;> omega) | (refine ⟨⟨?_, ?_⟩, ?_⟩ <;> omega) | (simp [hs_ss, hs_up]; omega) | (simp [hs_ss, hs_up]; done)⟩
  · skip
    refine s_iconst (pc := 11) C dX11_cover_11 ?_
    refine s_iret (pc := 12) C dX11_cover_12 ?_
    refine ⟨_, rfl, ?_⟩
    exact ⟨g0, by first | omega | assumption | (constructor <;> omega) | (refine ⟨⟨?_, ?_⟩, ?_⟩ <;> omega) | (simp [hs_ss, hs_up]; omega) | (simp [hs_ss, hs_up]; done)⟩
set_option maxHeartbeats 4000000 in
set_option maxRecDepth 100000 in
theorem c_X11_seek (l : Launch) (n : Int) (hn : hs_R n) : hs_Met l yX11_seek cX11_seek 2 (some .long) 11 SHX (fun ad => [.ref (ad 0), vI n]) (fun σ => GX σ σ) (hs_PL (fun σ z σ1 => GX σ σ1)) := by
  refine hs_from pfX11_seek (fun _ => Nat.le_of_ble_eq_true rfl) ?_
  intro p e s m args below meth c D dA ad A σ C hpre
  have C : hs_C p s m args meth c D dA SHX ad A 2 cX11_seek RX11 (some .long) := C
  have g0 := hpre
  have b34 : (0 : Int) ≤ σ 3 4 ∧ σ 3 4 ≤ 4 := g0.1 3 4
  show hs_Wd p l e 11 s m args below meth c D dA SHX ad A 2 (hs_PL (fun σ z σ1 => GX σ σ1) σ) 0 [(0, .ref (ad 0)), (1, vI n)] [] σ
  refine s_aload_n (pc := 0) C dX11_seek_0 0 rfl ?_
  refine s_getr (q := 0) (ci := 11) (N := 11) (CN := RX11) (T := TX11) (pc := 1) C 1 dX11_seek_1 wlX11_16 rfl rfl rfl wfX11 (by decide) rfl ?_
  refine s_getrN (q := 2) (ci := 5) (N := 3) (CN := RX5) (T := TX5) (pc := 4) C 0 dX11_seek_4 wlX11_131 rfl rfl rfl wfX5 (by decide) rfl ?_
  refine s_getiN (q := 3) (ci := 8) (N := 7) (CN := RX8) (T := TX8) (pc := 7) C 4 dX11_seek_7 wlX11_135 rfl rfl rfl wfX8 (by decide) rfl (σ 3 4) rfl ?_
  have b7 : (0 : Int) ≤ σ 3 4 ∧ σ 3 4 ≤ 4 := g0.1 3 4
  refine s_if_eq (pc := 10) C (tgt := 22) dX11_seek_10 (by decide) ⟨by omega, by omega⟩ (fun h10 => ?_) (fun h10 => ?_)
  · skip
    refine s_ldc2 (z := (-1)) (pc := 22) C dX11_seek_22 wlX11_257 (by decide) ?_
    refine s_lret (pc := 25) C dX11_seek_25 ?_
    refine ⟨_, rfl, ?_⟩
    exact g0
  · skip
    refine s_iload_n (pc := 13) C dX11_seek_13 1 rfl ?_
    refine s_iconst (pc := 14) C dX11_seek_14 ?_
    refine s_iconst (pc := 15) C dX11_seek_15 ?_
    refine s_callSi (pc := 16) C (c_X11_isWithin l n ⟨by omega, by omega⟩ 0 ⟨by omega, by omega⟩ 3 ⟨by omega, by omega⟩) [vI n, vI 0, vI 3] [] rfl rfl dX11_seek_16 wlX11_123 wtX11_isWithin wcX11_isWithin wnX11 noX11_isWithin (by decide) (by decide) (Nat.le_of_ble_eq_true rfl) (gx_self g0) ?_
    rintro z16 _ ⟨rfl, k16⟩
    show hs_Wd _ _ _ _ _ _ _ _ _ _ _ _ _ _ _ _ _ 19 _ [vI z16] σ
    refine s_if_ne (pc := 19) C (tgt := 26) dX11_seek_19 (by decide) ⟨by omega, by omega⟩ (fun h19 => ?_) (fun h19 => ?_)
    · skip
      refine s_aload_n (pc := 26) C dX11_seek_26 0 rfl ?_
      refine s_getr (q := 0) (ci := 11) (N := 11) (CN := RX11) (T := TX11) (pc := 27) C 6 dX11_seek_27 wlX11_57 rfl rfl rfl wfX11 (by decide) rfl ?_
      refine s_callVNi (pc := 30) C (c_X6_gatherCovers l) [] [] rfl rfl dX11_seek_30 wlX11_259 wiX6_gatherCovers weX6_gatherCovers wcX6_gatherCovers wnX6 noX6_gatherCovers (by decide) (by decide) (Nat.le_of_ble_eq_true rfl) (gx_self g0) rfl rfl ?_
      rintro z30 σ30 k30
      obtain ⟨kg30, kf30, k30⟩ := k30
      have g30 := gx_trans g0 kg30
      show hs_Wd _ _ _ _ _ _ _ _ _ _ _ _ _ _ _ _ _ 33 _ [vI z30] σ30
      refine s_if_ne (pc := 33) C (tgt := 40) dX11_seek_33 (by decide) ⟨by omega, by omega⟩ (fun h33 => ?_) (fun h33 => ?_)
      · skip
        refine s_aload_n (pc := 40) C dX11_seek_40 0 rfl ?_
        refine s_getr (q := 0) (ci := 11) (N := 11) (CN := RX11) (T := TX11) (pc := 41) C 6 dX11_seek_41 wlX11_57 rfl rfl rfl wfX11 (by decide) rfl ?_
        refine s_iconst (pc := 44) C dX11_seek_44 ?_
        refine s_callVNv (pc := 45) C (c_X6_goThroughRows l 0 ⟨by omega, by omega⟩) [vI 0] [] rfl rfl dX11_seek_45 wlX11_265 wiX6_goThroughRows weX6_goThroughRows wcX6_goThroughRows wnX6 noX6_goThroughRows (by decide) (by decide) (Nat.le_of_ble_eq_true rfl) ⟨(gx_self g30), k30.2 (by omega)⟩ rfl rfl ?_
        rintro σ45 k45
        obtain ⟨kg45, kf45, p45_SZR, k45⟩ := k45
        have g45 := gx_trans g30 kg45
        show hs_Wd _ _ _ _ _ _ _ _ _ _ _ _ _ _ _ _ _ 48 _ [] σ45
        refine s_iload_n (pc := 48) C dX11_seek_48 1 rfl ?_
        by_cases sw49 : n < 0 ∨ 2 < n
        · refine s_swOut (pc := 49) C (tgt := 102) dX11_seek_49 ⟨by omega, by omega⟩ sw49 (by decide) ?_
          refine s_aload_n (pc := 102) C dX11_seek_102 0 rfl ?_
          refine s_getr (q := 0) (ci := 11) (N := 11) (CN := RX11) (T := TX11) (pc := 103) C 6 dX11_seek_103 wlX11_57 rfl rfl rfl wfX11 (by decide) rfl ?_
          refine s_getlN (q := 32) (ci := 6) (N := 13) (CN := RX6) (T := TX6) (pc := 106) C 9 dX11_seek_106 wlX11_276 rfl rfl rfl wfX6 (by decide) rfl (σ45 32 9) rfl ?_
          have b106 : (-9223372036854775808 : Int) ≤ σ45 32 9 ∧ σ45 32 9 ≤ 9223372036854775807 := g45.1 32 9
          refine s_lret (pc := 109) C dX11_seek_109 ?_
          refine ⟨_, rfl, ?_⟩
          exact g45
        · rcases (show n = 0 ∨ n = 1 ∨ n = 2 by omega) with sv49 | sv49 | sv49
          · refine s_swIn (pc := 49) (off := 27) C (tgt := 76) dX11_seek_49 ⟨by omega, by omega⟩ (by omega) (by omega) (by rw [sv49]; decide) (by decide) ?_
            refine s_aload_n (pc := 76) C dX11_seek_76 0 rfl ?_
            refine s_getr (q := 0) (ci := 11) (N := 11) (CN := RX11) (T := TX11) (pc := 77) C 6 dX11_seek_77 wlX11_57 rfl rfl rfl wfX11 (by decide) rfl ?_
            refine s_getiN (q := 32) (ci := 6) (N := 13) (CN := RX6) (T := TX6) (pc := 80) C 6 dX11_seek_80 wlX11_268 rfl rfl rfl wfX6 (by decide) rfl (σ45 32 6) rfl ?_
            have b80 : (0 : Int) ≤ σ45 32 6 ∧ σ45 32 6 ≤ 100000000 := g45.1 32 6
            refine s_i2l (pc := 83) C dX11_seek_83 ⟨by omega, by omega⟩ ?_
            refine s_lret (pc := 84) C dX11_seek_84 ?_
            refine ⟨_, rfl, ?_⟩
            exact g45
          · refine s_swIn (pc := 49) (off := 36) C (tgt := 85) dX11_seek_49 ⟨by omega, by omega⟩ (by omega) (by omega) (by rw [sv49]; decide) (by decide) ?_
            refine s_aload_n (pc := 85) C dX11_seek_85 0 rfl ?_
            refine s_getr (q := 0) (ci := 11) (N := 11) (CN := RX11) (T := TX11) (pc := 86) C 6 dX11_seek_86 wlX11_57 rfl rfl rfl wfX11 (by decide) rfl ?_
            refine s_getiN (q := 32) (ci := 6) (N := 13) (CN := RX6) (T := TX6) (pc := 89) C 8 dX11_seek_89 wlX11_271 rfl rfl rfl wfX6 (by decide) rfl (σ45 32 8) rfl ?_
            have b89 : (0 : Int) ≤ σ45 32 8 ∧ σ45 32 8 ≤ 100000000 := g45.1 32 8
            refine s_i2l (pc := 92) C dX11_seek_92 ⟨by omega, by omega⟩ ?_
            refine s_lret (pc := 93) C dX11_seek_93 ?_
            refine ⟨_, rfl, ?_⟩
            exact g45
          · refine s_swIn (pc := 49) (off := 45) C (tgt := 94) dX11_seek_49 ⟨by omega, by omega⟩ (by omega) (by omega) (by rw [sv49]; decide) (by decide) ?_
            refine s_aload_n (pc := 94) C dX11_seek_94 0 rfl ?_
            refine s_getr (q := 0) (ci := 11) (N := 11) (CN := RX11) (T := TX11) (pc := 95) C 6 dX11_seek_95 wlX11_57 rfl rfl rfl wfX11 (by decide) rfl ?_
            refine s_getlN (q := 32) (ci := 6) (N := 13) (CN := RX6) (T := TX6) (pc := 98) C 10 dX11_seek_98 wlX11_272 rfl rfl rfl wfX6 (by decide) rfl (σ45 32 10) rfl ?_
            have b98 : (-9223372036854775808 : Int) ≤ σ45 32 10 ∧ σ45 32 10 ≤ 9223372036854775807 := g45.1 32 10
            refine s_lret (pc := 101) C dX11_seek_101 ?_
            refine ⟨_, rfl, ?_⟩
            exact g45
      · skip
        refine s_ldc2 (z := (-2)) (pc := 36) C dX11_seek_36 wlX11_263 (by decide) ?_
        refine s_lret (pc := 39) C dX11_seek_39 ?_
        refine ⟨_, rfl, ?_⟩
        exact g30
    · skip
      refine s_ldc2 (z := (-1)) (pc := 22) C dX11_seek_22 wlX11_257 (by decide) ?_
      refine s_lret (pc := 25) C dX11_seek_25 ?_
      refine ⟨_, rfl, ?_⟩
      exact g0
set_option maxHeartbeats 4000000 in
set_option maxRecDepth 100000 in
theorem c_X11_best (l : Launch) (n : Int) (hn : hs_R n) : hs_Met l yX11_best cX11_best 2 (some .long) 11 SHX (fun ad => [.ref (ad 0), vI n]) (fun σ => GX σ σ) (hs_PL (fun σ z σ1 => GX σ σ1)) := by
  refine hs_from pfX11_best (fun _ => Nat.le_of_ble_eq_true rfl) ?_
  intro p e s m args below meth c D dA ad A σ C hpre
  have C : hs_C p s m args meth c D dA SHX ad A 2 cX11_best RX11 (some .long) := C
  have g0 := hpre
  have b34 : (0 : Int) ≤ σ 3 4 ∧ σ 3 4 ≤ 4 := g0.1 3 4
  show hs_Wd p l e 11 s m args below meth c D dA SHX ad A 2 (hs_PL (fun σ z σ1 => GX σ σ1) σ) 0 [(0, .ref (ad 0)), (1, vI n)] [] σ
  refine s_aload_n (pc := 0) C dX11_best_0 0 rfl ?_
  refine s_getr (q := 0) (ci := 11) (N := 11) (CN := RX11) (T := TX11) (pc := 1) C 1 dX11_best_1 wlX11_16 rfl rfl rfl wfX11 (by decide) rfl ?_
  refine s_getrN (q := 2) (ci := 5) (N := 3) (CN := RX5) (T := TX5) (pc := 4) C 0 dX11_best_4 wlX11_131 rfl rfl rfl wfX5 (by decide) rfl ?_
  refine s_getiN (q := 3) (ci := 8) (N := 7) (CN := RX8) (T := TX8) (pc := 7) C 4 dX11_best_7 wlX11_135 rfl rfl rfl wfX8 (by decide) rfl (σ 3 4) rfl ?_
  have b7 : (0 : Int) ≤ σ 3 4 ∧ σ 3 4 ≤ 4 := g0.1 3 4
  refine s_if_eq (pc := 10) C (tgt := 22) dX11_best_10 (by decide) ⟨by omega, by omega⟩ (fun h10 => ?_) (fun h10 => ?_)
  · skip
    refine s_ldc2 (z := (-1)) (pc := 22) C dX11_best_22 wlX11_257 (by decide) ?_
    refine s_lret (pc := 25) C dX11_best_25 ?_
    refine ⟨_, rfl, ?_⟩
    exact g0
  · skip
    refine s_iload_n (pc := 13) C dX11_best_13 1 rfl ?_
    refine s_iconst (pc := 14) C dX11_best_14 ?_
    refine s_iconst (pc := 15) C dX11_best_15 ?_
    refine s_callSi (pc := 16) C (c_X11_isWithin l n ⟨by omega, by omega⟩ 0 ⟨by omega, by omega⟩ 1 ⟨by omega, by omega⟩) [vI n, vI 0, vI 1] [] rfl rfl dX11_best_16 wlX11_123 wtX11_isWithin wcX11_isWithin wnX11 noX11_isWithin (by decide) (by decide) (Nat.le_of_ble_eq_true rfl) (gx_self g0) ?_
    rintro z16 _ ⟨rfl, k16⟩
    show hs_Wd _ _ _ _ _ _ _ _ _ _ _ _ _ _ _ _ _ 19 _ [vI z16] σ
    refine s_if_ne (pc := 19) C (tgt := 26) dX11_best_19 (by decide) ⟨by omega, by omega⟩ (fun h19 => ?_) (fun h19 => ?_)
    · skip
      refine s_aload_n (pc := 26) C dX11_best_26 0 rfl ?_
      refine s_getr (q := 0) (ci := 11) (N := 11) (CN := RX11) (T := TX11) (pc := 27) C 6 dX11_best_27 wlX11_57 rfl rfl rfl wfX11 (by decide) rfl ?_
      refine s_callVNi (pc := 30) C (c_X6_gatherCovers l) [] [] rfl rfl dX11_best_30 wlX11_259 wiX6_gatherCovers weX6_gatherCovers wcX6_gatherCovers wnX6 noX6_gatherCovers (by decide) (by decide) (Nat.le_of_ble_eq_true rfl) (gx_self g0) rfl rfl ?_
      rintro z30 σ30 k30
      obtain ⟨kg30, kf30, k30⟩ := k30
      have g30 := gx_trans g0 kg30
      show hs_Wd _ _ _ _ _ _ _ _ _ _ _ _ _ _ _ _ _ 33 _ [vI z30] σ30
      refine s_if_ne (pc := 33) C (tgt := 40) dX11_best_33 (by decide) ⟨by omega, by omega⟩ (fun h33 => ?_) (fun h33 => ?_)
      · skip
        refine s_aload_n (pc := 40) C dX11_best_40 0 rfl ?_
        refine s_getr (q := 0) (ci := 11) (N := 11) (CN := RX11) (T := TX11) (pc := 41) C 6 dX11_best_41 wlX11_57 rfl rfl rfl wfX11 (by decide) rfl ?_
        refine s_callVNv (pc := 44) C (c_X6_chooseOrder l) [] [] rfl rfl dX11_best_44 wlX11_278 wiX6_chooseOrder weX6_chooseOrder wcX6_chooseOrder wnX6 noX6_chooseOrder (by decide) (by decide) (Nat.le_of_ble_eq_true rfl) ⟨(gx_self g30), k30.2 (by omega)⟩ rfl rfl ?_
        rintro σ44 k44
        obtain ⟨kg44, p44_SZR⟩ := k44
        have g44 := gx_trans g30 kg44
        show hs_Wd _ _ _ _ _ _ _ _ _ _ _ _ _ _ _ _ _ 47 _ [] σ44
        refine s_iload_n (pc := 47) C dX11_best_47 1 rfl ?_
        refine s_if_ne (pc := 48) C (tgt := 62) dX11_best_48 (by decide) ⟨by omega, by omega⟩ (fun h48 => ?_) (fun h48 => ?_)
        · skip
          refine s_aload_n (pc := 62) C dX11_best_62 0 rfl ?_
          refine s_getr (q := 0) (ci := 11) (N := 11) (CN := RX11) (T := TX11) (pc := 63) C 6 dX11_best_63 wlX11_57 rfl rfl rfl wfX11 (by decide) rfl ?_
          refine s_getlN (q := 32) (ci := 6) (N := 13) (CN := RX6) (T := TX6) (pc := 66) C 12 dX11_best_66 wlX11_284 rfl rfl rfl wfX6 (by decide) rfl (σ44 32 12) rfl ?_
          have b66 : (-9223372036854775808 : Int) ≤ σ44 32 12 ∧ σ44 32 12 ≤ 9223372036854775807 := g44.1 32 12
          refine s_lret (pc := 69) C dX11_best_69 ?_
          refine ⟨_, rfl, ?_⟩
          exact g44
        · skip
          refine s_aload_n (pc := 51) C dX11_best_51 0 rfl ?_
          refine s_getr (q := 0) (ci := 11) (N := 11) (CN := RX11) (T := TX11) (pc := 52) C 6 dX11_best_52 wlX11_57 rfl rfl rfl wfX11 (by decide) rfl ?_
          refine s_getiN (q := 32) (ci := 6) (N := 13) (CN := RX6) (T := TX6) (pc := 55) C 11 dX11_best_55 wlX11_281 rfl rfl rfl wfX6 (by decide) rfl (σ44 32 11) rfl ?_
          have b55 : (-2147483648 : Int) ≤ σ44 32 11 ∧ σ44 32 11 ≤ 2147483647 := g44.1 32 11
          refine s_i2l (pc := 58) C dX11_best_58 ⟨by omega, by omega⟩ ?_
          refine s_goto (pc := 59) C (tgt := 69) dX11_best_59 (by decide) ?_
          refine s_lret (pc := 69) C dX11_best_69 ?_
          refine ⟨_, rfl, ?_⟩
          exact g44
      · skip
        refine s_ldc2 (z := (-2)) (pc := 36) C dX11_best_36 wlX11_263 (by decide) ?_
        refine s_lret (pc := 39) C dX11_best_39 ?_
        refine ⟨_, rfl, ?_⟩
        exact g30
    · skip
      refine s_ldc2 (z := (-1)) (pc := 22) C dX11_best_22 wlX11_257 (by decide) ?_
      refine s_lret (pc := 25) C dX11_best_25 ?_
      refine ⟨_, rfl, ?_⟩
      exact g0
