theorem hs_ss_id {σ : hs_S} {c j : Nat} {z : Int} (h : σ c j = z) : hs_ss σ c j z = σ := by
  funext i k
  by_cases e : i = c
  · subst e
    by_cases e2 : k = j
    · subst e2; rw [hs_ss_at, h]
    · rw [hs_ss_j e2]
  · rw [hs_ss_ne e]
set_option maxHeartbeats 4000000 in
set_option maxRecDepth 100000 in
theorem c_X4_forget (l : Launch)  : hs_Met l yX4_forget cX4_forget 1 none 1 SHX (fun ad => [.ref (ad 27)]) (fun σ => GX σ σ) (hs_PV (fun σ σ1 => GX σ σ1)) := by
  refine hs_from pfX4_forget (fun _ => Nat.le_of_ble_eq_true rfl) ?_
  intro p e s m args below meth c D dA ad A σ C hpre
  have C : hs_C p s m args meth c D dA SHX ad A 1 cX4_forget RX4 none := C
  have g0 := hpre
  show hs_Wd p l e 1 s m args below meth c D dA SHX ad A 1 (hs_PV (fun σ σ1 => GX σ σ1) σ) 0 [(0, .ref (ad 27))] [] σ
  refine s_aload_n (pc := 0) C dX4_forget_0 0 rfl ?_
  refine s_iconst (pc := 1) C dX4_forget_1 ?_
  refine s_puti (q := 27) (ci := 4) (N := 7) (CN := RX4) (T := TX4) (ty0 := tyX4) (ty := .int) (pc := 2) C 4 dX4_forget_2 wlX4_29 rfl rfl rfl wfX4 tyX4_ok nmX4 (by decide) rfl rfl rfl (vp_nar_int _) rfl ?_
  have g2 := gx_set (z := 0) g0 27 4 rfl (0) (100000) rfl ⟨by omega, by omega⟩
  refine s_aload_n (pc := 5) C dX4_forget_5 0 rfl ?_
  refine s_iconst (pc := 6) C dX4_forget_6 ?_
  refine s_puti (q := 27) (ci := 4) (N := 7) (CN := RX4) (T := TX4) (ty0 := tyX4) (ty := .int) (pc := 7) C 5 dX4_forget_7 wlX4_33 rfl rfl rfl wfX4 tyX4_ok nmX4 (by decide) rfl rfl rfl (vp_nar_int _) rfl ?_
  have g7 := gx_set (z := 0) g2 27 5 rfl (0) (5000) rfl ⟨by omega, by omega⟩
  refine s_aload_n (pc := 10) C dX4_forget_10 0 rfl ?_
  refine s_iconst (pc := 11) C dX4_forget_11 ?_
  refine s_puti (q := 27) (ci := 4) (N := 7) (CN := RX4) (T := TX4) (ty0 := tyX4) (ty := .int) (pc := 12) C 6 dX4_forget_12 wlX4_36 rfl rfl rfl wfX4 tyX4_ok nmX4 (by decide) rfl rfl rfl (vp_nar_int _) rfl ?_
  have g12 := gx_set (z := 0) g7 27 6 rfl (0) (5000) rfl ⟨by omega, by omega⟩
  refine s_vret (pc := 15) C dX4_forget_15 ?_
  refine ⟨rfl, ?_⟩
  exact g12
set_option maxHeartbeats 4000000 in
set_option maxRecDepth 100000 in
theorem c0_X7_split (l : Launch) (n : Int) (hn : n = 0) : hs_Met l yX7_split cX7_split 5 none 3 SHX (fun ad => [.ref (ad 16), .ref (ad 1), vI n]) (fun σ => GX σ σ) (hs_PV (fun σ σ1 => GX σ σ1 ∧ σ1 17 0 = 0 ∧ σ1 16 3 = 1)) := by
  refine hs_from pfX7_split (fun _ => Nat.le_of_ble_eq_true rfl) ?_
  intro p e s m args below meth c D dA ad A σ C hpre
  have C : hs_C p s m args meth c D dA SHX ad A 5 cX7_split RX7 none := C
  have g0 := hpre
  show hs_Wd p l e 3 s m args below meth c D dA SHX ad A 5 (hs_PV (fun σ σ1 => GX σ σ1 ∧ σ1 17 0 = 0 ∧ σ1 16 3 = 1) σ) 0 [(0, .ref (ad 16)), (1, .ref (ad 1)), (2, vI n)] [] σ
  refine s_iload_n (pc := 0) C dX7_split_0 2 rfl ?_
  refine s_aload_n (pc := 1) C dX7_split_1 1 rfl ?_
  refine s_alen (q := 1) (n := 500) (t := 0) (pc := 2) C dX7_split_2 rfl rfl ?_
  refine s_sipush (pc := 3) C dX7_split_3 (by decide) ?_
  refine s_callSi (pc := 6) C (c_J9_min_7cf53 l (((500 : Nat) : Int)) 500 ⟨by omega, by omega⟩ ⟨by omega, by omega⟩) [vI (((500 : Nat) : Int)), vI 500] [vI n] rfl rfl dX7_split_6 wlX7_21 wtJ9_min_7cf53 wcJ9_min_7cf53 wnJ9 noJ9_min_7cf53 (by decide) (by decide) (Nat.le_of_ble_eq_true rfl) (by first | omega | assumption | (constructor <;> omega) | (refine ⟨⟨?_, ?_⟩, ?_⟩ <;> omega) | (simp [hs_ss, hs_up]; omega) | (simp [hs_ss, hs_up]; done)) ?_
  rintro _ _ ⟨rfl, rfl⟩
  show hs_Wd _ _ _ _ _ _ _ _ _ _ _ _ _ _ _ _ _ 9 _ [vI (min (((500 : Nat) : Int)) 500), vI n] σ
  refine s_callSi (pc := 9) C (c_J9_min_7cf53 l n (min (((500 : Nat) : Int)) 500) ⟨by omega, by omega⟩ ⟨by omega, by omega⟩) [vI n, vI (min (((500 : Nat) : Int)) 500)] [] rfl rfl dX7_split_9 wlX7_21 wtJ9_min_7cf53 wcJ9_min_7cf53 wnJ9 noJ9_min_7cf53 (by decide) (by decide) (Nat.le_of_ble_eq_true rfl) (by first | omega | assumption | (constructor <;> omega) | (refine ⟨⟨?_, ?_⟩, ?_⟩ <;> omega) | (simp [hs_ss, hs_up]; omega) | (simp [hs_ss, hs_up]; done)) ?_
  rintro _ _ ⟨rfl, rfl⟩
  show hs_Wd _ _ _ _ _ _ _ _ _ _ _ _ _ _ _ _ _ 12 _ [vI (min n (min (((500 : Nat) : Int)) 500))] σ
  refine s_istore_n (pc := 12) C [(3, vI (min n (min (((500 : Nat) : Int)) 500))), (0, .ref (ad 16)), (1, .ref (ad 1)), (2, vI n)] dX7_split_12 (by decide) rfl ?_
  refine s_aload_n (pc := 13) C dX7_split_13 1 rfl ?_
  refine s_iconst (pc := 14) C dX7_split_14 ?_
  refine s_puti (q := 16) (ci := 7) (N := 5) (CN := RX7) (T := TX7) (ty0 := tyX7) (ty := .int) (pc := 15) C 3 dX7_split_15 wlX7_27 rfl rfl rfl wfX7 tyX7_ok nmX7 (by decide) rfl rfl rfl (vp_nar_int _) rfl ?_
  have g15 := gx_set (z := 0) g0 16 3 rfl (0) (501) rfl ⟨by omega, by omega⟩
  refine s_aload_n (pc := 18) C dX7_split_18 1 rfl ?_
  refine s_iconst (pc := 19) C dX7_split_19 ?_
  refine s_puti (q := 16) (ci := 7) (N := 5) (CN := RX7) (T := TX7) (ty0 := tyX7) (ty := .int) (pc := 20) C 4 dX7_split_20 wlX7_31 rfl rfl rfl wfX7 tyX7_ok nmX7 (by decide) rfl rfl rfl (vp_nar_int _) rfl ?_
  have g20 := gx_set (z := 0) g15 16 4 rfl (0) (500) rfl ⟨by omega, by omega⟩
  refine s_iconst (pc := 23) C dX7_split_23 ?_
  refine s_istore (pc := 24) C [(4, vI 0), (3, vI (min n (min (((500 : Nat) : Int)) 500))), (0, .ref (ad 16)), (1, .ref (ad 1)), (2, vI n)] dX7_split_24 (by decide) rfl ?_
  refine s_iload (pc := 26) C dX7_split_26 0 rfl ?_
  refine s_iload_n (pc := 28) C dX7_split_28 1 rfl ?_
  refine s_icmp_ge (pc := 29) C (tgt := 97) dX7_split_29 (by decide) ⟨by decide, by decide⟩ ⟨by omega, by omega⟩ (fun h29 => ?_) (fun h29 => ?_)
  · skip
    refine s_aload_n (pc := 97) C dX7_split_97 2 rfl ?_
    refine s_getr (q := 16) (ci := 7) (N := 5) (CN := RX7) (T := TX7) (pc := 98) C 0 dX7_split_98 wlX7_9 rfl rfl rfl wfX7 (by decide) rfl ?_
    refine s_aload_n (pc := 101) C dX7_split_101 2 rfl ?_
    refine s_geti (q := 16) (ci := 7) (N := 5) (CN := RX7) (T := TX7) (pc := 102) C 3 dX7_split_102 wlX7_27 rfl rfl rfl wfX7 (by decide) rfl (0) rfl ?_
    refine s_iconst (pc := 105) C dX7_split_105 ?_
    refine s_iast (q := 17) (n := 501) (pc := 106) C dX7_split_106 rfl (by omega) (by omega) (by decide) ?_
    have g106 := gx_set (z := 0) g20 17 0 rfl (-2147483648) (2147483647) rfl ⟨by omega, by omega⟩
    refine s_aload_n (pc := 107) C dX7_split_107 2 rfl ?_
    refine s_getr (q := 16) (ci := 7) (N := 5) (CN := RX7) (T := TX7) (pc := 108) C 1 dX7_split_108 wlX7_15 rfl rfl rfl wfX7 (by decide) rfl ?_
    refine s_aload_n (pc := 111) C dX7_split_111 2 rfl ?_
    refine s_geti (q := 16) (ci := 7) (N := 5) (CN := RX7) (T := TX7) (pc := 112) C 3 dX7_split_112 wlX7_27 rfl rfl rfl wfX7 (by decide) rfl (0) rfl ?_
    refine s_iload_n (pc := 115) C dX7_split_115 1 rfl ?_
    refine s_iast (q := 18) (n := 501) (pc := 116) C dX7_split_116 rfl (by omega) (by omega) (by decide) ?_
    have g116 := gx_set (z := (min n (min (((500 : Nat) : Int)) 500))) g106 18 0 rfl (0) (500) rfl ⟨by omega, by omega⟩
    refine s_aload_n (pc := 117) C dX7_split_117 2 rfl ?_
    refine s_dup (pc := 118) C dX7_split_118 rfl ?_
    refine s_geti (q := 16) (ci := 7) (N := 5) (CN := RX7) (T := TX7) (pc := 119) C 3 dX7_split_119 wlX7_27 rfl rfl rfl wfX7 (by decide) rfl (0) rfl ?_
    refine s_iconst (pc := 122) C dX7_split_122 ?_
    refine s_iadd (pc := 123) C dX7_split_123 ?_
    refine s_puti (q := 16) (ci := 7) (N := 5) (CN := RX7) (T := TX7) (ty0 := tyX7) (ty := .int) (pc := 124) C 3 dX7_split_124 wlX7_27 rfl rfl rfl wfX7 tyX7_ok nmX7 (by decide) rfl rfl rfl (vp_nar_int _) rfl ?_
    have g124 := gx_set (z := (0 + 1)) g116 16 3 rfl (0) (501) rfl ⟨by omega, by omega⟩
    refine s_vret (pc := 127) C dX7_split_127 ?_
    refine ⟨rfl, ?_⟩
    exact ⟨g124, rfl, rfl⟩
  · skip
    exfalso; omega
set_option maxHeartbeats 4000000 in
set_option maxRecDepth 100000 in
theorem c0_X3_readText (l : Launch) (n : Int) (hn : n = 0) : hs_Met l yX3_readText cX3_readText 4 none 5 SHX (fun ad => [.ref (ad 15), .ref (ad 1), vI n]) (fun σ => GX σ σ) (hs_PV (fun σ σ1 => GX σ σ1 ∧ σ1 15 13 = 0 ∧ σ1 15 8 = 0)) := by
  refine hs_from pfX3_readText (fun _ => Nat.le_of_ble_eq_true rfl) ?_
  intro p e s m args below meth c D dA ad A σ C hpre
  have C : hs_C p s m args meth c D dA SHX ad A 4 cX3_readText RX3 none := C
  have g0 := hpre
  show hs_Wd p l e 5 s m args below meth c D dA SHX ad A 4 (hs_PV (fun σ σ1 => GX σ σ1 ∧ σ1 15 13 = 0 ∧ σ1 15 8 = 0) σ) 0 [(0, .ref (ad 15)), (1, .ref (ad 1)), (2, vI n)] [] σ
  refine s_aload_n (pc := 0) C dX3_readText_0 0 rfl ?_
  refine s_getr (q := 15) (ci := 3) (N := 15) (CN := RX3) (T := TX3) (pc := 1) C 0 dX3_readText_1 wlX3_12 rfl rfl rfl wfX3 (by decide) rfl ?_
  refine s_aload_n (pc := 4) C dX3_readText_4 1 rfl ?_
  refine s_iload_n (pc := 5) C dX3_readText_5 2 rfl ?_
  refine s_callVNv (pc := 6) C (c0_X7_split l n (by first | omega | assumption | (constructor <;> omega) | (refine ⟨⟨?_, ?_⟩, ?_⟩ <;> omega) | (simp [hs_ss, hs_up]; omega) | (simp [hs_ss, hs_up]; done))) [.ref (ad 1), vI n] [] rfl rfl dX3_readText_6 wlX3_44 wiX7_split weX7_split wcX7_split wnX7 noX7_split (by decide) (by decide) (Nat.le_of_ble_eq_true rfl) (gx_self g0) rfl rfl ?_
  rintro σ6 k6
  have g6 := gx_trans g0 k6.1
  have k6 := k6.2
  have k6a : σ6 17 0 = 0 := k6.1
  have k6b : σ6 16 3 = 1 := k6.2
  show hs_Wd _ _ _ _ _ _ _ _ _ _ _ _ _ _ _ _ _ 9 _ [] σ6
  refine s_aload_n (pc := 9) C dX3_readText_9 0 rfl ?_
  refine s_iconst (pc := 10) C dX3_readText_10 ?_
  refine s_puti (q := 15) (ci := 3) (N := 15) (CN := RX3) (T := TX3) (ty0 := tyX3) (ty := .int) (pc := 11) C 8 dX3_readText_11 wlX3_48 rfl rfl rfl wfX3 tyX3_ok nmX3 (by decide) rfl rfl rfl (vp_nar_int _) rfl ?_
  have g11 := gx_set (z := 0) g6 15 8 rfl (0) (60) rfl ⟨by omega, by omega⟩
  refine s_aload_n (pc := 14) C dX3_readText_14 0 rfl ?_
  refine s_iconst (pc := 15) C dX3_readText_15 ?_
  refine s_puti (q := 15) (ci := 3) (N := 15) (CN := RX3) (T := TX3) (ty0 := tyX3) (ty := .int) (pc := 16) C 9 dX3_readText_16 wlX3_51 rfl rfl rfl wfX3 tyX3_ok nmX3 (by decide) rfl rfl rfl (vp_nar_int _) rfl ?_
  have g16 := gx_set (z := 0) g11 15 9 rfl (0) (5) rfl ⟨by omega, by omega⟩
  refine s_aload_n (pc := 19) C dX3_readText_19 0 rfl ?_
  refine s_iconst (pc := 20) C dX3_readText_20 ?_
  refine s_puti (q := 15) (ci := 3) (N := 15) (CN := RX3) (T := TX3) (ty0 := tyX3) (ty := .int) (pc := 21) C 10 dX3_readText_21 wlX3_54 rfl rfl rfl wfX3 tyX3_ok nmX3 (by decide) rfl rfl rfl (vp_nar_int _) rfl ?_
  have g21 := gx_set (z := 0) g16 15 10 rfl (-2147483648) (2147483647) rfl ⟨by omega, by omega⟩
  refine s_aload_n (pc := 24) C dX3_readText_24 0 rfl ?_
  refine s_iconst (pc := 25) C dX3_readText_25 ?_
  refine s_puti (q := 15) (ci := 3) (N := 15) (CN := RX3) (T := TX3) (ty0 := tyX3) (ty := .int) (pc := 26) C 13 dX3_readText_26 wlX3_57 rfl rfl rfl wfX3 tyX3_ok nmX3 (by decide) rfl rfl rfl (vp_nar_int _) rfl ?_
  have g26 := gx_set (z := 0) g21 15 13 rfl (0) (3) rfl ⟨by omega, by omega⟩
  refine s_aload_n (pc := 29) C dX3_readText_29 0 rfl ?_
  refine s_iconst (pc := 30) C dX3_readText_30 ?_
  refine s_puti (q := 15) (ci := 3) (N := 15) (CN := RX3) (T := TX3) (ty0 := tyX3) (ty := .int) (pc := 31) C 14 dX3_readText_31 wlX3_40 rfl rfl rfl wfX3 tyX3_ok nmX3 (by decide) rfl rfl rfl (vp_nar_int _) rfl ?_
  have g31 := gx_set (z := ((-1))) g26 15 14 rfl (-1) (500) rfl ⟨by omega, by omega⟩
  refine s_aload_n (pc := 34) C dX3_readText_34 0 rfl ?_
  refine s_iconst (pc := 35) C dX3_readText_35 ?_
  refine s_puti (q := 15) (ci := 3) (N := 15) (CN := RX3) (T := TX3) (ty0 := tyX3) (ty := .int) (pc := 36) C 11 dX3_readText_36 wlX3_60 rfl rfl rfl wfX3 tyX3_ok nmX3 (by decide) rfl rfl rfl (vp_nar_int _) rfl ?_
  have g36 := gx_set (z := 0) g31 15 11 rfl (0) (500) rfl ⟨by omega, by omega⟩
  refine s_aload_n (pc := 39) C dX3_readText_39 0 rfl ?_
  refine s_aload_n (pc := 40) C dX3_readText_40 0 rfl ?_
  refine s_getr (q := 15) (ci := 3) (N := 15) (CN := RX3) (T := TX3) (pc := 41) C 0 dX3_readText_41 wlX3_12 rfl rfl rfl wfX3 (by decide) rfl ?_
  refine s_getrN (q := 16) (ci := 7) (N := 5) (CN := RX7) (T := TX7) (pc := 44) C 0 dX3_readText_44 wlX3_63 rfl rfl rfl wfX7 (by decide) rfl ?_
  refine s_iconst (pc := 47) C dX3_readText_47 ?_
  refine s_iald (q := 17) (n := 501) (pc := 48) C (σ6 17 0) rfl dX3_readText_48 rfl (by omega) (by omega) (by decide) ?_
  have b48 : (-2147483648 : Int) ≤ σ6 17 0 ∧ σ6 17 0 ≤ 2147483647 := g36.1 17 0
  refine s_puti (q := 15) (ci := 3) (N := 15) (CN := RX3) (T := TX3) (ty0 := tyX3) (ty := .int) (pc := 49) C 12 dX3_readText_49 wlX3_66 rfl rfl rfl wfX3 tyX3_ok nmX3 (by decide) rfl rfl rfl (vp_nar_int _) rfl ?_
  have g49 := gx_set (z := (σ6 17 0)) g36 15 12 rfl (-2147483648) (2147483647) rfl ⟨by omega, by omega⟩
  refine s_iconst (pc := 52) C dX3_readText_52 ?_
  refine s_istore_n (pc := 53) C [(3, vI 0), (0, .ref (ad 15)), (1, .ref (ad 1)), (2, vI n)] dX3_readText_53 (by decide) rfl ?_
  refine s_iload_n (pc := 54) C dX3_readText_54 0 rfl ?_
  refine s_aload_n (pc := 55) C dX3_readText_55 1 rfl ?_
  refine s_getr (q := 15) (ci := 3) (N := 15) (CN := RX3) (T := TX3) (pc := 56) C 0 dX3_readText_56 wlX3_12 rfl rfl rfl wfX3 (by decide) rfl ?_
  refine s_getiN (q := 16) (ci := 7) (N := 5) (CN := RX7) (T := TX7) (pc := 59) C 3 dX3_readText_59 wlX3_69 rfl rfl rfl wfX7 (by decide) rfl (σ6 16 3) rfl ?_
  have b59 : (0 : Int) ≤ σ6 16 3 ∧ σ6 16 3 ≤ 501 := g49.1 16 3
  refine s_icmp_ge (pc := 62) C (tgt := 105) dX3_readText_62 (by decide) ⟨by decide, by decide⟩ ⟨by omega, by omega⟩ (fun h62 => ?_) (fun h62 => ?_)
  · skip
    refine s_aload_n (pc := 105) C dX3_readText_105 1 rfl ?_
    refine s_geti (q := 15) (ci := 3) (N := 15) (CN := RX3) (T := TX3) (pc := 106) C 9 dX3_readText_106 wlX3_51 rfl rfl rfl wfX3 (by decide) rfl (0) rfl ?_
    refine s_if_le (pc := 109) C (tgt := 117) dX3_readText_109 (by decide) ⟨by decide, by decide⟩ (fun h109 => ?_) (fun h109 => ?_)
    · skip
      refine s_vret (pc := 117) C dX3_readText_117 ?_
      refine ⟨rfl, ?_⟩
      exact ⟨g49, rfl, rfl⟩
    · exact absurd h109 (by decide)
  · skip
    refine s_aload_n (pc := 65) C dX3_readText_65 1 rfl ?_
    refine s_geti (q := 15) (ci := 3) (N := 15) (CN := RX3) (T := TX3) (pc := 66) C 13 dX3_readText_66 wlX3_57 rfl rfl rfl wfX3 (by decide) rfl (0) rfl ?_
    refine s_if_ne (pc := 69) C (tgt := 105) dX3_readText_69 (by decide) ⟨by decide, by decide⟩ (fun h69 => ?_) (fun h69 => ?_)
    · exact absurd h69 (by decide)
    · skip
      refine s_aload_n (pc := 72) C dX3_readText_72 1 rfl ?_
      refine s_geti (q := 15) (ci := 3) (N := 15) (CN := RX3) (T := TX3) (pc := 73) C 12 dX3_readText_73 wlX3_66 rfl rfl rfl wfX3 (by decide) rfl (σ6 17 0) rfl ?_
      have b73 : (-2147483648 : Int) ≤ σ6 17 0 ∧ σ6 17 0 ≤ 2147483647 := g49.1 15 12
      refine s_if_eq (pc := 76) C (tgt := 105) dX3_readText_76 (by decide) ⟨by omega, by omega⟩ (fun h76 => ?_) (fun h76 => ?_)
      · skip
        refine s_aload_n (pc := 105) C dX3_readText_105 1 rfl ?_
        refine s_geti (q := 15) (ci := 3) (N := 15) (CN := RX3) (T := TX3) (pc := 106) C 9 dX3_readText_106 wlX3_51 rfl rfl rfl wfX3 (by decide) rfl (0) rfl ?_
        refine s_if_le (pc := 109) C (tgt := 117) dX3_readText_109 (by decide) ⟨by decide, by decide⟩ (fun h109 => ?_) (fun h109 => ?_)
        · skip
          refine s_vret (pc := 117) C dX3_readText_117 ?_
          refine ⟨rfl, ?_⟩
          exact ⟨g49, rfl, rfl⟩
        · exact absurd h109 (by decide)
      · skip
        exfalso; omega
set_option maxHeartbeats 4000000 in
set_option maxRecDepth 100000 in
theorem c0_X4_runRow (l : Launch) (n : Int) (hn : n = 0) : hs_Met l yX4_runRow cX4_runRow 6 (some .int) 5 SHX (fun ad => [.ref (ad 27), vI 0, vI n, vI 0]) (fun σ => GX σ σ ∧ σ 15 8 = 0) (hs_PI (fun σ z σ1 => σ = σ1 ∧ 0 = z)) := by
  refine hs_from pfX4_runRow (fun _ => Nat.le_of_ble_eq_true rfl) ?_
  intro p e s m args below meth c D dA ad A σ C hpre
  have C : hs_C p s m args meth c D dA SHX ad A 6 cX4_runRow RX4 (some .int) := C
  obtain ⟨g0, hpre⟩ := hpre
  show hs_Wd p l e 5 s m args below meth c D dA SHX ad A 6 (hs_PI (fun σ z σ1 => σ = σ1 ∧ 0 = z) σ) 0 [(0, .ref (ad 27)), (1, vI 0), (2, vI n), (3, vI 0)] [] σ
  refine s_iload_n (pc := 0) C dX4_runRow_0 3 rfl ?_
  refine s_iconst (pc := 1) C dX4_runRow_1 ?_
  refine s_icmp_gt (pc := 2) C (tgt := 16) dX4_runRow_2 (by decide) ⟨by decide, by decide⟩ ⟨by decide, by decide⟩ (fun h2 => ?_) (fun h2 => ?_)
  · exact absurd h2 (by decide)
  · skip
    refine s_iload_n (pc := 5) C dX4_runRow_5 2 rfl ?_
    refine s_aload_n (pc := 6) C dX4_runRow_6 0 rfl ?_
    refine s_getr (q := 27) (ci := 4) (N := 7) (CN := RX4) (T := TX4) (pc := 7) C 2 dX4_runRow_7 wlX4_25 rfl rfl rfl wfX4 (by decide) rfl ?_
    refine s_getiN (q := 15) (ci := 3) (N := 15) (CN := RX3) (T := TX3) (pc := 10) C 8 dX4_runRow_10 wlX4_41 rfl rfl rfl wfX3 (by decide) rfl (σ 15 8) rfl ?_
    have b10 : (0 : Int) ≤ σ 15 8 ∧ σ 15 8 ≤ 60 := g0.1 15 8
    refine s_icmp_le (pc := 13) C (tgt := 18) dX4_runRow_13 (by decide) ⟨by omega, by omega⟩ ⟨by omega, by omega⟩ (fun h13 => ?_) (fun h13 => ?_)
    · skip
      refine s_iload_n (pc := 18) C dX4_runRow_18 1 rfl ?_
      refine s_istore (pc := 19) C [(4, vI 0), (0, .ref (ad 27)), (1, vI 0), (2, vI n), (3, vI 0)] dX4_runRow_19 (by decide) rfl ?_
      refine s_iload (pc := 21) C dX4_runRow_21 0 rfl ?_
      refine s_iload_n (pc := 23) C dX4_runRow_23 3 rfl ?_
      refine s_icmp_ge (pc := 24) C (tgt := 66) dX4_runRow_24 (by decide) ⟨by decide, by decide⟩ ⟨by omega, by omega⟩ (fun h24 => ?_) (fun h24 => ?_)
      · skip
        refine s_iconst (pc := 66) C dX4_runRow_66 ?_
        refine s_iret (pc := 67) C dX4_runRow_67 ?_
        refine ⟨_, rfl, ?_⟩
        exact ⟨rfl, rfl⟩
      · skip
        exfalso; omega
    · skip
      exfalso; omega
set_option maxHeartbeats 4000000 in
set_option maxRecDepth 100000 in
theorem c0_X11_turn (l : Launch) (n : Int) (hn : hs_R n) : hs_Met l yX11_turn cX11_turn 2 (some .int) 7 SHX (fun ad => [.ref (ad 0), vI n]) (fun σ => GX σ σ ∧ σ 0 9 = 0) (hs_PI (fun σ z σ1 => GX σ σ1 ∧ (¬ n = 0 → z = -2) ∧ (n = 0 → z = 0))) := by
  refine hs_from pfX11_turn (fun _ => Nat.le_of_ble_eq_true rfl) ?_
  intro p e s m args below meth c D dA ad A σ C hpre
  have C : hs_C p s m args meth c D dA SHX ad A 2 cX11_turn RX11 (some .int) := C
  obtain ⟨g0, hpre⟩ := hpre
  show hs_Wd p l e 7 s m args below meth c D dA SHX ad A 2 (hs_PI (fun σ z σ1 => GX σ σ1 ∧ (¬ n = 0 → z = -2) ∧ (n = 0 → z = 0)) σ) 0 [(0, .ref (ad 0)), (1, vI n)] [] σ
  refine s_iload_n (pc := 0) C dX11_turn_0 1 rfl ?_
  refine s_if_lt (pc := 1) C (tgt := 12) dX11_turn_1 (by decide) ⟨by omega, by omega⟩ (fun h1 => ?_) (fun h1 => ?_)
  · skip
    refine s_bipush (pc := 12) C dX11_turn_12 (by decide) ?_
    refine s_iret (pc := 14) C dX11_turn_14 ?_
    refine ⟨_, rfl, ?_⟩
    exact ⟨g0, by first | omega | assumption | (constructor <;> omega) | (refine ⟨⟨?_, ?_⟩, ?_⟩ <;> omega) | (simp [hs_ss, hs_up]; omega) | (simp [hs_ss, hs_up]; done)⟩
  · skip
    refine s_iload_n (pc := 4) C dX11_turn_4 1 rfl ?_
    refine s_aload_n (pc := 5) C dX11_turn_5 0 rfl ?_
    refine s_geti (q := 0) (ci := 11) (N := 11) (CN := RX11) (T := TX11) (pc := 6) C 9 dX11_turn_6 wlX11_77 rfl rfl rfl wfX11 (by decide) rfl (σ 0 9) rfl ?_
    have b6 : (0 : Int) ≤ σ 0 9 ∧ σ 0 9 ≤ 500 := g0.1 0 9
    refine s_icmp_le (pc := 9) C (tgt := 15) dX11_turn_9 (by decide) ⟨by omega, by omega⟩ ⟨by omega, by omega⟩ (fun h9 => ?_) (fun h9 => ?_)
    · skip
      refine s_aload_n (pc := 15) C dX11_turn_15 0 rfl ?_
      refine s_iconst (pc := 16) C dX11_turn_16 ?_
      refine s_puti (q := 0) (ci := 11) (N := 11) (CN := RX11) (T := TX11) (ty0 := tyX11) (ty := .int) (pc := 17) C 9 dX11_turn_17 wlX11_77 rfl rfl rfl wfX11 tyX11_ok nmX11 (by decide) rfl rfl rfl (vp_nar_int _) rfl ?_
      have g17 : GX σ (hs_ss σ 0 9 0) := by rw [hs_ss_id hpre]; exact g0
      refine s_aload_n (pc := 20) C dX11_turn_20 0 rfl ?_
      refine s_getr (q := 0) (ci := 11) (N := 11) (CN := RX11) (T := TX11) (pc := 21) C 4 dX11_turn_21 wlX11_39 rfl rfl rfl wfX11 (by decide) rfl ?_
      refine s_callVNv (pc := 24) C (c_X4_forget l) [] [] rfl rfl dX11_turn_24 wlX11_85 wiX4_forget weX4_forget wcX4_forget wnX4 noX4_forget (by decide) (by decide) (Nat.le_of_ble_eq_true rfl) (gx_self g17) rfl rfl ?_
      rintro σ24 k24
      have g24 := gx_trans g17 k24
      show hs_Wd _ _ _ _ _ _ _ _ _ _ _ _ _ _ _ _ _ 27 _ [] σ24
      refine s_aload_n (pc := 27) C dX11_turn_27 0 rfl ?_
      refine s_getr (q := 0) (ci := 11) (N := 11) (CN := RX11) (T := TX11) (pc := 28) C 3 dX11_turn_28 wlX11_30 rfl rfl rfl wfX11 (by decide) rfl ?_
      refine s_aload_n (pc := 31) C dX11_turn_31 0 rfl ?_
      refine s_getr (q := 0) (ci := 11) (N := 11) (CN := RX11) (T := TX11) (pc := 32) C 0 dX11_turn_32 wlX11_9 rfl rfl rfl wfX11 (by decide) rfl ?_
      refine s_iload_n (pc := 35) C dX11_turn_35 1 rfl ?_
      refine s_callVNv (pc := 36) C (c0_X3_readText l n (by first | omega | assumption | (constructor <;> omega) | (refine ⟨⟨?_, ?_⟩, ?_⟩ <;> omega) | (simp [hs_ss, hs_up]; omega) | (simp [hs_ss, hs_up]; done))) [.ref (ad 1), vI n] [] rfl rfl dX11_turn_36 wlX11_88 wiX3_readText weX3_readText wcX3_readText wnX3 noX3_readText (by decide) (by decide) (Nat.le_of_ble_eq_true rfl) (gx_self g24) rfl rfl ?_
      rintro σ36 k36
      have g36 := gx_trans g24 k36.1
      have k36 := k36.2
      have k36a : σ36 15 13 = 0 := k36.1
      have k36b : σ36 15 8 = 0 := k36.2
      show hs_Wd _ _ _ _ _ _ _ _ _ _ _ _ _ _ _ _ _ 39 _ [] σ36
      refine s_aload_n (pc := 39) C dX11_turn_39 0 rfl ?_
      refine s_getr (q := 0) (ci := 11) (N := 11) (CN := RX11) (T := TX11) (pc := 40) C 3 dX11_turn_40 wlX11_30 rfl rfl rfl wfX11 (by decide) rfl ?_
      refine s_getiN (q := 15) (ci := 3) (N := 15) (CN := RX3) (T := TX3) (pc := 43) C 13 dX11_turn_43 wlX11_92 rfl rfl rfl wfX3 (by decide) rfl (σ36 15 13) rfl ?_
      have b43 : (0 : Int) ≤ σ36 15 13 ∧ σ36 15 13 ≤ 3 := g36.1 15 13
      refine s_if_ne (pc := 46) C (tgt := 68) dX11_turn_46 (by decide) ⟨by omega, by omega⟩ (fun h46 => ?_) (fun h46 => ?_)
      · skip
        exfalso; omega
      · skip
        refine s_aload_n (pc := 49) C dX11_turn_49 0 rfl ?_
        refine s_getr (q := 0) (ci := 11) (N := 11) (CN := RX11) (T := TX11) (pc := 50) C 4 dX11_turn_50 wlX11_39 rfl rfl rfl wfX11 (by decide) rfl ?_
        refine s_iconst (pc := 53) C dX11_turn_53 ?_
        refine s_aload_n (pc := 54) C dX11_turn_54 0 rfl ?_
        refine s_getr (q := 0) (ci := 11) (N := 11) (CN := RX11) (T := TX11) (pc := 55) C 3 dX11_turn_55 wlX11_30 rfl rfl rfl wfX11 (by decide) rfl ?_
        refine s_getiN (q := 15) (ci := 3) (N := 15) (CN := RX3) (T := TX3) (pc := 58) C 8 dX11_turn_58 wlX11_95 rfl rfl rfl wfX3 (by decide) rfl (σ36 15 8) rfl ?_
        have b58 : (0 : Int) ≤ σ36 15 8 ∧ σ36 15 8 ≤ 60 := g36.1 15 8
        refine s_iconst (pc := 61) C dX11_turn_61 ?_
        refine s_callVNi (pc := 62) C (c0_X4_runRow l (σ36 15 8) (by first | omega | assumption | (constructor <;> omega) | (refine ⟨⟨?_, ?_⟩, ?_⟩ <;> omega) | (simp [hs_ss, hs_up]; omega) | (simp [hs_ss, hs_up]; done))) [vI 0, vI (σ36 15 8), vI 0] [] rfl rfl dX11_turn_62 wlX11_98 wiX4_runRow weX4_runRow wcX4_runRow wnX4 noX4_runRow (by decide) (by decide) (Nat.le_of_ble_eq_true rfl) ⟨(gx_self g36), by first | omega | assumption | (constructor <;> omega) | (refine ⟨⟨?_, ?_⟩, ?_⟩ <;> omega) | (simp [hs_ss, hs_up]; omega) | (simp [hs_ss, hs_up]; done)⟩ rfl rfl ?_
        rintro z62 _ ⟨rfl, k62⟩
        show hs_Wd _ _ _ _ _ _ _ _ _ _ _ _ _ _ _ _ _ 65 _ [vI z62] σ36
        refine s_goto (pc := 65) C (tgt := 69) dX11_turn_65 (by decide) ?_
        refine s_iret (pc := 69) C dX11_turn_69 ?_
        refine ⟨_, rfl, ?_⟩
        exact ⟨g36, by first | omega | assumption | (constructor <;> omega) | (refine ⟨⟨?_, ?_⟩, ?_⟩ <;> omega) | (simp [hs_ss, hs_up]; omega) | (simp [hs_ss, hs_up]; done)⟩
    · skip
      refine s_bipush (pc := 12) C dX11_turn_12 (by decide) ?_
      refine s_iret (pc := 14) C dX11_turn_14 ?_
      refine ⟨_, rfl, ?_⟩
      exact ⟨g0, by first | omega | assumption | (constructor <;> omega) | (refine ⟨⟨?_, ?_⟩, ?_⟩ <;> omega) | (simp [hs_ss, hs_up]; omega) | (simp [hs_ss, hs_up]; done)⟩
