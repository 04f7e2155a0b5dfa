set_option maxHeartbeats 4000000 in
set_option maxRecDepth 100000 in
theorem c_X12_turnRead (l : Launch) (a : Int) (ha : 0 ≤ a ∧ a ≤ 59) (w : Int) (hw : 0 ≤ w ∧ w ≤ 2) : hs_Met l yX12_turnRead cX12_turnRead 3 (some .boolean) 4 SHY (fun ad => [.ref (ad 0), vI a, vI w]) (fun σ => GY σ σ ∧ TY σ) (hs_PI (fun σ z σ1 => GY σ σ1 ∧ FRM (PTr a.toNat) σ σ1 ∧ TY σ1 ∧ (z = 0 ∨ z = 1) ∧ σ 0 31 ≤ σ1 0 31 ∧ 1 ≤ σ1 16 a.toNat)) := by
  refine hs_from pfX12_turnRead (fun _ => Nat.le_of_ble_eq_true rfl) ?_
  intro p e s m args below meth c D dA ad A σ C hpre
  have C : hs_C p s m args meth c D dA SHY ad A 3 cX12_turnRead RX12 (some .boolean) := C
  obtain ⟨g0, p0_TY⟩ := hpre
  have f0 : FRM (PTr a.toNat) σ σ := frm_rf
  have up0_TY := p0_TY.1
  show hs_Wd p l e 4 s m args below meth c D dA SHY ad A 3 (hs_PI (fun σ z σ1 => GY σ σ1 ∧ FRM (PTr a.toNat) σ σ1 ∧ TY σ1 ∧ (z = 0 ∨ z = 1) ∧ σ 0 31 ≤ σ1 0 31 ∧ 1 ≤ σ1 16 a.toNat) σ) 0 [(0, .ref (ad 0)), (1, vI a), (2, vI w)] [] σ
  refine s_aload_n (pc := 0) C dX12_turnRead_0 0 rfl ?_
  refine s_getr (q := 0) (ci := 12) (N := 68) (CN := RX12) (T := TX12) (pc := 1) C 34 dX12_turnRead_1 wlX12_62 rfl rfl rfl wfX12 (by decide) rfl ?_
  refine s_iload_n (pc := 4) C dX12_turnRead_4 1 rfl ?_
  refine s_iconst (pc := 5) C dX12_turnRead_5 ?_
  refine s_iast (q := 16) (n := 60) (pc := 6) C dX12_turnRead_6 rfl (by omega) (by omega) (by decide) ?_
  have g6 := gy_set (z := 1) g0 16 a.toNat rfl (0) (99) rfl ⟨by omega, by omega⟩
  have f6 := frm_set (P := (PTr a.toNat)) (z := 1) f0 16 a.toNat (by simp [PTr] <;> omega)
  have p6_TY := TY_cg (frm_one (P := okTY) (z := 1) 16 a.toNat rfl) p0_TY
  refine s_iload_n (pc := 7) C dX12_turnRead_7 2 rfl ?_
  refine s_iconst (pc := 8) C dX12_turnRead_8 ?_
  refine s_icmp_eq (pc := 9) C (tgt := 38) dX12_turnRead_9 (by decide) ⟨by omega, by omega⟩ ⟨by decide, by decide⟩ (fun h9 => ?_) (fun h9 => ?_)
  · skip
    refine s_aload_n (pc := 38) C dX12_turnRead_38 0 rfl ?_
    have r39_0_31 : (hs_ss σ 16 a.toNat 1) 0 31 = σ 0 31 := rfl
    refine s_callVi (pc := 39) C (c_X12_placeRead l) [] [] rfl rfl dX12_turnRead_39 wlX12_275 wiX12_placeRead weX12_placeRead wcX12_placeRead wnX12 noX12_placeRead (by decide) (by decide) (Nat.le_of_ble_eq_true rfl) ⟨(gy_self g6), p6_TY⟩ rfl rfl ?_
    rintro z39 σ39 k39
    obtain ⟨kg39, kf39, p39_TY, k39⟩ := k39
    have g39 := gy_trans g6 kg39
    have f39 := frm_tr f6 (frm_mono (Q := (PTr a.toNat)) kf39 (fun c j h => by simp [PPl, PTr] at h ⊢ <;> omega))
    have up39_TY := p39_TY.1
    have x39_0_27 : σ39 0 27 = σ 0 27 := kf39 0 27 rfl
    have x39_0_32 : σ39 0 32 = σ 0 32 := kf39 0 32 rfl
    have x39_0_41 : σ39 0 41 = σ 0 41 := kf39 0 41 rfl
    have x39_16_atoNat : σ39 16 a.toNat = 1 := by first | exact kf39 16 a.toNat rfl | (rw [kf39 16 a.toNat rfl]; simp [hs_ss, hs_up]; done)
    show hs_Wd _ _ _ _ _ _ _ _ _ _ _ _ _ _ _ _ _ 42 _ [vI z39] σ39
    refine s_if_ne (pc := 42) C (tgt := 47) dX12_turnRead_42 (by decide) ⟨by omega, by omega⟩ (fun h42 => ?_) (fun h42 => ?_)
    · skip
      refine s_aload_n (pc := 47) C dX12_turnRead_47 0 rfl ?_
      refine s_getr (q := 0) (ci := 12) (N := 68) (CN := RX12) (T := TX12) (pc := 48) C 36 dX12_turnRead_48 wlX12_68 rfl rfl rfl wfX12 (by decide) rfl ?_
      refine s_iload_n (pc := 51) C dX12_turnRead_51 1 rfl ?_
      refine s_aload_n (pc := 52) C dX12_turnRead_52 0 rfl ?_
      refine s_geti (q := 0) (ci := 12) (N := 68) (CN := RX12) (T := TX12) (pc := 53) C 43 dX12_turnRead_53 wlX12_263 rfl rfl rfl wfX12 (by decide) rfl (σ39 0 43) rfl ?_
      have b53 : (-1 : Int) ≤ σ39 0 43 ∧ σ39 0 43 ≤ 7 := g39.1 0 43
      refine s_iast (q := 18) (n := 60) (pc := 56) C dX12_turnRead_56 rfl (by omega) (by omega) (by decide) ?_
      have g56 := gy_set (z := (σ39 0 43)) g39 18 a.toNat rfl (-1) (7) rfl ⟨by omega, by omega⟩
      have f56 := frm_set (P := (PTr a.toNat)) (z := (σ39 0 43)) f39 18 a.toNat (by simp [PTr] <;> omega)
      have p56_TY := TY_cg (frm_one (P := okTY) (z := (σ39 0 43)) 18 a.toNat rfl) p39_TY
      refine s_aload_n (pc := 57) C dX12_turnRead_57 0 rfl ?_
      refine s_getr (q := 0) (ci := 12) (N := 68) (CN := RX12) (T := TX12) (pc := 58) C 37 dX12_turnRead_58 wlX12_71 rfl rfl rfl wfX12 (by decide) rfl ?_
      refine s_iload_n (pc := 61) C dX12_turnRead_61 1 rfl ?_
      refine s_aload_n (pc := 62) C dX12_turnRead_62 0 rfl ?_
      refine s_geti (q := 0) (ci := 12) (N := 68) (CN := RX12) (T := TX12) (pc := 63) C 44 dX12_turnRead_63 wlX12_266 rfl rfl rfl wfX12 (by decide) rfl (σ39 0 44) rfl ?_
      have b63 : (-999 : Int) ≤ σ39 0 44 ∧ σ39 0 44 ≤ 999 := g56.1 0 44
      refine s_iast (q := 19) (n := 60) (pc := 66) C dX12_turnRead_66 rfl (by omega) (by omega) (by decide) ?_
      have g66 := gy_set (z := (σ39 0 44)) g56 19 a.toNat rfl (-999) (999) rfl ⟨by omega, by omega⟩
      have f66 := frm_set (P := (PTr a.toNat)) (z := (σ39 0 44)) f56 19 a.toNat (by simp [PTr] <;> omega)
      have p66_TY := TY_cg (frm_one (P := okTY) (z := (σ39 0 44)) 19 a.toNat rfl) p56_TY
      refine s_aload_n (pc := 67) C dX12_turnRead_67 0 rfl ?_
      refine s_bipush (pc := 68) C dX12_turnRead_68 (by decide) ?_
      have r70_0_31 : (hs_ss (hs_ss σ39 18 a.toNat (σ39 0 43)) 19 a.toNat (σ39 0 44)) 0 31 = σ39 0 31 := rfl
      refine s_callVi (pc := 70) C (c_X12_comesSign l 59 ⟨by omega, by omega⟩) [vI 59] [] rfl rfl dX12_turnRead_70 wlX12_279 wiX12_comesSign weX12_comesSign wcX12_comesSign wnX12 noX12_comesSign (by decide) (by decide) (Nat.le_of_ble_eq_true rfl) ⟨(gy_self g66), p66_TY⟩ rfl rfl ?_
      rintro z70 σ70 k70
      obtain ⟨kg70, kf70, p70_TY, k70⟩ := k70
      have g70 := gy_trans g66 kg70
      have f70 := frm_tr f66 (frm_mono (Q := (PTr a.toNat)) kf70 (fun c j h => by simp [PTw, PTr] at h ⊢ <;> omega))
      have up70_TY := p70_TY.1
      have x70_0_27 : σ70 0 27 = σ39 0 27 := kf70 0 27 rfl
      have x70_0_32 : σ70 0 32 = σ39 0 32 := kf70 0 32 rfl
      have x70_0_41 : σ70 0 41 = σ39 0 41 := kf70 0 41 rfl
      have x70_16_atoNat : σ70 16 a.toNat = σ39 16 a.toNat := by first | exact kf70 16 a.toNat rfl | (rw [kf70 16 a.toNat rfl]; simp [hs_ss, hs_up]; done)
      show hs_Wd _ _ _ _ _ _ _ _ _ _ _ _ _ _ _ _ _ 73 _ [vI z70] σ70
      refine s_zret (pc := 73) C (by omega) dX12_turnRead_73 ?_
      refine ⟨_, rfl, ?_⟩
      exact ⟨g70, f70, p70_TY, by first | omega | assumption | (constructor <;> omega) | (refine ⟨⟨?_, ?_⟩, ?_⟩ <;> omega) | (simp [hs_ss, hs_up]; omega) | (simp [hs_ss, hs_up]; done)⟩
    · skip
      refine s_iconst (pc := 45) C dX12_turnRead_45 ?_
      refine s_zret (pc := 46) C (by omega) dX12_turnRead_46 ?_
      refine ⟨_, rfl, ?_⟩
      exact ⟨g39, f39, p39_TY, by first | omega | assumption | (constructor <;> omega) | (refine ⟨⟨?_, ?_⟩, ?_⟩ <;> omega) | (simp [hs_ss, hs_up]; omega) | (simp [hs_ss, hs_up]; done)⟩
  · skip
    refine s_aload_n (pc := 12) C dX12_turnRead_12 0 rfl ?_
    refine s_iconst (pc := 13) C dX12_turnRead_13 ?_
    refine s_bipush (pc := 14) C dX12_turnRead_14 (by decide) ?_
    have r16_0_30 : (hs_ss σ 16 a.toNat 1) 0 30 = σ 0 30 := rfl
    refine s_callVi (pc := 16) C (c_X12_numberRead l 1 9 (by first | omega | assumption | (constructor <;> omega) | (refine ⟨⟨?_, ?_⟩, ?_⟩ <;> omega) | (simp [hs_ss, hs_up]; omega) | (simp [hs_ss, hs_up]; done))) [vI 1, vI 9] [] rfl rfl dX12_turnRead_16 wlX12_272 wiX12_numberRead weX12_numberRead wcX12_numberRead wnX12 noX12_numberRead (by decide) (by decide) (Nat.le_of_ble_eq_true rfl) (gy_self g6) rfl rfl ?_
    rintro z16 σ16 k16
    obtain ⟨kg16, kf16, k16⟩ := k16
    have g16 := gy_trans g6 kg16
    have f16 := frm_tr f6 (frm_mono (Q := (PTr a.toNat)) kf16 (fun c j h => by simp [PWr, PTr] at h ⊢ <;> omega))
    have p16_TY := TY_cg (frm_mono (Q := okTY) kf16 (fun c j h => by simp [PWr, okTY] at h ⊢ <;> omega)) p6_TY
    have up16_TY := p16_TY.1
    have x16_0_27 : σ16 0 27 = σ 0 27 := kf16 0 27 rfl
    have x16_0_28 : σ16 0 28 = σ 0 28 := kf16 0 28 rfl
    have x16_0_29 : σ16 0 29 = σ 0 29 := kf16 0 29 rfl
    have x16_0_30 : σ16 0 30 = σ 0 30 := kf16 0 30 rfl
    have x16_0_31 : σ16 0 31 = σ 0 31 := kf16 0 31 rfl
    have x16_0_32 : σ16 0 32 = σ 0 32 := kf16 0 32 rfl
    have x16_0_41 : σ16 0 41 = σ 0 41 := kf16 0 41 rfl
    have x16_16_atoNat : σ16 16 a.toNat = 1 := by first | exact kf16 16 a.toNat rfl | (rw [kf16 16 a.toNat rfl]; simp [hs_ss, hs_up]; done)
    show hs_Wd _ _ _ _ _ _ _ _ _ _ _ _ _ _ _ _ _ 19 _ [vI z16] σ16
    refine s_if_ne (pc := 19) C (tgt := 24) dX12_turnRead_19 (by decide) ⟨by omega, by omega⟩ (fun h19 => ?_) (fun h19 => ?_)
    · skip
      refine s_aload_n (pc := 24) C dX12_turnRead_24 0 rfl ?_
      refine s_getr (q := 0) (ci := 12) (N := 68) (CN := RX12) (T := TX12) (pc := 25) C 34 dX12_turnRead_25 wlX12_62 rfl rfl rfl wfX12 (by decide) rfl ?_
      refine s_iload_n (pc := 28) C dX12_turnRead_28 1 rfl ?_
      refine s_aload_n (pc := 29) C dX12_turnRead_29 0 rfl ?_
      refine s_geti (q := 0) (ci := 12) (N := 68) (CN := RX12) (T := TX12) (pc := 30) C 30 dX12_turnRead_30 wlX12_245 rfl rfl rfl wfX12 (by decide) rfl (σ16 0 30) rfl ?_
      have b30 : (-1 : Int) ≤ σ16 0 30 ∧ σ16 0 30 ≤ 10000 := g16.1 0 30
      refine s_iast (q := 16) (n := 60) (pc := 33) C dX12_turnRead_33 rfl (by omega) (by omega) (by decide) ?_
      have g33 := gy_set (z := (σ16 0 30)) g16 16 a.toNat rfl (0) (99) rfl ⟨by omega, by omega⟩
      have f33 := frm_set (P := (PTr a.toNat)) (z := (σ16 0 30)) f16 16 a.toNat (by simp [PTr] <;> omega)
      have p33_TY := TY_cg (frm_one (P := okTY) (z := (σ16 0 30)) 16 a.toNat rfl) p16_TY
      refine s_aload_n (pc := 34) C dX12_turnRead_34 0 rfl ?_
      have r35_0_27 : (hs_ss σ16 16 a.toNat (σ16 0 30)) 0 27 = σ16 0 27 := rfl
      have r35_0_28 : (hs_ss σ16 16 a.toNat (σ16 0 30)) 0 28 = σ16 0 28 := rfl
      refine s_callVv (pc := 35) C (c_X12_take l) [] [] rfl rfl dX12_turnRead_35 wlX12_257 wiX12_take weX12_take wcX12_take wnX12 noX12_take (by decide) (by decide) (Nat.le_of_ble_eq_true rfl) ⟨(gy_self g33), by first | omega | assumption | (constructor <;> omega) | (refine ⟨⟨?_, ?_⟩, ?_⟩ <;> omega) | (simp [hs_ss, hs_up]; omega) | (simp [hs_ss, hs_up]; done)⟩ rfl rfl ?_
      rintro σ35 k35
      obtain ⟨kg35, kf35, k35⟩ := k35
      have g35 := gy_trans g33 kg35
      have f35 := frm_tr f33 (frm_mono (Q := (PTr a.toNat)) kf35 (fun c j h => by simp [PTa, PTr] at h ⊢ <;> omega))
      have x35_0_27 : σ35 0 27 = σ16 0 27 := kf35 0 27 rfl
      have x35_0_32 : σ35 0 32 = σ16 0 32 := kf35 0 32 rfl
      have x35_0_41 : σ35 0 41 = σ16 0 41 := kf35 0 41 rfl
      have x35_16_atoNat : σ35 16 a.toNat = σ16 0 30 := by first | exact kf35 16 a.toNat rfl | (rw [kf35 16 a.toNat rfl]; simp [hs_ss, hs_up]; done)
      obtain ⟨kt35, k35⟩ := k35
      have ut35 := kt35.1
      show hs_Wd _ _ _ _ _ _ _ _ _ _ _ _ _ _ _ _ _ 38 _ [] σ35
      refine s_aload_n (pc := 38) C dX12_turnRead_38 0 rfl ?_
      refine s_callVi (pc := 39) C (c_X12_placeRead l) [] [] rfl rfl dX12_turnRead_39 wlX12_275 wiX12_placeRead weX12_placeRead wcX12_placeRead wnX12 noX12_placeRead (by decide) (by decide) (Nat.le_of_ble_eq_true rfl) ⟨(gy_self g35), kt35⟩ rfl rfl ?_
      rintro z39 σ39 k39
      obtain ⟨kg39, kf39, p39_TY, k39⟩ := k39
      have g39 := gy_trans g35 kg39
      have f39 := frm_tr f35 (frm_mono (Q := (PTr a.toNat)) kf39 (fun c j h => by simp [PPl, PTr] at h ⊢ <;> omega))
      have up39_TY := p39_TY.1
      have x39_0_27 : σ39 0 27 = σ35 0 27 := kf39 0 27 rfl
      have x39_0_32 : σ39 0 32 = σ35 0 32 := kf39 0 32 rfl
      have x39_0_41 : σ39 0 41 = σ35 0 41 := kf39 0 41 rfl
      have x39_16_atoNat : σ39 16 a.toNat = σ35 16 a.toNat := by first | exact kf39 16 a.toNat rfl | (rw [kf39 16 a.toNat rfl]; simp [hs_ss, hs_up]; done)
      show hs_Wd _ _ _ _ _ _ _ _ _ _ _ _ _ _ _ _ _ 42 _ [vI z39] σ39
      refine s_if_ne (pc := 42) C (tgt := 47) dX12_turnRead_42 (by decide) ⟨by omega, by omega⟩ (fun h42 => ?_) (fun h42 => ?_)
      · skip
        refine s_aload_n (pc := 47) C dX12_turnRead_47 0 rfl ?_
        refine s_getr (q := 0) (ci := 12) (N := 68) (CN := RX12) (T := TX12) (pc := 48) C 36 dX12_turnRead_48 wlX12_68 rfl rfl rfl wfX12 (by decide) rfl ?_
        refine s_iload_n (pc := 51) C dX12_turnRead_51 1 rfl ?_
        refine s_aload_n (pc := 52) C dX12_turnRead_52 0 rfl ?_
        refine s_geti (q := 0) (ci := 12) (N := 68) (CN := RX12) (T := TX12) (pc := 53) C 43 dX12_turnRead_53 wlX12_263 rfl rfl rfl wfX12 (by decide) rfl (σ39 0 43) rfl ?_
        have b53 : (-1 : Int) ≤ σ39 0 43 ∧ σ39 0 43 ≤ 7 := g39.1 0 43
        refine s_iast (q := 18) (n := 60) (pc := 56) C dX12_turnRead_56 rfl (by omega) (by omega) (by decide) ?_
        have g56 := gy_set (z := (σ39 0 43)) g39 18 a.toNat rfl (-1) (7) rfl ⟨by omega, by omega⟩
        have f56 := frm_set (P := (PTr a.toNat)) (z := (σ39 0 43)) f39 18 a.toNat (by simp [PTr] <;> omega)
        have p56_TY := TY_cg (frm_one (P := okTY) (z := (σ39 0 43)) 18 a.toNat rfl) p39_TY
        refine s_aload_n (pc := 57) C dX12_turnRead_57 0 rfl ?_
        refine s_getr (q := 0) (ci := 12) (N := 68) (CN := RX12) (T := TX12) (pc := 58) C 37 dX12_turnRead_58 wlX12_71 rfl rfl rfl wfX12 (by decide) rfl ?_
        refine s_iload_n (pc := 61) C dX12_turnRead_61 1 rfl ?_
        refine s_aload_n (pc := 62) C dX12_turnRead_62 0 rfl ?_
        refine s_geti (q := 0) (ci := 12) (N := 68) (CN := RX12) (T := TX12) (pc := 63) C 44 dX12_turnRead_63 wlX12_266 rfl rfl rfl wfX12 (by decide) rfl (σ39 0 44) rfl ?_
        have b63 : (-999 : Int) ≤ σ39 0 44 ∧ σ39 0 44 ≤ 999 := g56.1 0 44
        refine s_iast (q := 19) (n := 60) (pc := 66) C dX12_turnRead_66 rfl (by omega) (by omega) (by decide) ?_
        have g66 := gy_set (z := (σ39 0 44)) g56 19 a.toNat rfl (-999) (999) rfl ⟨by omega, by omega⟩
        have f66 := frm_set (P := (PTr a.toNat)) (z := (σ39 0 44)) f56 19 a.toNat (by simp [PTr] <;> omega)
        have p66_TY := TY_cg (frm_one (P := okTY) (z := (σ39 0 44)) 19 a.toNat rfl) p56_TY
        refine s_aload_n (pc := 67) C dX12_turnRead_67 0 rfl ?_
        refine s_bipush (pc := 68) C dX12_turnRead_68 (by decide) ?_
        have r70_0_31 : (hs_ss (hs_ss σ39 18 a.toNat (σ39 0 43)) 19 a.toNat (σ39 0 44)) 0 31 = σ39 0 31 := rfl
        refine s_callVi (pc := 70) C (c_X12_comesSign l 59 ⟨by omega, by omega⟩) [vI 59] [] rfl rfl dX12_turnRead_70 wlX12_279 wiX12_comesSign weX12_comesSign wcX12_comesSign wnX12 noX12_comesSign (by decide) (by decide) (Nat.le_of_ble_eq_true rfl) ⟨(gy_self g66), p66_TY⟩ rfl rfl ?_
        rintro z70 σ70 k70
        obtain ⟨kg70, kf70, p70_TY, k70⟩ := k70
        have g70 := gy_trans g66 kg70
        have f70 := frm_tr f66 (frm_mono (Q := (PTr a.toNat)) kf70 (fun c j h => by simp [PTw, PTr] at h ⊢ <;> omega))
        have up70_TY := p70_TY.1
        have x70_0_27 : σ70 0 27 = σ39 0 27 := kf70 0 27 rfl
        have x70_0_32 : σ70 0 32 = σ39 0 32 := kf70 0 32 rfl
        have x70_0_41 : σ70 0 41 = σ39 0 41 := kf70 0 41 rfl
        have x70_16_atoNat : σ70 16 a.toNat = σ39 16 a.toNat := by first | exact kf70 16 a.toNat rfl | (rw [kf70 16 a.toNat rfl]; simp [hs_ss, hs_up]; done)
        show hs_Wd _ _ _ _ _ _ _ _ _ _ _ _ _ _ _ _ _ 73 _ [vI z70] σ70
        refine s_zret (pc := 73) C (by omega) dX12_turnRead_73 ?_
        refine ⟨_, rfl, ?_⟩
        exact ⟨g70, f70, p70_TY, by first | omega | assumption | (constructor <;> omega) | (refine ⟨⟨?_, ?_⟩, ?_⟩ <;> omega) | (simp [hs_ss, hs_up]; omega) | (simp [hs_ss, hs_up]; done)⟩
      · skip
        refine s_iconst (pc := 45) C dX12_turnRead_45 ?_
        refine s_zret (pc := 46) C (by omega) dX12_turnRead_46 ?_
        refine ⟨_, rfl, ?_⟩
        exact ⟨g39, f39, p39_TY, by first | omega | assumption | (constructor <;> omega) | (refine ⟨⟨?_, ?_⟩, ?_⟩ <;> omega) | (simp [hs_ss, hs_up]; omega) | (simp [hs_ss, hs_up]; done)⟩
    · skip
      refine s_iconst (pc := 22) C dX12_turnRead_22 ?_
      refine s_zret (pc := 23) C (by omega) dX12_turnRead_23 ?_
      refine ⟨_, rfl, ?_⟩
      exact ⟨g16, f16, p16_TY, by first | omega | assumption | (constructor <;> omega) | (refine ⟨⟨?_, ?_⟩, ?_⟩ <;> omega) | (simp [hs_ss, hs_up]; omega) | (simp [hs_ss, hs_up]; done)⟩
set_option maxHeartbeats 4000000 in
set_option maxRecDepth 100000 in
theorem c_X12_loopRead (l : Launch) (a : Int) (ha : 0 ≤ a ∧ a ≤ 59) (w : Int) (hw : w = 5 ∨ w = 6) : hs_Met l yX12_loopRead cX12_loopRead 3 (some .boolean) 4 SHY (fun ad => [.ref (ad 0), vI a, vI w]) (fun σ => GY σ σ ∧ TY σ) (hs_PI (fun σ z σ1 => GY σ σ1 ∧ FRM (PLr a.toNat) σ σ1 ∧ TY σ1 ∧ (z = 0 ∨ z = 1) ∧ σ 0 31 ≤ σ1 0 31 ∧ (z = 1 → σ1 0 41 = σ 0 41 + 1 ∧ σ 0 41 ≤ 4 ∧ σ1 23 (σ 0 41).toNat = a ∧ (w = 6 → 0 ≤ σ1 17 a.toNat ∧ 1 ≤ σ1 16 a.toNat)) ∧ (∀ j : Nat, j ≠ (σ 0 41).toNat → σ1 23 j = σ 23 j))) := by
  refine hs_from pfX12_loopRead (fun _ => Nat.le_of_ble_eq_true rfl) ?_
  intro p e s m args below meth c D dA ad A σ C hpre
  have C : hs_C p s m args meth c D dA SHY ad A 3 cX12_loopRead RX12 (some .boolean) := C
  obtain ⟨g0, p0_TY⟩ := hpre
  have f0 : FRM (PLr a.toNat) σ σ := frm_rf
  have up0_TY := p0_TY.1
  show hs_Wd p l e 4 s m args below meth c D dA SHY ad A 3 (hs_PI (fun σ z σ1 => GY σ σ1 ∧ FRM (PLr a.toNat) σ σ1 ∧ TY σ1 ∧ (z = 0 ∨ z = 1) ∧ σ 0 31 ≤ σ1 0 31 ∧ (z = 1 → σ1 0 41 = σ 0 41 + 1 ∧ σ 0 41 ≤ 4 ∧ σ1 23 (σ 0 41).toNat = a ∧ (w = 6 → 0 ≤ σ1 17 a.toNat ∧ 1 ≤ σ1 16 a.toNat)) ∧ (∀ j : Nat, j ≠ (σ 0 41).toNat → σ1 23 j = σ 23 j)) σ) 0 [(0, .ref (ad 0)), (1, vI a), (2, vI w)] [] σ
  have y0_23 : ∀ j : Nat, σ 23 j = σ 23 j := fun _ => rfl
  refine s_iload_n (pc := 0) C dX12_loopRead_0 2 rfl ?_
  refine s_bipush (pc := 1) C dX12_loopRead_1 (by decide) ?_
  refine s_icmp_ne (pc := 3) C (tgt := 109) dX12_loopRead_3 (by decide) ⟨by omega, by omega⟩ ⟨by decide, by decide⟩ (fun h3 => ?_) (fun h3 => ?_)
  · skip
    refine s_aload_n (pc := 109) C dX12_loopRead_109 0 rfl ?_
    refine s_iload_n (pc := 110) C dX12_loopRead_110 2 rfl ?_
    refine s_bipush (pc := 111) C dX12_loopRead_111 (by decide) ?_
    refine s_icmp_ne (pc := 113) C (tgt := 120) dX12_loopRead_113 (by decide) ⟨by omega, by omega⟩ ⟨by decide, by decide⟩ (fun h113 => ?_) (fun h113 => ?_)
    · skip
      refine s_iconst (pc := 120) C dX12_loopRead_120 ?_
      refine s_bipush (pc := 121) C dX12_loopRead_121 (by decide) ?_
      refine s_callVi (pc := 123) C (c_X12_numberRead l 0 99 (by first | omega | assumption | (constructor <;> omega) | (refine ⟨⟨?_, ?_⟩, ?_⟩ <;> omega) | (simp [hs_ss, hs_up]; omega) | (simp [hs_ss, hs_up]; done))) [vI 0, vI 99] [] rfl rfl dX12_loopRead_123 wlX12_272 wiX12_numberRead weX12_numberRead wcX12_numberRead wnX12 noX12_numberRead (by decide) (by decide) (Nat.le_of_ble_eq_true rfl) (gy_self g0) rfl rfl ?_
      rintro z123 σ123 k123
      obtain ⟨kg123, kf123, k123⟩ := k123
      have g123 := gy_trans g0 kg123
      have f123 := frm_tr f0 (frm_mono (Q := (PLr a.toNat)) kf123 (fun c j h => by simp [PWr, PLr] at h ⊢ <;> omega))
      have p123_TY := TY_cg (frm_mono (Q := okTY) kf123 (fun c j h => by simp [PWr, okTY] at h ⊢ <;> omega)) p0_TY
      have up123_TY := p123_TY.1
      have x123_0_27 : σ123 0 27 = σ 0 27 := kf123 0 27 rfl
      have x123_0_28 : σ123 0 28 = σ 0 28 := kf123 0 28 rfl
      have x123_0_29 : σ123 0 29 = σ 0 29 := kf123 0 29 rfl
      have x123_0_30 : σ123 0 30 = σ 0 30 := kf123 0 30 rfl
      have x123_0_31 : σ123 0 31 = σ 0 31 := kf123 0 31 rfl
      have x123_0_32 : σ123 0 32 = σ 0 32 := kf123 0 32 rfl
      have x123_0_41 : σ123 0 41 = σ 0 41 := kf123 0 41 rfl
      have x123_16_atoNat : σ123 16 a.toNat = σ 16 a.toNat := by first | exact kf123 16 a.toNat rfl | (rw [kf123 16 a.toNat rfl]; simp [hs_ss, hs_up]; done)
      have x123_17_atoNat : σ123 17 a.toNat = σ 17 a.toNat := by first | exact kf123 17 a.toNat rfl | (rw [kf123 17 a.toNat rfl]; simp [hs_ss, hs_up]; done)
      have y123_23 : ∀ j : Nat, σ123 23 j = σ 23 j := fun j => (kf123 23 j rfl).trans (y0_23 j)
      show hs_Wd _ _ _ _ _ _ _ _ _ _ _ _ _ _ _ _ _ 126 _ [vI z123] σ123
      refine s_if_ne (pc := 126) C (tgt := 131) dX12_loopRead_126 (by decide) ⟨by omega, by omega⟩ (fun h126 => ?_) (fun h126 => ?_)
      · skip
        refine s_aload_n (pc := 131) C dX12_loopRead_131 0 rfl ?_
        refine s_getr (q := 0) (ci := 12) (N := 68) (CN := RX12) (T := TX12) (pc := 132) C 34 dX12_loopRead_132 wlX12_62 rfl rfl rfl wfX12 (by decide) rfl ?_
        refine s_iload_n (pc := 135) C dX12_loopRead_135 1 rfl ?_
        refine s_aload_n (pc := 136) C dX12_loopRead_136 0 rfl ?_
        refine s_geti (q := 0) (ci := 12) (N := 68) (CN := RX12) (T := TX12) (pc := 137) C 30 dX12_loopRead_137 wlX12_245 rfl rfl rfl wfX12 (by decide) rfl (σ123 0 30) rfl ?_
        have b137 : (-1 : Int) ≤ σ123 0 30 ∧ σ123 0 30 ≤ 10000 := g123.1 0 30
        refine s_iast (q := 16) (n := 60) (pc := 140) C dX12_loopRead_140 rfl (by omega) (by omega) (by decide) ?_
        have g140 := gy_set (z := (σ123 0 30)) g123 16 a.toNat rfl (0) (99) rfl ⟨by omega, by omega⟩
        have f140 := frm_set (P := (PLr a.toNat)) (z := (σ123 0 30)) f123 16 a.toNat (by simp [PLr] <;> omega)
        have p140_TY := TY_cg (frm_one (P := okTY) (z := (σ123 0 30)) 16 a.toNat rfl) p123_TY
        refine s_aload_n (pc := 141) C dX12_loopRead_141 0 rfl ?_
        have r142_0_27 : (hs_ss σ123 16 a.toNat (σ123 0 30)) 0 27 = σ123 0 27 := rfl
        have r142_0_28 : (hs_ss σ123 16 a.toNat (σ123 0 30)) 0 28 = σ123 0 28 := rfl
        refine s_callVv (pc := 142) C (c_X12_take l) [] [] rfl rfl dX12_loopRead_142 wlX12_257 wiX12_take weX12_take wcX12_take wnX12 noX12_take (by decide) (by decide) (Nat.le_of_ble_eq_true rfl) ⟨(gy_self g140), by first | omega | assumption | (constructor <;> omega) | (refine ⟨⟨?_, ?_⟩, ?_⟩ <;> omega) | (simp [hs_ss, hs_up]; omega) | (simp [hs_ss, hs_up]; done)⟩ rfl rfl ?_
        rintro σ142 k142
        obtain ⟨kg142, kf142, k142⟩ := k142
        have g142 := gy_trans g140 kg142
        have f142 := frm_tr f140 (frm_mono (Q := (PLr a.toNat)) kf142 (fun c j h => by simp [PTa, PLr] at h ⊢ <;> omega))
        have x142_0_27 : σ142 0 27 = σ123 0 27 := kf142 0 27 rfl
        have x142_0_32 : σ142 0 32 = σ123 0 32 := kf142 0 32 rfl
        have x142_0_41 : σ142 0 41 = σ123 0 41 := kf142 0 41 rfl
        have x142_16_atoNat : σ142 16 a.toNat = σ123 0 30 := by first | exact kf142 16 a.toNat rfl | (rw [kf142 16 a.toNat rfl]; simp [hs_ss, hs_up]; done)
        have x142_17_atoNat : σ142 17 a.toNat = σ123 17 a.toNat := by first | exact kf142 17 a.toNat rfl | (rw [kf142 17 a.toNat rfl]; simp [hs_ss, hs_up]; done)
        have y142_23 : ∀ j : Nat, σ142 23 j = σ 23 j := fun j => (kf142 23 j rfl).trans (y123_23 j)
        obtain ⟨kt142, k142⟩ := k142
        have ut142 := kt142.1
        show hs_Wd _ _ _ _ _ _ _ _ _ _ _ _ _ _ _ _ _ 145 _ [] σ142
        refine s_aload_n (pc := 145) C dX12_loopRead_145 0 rfl ?_
        refine s_bipush (pc := 146) C dX12_loopRead_146 (by decide) ?_
        refine s_callVi (pc := 148) C (c_X12_isSign l 40 ⟨by omega, by omega⟩) [vI 40] [] rfl rfl dX12_loopRead_148 wlX12_251 wiX12_isSign weX12_isSign wcX12_isSign wnX12 noX12_isSign (by decide) (by decide) (Nat.le_of_ble_eq_true rfl) (gy_self g142) rfl rfl ?_
        rintro z148 _ ⟨rfl, k148⟩
        show hs_Wd _ _ _ _ _ _ _ _ _ _ _ _ _ _ _ _ _ 151 _ [vI z148] σ142
        refine s_if_ne (pc := 151) C (tgt := 160) dX12_loopRead_151 (by decide) ⟨by omega, by omega⟩ (fun h151 => ?_) (fun h151 => ?_)
        · skip
          refine s_aload_n (pc := 160) C dX12_loopRead_160 0 rfl ?_
          refine s_geti (q := 0) (ci := 12) (N := 68) (CN := RX12) (T := TX12) (pc := 161) C 41 dX12_loopRead_161 wlX12_260 rfl rfl rfl wfX12 (by decide) rfl (σ142 0 41) rfl ?_
          have b161 : (0 : Int) ≤ σ142 0 41 ∧ σ142 0 41 ≤ 5 := g142.1 0 41
          refine s_iconst (pc := 164) C dX12_loopRead_164 ?_
          refine s_icmp_ne (pc := 165) C (tgt := 174) dX12_loopRead_165 (by decide) ⟨by omega, by omega⟩ ⟨by decide, by decide⟩ (fun h165 => ?_) (fun h165 => ?_)
          · skip
            have e41 : σ142 0 41 = σ 0 41 := by omega
            refine s_aload_n (pc := 174) C dX12_loopRead_174 0 rfl ?_
            refine s_getr (q := 0) (ci := 12) (N := 68) (CN := RX12) (T := TX12) (pc := 175) C 42 dX12_loopRead_175 wlX12_83 rfl rfl rfl wfX12 (by decide) rfl ?_
            refine s_aload_n (pc := 178) C dX12_loopRead_178 0 rfl ?_
            refine s_geti (q := 0) (ci := 12) (N := 68) (CN := RX12) (T := TX12) (pc := 179) C 41 dX12_loopRead_179 wlX12_260 rfl rfl rfl wfX12 (by decide) rfl (σ142 0 41) rfl ?_
            have b179 : (0 : Int) ≤ σ142 0 41 ∧ σ142 0 41 ≤ 5 := g142.1 0 41
            refine s_iload_n (pc := 182) C dX12_loopRead_182 1 rfl ?_
            refine s_iast (q := 23) (n := 5) (pc := 183) C dX12_loopRead_183 rfl (by omega) (by omega) (by decide) ?_
            have g183 := gy_set (z := a) g142 23 ((σ142 0 41).toNat) rfl (0) (59) rfl ⟨by omega, by omega⟩
            have f183 := frm_set (P := (PLr a.toNat)) (z := a) f142 23 ((σ142 0 41).toNat) (by simp [PLr] <;> omega)
            have p183_TY := TY_cg (frm_one (P := okTY) (z := a) 23 ((σ142 0 41).toNat) rfl) kt142
            refine s_aload_n (pc := 184) C dX12_loopRead_184 0 rfl ?_
            refine s_dup (pc := 185) C dX12_loopRead_185 rfl ?_
            refine s_geti (q := 0) (ci := 12) (N := 68) (CN := RX12) (T := TX12) (pc := 186) C 41 dX12_loopRead_186 wlX12_260 rfl rfl rfl wfX12 (by decide) rfl (σ142 0 41) rfl ?_
            have b186 : (0 : Int) ≤ σ142 0 41 ∧ σ142 0 41 ≤ 5 := g183.1 0 41
            refine s_iconst (pc := 189) C dX12_loopRead_189 ?_
            refine s_iadd (pc := 190) C dX12_loopRead_190 ?_
            refine s_puti (q := 0) (ci := 12) (N := 68) (CN := RX12) (T := TX12) (ty0 := tyX12) (ty := .int) (pc := 191) C 41 dX12_loopRead_191 wlX12_260 rfl rfl rfl wfX12 tyX12_ok nmX12 (by decide) rfl rfl rfl (vp_nar_int _) rfl ?_
            have g191 := gy_set (z := ((σ142 0 41) + 1)) g183 0 41 rfl (0) (5) rfl ⟨by omega, by omega⟩
            have f191 := frm_set (P := (PLr a.toNat)) (z := ((σ142 0 41) + 1)) f183 0 41 (by simp [PLr] <;> omega)
            have p191_TY := TY_cg (frm_one (P := okTY) (z := ((σ142 0 41) + 1)) 0 41 rfl) p183_TY
            refine s_aload_n (pc := 194) C dX12_loopRead_194 0 rfl ?_
            have r195_0_27 : (hs_ss (hs_ss σ142 23 ((σ142 0 41).toNat) a) 0 41 ((σ142 0 41) + 1)) 0 27 = σ142 0 27 := rfl
            have r195_0_28 : (hs_ss (hs_ss σ142 23 ((σ142 0 41).toNat) a) 0 41 ((σ142 0 41) + 1)) 0 28 = σ142 0 28 := rfl
            refine s_callVv (pc := 195) C (c_X12_take l) [] [] rfl rfl dX12_loopRead_195 wlX12_257 wiX12_take weX12_take wcX12_take wnX12 noX12_take (by decide) (by decide) (Nat.le_of_ble_eq_true rfl) ⟨(gy_self g191), by first | omega | assumption | (constructor <;> omega) | (refine ⟨⟨?_, ?_⟩, ?_⟩ <;> omega) | (simp [hs_ss, hs_up]; omega) | (simp [hs_ss, hs_up]; done)⟩ rfl rfl ?_
            rintro σ195 k195
            obtain ⟨kg195, kf195, k195⟩ := k195
            have g195 := gy_trans g191 kg195
            have f195 := frm_tr f191 (frm_mono (Q := (PLr a.toNat)) kf195 (fun c j h => by simp [PTa, PLr] at h ⊢ <;> omega))
            have x195_0_27 : σ195 0 27 = σ142 0 27 := kf195 0 27 rfl
            have x195_0_32 : σ195 0 32 = σ142 0 32 := kf195 0 32 rfl
            have x195_0_41 : σ195 0 41 = (σ142 0 41) + 1 := kf195 0 41 rfl
            have x195_16_atoNat : σ195 16 a.toNat = σ142 16 a.toNat := by first | exact kf195 16 a.toNat rfl | (rw [kf195 16 a.toNat rfl]; simp [hs_ss, hs_up]; done)
            have x195_17_atoNat : σ195 17 a.toNat = σ142 17 a.toNat := by first | exact kf195 17 a.toNat rfl | (rw [kf195 17 a.toNat rfl]; simp [hs_ss, hs_up]; done)
            obtain ⟨kt195, k195⟩ := k195
            have ut195 := kt195.1
            have y195 : ∀ j : Nat, j ≠ (σ 0 41).toNat → σ195 23 j = σ 23 j := fun j hj => by rw [kf195 23 j rfl]; simp [hs_ss, hs_up, e41, hj]; exact y142_23 j
            have x195 : σ195 23 (σ 0 41).toNat = a := by rw [kf195 23 _ rfl]; simp [hs_ss, hs_up, e41]
            show hs_Wd _ _ _ _ _ _ _ _ _ _ _ _ _ _ _ _ _ 198 _ [] σ195
            refine s_iconst (pc := 198) C dX12_loopRead_198 ?_
            refine s_zret (pc := 199) C (by omega) dX12_loopRead_199 ?_
            refine ⟨_, rfl, ?_⟩
            exact ⟨g195, f195, kt195, ⟨by omega, by omega, fun _ => ⟨by omega, by omega, x195, fun h6 => by first | (exfalso; omega) | omega⟩, y195⟩⟩
          · skip
            refine s_aload_n (pc := 168) C dX12_loopRead_168 0 rfl ?_
            refine s_iconst (pc := 169) C dX12_loopRead_169 ?_
            refine s_callVi (pc := 170) C (c_X12_wrong l 2 (by first | omega | assumption | (constructor <;> omega) | (refine ⟨⟨?_, ?_⟩, ?_⟩ <;> omega) | (simp [hs_ss, hs_up]; omega) | (simp [hs_ss, hs_up]; done))) [vI 2] [] rfl rfl dX12_loopRead_170 wlX12_254 wiX12_wrong weX12_wrong wcX12_wrong wnX12 noX12_wrong (by decide) (by decide) (Nat.le_of_ble_eq_true rfl) (gy_self g142) rfl rfl ?_
            rintro z170 σ170 k170
            obtain ⟨kg170, kf170, k170⟩ := k170
            have g170 := gy_trans g142 kg170
            have f170 := frm_tr f142 (frm_mono (Q := (PLr a.toNat)) kf170 (fun c j h => by simp [PWr, PLr] at h ⊢ <;> omega))
            have p170_TY := TY_cg (frm_mono (Q := okTY) kf170 (fun c j h => by simp [PWr, okTY] at h ⊢ <;> omega)) kt142
            have up170_TY := p170_TY.1
            have x170_0_27 : σ170 0 27 = σ142 0 27 := kf170 0 27 rfl
            have x170_0_28 : σ170 0 28 = σ142 0 28 := kf170 0 28 rfl
            have x170_0_29 : σ170 0 29 = σ142 0 29 := kf170 0 29 rfl
            have x170_0_30 : σ170 0 30 = σ142 0 30 := kf170 0 30 rfl
            have x170_0_31 : σ170 0 31 = σ142 0 31 := kf170 0 31 rfl
            have x170_0_32 : σ170 0 32 = σ142 0 32 := kf170 0 32 rfl
            have x170_0_41 : σ170 0 41 = σ142 0 41 := kf170 0 41 rfl
            have x170_16_atoNat : σ170 16 a.toNat = σ142 16 a.toNat := by first | exact kf170 16 a.toNat rfl | (rw [kf170 16 a.toNat rfl]; simp [hs_ss, hs_up]; done)
            have x170_17_atoNat : σ170 17 a.toNat = σ142 17 a.toNat := by first | exact kf170 17 a.toNat rfl | (rw [kf170 17 a.toNat rfl]; simp [hs_ss, hs_up]; done)
            have y170_23 : ∀ j : Nat, σ170 23 j = σ 23 j := fun j => (kf170 23 j rfl).trans (y142_23 j)
            show hs_Wd _ _ _ _ _ _ _ _ _ _ _ _ _ _ _ _ _ 173 _ [vI z170] σ170
            refine s_zret (pc := 173) C (by omega) dX12_loopRead_173 ?_
            refine ⟨_, rfl, ?_⟩
            exact ⟨g170, f170, p170_TY, ⟨by omega, by omega, fun q => by exfalso; omega, fun j _ => y170_23 j⟩⟩
        · skip
          refine s_aload_n (pc := 154) C dX12_loopRead_154 0 rfl ?_
          refine s_iconst (pc := 155) C dX12_loopRead_155 ?_
          refine s_callVi (pc := 156) C (c_X12_wrong l 1 (by first | omega | assumption | (constructor <;> omega) | (refine ⟨⟨?_, ?_⟩, ?_⟩ <;> omega) | (simp [hs_ss, hs_up]; omega) | (simp [hs_ss, hs_up]; done))) [vI 1] [] rfl rfl dX12_loopRead_156 wlX12_254 wiX12_wrong weX12_wrong wcX12_wrong wnX12 noX12_wrong (by decide) (by decide) (Nat.le_of_ble_eq_true rfl) (gy_self g142) rfl rfl ?_
          rintro z156 σ156 k156
          obtain ⟨kg156, kf156, k156⟩ := k156
          have g156 := gy_trans g142 kg156
          have f156 := frm_tr f142 (frm_mono (Q := (PLr a.toNat)) kf156 (fun c j h => by simp [PWr, PLr] at h ⊢ <;> omega))
          have p156_TY := TY_cg (frm_mono (Q := okTY) kf156 (fun c j h => by simp [PWr, okTY] at h ⊢ <;> omega)) kt142
          have up156_TY := p156_TY.1
          have x156_0_27 : σ156 0 27 = σ142 0 27 := kf156 0 27 rfl
          have x156_0_28 : σ156 0 28 = σ142 0 28 := kf156 0 28 rfl
          have x156_0_29 : σ156 0 29 = σ142 0 29 := kf156 0 29 rfl
          have x156_0_30 : σ156 0 30 = σ142 0 30 := kf156 0 30 rfl
          have x156_0_31 : σ156 0 31 = σ142 0 31 := kf156 0 31 rfl
          have x156_0_32 : σ156 0 32 = σ142 0 32 := kf156 0 32 rfl
          have x156_0_41 : σ156 0 41 = σ142 0 41 := kf156 0 41 rfl
          have x156_16_atoNat : σ156 16 a.toNat = σ142 16 a.toNat := by first | exact kf156 16 a.toNat rfl | (rw [kf156 16 a.toNat rfl]; simp [hs_ss, hs_up]; done)
          have x156_17_atoNat : σ156 17 a.toNat = σ142 17 a.toNat := by first | exact kf156 17 a.toNat rfl | (rw [kf156 17 a.toNat rfl]; simp [hs_ss, hs_up]; done)
          have y156_23 : ∀ j : Nat, σ156 23 j = σ 23 j := fun j => (kf156 23 j rfl).trans (y142_23 j)
          show hs_Wd _ _ _ _ _ _ _ _ _ _ _ _ _ _ _ _ _ 159 _ [vI z156] σ156
          refine s_zret (pc := 159) C (by omega) dX12_loopRead_159 ?_
          refine ⟨_, rfl, ?_⟩
          exact ⟨g156, f156, p156_TY, ⟨by omega, by omega, fun q => by exfalso; omega, fun j _ => y156_23 j⟩⟩
      · skip
        refine s_iconst (pc := 129) C dX12_loopRead_129 ?_
        refine s_zret (pc := 130) C (by omega) dX12_loopRead_130 ?_
        refine ⟨_, rfl, ?_⟩
        exact ⟨g123, f123, p123_TY, ⟨by omega, by omega, fun q => by exfalso; omega, fun j _ => y123_23 j⟩⟩
    · skip
      refine s_iconst (pc := 116) C dX12_loopRead_116 ?_
      refine s_goto (pc := 117) C (tgt := 121) dX12_loopRead_117 (by decide) ?_
      refine s_bipush (pc := 121) C dX12_loopRead_121 (by decide) ?_
      refine s_callVi (pc := 123) C (c_X12_numberRead l 1 99 (by first | omega | assumption | (constructor <;> omega) | (refine ⟨⟨?_, ?_⟩, ?_⟩ <;> omega) | (simp [hs_ss, hs_up]; omega) | (simp [hs_ss, hs_up]; done))) [vI 1, vI 99] [] rfl rfl dX12_loopRead_123 wlX12_272 wiX12_numberRead weX12_numberRead wcX12_numberRead wnX12 noX12_numberRead (by decide) (by decide) (Nat.le_of_ble_eq_true rfl) (gy_self g0) rfl rfl ?_
      rintro z123 σ123 k123
      obtain ⟨kg123, kf123, k123⟩ := k123
      have g123 := gy_trans g0 kg123
      have f123 := frm_tr f0 (frm_mono (Q := (PLr a.toNat)) kf123 (fun c j h => by simp [PWr, PLr] at h ⊢ <;> omega))
      have p123_TY := TY_cg (frm_mono (Q := okTY) kf123 (fun c j h => by simp [PWr, okTY] at h ⊢ <;> omega)) p0_TY
      have up123_TY := p123_TY.1
      have x123_0_27 : σ123 0 27 = σ 0 27 := kf123 0 27 rfl
      have x123_0_28 : σ123 0 28 = σ 0 28 := kf123 0 28 rfl
      have x123_0_29 : σ123 0 29 = σ 0 29 := kf123 0 29 rfl
      have x123_0_30 : σ123 0 30 = σ 0 30 := kf123 0 30 rfl
      have x123_0_31 : σ123 0 31 = σ 0 31 := kf123 0 31 rfl
      have x123_0_32 : σ123 0 32 = σ 0 32 := kf123 0 32 rfl
      have x123_0_41 : σ123 0 41 = σ 0 41 := kf123 0 41 rfl
      have x123_16_atoNat : σ123 16 a.toNat = σ 16 a.toNat := by first | exact kf123 16 a.toNat rfl | (rw [kf123 16 a.toNat rfl]; simp [hs_ss, hs_up]; done)
      have x123_17_atoNat : σ123 17 a.toNat = σ 17 a.toNat := by first | exact kf123 17 a.toNat rfl | (rw [kf123 17 a.toNat rfl]; simp [hs_ss, hs_up]; done)
      have y123_23 : ∀ j : Nat, σ123 23 j = σ 23 j := fun j => (kf123 23 j rfl).trans (y0_23 j)
      show hs_Wd _ _ _ _ _ _ _ _ _ _ _ _ _ _ _ _ _ 126 _ [vI z123] σ123
      refine s_if_ne (pc := 126) C (tgt := 131) dX12_loopRead_126 (by decide) ⟨by omega, by omega⟩ (fun h126 => ?_) (fun h126 => ?_)
      · skip
        refine s_aload_n (pc := 131) C dX12_loopRead_131 0 rfl ?_
        refine s_getr (q := 0) (ci := 12) (N := 68) (CN := RX12) (T := TX12) (pc := 132) C 34 dX12_loopRead_132 wlX12_62 rfl rfl rfl wfX12 (by decide) rfl ?_
        refine s_iload_n (pc := 135) C dX12_loopRead_135 1 rfl ?_
        refine s_aload_n (pc := 136) C dX12_loopRead_136 0 rfl ?_
        refine s_geti (q := 0) (ci := 12) (N := 68) (CN := RX12) (T := TX12) (pc := 137) C 30 dX12_loopRead_137 wlX12_245 rfl rfl rfl wfX12 (by decide) rfl (σ123 0 30) rfl ?_
        have b137 : (-1 : Int) ≤ σ123 0 30 ∧ σ123 0 30 ≤ 10000 := g123.1 0 30
        refine s_iast (q := 16) (n := 60) (pc := 140) C dX12_loopRead_140 rfl (by omega) (by omega) (by decide) ?_
        have g140 := gy_set (z := (σ123 0 30)) g123 16 a.toNat rfl (0) (99) rfl ⟨by omega, by omega⟩
        have f140 := frm_set (P := (PLr a.toNat)) (z := (σ123 0 30)) f123 16 a.toNat (by simp [PLr] <;> omega)
        have p140_TY := TY_cg (frm_one (P := okTY) (z := (σ123 0 30)) 16 a.toNat rfl) p123_TY
        refine s_aload_n (pc := 141) C dX12_loopRead_141 0 rfl ?_
        have r142_0_27 : (hs_ss σ123 16 a.toNat (σ123 0 30)) 0 27 = σ123 0 27 := rfl
        have r142_0_28 : (hs_ss σ123 16 a.toNat (σ123 0 30)) 0 28 = σ123 0 28 := rfl
        refine s_callVv (pc := 142) C (c_X12_take l) [] [] rfl rfl dX12_loopRead_142 wlX12_257 wiX12_take weX12_take wcX12_take wnX12 noX12_take (by decide) (by decide) (Nat.le_of_ble_eq_true rfl) ⟨(gy_self g140), by first | omega | assumption | (constructor <;> omega) | (refine ⟨⟨?_, ?_⟩, ?_⟩ <;> omega) | (simp [hs_ss, hs_up]; omega) | (simp [hs_ss, hs_up]; done)⟩ rfl rfl ?_
        rintro σ142 k142
        obtain ⟨kg142, kf142, k142⟩ := k142
        have g142 := gy_trans g140 kg142
        have f142 := frm_tr f140 (frm_mono (Q := (PLr a.toNat)) kf142 (fun c j h => by simp [PTa, PLr] at h ⊢ <;> omega))
        have x142_0_27 : σ142 0 27 = σ123 0 27 := kf142 0 27 rfl
        have x142_0_32 : σ142 0 32 = σ123 0 32 := kf142 0 32 rfl
        have x142_0_41 : σ142 0 41 = σ123 0 41 := kf142 0 41 rfl
        have x142_16_atoNat : σ142 16 a.toNat = σ123 0 30 := by first | exact kf142 16 a.toNat rfl | (rw [kf142 16 a.toNat rfl]; simp [hs_ss, hs_up]; done)
        have x142_17_atoNat : σ142 17 a.toNat = σ123 17 a.toNat := by first | exact kf142 17 a.toNat rfl | (rw [kf142 17 a.toNat rfl]; simp [hs_ss, hs_up]; done)
        have y142_23 : ∀ j : Nat, σ142 23 j = σ 23 j := fun j => (kf142 23 j rfl).trans (y123_23 j)
        obtain ⟨kt142, k142⟩ := k142
        have ut142 := kt142.1
        show hs_Wd _ _ _ _ _ _ _ _ _ _ _ _ _ _ _ _ _ 145 _ [] σ142
        refine s_aload_n (pc := 145) C dX12_loopRead_145 0 rfl ?_
        refine s_bipush (pc := 146) C dX12_loopRead_146 (by decide) ?_
        refine s_callVi (pc := 148) C (c_X12_isSign l 40 ⟨by omega, by omega⟩) [vI 40] [] rfl rfl dX12_loopRead_148 wlX12_251 wiX12_isSign weX12_isSign wcX12_isSign wnX12 noX12_isSign (by decide) (by decide) (Nat.le_of_ble_eq_true rfl) (gy_self g142) rfl rfl ?_
        rintro z148 _ ⟨rfl, k148⟩
        show hs_Wd _ _ _ _ _ _ _ _ _ _ _ _ _ _ _ _ _ 151 _ [vI z148] σ142
        refine s_if_ne (pc := 151) C (tgt := 160) dX12_loopRead_151 (by decide) ⟨by omega, by omega⟩ (fun h151 => ?_) (fun h151 => ?_)
        · skip
          refine s_aload_n (pc := 160) C dX12_loopRead_160 0 rfl ?_
          refine s_geti (q := 0) (ci := 12) (N := 68) (CN := RX12) (T := TX12) (pc := 161) C 41 dX12_loopRead_161 wlX12_260 rfl rfl rfl wfX12 (by decide) rfl (σ142 0 41) rfl ?_
          have b161 : (0 : Int) ≤ σ142 0 41 ∧ σ142 0 41 ≤ 5 := g142.1 0 41
          refine s_iconst (pc := 164) C dX12_loopRead_164 ?_
          refine s_icmp_ne (pc := 165) C (tgt := 174) dX12_loopRead_165 (by decide) ⟨by omega, by omega⟩ ⟨by decide, by decide⟩ (fun h165 => ?_) (fun h165 => ?_)
          · skip
            have e41 : σ142 0 41 = σ 0 41 := by omega
            refine s_aload_n (pc := 174) C dX12_loopRead_174 0 rfl ?_
            refine s_getr (q := 0) (ci := 12) (N := 68) (CN := RX12) (T := TX12) (pc := 175) C 42 dX12_loopRead_175 wlX12_83 rfl rfl rfl wfX12 (by decide) rfl ?_
            refine s_aload_n (pc := 178) C dX12_loopRead_178 0 rfl ?_
            refine s_geti (q := 0) (ci := 12) (N := 68) (CN := RX12) (T := TX12) (pc := 179) C 41 dX12_loopRead_179 wlX12_260 rfl rfl rfl wfX12 (by decide) rfl (σ142 0 41) rfl ?_
            have b179 : (0 : Int) ≤ σ142 0 41 ∧ σ142 0 41 ≤ 5 := g142.1 0 41
            refine s_iload_n (pc := 182) C dX12_loopRead_182 1 rfl ?_
            refine s_iast (q := 23) (n := 5) (pc := 183) C dX12_loopRead_183 rfl (by omega) (by omega) (by decide) ?_
            have g183 := gy_set (z := a) g142 23 ((σ142 0 41).toNat) rfl (0) (59) rfl ⟨by omega, by omega⟩
            have f183 := frm_set (P := (PLr a.toNat)) (z := a) f142 23 ((σ142 0 41).toNat) (by simp [PLr] <;> omega)
            have p183_TY := TY_cg (frm_one (P := okTY) (z := a) 23 ((σ142 0 41).toNat) rfl) kt142
            refine s_aload_n (pc := 184) C dX12_loopRead_184 0 rfl ?_
            refine s_dup (pc := 185) C dX12_loopRead_185 rfl ?_
            refine s_geti (q := 0) (ci := 12) (N := 68) (CN := RX12) (T := TX12) (pc := 186) C 41 dX12_loopRead_186 wlX12_260 rfl rfl rfl wfX12 (by decide) rfl (σ142 0 41) rfl ?_
            have b186 : (0 : Int) ≤ σ142 0 41 ∧ σ142 0 41 ≤ 5 := g183.1 0 41
            refine s_iconst (pc := 189) C dX12_loopRead_189 ?_
            refine s_iadd (pc := 190) C dX12_loopRead_190 ?_
            refine s_puti (q := 0) (ci := 12) (N := 68) (CN := RX12) (T := TX12) (ty0 := tyX12) (ty := .int) (pc := 191) C 41 dX12_loopRead_191 wlX12_260 rfl rfl rfl wfX12 tyX12_ok nmX12 (by decide) rfl rfl rfl (vp_nar_int _) rfl ?_
            have g191 := gy_set (z := ((σ142 0 41) + 1)) g183 0 41 rfl (0) (5) rfl ⟨by omega, by omega⟩
            have f191 := frm_set (P := (PLr a.toNat)) (z := ((σ142 0 41) + 1)) f183 0 41 (by simp [PLr] <;> omega)
            have p191_TY := TY_cg (frm_one (P := okTY) (z := ((σ142 0 41) + 1)) 0 41 rfl) p183_TY
            refine s_aload_n (pc := 194) C dX12_loopRead_194 0 rfl ?_
            have r195_0_27 : (hs_ss (hs_ss σ142 23 ((σ142 0 41).toNat) a) 0 41 ((σ142 0 41) + 1)) 0 27 = σ142 0 27 := rfl
            have r195_0_28 : (hs_ss (hs_ss σ142 23 ((σ142 0 41).toNat) a) 0 41 ((σ142 0 41) + 1)) 0 28 = σ142 0 28 := rfl
            refine s_callVv (pc := 195) C (c_X12_take l) [] [] rfl rfl dX12_loopRead_195 wlX12_257 wiX12_take weX12_take wcX12_take wnX12 noX12_take (by decide) (by decide) (Nat.le_of_ble_eq_true rfl) ⟨(gy_self g191), by first | omega | assumption | (constructor <;> omega) | (refine ⟨⟨?_, ?_⟩, ?_⟩ <;> omega) | (simp [hs_ss, hs_up]; omega) | (simp [hs_ss, hs_up]; done)⟩ rfl rfl ?_
            rintro σ195 k195
            obtain ⟨kg195, kf195, k195⟩ := k195
            have g195 := gy_trans g191 kg195
            have f195 := frm_tr f191 (frm_mono (Q := (PLr a.toNat)) kf195 (fun c j h => by simp [PTa, PLr] at h ⊢ <;> omega))
            have x195_0_27 : σ195 0 27 = σ142 0 27 := kf195 0 27 rfl
            have x195_0_32 : σ195 0 32 = σ142 0 32 := kf195 0 32 rfl
            have x195_0_41 : σ195 0 41 = (σ142 0 41) + 1 := kf195 0 41 rfl
            have x195_16_atoNat : σ195 16 a.toNat = σ142 16 a.toNat := by first | exact kf195 16 a.toNat rfl | (rw [kf195 16 a.toNat rfl]; simp [hs_ss, hs_up]; done)
            have x195_17_atoNat : σ195 17 a.toNat = σ142 17 a.toNat := by first | exact kf195 17 a.toNat rfl | (rw [kf195 17 a.toNat rfl]; simp [hs_ss, hs_up]; done)
            obtain ⟨kt195, k195⟩ := k195
            have ut195 := kt195.1
            have y195 : ∀ j : Nat, j ≠ (σ 0 41).toNat → σ195 23 j = σ 23 j := fun j hj => by rw [kf195 23 j rfl]; simp [hs_ss, hs_up, e41, hj]; exact y142_23 j
            have x195 : σ195 23 (σ 0 41).toNat = a := by rw [kf195 23 _ rfl]; simp [hs_ss, hs_up, e41]
            show hs_Wd _ _ _ _ _ _ _ _ _ _ _ _ _ _ _ _ _ 198 _ [] σ195
            refine s_iconst (pc := 198) C dX12_loopRead_198 ?_
            refine s_zret (pc := 199) C (by omega) dX12_loopRead_199 ?_
            refine ⟨_, rfl, ?_⟩
            exact ⟨g195, f195, kt195, ⟨by omega, by omega, fun _ => ⟨by omega, by omega, x195, fun h6 => by first | (exfalso; omega) | omega⟩, y195⟩⟩
          · skip
            refine s_aload_n (pc := 168) C dX12_loopRead_168 0 rfl ?_
            refine s_iconst (pc := 169) C dX12_loopRead_169 ?_
            refine s_callVi (pc := 170) C (c_X12_wrong l 2 (by first | omega | assumption | (constructor <;> omega) | (refine ⟨⟨?_, ?_⟩, ?_⟩ <;> omega) | (simp [hs_ss, hs_up]; omega) | (simp [hs_ss, hs_up]; done))) [vI 2] [] rfl rfl dX12_loopRead_170 wlX12_254 wiX12_wrong weX12_wrong wcX12_wrong wnX12 noX12_wrong (by decide) (by decide) (Nat.le_of_ble_eq_true rfl) (gy_self g142) rfl rfl ?_
            rintro z170 σ170 k170
            obtain ⟨kg170, kf170, k170⟩ := k170
            have g170 := gy_trans g142 kg170
            have f170 := frm_tr f142 (frm_mono (Q := (PLr a.toNat)) kf170 (fun c j h => by simp [PWr, PLr] at h ⊢ <;> omega))
            have p170_TY := TY_cg (frm_mono (Q := okTY) kf170 (fun c j h => by simp [PWr, okTY] at h ⊢ <;> omega)) kt142
            have up170_TY := p170_TY.1
            have x170_0_27 : σ170 0 27 = σ142 0 27 := kf170 0 27 rfl
            have x170_0_28 : σ170 0 28 = σ142 0 28 := kf170 0 28 rfl
            have x170_0_29 : σ170 0 29 = σ142 0 29 := kf170 0 29 rfl
            have x170_0_30 : σ170 0 30 = σ142 0 30 := kf170 0 30 rfl
            have x170_0_31 : σ170 0 31 = σ142 0 31 := kf170 0 31 rfl
            have x170_0_32 : σ170 0 32 = σ142 0 32 := kf170 0 32 rfl
            have x170_0_41 : σ170 0 41 = σ142 0 41 := kf170 0 41 rfl
            have x170_16_atoNat : σ170 16 a.toNat = σ142 16 a.toNat := by first | exact kf170 16 a.toNat rfl | (rw [kf170 16 a.toNat rfl]; simp [hs_ss, hs_up]; done)
            have x170_17_atoNat : σ170 17 a.toNat = σ142 17 a.toNat := by first | exact kf170 17 a.toNat rfl | (rw [kf170 17 a.toNat rfl]; simp [hs_ss, hs_up]; done)
            have y170_23 : ∀ j : Nat, σ170 23 j = σ 23 j := fun j => (kf170 23 j rfl).trans (y142_23 j)
            show hs_Wd _ _ _ _ _ _ _ _ _ _ _ _ _ _ _ _ _ 173 _ [vI z170] σ170
            refine s_zret (pc := 173) C (by omega) dX12_loopRead_173 ?_
            refine ⟨_, rfl, ?_⟩
            exact ⟨g170, f170, p170_TY, ⟨by omega, by omega, fun q => by exfalso; omega, fun j _ => y170_23 j⟩⟩
        · skip
          refine s_aload_n (pc := 154) C dX12_loopRead_154 0 rfl ?_
          refine s_iconst (pc := 155) C dX12_loopRead_155 ?_
          refine s_callVi (pc := 156) C (c_X12_wrong l 1 (by first | omega | assumption | (constructor <;> omega) | (refine ⟨⟨?_, ?_⟩, ?_⟩ <;> omega) | (simp [hs_ss, hs_up]; omega) | (simp [hs_ss, hs_up]; done))) [vI 1] [] rfl rfl dX12_loopRead_156 wlX12_254 wiX12_wrong weX12_wrong wcX12_wrong wnX12 noX12_wrong (by decide) (by decide) (Nat.le_of_ble_eq_true rfl) (gy_self g142) rfl rfl ?_
          rintro z156 σ156 k156
          obtain ⟨kg156, kf156, k156⟩ := k156
          have g156 := gy_trans g142 kg156
          have f156 := frm_tr f142 (frm_mono (Q := (PLr a.toNat)) kf156 (fun c j h => by simp [PWr, PLr] at h ⊢ <;> omega))
          have p156_TY := TY_cg (frm_mono (Q := okTY) kf156 (fun c j h => by simp [PWr, okTY] at h ⊢ <;> omega)) kt142
          have up156_TY := p156_TY.1
          have x156_0_27 : σ156 0 27 = σ142 0 27 := kf156 0 27 rfl
          have x156_0_28 : σ156 0 28 = σ142 0 28 := kf156 0 28 rfl
          have x156_0_29 : σ156 0 29 = σ142 0 29 := kf156 0 29 rfl
          have x156_0_30 : σ156 0 30 = σ142 0 30 := kf156 0 30 rfl
          have x156_0_31 : σ156 0 31 = σ142 0 31 := kf156 0 31 rfl
          have x156_0_32 : σ156 0 32 = σ142 0 32 := kf156 0 32 rfl
          have x156_0_41 : σ156 0 41 = σ142 0 41 := kf156 0 41 rfl
          have x156_16_atoNat : σ156 16 a.toNat = σ142 16 a.toNat := by first | exact kf156 16 a.toNat rfl | (rw [kf156 16 a.toNat rfl]; simp [hs_ss, hs_up]; done)
          have x156_17_atoNat : σ156 17 a.toNat = σ142 17 a.toNat := by first | exact kf156 17 a.toNat rfl | (rw [kf156 17 a.toNat rfl]; simp [hs_ss, hs_up]; done)
          have y156_23 : ∀ j : Nat, σ156 23 j = σ 23 j := fun j => (kf156 23 j rfl).trans (y142_23 j)
          show hs_Wd _ _ _ _ _ _ _ _ _ _ _ _ _ _ _ _ _ 159 _ [vI z156] σ156
          refine s_zret (pc := 159) C (by omega) dX12_loopRead_159 ?_
          refine ⟨_, rfl, ?_⟩
          exact ⟨g156, f156, p156_TY, ⟨by omega, by omega, fun q => by exfalso; omega, fun j _ => y156_23 j⟩⟩
      · skip
        refine s_iconst (pc := 129) C dX12_loopRead_129 ?_
        refine s_zret (pc := 130) C (by omega) dX12_loopRead_130 ?_
        refine ⟨_, rfl, ?_⟩
        exact ⟨g123, f123, p123_TY, ⟨by omega, by omega, fun q => by exfalso; omega, fun j _ => y123_23 j⟩⟩
  · skip
    refine s_aload_n (pc := 6) C dX12_loopRead_6 0 rfl ?_
    refine s_geti (q := 0) (ci := 12) (N := 68) (CN := RX12) (T := TX12) (pc := 7) C 29 dX12_loopRead_7 wlX12_236 rfl rfl rfl wfX12 (by decide) rfl (σ 0 29) rfl ?_
    have b7 : (0 : Int) ≤ σ 0 29 ∧ σ 0 29 ≤ 5 := g0.1 0 29
    refine s_iconst (pc := 10) C dX12_loopRead_10 ?_
    refine s_icmp_eq (pc := 11) C (tgt := 20) dX12_loopRead_11 (by decide) ⟨by omega, by omega⟩ ⟨by decide, by decide⟩ (fun h11 => ?_) (fun h11 => ?_)
    · skip
      refine s_aload_n (pc := 20) C dX12_loopRead_20 0 rfl ?_
      refine s_aload_n (pc := 21) C dX12_loopRead_21 0 rfl ?_
      refine s_geti (q := 0) (ci := 12) (N := 68) (CN := RX12) (T := TX12) (pc := 22) C 30 dX12_loopRead_22 wlX12_245 rfl rfl rfl wfX12 (by decide) rfl (σ 0 30) rfl ?_
      have b22 : (-1 : Int) ≤ σ 0 30 ∧ σ 0 30 ≤ 10000 := g0.1 0 30
      refine s_callVi (pc := 25) C (c_X12_isAround l (σ 0 30) ⟨by omega, by omega⟩) [vI (σ 0 30)] [] rfl rfl dX12_loopRead_25 wlX12_269 wiX12_isAround weX12_isAround wcX12_isAround wnX12 noX12_isAround (by decide) (by decide) (Nat.le_of_ble_eq_true rfl) (gy_self g0) rfl rfl ?_
      rintro z25 _ ⟨rfl, k25⟩
      show hs_Wd _ _ _ _ _ _ _ _ _ _ _ _ _ _ _ _ _ 28 _ [vI z25] σ
      refine s_if_eq (pc := 28) C (tgt := 37) dX12_loopRead_28 (by decide) ⟨by omega, by omega⟩ (fun h28 => ?_) (fun h28 => ?_)
      · skip
        have h7 := p0_TY.2.2.1 (by omega)
        refine s_aload_n (pc := 37) C dX12_loopRead_37 0 rfl ?_
        refine s_getr (q := 0) (ci := 12) (N := 68) (CN := RX12) (T := TX12) (pc := 38) C 35 dX12_loopRead_38 wlX12_65 rfl rfl rfl wfX12 (by decide) rfl ?_
        refine s_iload_n (pc := 41) C dX12_loopRead_41 1 rfl ?_
        refine s_aload_n (pc := 42) C dX12_loopRead_42 0 rfl ?_
        refine s_geti (q := 0) (ci := 12) (N := 68) (CN := RX12) (T := TX12) (pc := 43) C 30 dX12_loopRead_43 wlX12_245 rfl rfl rfl wfX12 (by decide) rfl (σ 0 30) rfl ?_
        have b43 : (-1 : Int) ≤ σ 0 30 ∧ σ 0 30 ≤ 10000 := g0.1 0 30
        refine s_iast (q := 17) (n := 60) (pc := 46) C dX12_loopRead_46 rfl (by omega) (by omega) (by decide) ?_
        have g46 := gy_set (z := (σ 0 30)) g0 17 a.toNat rfl (-1) (7) rfl ⟨by omega, by omega⟩
        have f46 := frm_set (P := (PLr a.toNat)) (z := (σ 0 30)) f0 17 a.toNat (by simp [PLr] <;> omega)
        have p46_TY := TY_cg (frm_one (P := okTY) (z := (σ 0 30)) 17 a.toNat rfl) p0_TY
        refine s_aload_n (pc := 47) C dX12_loopRead_47 0 rfl ?_
        have r48_0_27 : (hs_ss σ 17 a.toNat (σ 0 30)) 0 27 = σ 0 27 := rfl
        have r48_0_28 : (hs_ss σ 17 a.toNat (σ 0 30)) 0 28 = σ 0 28 := rfl
        refine s_callVv (pc := 48) C (c_X12_take l) [] [] rfl rfl dX12_loopRead_48 wlX12_257 wiX12_take weX12_take wcX12_take wnX12 noX12_take (by decide) (by decide) (Nat.le_of_ble_eq_true rfl) ⟨(gy_self g46), by first | omega | assumption | (constructor <;> omega) | (refine ⟨⟨?_, ?_⟩, ?_⟩ <;> omega) | (simp [hs_ss, hs_up]; omega) | (simp [hs_ss, hs_up]; done)⟩ rfl rfl ?_
        rintro σ48 k48
        obtain ⟨kg48, kf48, k48⟩ := k48
        have g48 := gy_trans g46 kg48
        have f48 := frm_tr f46 (frm_mono (Q := (PLr a.toNat)) kf48 (fun c j h => by simp [PTa, PLr] at h ⊢ <;> omega))
        have x48_0_27 : σ48 0 27 = σ 0 27 := kf48 0 27 rfl
        have x48_0_32 : σ48 0 32 = σ 0 32 := kf48 0 32 rfl
        have x48_0_41 : σ48 0 41 = σ 0 41 := kf48 0 41 rfl
        have x48_16_atoNat : σ48 16 a.toNat = σ 16 a.toNat := by first | exact kf48 16 a.toNat rfl | (rw [kf48 16 a.toNat rfl]; simp [hs_ss, hs_up]; done)
        have x48_17_atoNat : σ48 17 a.toNat = σ 0 30 := by first | exact kf48 17 a.toNat rfl | (rw [kf48 17 a.toNat rfl]; simp [hs_ss, hs_up]; done)
        have y48_23 : ∀ j : Nat, σ48 23 j = σ 23 j := fun j => (kf48 23 j rfl).trans (y0_23 j)
        obtain ⟨kt48, k48⟩ := k48
        have ut48 := kt48.1
        show hs_Wd _ _ _ _ _ _ _ _ _ _ _ _ _ _ _ _ _ 51 _ [] σ48
        refine s_aload_n (pc := 51) C dX12_loopRead_51 0 rfl ?_
        refine s_callVi (pc := 52) C (c_X12_placeRead l) [] [] rfl rfl dX12_loopRead_52 wlX12_275 wiX12_placeRead weX12_placeRead wcX12_placeRead wnX12 noX12_placeRead (by decide) (by decide) (Nat.le_of_ble_eq_true rfl) ⟨(gy_self g48), kt48⟩ rfl rfl ?_
        rintro z52 σ52 k52
        obtain ⟨kg52, kf52, p52_TY, k52⟩ := k52
        have g52 := gy_trans g48 kg52
        have f52 := frm_tr f48 (frm_mono (Q := (PLr a.toNat)) kf52 (fun c j h => by simp [PPl, PLr] at h ⊢ <;> omega))
        have up52_TY := p52_TY.1
        have x52_0_27 : σ52 0 27 = σ48 0 27 := kf52 0 27 rfl
        have x52_0_32 : σ52 0 32 = σ48 0 32 := kf52 0 32 rfl
        have x52_0_41 : σ52 0 41 = σ48 0 41 := kf52 0 41 rfl
        have x52_16_atoNat : σ52 16 a.toNat = σ48 16 a.toNat := by first | exact kf52 16 a.toNat rfl | (rw [kf52 16 a.toNat rfl]; simp [hs_ss, hs_up]; done)
        have x52_17_atoNat : σ52 17 a.toNat = σ48 17 a.toNat := by first | exact kf52 17 a.toNat rfl | (rw [kf52 17 a.toNat rfl]; simp [hs_ss, hs_up]; done)
        have y52_23 : ∀ j : Nat, σ52 23 j = σ 23 j := fun j => (kf52 23 j rfl).trans (y48_23 j)
        show hs_Wd _ _ _ _ _ _ _ _ _ _ _ _ _ _ _ _ _ 55 _ [vI z52] σ52
        refine s_if_ne (pc := 55) C (tgt := 60) dX12_loopRead_55 (by decide) ⟨by omega, by omega⟩ (fun h55 => ?_) (fun h55 => ?_)
        · skip
          refine s_aload_n (pc := 60) C dX12_loopRead_60 0 rfl ?_
          refine s_getr (q := 0) (ci := 12) (N := 68) (CN := RX12) (T := TX12) (pc := 61) C 36 dX12_loopRead_61 wlX12_68 rfl rfl rfl wfX12 (by decide) rfl ?_
          refine s_iload_n (pc := 64) C dX12_loopRead_64 1 rfl ?_
          refine s_aload_n (pc := 65) C dX12_loopRead_65 0 rfl ?_
          refine s_geti (q := 0) (ci := 12) (N := 68) (CN := RX12) (T := TX12) (pc := 66) C 43 dX12_loopRead_66 wlX12_263 rfl rfl rfl wfX12 (by decide) rfl (σ52 0 43) rfl ?_
          have b66 : (-1 : Int) ≤ σ52 0 43 ∧ σ52 0 43 ≤ 7 := g52.1 0 43
          refine s_iast (q := 18) (n := 60) (pc := 69) C dX12_loopRead_69 rfl (by omega) (by omega) (by decide) ?_
          have g69 := gy_set (z := (σ52 0 43)) g52 18 a.toNat rfl (-1) (7) rfl ⟨by omega, by omega⟩
          have f69 := frm_set (P := (PLr a.toNat)) (z := (σ52 0 43)) f52 18 a.toNat (by simp [PLr] <;> omega)
          have p69_TY := TY_cg (frm_one (P := okTY) (z := (σ52 0 43)) 18 a.toNat rfl) p52_TY
          refine s_aload_n (pc := 70) C dX12_loopRead_70 0 rfl ?_
          refine s_getr (q := 0) (ci := 12) (N := 68) (CN := RX12) (T := TX12) (pc := 71) C 37 dX12_loopRead_71 wlX12_71 rfl rfl rfl wfX12 (by decide) rfl ?_
          refine s_iload_n (pc := 74) C dX12_loopRead_74 1 rfl ?_
          refine s_aload_n (pc := 75) C dX12_loopRead_75 0 rfl ?_
          refine s_geti (q := 0) (ci := 12) (N := 68) (CN := RX12) (T := TX12) (pc := 76) C 44 dX12_loopRead_76 wlX12_266 rfl rfl rfl wfX12 (by decide) rfl (σ52 0 44) rfl ?_
          have b76 : (-999 : Int) ≤ σ52 0 44 ∧ σ52 0 44 ≤ 999 := g69.1 0 44
          refine s_iast (q := 19) (n := 60) (pc := 79) C dX12_loopRead_79 rfl (by omega) (by omega) (by decide) ?_
          have g79 := gy_set (z := (σ52 0 44)) g69 19 a.toNat rfl (-999) (999) rfl ⟨by omega, by omega⟩
          have f79 := frm_set (P := (PLr a.toNat)) (z := (σ52 0 44)) f69 19 a.toNat (by simp [PLr] <;> omega)
          have p79_TY := TY_cg (frm_one (P := okTY) (z := (σ52 0 44)) 19 a.toNat rfl) p69_TY
          refine s_aload_n (pc := 80) C dX12_loopRead_80 0 rfl ?_
          have r81_0_31 : (hs_ss (hs_ss σ52 18 a.toNat (σ52 0 43)) 19 a.toNat (σ52 0 44)) 0 31 = σ52 0 31 := rfl
          refine s_callVi (pc := 81) C (c_X12_placeRead l) [] [] rfl rfl dX12_loopRead_81 wlX12_275 wiX12_placeRead weX12_placeRead wcX12_placeRead wnX12 noX12_placeRead (by decide) (by decide) (Nat.le_of_ble_eq_true rfl) ⟨(gy_self g79), p79_TY⟩ rfl rfl ?_
          rintro z81 σ81 k81
          obtain ⟨kg81, kf81, p81_TY, k81⟩ := k81
          have g81 := gy_trans g79 kg81
          have f81 := frm_tr f79 (frm_mono (Q := (PLr a.toNat)) kf81 (fun c j h => by simp [PPl, PLr] at h ⊢ <;> omega))
          have up81_TY := p81_TY.1
          have x81_0_27 : σ81 0 27 = σ52 0 27 := kf81 0 27 rfl
          have x81_0_32 : σ81 0 32 = σ52 0 32 := kf81 0 32 rfl
          have x81_0_41 : σ81 0 41 = σ52 0 41 := kf81 0 41 rfl
          have x81_16_atoNat : σ81 16 a.toNat = σ52 16 a.toNat := by first | exact kf81 16 a.toNat rfl | (rw [kf81 16 a.toNat rfl]; simp [hs_ss, hs_up]; done)
          have x81_17_atoNat : σ81 17 a.toNat = σ52 17 a.toNat := by first | exact kf81 17 a.toNat rfl | (rw [kf81 17 a.toNat rfl]; simp [hs_ss, hs_up]; done)
          have y81_23 : ∀ j : Nat, σ81 23 j = σ 23 j := fun j => (kf81 23 j rfl).trans (y52_23 j)
          show hs_Wd _ _ _ _ _ _ _ _ _ _ _ _ _ _ _ _ _ 84 _ [vI z81] σ81
          refine s_if_ne (pc := 84) C (tgt := 89) dX12_loopRead_84 (by decide) ⟨by omega, by omega⟩ (fun h84 => ?_) (fun h84 => ?_)
          · skip
            refine s_aload_n (pc := 89) C dX12_loopRead_89 0 rfl ?_
            refine s_getr (q := 0) (ci := 12) (N := 68) (CN := RX12) (T := TX12) (pc := 90) C 38 dX12_loopRead_90 wlX12_74 rfl rfl rfl wfX12 (by decide) rfl ?_
            refine s_iload_n (pc := 93) C dX12_loopRead_93 1 rfl ?_
            refine s_aload_n (pc := 94) C dX12_loopRead_94 0 rfl ?_
            refine s_geti (q := 0) (ci := 12) (N := 68) (CN := RX12) (T := TX12) (pc := 95) C 43 dX12_loopRead_95 wlX12_263 rfl rfl rfl wfX12 (by decide) rfl (σ81 0 43) rfl ?_
            have b95 : (-1 : Int) ≤ σ81 0 43 ∧ σ81 0 43 ≤ 7 := g81.1 0 43
            refine s_iast (q := 20) (n := 60) (pc := 98) C dX12_loopRead_98 rfl (by omega) (by omega) (by decide) ?_
            have g98 := gy_set (z := (σ81 0 43)) g81 20 a.toNat rfl (-1) (7) rfl ⟨by omega, by omega⟩
            have f98 := frm_set (P := (PLr a.toNat)) (z := (σ81 0 43)) f81 20 a.toNat (by simp [PLr] <;> omega)
            have p98_TY := TY_cg (frm_one (P := okTY) (z := (σ81 0 43)) 20 a.toNat rfl) p81_TY
            refine s_aload_n (pc := 99) C dX12_loopRead_99 0 rfl ?_
            refine s_getr (q := 0) (ci := 12) (N := 68) (CN := RX12) (T := TX12) (pc := 100) C 39 dX12_loopRead_100 wlX12_77 rfl rfl rfl wfX12 (by decide) rfl ?_
            refine s_iload_n (pc := 103) C dX12_loopRead_103 1 rfl ?_
            refine s_aload_n (pc := 104) C dX12_loopRead_104 0 rfl ?_
            refine s_geti (q := 0) (ci := 12) (N := 68) (CN := RX12) (T := TX12) (pc := 105) C 44 dX12_loopRead_105 wlX12_266 rfl rfl rfl wfX12 (by decide) rfl (σ81 0 44) rfl ?_
            have b105 : (-999 : Int) ≤ σ81 0 44 ∧ σ81 0 44 ≤ 999 := g98.1 0 44
            refine s_iast (q := 21) (n := 60) (pc := 108) C dX12_loopRead_108 rfl (by omega) (by omega) (by decide) ?_
            have g108 := gy_set (z := (σ81 0 44)) g98 21 a.toNat rfl (-999) (999) rfl ⟨by omega, by omega⟩
            have f108 := frm_set (P := (PLr a.toNat)) (z := (σ81 0 44)) f98 21 a.toNat (by simp [PLr] <;> omega)
            have p108_TY := TY_cg (frm_one (P := okTY) (z := (σ81 0 44)) 21 a.toNat rfl) p98_TY
            refine s_aload_n (pc := 109) C dX12_loopRead_109 0 rfl ?_
            refine s_iload_n (pc := 110) C dX12_loopRead_110 2 rfl ?_
            refine s_bipush (pc := 111) C dX12_loopRead_111 (by decide) ?_
            refine s_icmp_ne (pc := 113) C (tgt := 120) dX12_loopRead_113 (by decide) ⟨by omega, by omega⟩ ⟨by decide, by decide⟩ (fun h113 => ?_) (fun h113 => ?_)
            · skip
              refine s_iconst (pc := 120) C dX12_loopRead_120 ?_
              refine s_bipush (pc := 121) C dX12_loopRead_121 (by decide) ?_
              have r123_0_30 : (hs_ss (hs_ss σ81 20 a.toNat (σ81 0 43)) 21 a.toNat (σ81 0 44)) 0 30 = σ81 0 30 := rfl
              refine s_callVi (pc := 123) C (c_X12_numberRead l 0 99 (by first | omega | assumption | (constructor <;> omega) | (refine ⟨⟨?_, ?_⟩, ?_⟩ <;> omega) | (simp [hs_ss, hs_up]; omega) | (simp [hs_ss, hs_up]; done))) [vI 0, vI 99] [] rfl rfl dX12_loopRead_123 wlX12_272 wiX12_numberRead weX12_numberRead wcX12_numberRead wnX12 noX12_numberRead (by decide) (by decide) (Nat.le_of_ble_eq_true rfl) (gy_self g108) rfl rfl ?_
              rintro z123 σ123 k123
              obtain ⟨kg123, kf123, k123⟩ := k123
              have g123 := gy_trans g108 kg123
              have f123 := frm_tr f108 (frm_mono (Q := (PLr a.toNat)) kf123 (fun c j h => by simp [PWr, PLr] at h ⊢ <;> omega))
              have p123_TY := TY_cg (frm_mono (Q := okTY) kf123 (fun c j h => by simp [PWr, okTY] at h ⊢ <;> omega)) p108_TY
              have up123_TY := p123_TY.1
              have x123_0_27 : σ123 0 27 = σ81 0 27 := kf123 0 27 rfl
              have x123_0_28 : σ123 0 28 = σ81 0 28 := kf123 0 28 rfl
              have x123_0_29 : σ123 0 29 = σ81 0 29 := kf123 0 29 rfl
              have x123_0_30 : σ123 0 30 = σ81 0 30 := kf123 0 30 rfl
              have x123_0_31 : σ123 0 31 = σ81 0 31 := kf123 0 31 rfl
              have x123_0_32 : σ123 0 32 = σ81 0 32 := kf123 0 32 rfl
              have x123_0_41 : σ123 0 41 = σ81 0 41 := kf123 0 41 rfl
              have x123_16_atoNat : σ123 16 a.toNat = σ81 16 a.toNat := by first | exact kf123 16 a.toNat rfl | (rw [kf123 16 a.toNat rfl]; simp [hs_ss, hs_up]; done)
              have x123_17_atoNat : σ123 17 a.toNat = σ81 17 a.toNat := by first | exact kf123 17 a.toNat rfl | (rw [kf123 17 a.toNat rfl]; simp [hs_ss, hs_up]; done)
              have y123_23 : ∀ j : Nat, σ123 23 j = σ 23 j := fun j => (kf123 23 j rfl).trans (y81_23 j)
              show hs_Wd _ _ _ _ _ _ _ _ _ _ _ _ _ _ _ _ _ 126 _ [vI z123] σ123
              refine s_if_ne (pc := 126) C (tgt := 131) dX12_loopRead_126 (by decide) ⟨by omega, by omega⟩ (fun h126 => ?_) (fun h126 => ?_)
              · skip
                refine s_aload_n (pc := 131) C dX12_loopRead_131 0 rfl ?_
                refine s_getr (q := 0) (ci := 12) (N := 68) (CN := RX12) (T := TX12) (pc := 132) C 34 dX12_loopRead_132 wlX12_62 rfl rfl rfl wfX12 (by decide) rfl ?_
                refine s_iload_n (pc := 135) C dX12_loopRead_135 1 rfl ?_
                refine s_aload_n (pc := 136) C dX12_loopRead_136 0 rfl ?_
                refine s_geti (q := 0) (ci := 12) (N := 68) (CN := RX12) (T := TX12) (pc := 137) C 30 dX12_loopRead_137 wlX12_245 rfl rfl rfl wfX12 (by decide) rfl (σ123 0 30) rfl ?_
                have b137 : (-1 : Int) ≤ σ123 0 30 ∧ σ123 0 30 ≤ 10000 := g123.1 0 30
                refine s_iast (q := 16) (n := 60) (pc := 140) C dX12_loopRead_140 rfl (by omega) (by omega) (by decide) ?_
                have g140 := gy_set (z := (σ123 0 30)) g123 16 a.toNat rfl (0) (99) rfl ⟨by omega, by omega⟩
                have f140 := frm_set (P := (PLr a.toNat)) (z := (σ123 0 30)) f123 16 a.toNat (by simp [PLr] <;> omega)
                have p140_TY := TY_cg (frm_one (P := okTY) (z := (σ123 0 30)) 16 a.toNat rfl) p123_TY
                refine s_aload_n (pc := 141) C dX12_loopRead_141 0 rfl ?_
                have r142_0_27 : (hs_ss σ123 16 a.toNat (σ123 0 30)) 0 27 = σ123 0 27 := rfl
                have r142_0_28 : (hs_ss σ123 16 a.toNat (σ123 0 30)) 0 28 = σ123 0 28 := rfl
                refine s_callVv (pc := 142) C (c_X12_take l) [] [] rfl rfl dX12_loopRead_142 wlX12_257 wiX12_take weX12_take wcX12_take wnX12 noX12_take (by decide) (by decide) (Nat.le_of_ble_eq_true rfl) ⟨(gy_self g140), by first | omega | assumption | (constructor <;> omega) | (refine ⟨⟨?_, ?_⟩, ?_⟩ <;> omega) | (simp [hs_ss, hs_up]; omega) | (simp [hs_ss, hs_up]; done)⟩ rfl rfl ?_
                rintro σ142 k142
                obtain ⟨kg142, kf142, k142⟩ := k142
                have g142 := gy_trans g140 kg142
                have f142 := frm_tr f140 (frm_mono (Q := (PLr a.toNat)) kf142 (fun c j h => by simp [PTa, PLr] at h ⊢ <;> omega))
                have x142_0_27 : σ142 0 27 = σ123 0 27 := kf142 0 27 rfl
                have x142_0_32 : σ142 0 32 = σ123 0 32 := kf142 0 32 rfl
                have x142_0_41 : σ142 0 41 = σ123 0 41 := kf142 0 41 rfl
                have x142_16_atoNat : σ142 16 a.toNat = σ123 0 30 := by first | exact kf142 16 a.toNat rfl | (rw [kf142 16 a.toNat rfl]; simp [hs_ss, hs_up]; done)
                have x142_17_atoNat : σ142 17 a.toNat = σ123 17 a.toNat := by first | exact kf142 17 a.toNat rfl | (rw [kf142 17 a.toNat rfl]; simp [hs_ss, hs_up]; done)
                have y142_23 : ∀ j : Nat, σ142 23 j = σ 23 j := fun j => (kf142 23 j rfl).trans (y123_23 j)
                obtain ⟨kt142, k142⟩ := k142
                have ut142 := kt142.1
                show hs_Wd _ _ _ _ _ _ _ _ _ _ _ _ _ _ _ _ _ 145 _ [] σ142
                refine s_aload_n (pc := 145) C dX12_loopRead_145 0 rfl ?_
                refine s_bipush (pc := 146) C dX12_loopRead_146 (by decide) ?_
                refine s_callVi (pc := 148) C (c_X12_isSign l 40 ⟨by omega, by omega⟩) [vI 40] [] rfl rfl dX12_loopRead_148 wlX12_251 wiX12_isSign weX12_isSign wcX12_isSign wnX12 noX12_isSign (by decide) (by decide) (Nat.le_of_ble_eq_true rfl) (gy_self g142) rfl rfl ?_
                rintro z148 _ ⟨rfl, k148⟩
                show hs_Wd _ _ _ _ _ _ _ _ _ _ _ _ _ _ _ _ _ 151 _ [vI z148] σ142
                refine s_if_ne (pc := 151) C (tgt := 160) dX12_loopRead_151 (by decide) ⟨by omega, by omega⟩ (fun h151 => ?_) (fun h151 => ?_)
                · skip
                  refine s_aload_n (pc := 160) C dX12_loopRead_160 0 rfl ?_
                  refine s_geti (q := 0) (ci := 12) (N := 68) (CN := RX12) (T := TX12) (pc := 161) C 41 dX12_loopRead_161 wlX12_260 rfl rfl rfl wfX12 (by decide) rfl (σ142 0 41) rfl ?_
                  have b161 : (0 : Int) ≤ σ142 0 41 ∧ σ142 0 41 ≤ 5 := g142.1 0 41
                  refine s_iconst (pc := 164) C dX12_loopRead_164 ?_
                  refine s_icmp_ne (pc := 165) C (tgt := 174) dX12_loopRead_165 (by decide) ⟨by omega, by omega⟩ ⟨by decide, by decide⟩ (fun h165 => ?_) (fun h165 => ?_)
                  · skip
                    have e41 : σ142 0 41 = σ 0 41 := by omega
                    refine s_aload_n (pc := 174) C dX12_loopRead_174 0 rfl ?_
                    refine s_getr (q := 0) (ci := 12) (N := 68) (CN := RX12) (T := TX12) (pc := 175) C 42 dX12_loopRead_175 wlX12_83 rfl rfl rfl wfX12 (by decide) rfl ?_
                    refine s_aload_n (pc := 178) C dX12_loopRead_178 0 rfl ?_
                    refine s_geti (q := 0) (ci := 12) (N := 68) (CN := RX12) (T := TX12) (pc := 179) C 41 dX12_loopRead_179 wlX12_260 rfl rfl rfl wfX12 (by decide) rfl (σ142 0 41) rfl ?_
                    have b179 : (0 : Int) ≤ σ142 0 41 ∧ σ142 0 41 ≤ 5 := g142.1 0 41
                    refine s_iload_n (pc := 182) C dX12_loopRead_182 1 rfl ?_
                    refine s_iast (q := 23) (n := 5) (pc := 183) C dX12_loopRead_183 rfl (by omega) (by omega) (by decide) ?_
                    have g183 := gy_set (z := a) g142 23 ((σ142 0 41).toNat) rfl (0) (59) rfl ⟨by omega, by omega⟩
                    have f183 := frm_set (P := (PLr a.toNat)) (z := a) f142 23 ((σ142 0 41).toNat) (by simp [PLr] <;> omega)
                    have p183_TY := TY_cg (frm_one (P := okTY) (z := a) 23 ((σ142 0 41).toNat) rfl) kt142
                    refine s_aload_n (pc := 184) C dX12_loopRead_184 0 rfl ?_
                    refine s_dup (pc := 185) C dX12_loopRead_185 rfl ?_
                    refine s_geti (q := 0) (ci := 12) (N := 68) (CN := RX12) (T := TX12) (pc := 186) C 41 dX12_loopRead_186 wlX12_260 rfl rfl rfl wfX12 (by decide) rfl (σ142 0 41) rfl ?_
                    have b186 : (0 : Int) ≤ σ142 0 41 ∧ σ142 0 41 ≤ 5 := g183.1 0 41
                    refine s_iconst (pc := 189) C dX12_loopRead_189 ?_
                    refine s_iadd (pc := 190) C dX12_loopRead_190 ?_
                    refine s_puti (q := 0) (ci := 12) (N := 68) (CN := RX12) (T := TX12) (ty0 := tyX12) (ty := .int) (pc := 191) C 41 dX12_loopRead_191 wlX12_260 rfl rfl rfl wfX12 tyX12_ok nmX12 (by decide) rfl rfl rfl (vp_nar_int _) rfl ?_
                    have g191 := gy_set (z := ((σ142 0 41) + 1)) g183 0 41 rfl (0) (5) rfl ⟨by omega, by omega⟩
                    have f191 := frm_set (P := (PLr a.toNat)) (z := ((σ142 0 41) + 1)) f183 0 41 (by simp [PLr] <;> omega)
                    have p191_TY := TY_cg (frm_one (P := okTY) (z := ((σ142 0 41) + 1)) 0 41 rfl) p183_TY
                    refine s_aload_n (pc := 194) C dX12_loopRead_194 0 rfl ?_
                    have r195_0_27 : (hs_ss (hs_ss σ142 23 ((σ142 0 41).toNat) a) 0 41 ((σ142 0 41) + 1)) 0 27 = σ142 0 27 := rfl
                    have r195_0_28 : (hs_ss (hs_ss σ142 23 ((σ142 0 41).toNat) a) 0 41 ((σ142 0 41) + 1)) 0 28 = σ142 0 28 := rfl
                    refine s_callVv (pc := 195) C (c_X12_take l) [] [] rfl rfl dX12_loopRead_195 wlX12_257 wiX12_take weX12_take wcX12_take wnX12 noX12_take (by decide) (by decide) (Nat.le_of_ble_eq_true rfl) ⟨(gy_self g191), by first | omega | assumption | (constructor <;> omega) | (refine ⟨⟨?_, ?_⟩, ?_⟩ <;> omega) | (simp [hs_ss, hs_up]; omega) | (simp [hs_ss, hs_up]; done)⟩ rfl rfl ?_
                    rintro σ195 k195
                    obtain ⟨kg195, kf195, k195⟩ := k195
                    have g195 := gy_trans g191 kg195
                    have f195 := frm_tr f191 (frm_mono (Q := (PLr a.toNat)) kf195 (fun c j h => by simp [PTa, PLr] at h ⊢ <;> omega))
                    have x195_0_27 : σ195 0 27 = σ142 0 27 := kf195 0 27 rfl
                    have x195_0_32 : σ195 0 32 = σ142 0 32 := kf195 0 32 rfl
                    have x195_0_41 : σ195 0 41 = (σ142 0 41) + 1 := kf195 0 41 rfl
                    have x195_16_atoNat : σ195 16 a.toNat = σ142 16 a.toNat := by first | exact kf195 16 a.toNat rfl | (rw [kf195 16 a.toNat rfl]; simp [hs_ss, hs_up]; done)
                    have x195_17_atoNat : σ195 17 a.toNat = σ142 17 a.toNat := by first | exact kf195 17 a.toNat rfl | (rw [kf195 17 a.toNat rfl]; simp [hs_ss, hs_up]; done)
                    obtain ⟨kt195, k195⟩ := k195
                    have ut195 := kt195.1
                    have y195 : ∀ j : Nat, j ≠ (σ 0 41).toNat → σ195 23 j = σ 23 j := fun j hj => by rw [kf195 23 j rfl]; simp [hs_ss, hs_up, e41, hj]; exact y142_23 j
                    have x195 : σ195 23 (σ 0 41).toNat = a := by rw [kf195 23 _ rfl]; simp [hs_ss, hs_up, e41]
                    show hs_Wd _ _ _ _ _ _ _ _ _ _ _ _ _ _ _ _ _ 198 _ [] σ195
                    refine s_iconst (pc := 198) C dX12_loopRead_198 ?_
                    refine s_zret (pc := 199) C (by omega) dX12_loopRead_199 ?_
                    refine ⟨_, rfl, ?_⟩
                    exact ⟨g195, f195, kt195, ⟨by omega, by omega, fun _ => ⟨by omega, by omega, x195, fun h6 => by first | (exfalso; omega) | omega⟩, y195⟩⟩
                  · skip
                    refine s_aload_n (pc := 168) C dX12_loopRead_168 0 rfl ?_
                    refine s_iconst (pc := 169) C dX12_loopRead_169 ?_
                    refine s_callVi (pc := 170) C (c_X12_wrong l 2 (by first | omega | assumption | (constructor <;> omega) | (refine ⟨⟨?_, ?_⟩, ?_⟩ <;> omega) | (simp [hs_ss, hs_up]; omega) | (simp [hs_ss, hs_up]; done))) [vI 2] [] rfl rfl dX12_loopRead_170 wlX12_254 wiX12_wrong weX12_wrong wcX12_wrong wnX12 noX12_wrong (by decide) (by decide) (Nat.le_of_ble_eq_true rfl) (gy_self g142) rfl rfl ?_
                    rintro z170 σ170 k170
                    obtain ⟨kg170, kf170, k170⟩ := k170
                    have g170 := gy_trans g142 kg170
                    have f170 := frm_tr f142 (frm_mono (Q := (PLr a.toNat)) kf170 (fun c j h => by simp [PWr, PLr] at h ⊢ <;> omega))
                    have p170_TY := TY_cg (frm_mono (Q := okTY) kf170 (fun c j h => by simp [PWr, okTY] at h ⊢ <;> omega)) kt142
                    have up170_TY := p170_TY.1
                    have x170_0_27 : σ170 0 27 = σ142 0 27 := kf170 0 27 rfl
                    have x170_0_28 : σ170 0 28 = σ142 0 28 := kf170 0 28 rfl
                    have x170_0_29 : σ170 0 29 = σ142 0 29 := kf170 0 29 rfl
                    have x170_0_30 : σ170 0 30 = σ142 0 30 := kf170 0 30 rfl
                    have x170_0_31 : σ170 0 31 = σ142 0 31 := kf170 0 31 rfl
                    have x170_0_32 : σ170 0 32 = σ142 0 32 := kf170 0 32 rfl
                    have x170_0_41 : σ170 0 41 = σ142 0 41 := kf170 0 41 rfl
                    have x170_16_atoNat : σ170 16 a.toNat = σ142 16 a.toNat := by first | exact kf170 16 a.toNat rfl | (rw [kf170 16 a.toNat rfl]; simp [hs_ss, hs_up]; done)
                    have x170_17_atoNat : σ170 17 a.toNat = σ142 17 a.toNat := by first | exact kf170 17 a.toNat rfl | (rw [kf170 17 a.toNat rfl]; simp [hs_ss, hs_up]; done)
                    have y170_23 : ∀ j : Nat, σ170 23 j = σ 23 j := fun j => (kf170 23 j rfl).trans (y142_23 j)
                    show hs_Wd _ _ _ _ _ _ _ _ _ _ _ _ _ _ _ _ _ 173 _ [vI z170] σ170
                    refine s_zret (pc := 173) C (by omega) dX12_loopRead_173 ?_
                    refine ⟨_, rfl, ?_⟩
                    exact ⟨g170, f170, p170_TY, ⟨by omega, by omega, fun q => by exfalso; omega, fun j _ => y170_23 j⟩⟩
                · skip
                  refine s_aload_n (pc := 154) C dX12_loopRead_154 0 rfl ?_
                  refine s_iconst (pc := 155) C dX12_loopRead_155 ?_
                  refine s_callVi (pc := 156) C (c_X12_wrong l 1 (by first | omega | assumption | (constructor <;> omega) | (refine ⟨⟨?_, ?_⟩, ?_⟩ <;> omega) | (simp [hs_ss, hs_up]; omega) | (simp [hs_ss, hs_up]; done))) [vI 1] [] rfl rfl dX12_loopRead_156 wlX12_254 wiX12_wrong weX12_wrong wcX12_wrong wnX12 noX12_wrong (by decide) (by decide) (Nat.le_of_ble_eq_true rfl) (gy_self g142) rfl rfl ?_
                  rintro z156 σ156 k156
                  obtain ⟨kg156, kf156, k156⟩ := k156
                  have g156 := gy_trans g142 kg156
                  have f156 := frm_tr f142 (frm_mono (Q := (PLr a.toNat)) kf156 (fun c j h => by simp [PWr, PLr] at h ⊢ <;> omega))
                  have p156_TY := TY_cg (frm_mono (Q := okTY) kf156 (fun c j h => by simp [PWr, okTY] at h ⊢ <;> omega)) kt142
                  have up156_TY := p156_TY.1
                  have x156_0_27 : σ156 0 27 = σ142 0 27 := kf156 0 27 rfl
                  have x156_0_28 : σ156 0 28 = σ142 0 28 := kf156 0 28 rfl
                  have x156_0_29 : σ156 0 29 = σ142 0 29 := kf156 0 29 rfl
                  have x156_0_30 : σ156 0 30 = σ142 0 30 := kf156 0 30 rfl
                  have x156_0_31 : σ156 0 31 = σ142 0 31 := kf156 0 31 rfl
                  have x156_0_32 : σ156 0 32 = σ142 0 32 := kf156 0 32 rfl
                  have x156_0_41 : σ156 0 41 = σ142 0 41 := kf156 0 41 rfl
                  have x156_16_atoNat : σ156 16 a.toNat = σ142 16 a.toNat := by first | exact kf156 16 a.toNat rfl | (rw [kf156 16 a.toNat rfl]; simp [hs_ss, hs_up]; done)
                  have x156_17_atoNat : σ156 17 a.toNat = σ142 17 a.toNat := by first | exact kf156 17 a.toNat rfl | (rw [kf156 17 a.toNat rfl]; simp [hs_ss, hs_up]; done)
                  have y156_23 : ∀ j : Nat, σ156 23 j = σ 23 j := fun j => (kf156 23 j rfl).trans (y142_23 j)
                  show hs_Wd _ _ _ _ _ _ _ _ _ _ _ _ _ _ _ _ _ 159 _ [vI z156] σ156
                  refine s_zret (pc := 159) C (by omega) dX12_loopRead_159 ?_
                  refine ⟨_, rfl, ?_⟩
                  exact ⟨g156, f156, p156_TY, ⟨by omega, by omega, fun q => by exfalso; omega, fun j _ => y156_23 j⟩⟩
              · skip
                refine s_iconst (pc := 129) C dX12_loopRead_129 ?_
                refine s_zret (pc := 130) C (by omega) dX12_loopRead_130 ?_
                refine ⟨_, rfl, ?_⟩
                exact ⟨g123, f123, p123_TY, ⟨by omega, by omega, fun q => by exfalso; omega, fun j _ => y123_23 j⟩⟩
            · skip
              refine s_iconst (pc := 116) C dX12_loopRead_116 ?_
              refine s_goto (pc := 117) C (tgt := 121) dX12_loopRead_117 (by decide) ?_
              refine s_bipush (pc := 121) C dX12_loopRead_121 (by decide) ?_
              have r123_0_30 : (hs_ss (hs_ss σ81 20 a.toNat (σ81 0 43)) 21 a.toNat (σ81 0 44)) 0 30 = σ81 0 30 := rfl
              refine s_callVi (pc := 123) C (c_X12_numberRead l 1 99 (by first | omega | assumption | (constructor <;> omega) | (refine ⟨⟨?_, ?_⟩, ?_⟩ <;> omega) | (simp [hs_ss, hs_up]; omega) | (simp [hs_ss, hs_up]; done))) [vI 1, vI 99] [] rfl rfl dX12_loopRead_123 wlX12_272 wiX12_numberRead weX12_numberRead wcX12_numberRead wnX12 noX12_numberRead (by decide) (by decide) (Nat.le_of_ble_eq_true rfl) (gy_self g108) rfl rfl ?_
              rintro z123 σ123 k123
              obtain ⟨kg123, kf123, k123⟩ := k123
              have g123 := gy_trans g108 kg123
              have f123 := frm_tr f108 (frm_mono (Q := (PLr a.toNat)) kf123 (fun c j h => by simp [PWr, PLr] at h ⊢ <;> omega))
              have p123_TY := TY_cg (frm_mono (Q := okTY) kf123 (fun c j h => by simp [PWr, okTY] at h ⊢ <;> omega)) p108_TY
              have up123_TY := p123_TY.1
              have x123_0_27 : σ123 0 27 = σ81 0 27 := kf123 0 27 rfl
              have x123_0_28 : σ123 0 28 = σ81 0 28 := kf123 0 28 rfl
              have x123_0_29 : σ123 0 29 = σ81 0 29 := kf123 0 29 rfl
              have x123_0_30 : σ123 0 30 = σ81 0 30 := kf123 0 30 rfl
              have x123_0_31 : σ123 0 31 = σ81 0 31 := kf123 0 31 rfl
              have x123_0_32 : σ123 0 32 = σ81 0 32 := kf123 0 32 rfl
              have x123_0_41 : σ123 0 41 = σ81 0 41 := kf123 0 41 rfl
              have x123_16_atoNat : σ123 16 a.toNat = σ81 16 a.toNat := by first | exact kf123 16 a.toNat rfl | (rw [kf123 16 a.toNat rfl]; simp [hs_ss, hs_up]; done)
              have x123_17_atoNat : σ123 17 a.toNat = σ81 17 a.toNat := by first | exact kf123 17 a.toNat rfl | (rw [kf123 17 a.toNat rfl]; simp [hs_ss, hs_up]; done)
              have y123_23 : ∀ j : Nat, σ123 23 j = σ 23 j := fun j => (kf123 23 j rfl).trans (y81_23 j)
              show hs_Wd _ _ _ _ _ _ _ _ _ _ _ _ _ _ _ _ _ 126 _ [vI z123] σ123
              refine s_if_ne (pc := 126) C (tgt := 131) dX12_loopRead_126 (by decide) ⟨by omega, by omega⟩ (fun h126 => ?_) (fun h126 => ?_)
              · skip
                refine s_aload_n (pc := 131) C dX12_loopRead_131 0 rfl ?_
                refine s_getr (q := 0) (ci := 12) (N := 68) (CN := RX12) (T := TX12) (pc := 132) C 34 dX12_loopRead_132 wlX12_62 rfl rfl rfl wfX12 (by decide) rfl ?_
                refine s_iload_n (pc := 135) C dX12_loopRead_135 1 rfl ?_
                refine s_aload_n (pc := 136) C dX12_loopRead_136 0 rfl ?_
                refine s_geti (q := 0) (ci := 12) (N := 68) (CN := RX12) (T := TX12) (pc := 137) C 30 dX12_loopRead_137 wlX12_245 rfl rfl rfl wfX12 (by decide) rfl (σ123 0 30) rfl ?_
                have b137 : (-1 : Int) ≤ σ123 0 30 ∧ σ123 0 30 ≤ 10000 := g123.1 0 30
                refine s_iast (q := 16) (n := 60) (pc := 140) C dX12_loopRead_140 rfl (by omega) (by omega) (by decide) ?_
                have g140 := gy_set (z := (σ123 0 30)) g123 16 a.toNat rfl (0) (99) rfl ⟨by omega, by omega⟩
                have f140 := frm_set (P := (PLr a.toNat)) (z := (σ123 0 30)) f123 16 a.toNat (by simp [PLr] <;> omega)
                have p140_TY := TY_cg (frm_one (P := okTY) (z := (σ123 0 30)) 16 a.toNat rfl) p123_TY
                refine s_aload_n (pc := 141) C dX12_loopRead_141 0 rfl ?_
                have r142_0_27 : (hs_ss σ123 16 a.toNat (σ123 0 30)) 0 27 = σ123 0 27 := rfl
                have r142_0_28 : (hs_ss σ123 16 a.toNat (σ123 0 30)) 0 28 = σ123 0 28 := rfl
                refine s_callVv (pc := 142) C (c_X12_take l) [] [] rfl rfl dX12_loopRead_142 wlX12_257 wiX12_take weX12_take wcX12_take wnX12 noX12_take (by decide) (by decide) (Nat.le_of_ble_eq_true rfl) ⟨(gy_self g140), by first | omega | assumption | (constructor <;> omega) | (refine ⟨⟨?_, ?_⟩, ?_⟩ <;> omega) | (simp [hs_ss, hs_up]; omega) | (simp [hs_ss, hs_up]; done)⟩ rfl rfl ?_
                rintro σ142 k142
                obtain ⟨kg142, kf142, k142⟩ := k142
                have g142 := gy_trans g140 kg142
                have f142 := frm_tr f140 (frm_mono (Q := (PLr a.toNat)) kf142 (fun c j h => by simp [PTa, PLr] at h ⊢ <;> omega))
                have x142_0_27 : σ142 0 27 = σ123 0 27 := kf142 0 27 rfl
                have x142_0_32 : σ142 0 32 = σ123 0 32 := kf142 0 32 rfl
                have x142_0_41 : σ142 0 41 = σ123 0 41 := kf142 0 41 rfl
                have x142_16_atoNat : σ142 16 a.toNat = σ123 0 30 := by first | exact kf142 16 a.toNat rfl | (rw [kf142 16 a.toNat rfl]; simp [hs_ss, hs_up]; done)
                have x142_17_atoNat : σ142 17 a.toNat = σ123 17 a.toNat := by first | exact kf142 17 a.toNat rfl | (rw [kf142 17 a.toNat rfl]; simp [hs_ss, hs_up]; done)
                have y142_23 : ∀ j : Nat, σ142 23 j = σ 23 j := fun j => (kf142 23 j rfl).trans (y123_23 j)
                obtain ⟨kt142, k142⟩ := k142
                have ut142 := kt142.1
                show hs_Wd _ _ _ _ _ _ _ _ _ _ _ _ _ _ _ _ _ 145 _ [] σ142
                refine s_aload_n (pc := 145) C dX12_loopRead_145 0 rfl ?_
                refine s_bipush (pc := 146) C dX12_loopRead_146 (by decide) ?_
                refine s_callVi (pc := 148) C (c_X12_isSign l 40 ⟨by omega, by omega⟩) [vI 40] [] rfl rfl dX12_loopRead_148 wlX12_251 wiX12_isSign weX12_isSign wcX12_isSign wnX12 noX12_isSign (by decide) (by decide) (Nat.le_of_ble_eq_true rfl) (gy_self g142) rfl rfl ?_
                rintro z148 _ ⟨rfl, k148⟩
                show hs_Wd _ _ _ _ _ _ _ _ _ _ _ _ _ _ _ _ _ 151 _ [vI z148] σ142
                refine s_if_ne (pc := 151) C (tgt := 160) dX12_loopRead_151 (by decide) ⟨by omega, by omega⟩ (fun h151 => ?_) (fun h151 => ?_)
                · skip
                  refine s_aload_n (pc := 160) C dX12_loopRead_160 0 rfl ?_
                  refine s_geti (q := 0) (ci := 12) (N := 68) (CN := RX12) (T := TX12) (pc := 161) C 41 dX12_loopRead_161 wlX12_260 rfl rfl rfl wfX12 (by decide) rfl (σ142 0 41) rfl ?_
                  have b161 : (0 : Int) ≤ σ142 0 41 ∧ σ142 0 41 ≤ 5 := g142.1 0 41
                  refine s_iconst (pc := 164) C dX12_loopRead_164 ?_
                  refine s_icmp_ne (pc := 165) C (tgt := 174) dX12_loopRead_165 (by decide) ⟨by omega, by omega⟩ ⟨by decide, by decide⟩ (fun h165 => ?_) (fun h165 => ?_)
                  · skip
                    have e41 : σ142 0 41 = σ 0 41 := by omega
                    refine s_aload_n (pc := 174) C dX12_loopRead_174 0 rfl ?_
                    refine s_getr (q := 0) (ci := 12) (N := 68) (CN := RX12) (T := TX12) (pc := 175) C 42 dX12_loopRead_175 wlX12_83 rfl rfl rfl wfX12 (by decide) rfl ?_
                    refine s_aload_n (pc := 178) C dX12_loopRead_178 0 rfl ?_
                    refine s_geti (q := 0) (ci := 12) (N := 68) (CN := RX12) (T := TX12) (pc := 179) C 41 dX12_loopRead_179 wlX12_260 rfl rfl rfl wfX12 (by decide) rfl (σ142 0 41) rfl ?_
                    have b179 : (0 : Int) ≤ σ142 0 41 ∧ σ142 0 41 ≤ 5 := g142.1 0 41
                    refine s_iload_n (pc := 182) C dX12_loopRead_182 1 rfl ?_
                    refine s_iast (q := 23) (n := 5) (pc := 183) C dX12_loopRead_183 rfl (by omega) (by omega) (by decide) ?_
                    have g183 := gy_set (z := a) g142 23 ((σ142 0 41).toNat) rfl (0) (59) rfl ⟨by omega, by omega⟩
                    have f183 := frm_set (P := (PLr a.toNat)) (z := a) f142 23 ((σ142 0 41).toNat) (by simp [PLr] <;> omega)
                    have p183_TY := TY_cg (frm_one (P := okTY) (z := a) 23 ((σ142 0 41).toNat) rfl) kt142
                    refine s_aload_n (pc := 184) C dX12_loopRead_184 0 rfl ?_
                    refine s_dup (pc := 185) C dX12_loopRead_185 rfl ?_
                    refine s_geti (q := 0) (ci := 12) (N := 68) (CN := RX12) (T := TX12) (pc := 186) C 41 dX12_loopRead_186 wlX12_260 rfl rfl rfl wfX12 (by decide) rfl (σ142 0 41) rfl ?_
                    have b186 : (0 : Int) ≤ σ142 0 41 ∧ σ142 0 41 ≤ 5 := g183.1 0 41
                    refine s_iconst (pc := 189) C dX12_loopRead_189 ?_
                    refine s_iadd (pc := 190) C dX12_loopRead_190 ?_
                    refine s_puti (q := 0) (ci := 12) (N := 68) (CN := RX12) (T := TX12) (ty0 := tyX12) (ty := .int) (pc := 191) C 41 dX12_loopRead_191 wlX12_260 rfl rfl rfl wfX12 tyX12_ok nmX12 (by decide) rfl rfl rfl (vp_nar_int _) rfl ?_
                    have g191 := gy_set (z := ((σ142 0 41) + 1)) g183 0 41 rfl (0) (5) rfl ⟨by omega, by omega⟩
                    have f191 := frm_set (P := (PLr a.toNat)) (z := ((σ142 0 41) + 1)) f183 0 41 (by simp [PLr] <;> omega)
                    have p191_TY := TY_cg (frm_one (P := okTY) (z := ((σ142 0 41) + 1)) 0 41 rfl) p183_TY
                    refine s_aload_n (pc := 194) C dX12_loopRead_194 0 rfl ?_
                    have r195_0_27 : (hs_ss (hs_ss σ142 23 ((σ142 0 41).toNat) a) 0 41 ((σ142 0 41) + 1)) 0 27 = σ142 0 27 := rfl
                    have r195_0_28 : (hs_ss (hs_ss σ142 23 ((σ142 0 41).toNat) a) 0 41 ((σ142 0 41) + 1)) 0 28 = σ142 0 28 := rfl
                    refine s_callVv (pc := 195) C (c_X12_take l) [] [] rfl rfl dX12_loopRead_195 wlX12_257 wiX12_take weX12_take wcX12_take wnX12 noX12_take (by decide) (by decide) (Nat.le_of_ble_eq_true rfl) ⟨(gy_self g191), by first | omega | assumption | (constructor <;> omega) | (refine ⟨⟨?_, ?_⟩, ?_⟩ <;> omega) | (simp [hs_ss, hs_up]; omega) | (simp [hs_ss, hs_up]; done)⟩ rfl rfl ?_
                    rintro σ195 k195
                    obtain ⟨kg195, kf195, k195⟩ := k195
                    have g195 := gy_trans g191 kg195
                    have f195 := frm_tr f191 (frm_mono (Q := (PLr a.toNat)) kf195 (fun c j h => by simp [PTa, PLr] at h ⊢ <;> omega))
                    have x195_0_27 : σ195 0 27 = σ142 0 27 := kf195 0 27 rfl
                    have x195_0_32 : σ195 0 32 = σ142 0 32 := kf195 0 32 rfl
                    have x195_0_41 : σ195 0 41 = (σ142 0 41) + 1 := kf195 0 41 rfl
                    have x195_16_atoNat : σ195 16 a.toNat = σ142 16 a.toNat := by first | exact kf195 16 a.toNat rfl | (rw [kf195 16 a.toNat rfl]; simp [hs_ss, hs_up]; done)
                    have x195_17_atoNat : σ195 17 a.toNat = σ142 17 a.toNat := by first | exact kf195 17 a.toNat rfl | (rw [kf195 17 a.toNat rfl]; simp [hs_ss, hs_up]; done)
                    obtain ⟨kt195, k195⟩ := k195
                    have ut195 := kt195.1
                    have y195 : ∀ j : Nat, j ≠ (σ 0 41).toNat → σ195 23 j = σ 23 j := fun j hj => by rw [kf195 23 j rfl]; simp [hs_ss, hs_up, e41, hj]; exact y142_23 j
                    have x195 : σ195 23 (σ 0 41).toNat = a := by rw [kf195 23 _ rfl]; simp [hs_ss, hs_up, e41]
                    show hs_Wd _ _ _ _ _ _ _ _ _ _ _ _ _ _ _ _ _ 198 _ [] σ195
                    refine s_iconst (pc := 198) C dX12_loopRead_198 ?_
                    refine s_zret (pc := 199) C (by omega) dX12_loopRead_199 ?_
                    refine ⟨_, rfl, ?_⟩
                    exact ⟨g195, f195, kt195, ⟨by omega, by omega, fun _ => ⟨by omega, by omega, x195, fun h6 => by first | (exfalso; omega) | omega⟩, y195⟩⟩
                  · skip
                    refine s_aload_n (pc := 168) C dX12_loopRead_168 0 rfl ?_
                    refine s_iconst (pc := 169) C dX12_loopRead_169 ?_
                    refine s_callVi (pc := 170) C (c_X12_wrong l 2 (by first | omega | assumption | (constructor <;> omega) | (refine ⟨⟨?_, ?_⟩, ?_⟩ <;> omega) | (simp [hs_ss, hs_up]; omega) | (simp [hs_ss, hs_up]; done))) [vI 2] [] rfl rfl dX12_loopRead_170 wlX12_254 wiX12_wrong weX12_wrong wcX12_wrong wnX12 noX12_wrong (by decide) (by decide) (Nat.le_of_ble_eq_true rfl) (gy_self g142) rfl rfl ?_
                    rintro z170 σ170 k170
                    obtain ⟨kg170, kf170, k170⟩ := k170
                    have g170 := gy_trans g142 kg170
                    have f170 := frm_tr f142 (frm_mono (Q := (PLr a.toNat)) kf170 (fun c j h => by simp [PWr, PLr] at h ⊢ <;> omega))
                    have p170_TY := TY_cg (frm_mono (Q := okTY) kf170 (fun c j h => by simp [PWr, okTY] at h ⊢ <;> omega)) kt142
                    have up170_TY := p170_TY.1
                    have x170_0_27 : σ170 0 27 = σ142 0 27 := kf170 0 27 rfl
                    have x170_0_28 : σ170 0 28 = σ142 0 28 := kf170 0 28 rfl
                    have x170_0_29 : σ170 0 29 = σ142 0 29 := kf170 0 29 rfl
                    have x170_0_30 : σ170 0 30 = σ142 0 30 := kf170 0 30 rfl
                    have x170_0_31 : σ170 0 31 = σ142 0 31 := kf170 0 31 rfl
                    have x170_0_32 : σ170 0 32 = σ142 0 32 := kf170 0 32 rfl
                    have x170_0_41 : σ170 0 41 = σ142 0 41 := kf170 0 41 rfl
                    have x170_16_atoNat : σ170 16 a.toNat = σ142 16 a.toNat := by first | exact kf170 16 a.toNat rfl | (rw [kf170 16 a.toNat rfl]; simp [hs_ss, hs_up]; done)
                    have x170_17_atoNat : σ170 17 a.toNat = σ142 17 a.toNat := by first | exact kf170 17 a.toNat rfl | (rw [kf170 17 a.toNat rfl]; simp [hs_ss, hs_up]; done)
                    have y170_23 : ∀ j : Nat, σ170 23 j = σ 23 j := fun j => (kf170 23 j rfl).trans (y142_23 j)
                    show hs_Wd _ _ _ _ _ _ _ _ _ _ _ _ _ _ _ _ _ 173 _ [vI z170] σ170
                    refine s_zret (pc := 173) C (by omega) dX12_loopRead_173 ?_
                    refine ⟨_, rfl, ?_⟩
                    exact ⟨g170, f170, p170_TY, ⟨by omega, by omega, fun q => by exfalso; omega, fun j _ => y170_23 j⟩⟩
                · skip
                  refine s_aload_n (pc := 154) C dX12_loopRead_154 0 rfl ?_
                  refine s_iconst (pc := 155) C dX12_loopRead_155 ?_
                  refine s_callVi (pc := 156) C (c_X12_wrong l 1 (by first | omega | assumption | (constructor <;> omega) | (refine ⟨⟨?_, ?_⟩, ?_⟩ <;> omega) | (simp [hs_ss, hs_up]; omega) | (simp [hs_ss, hs_up]; done))) [vI 1] [] rfl rfl dX12_loopRead_156 wlX12_254 wiX12_wrong weX12_wrong wcX12_wrong wnX12 noX12_wrong (by decide) (by decide) (Nat.le_of_ble_eq_true rfl) (gy_self g142) rfl rfl ?_
                  rintro z156 σ156 k156
                  obtain ⟨kg156, kf156, k156⟩ := k156
                  have g156 := gy_trans g142 kg156
                  have f156 := frm_tr f142 (frm_mono (Q := (PLr a.toNat)) kf156 (fun c j h => by simp [PWr, PLr] at h ⊢ <;> omega))
                  have p156_TY := TY_cg (frm_mono (Q := okTY) kf156 (fun c j h => by simp [PWr, okTY] at h ⊢ <;> omega)) kt142
                  have up156_TY := p156_TY.1
                  have x156_0_27 : σ156 0 27 = σ142 0 27 := kf156 0 27 rfl
                  have x156_0_28 : σ156 0 28 = σ142 0 28 := kf156 0 28 rfl
                  have x156_0_29 : σ156 0 29 = σ142 0 29 := kf156 0 29 rfl
                  have x156_0_30 : σ156 0 30 = σ142 0 30 := kf156 0 30 rfl
                  have x156_0_31 : σ156 0 31 = σ142 0 31 := kf156 0 31 rfl
                  have x156_0_32 : σ156 0 32 = σ142 0 32 := kf156 0 32 rfl
                  have x156_0_41 : σ156 0 41 = σ142 0 41 := kf156 0 41 rfl
                  have x156_16_atoNat : σ156 16 a.toNat = σ142 16 a.toNat := by first | exact kf156 16 a.toNat rfl | (rw [kf156 16 a.toNat rfl]; simp [hs_ss, hs_up]; done)
                  have x156_17_atoNat : σ156 17 a.toNat = σ142 17 a.toNat := by first | exact kf156 17 a.toNat rfl | (rw [kf156 17 a.toNat rfl]; simp [hs_ss, hs_up]; done)
                  have y156_23 : ∀ j : Nat, σ156 23 j = σ 23 j := fun j => (kf156 23 j rfl).trans (y142_23 j)
                  show hs_Wd _ _ _ _ _ _ _ _ _ _ _ _ _ _ _ _ _ 159 _ [vI z156] σ156
                  refine s_zret (pc := 159) C (by omega) dX12_loopRead_159 ?_
                  refine ⟨_, rfl, ?_⟩
                  exact ⟨g156, f156, p156_TY, ⟨by omega, by omega, fun q => by exfalso; omega, fun j _ => y156_23 j⟩⟩
              · skip
                refine s_iconst (pc := 129) C dX12_loopRead_129 ?_
                refine s_zret (pc := 130) C (by omega) dX12_loopRead_130 ?_
                refine ⟨_, rfl, ?_⟩
                exact ⟨g123, f123, p123_TY, ⟨by omega, by omega, fun q => by exfalso; omega, fun j _ => y123_23 j⟩⟩
          · skip
            refine s_iconst (pc := 87) C dX12_loopRead_87 ?_
            refine s_zret (pc := 88) C (by omega) dX12_loopRead_88 ?_
            refine ⟨_, rfl, ?_⟩
            exact ⟨g81, f81, p81_TY, ⟨by omega, by omega, fun q => by exfalso; omega, fun j _ => y81_23 j⟩⟩
        · skip
          refine s_iconst (pc := 58) C dX12_loopRead_58 ?_
          refine s_zret (pc := 59) C (by omega) dX12_loopRead_59 ?_
          refine ⟨_, rfl, ?_⟩
          exact ⟨g52, f52, p52_TY, ⟨by omega, by omega, fun q => by exfalso; omega, fun j _ => y52_23 j⟩⟩
      · skip
        refine s_aload_n (pc := 31) C dX12_loopRead_31 0 rfl ?_
        refine s_iconst (pc := 32) C dX12_loopRead_32 ?_
        refine s_callVi (pc := 33) C (c_X12_wrong l 3 (by first | omega | assumption | (constructor <;> omega) | (refine ⟨⟨?_, ?_⟩, ?_⟩ <;> omega) | (simp [hs_ss, hs_up]; omega) | (simp [hs_ss, hs_up]; done))) [vI 3] [] rfl rfl dX12_loopRead_33 wlX12_254 wiX12_wrong weX12_wrong wcX12_wrong wnX12 noX12_wrong (by decide) (by decide) (Nat.le_of_ble_eq_true rfl) (gy_self g0) rfl rfl ?_
        rintro z33 σ33 k33
        obtain ⟨kg33, kf33, k33⟩ := k33
        have g33 := gy_trans g0 kg33
        have f33 := frm_tr f0 (frm_mono (Q := (PLr a.toNat)) kf33 (fun c j h => by simp [PWr, PLr] at h ⊢ <;> omega))
        have p33_TY := TY_cg (frm_mono (Q := okTY) kf33 (fun c j h => by simp [PWr, okTY] at h ⊢ <;> omega)) p0_TY
        have up33_TY := p33_TY.1
        have x33_0_27 : σ33 0 27 = σ 0 27 := kf33 0 27 rfl
        have x33_0_28 : σ33 0 28 = σ 0 28 := kf33 0 28 rfl
        have x33_0_29 : σ33 0 29 = σ 0 29 := kf33 0 29 rfl
        have x33_0_30 : σ33 0 30 = σ 0 30 := kf33 0 30 rfl
        have x33_0_31 : σ33 0 31 = σ 0 31 := kf33 0 31 rfl
        have x33_0_32 : σ33 0 32 = σ 0 32 := kf33 0 32 rfl
        have x33_0_41 : σ33 0 41 = σ 0 41 := kf33 0 41 rfl
        have x33_16_atoNat : σ33 16 a.toNat = σ 16 a.toNat := by first | exact kf33 16 a.toNat rfl | (rw [kf33 16 a.toNat rfl]; simp [hs_ss, hs_up]; done)
        have x33_17_atoNat : σ33 17 a.toNat = σ 17 a.toNat := by first | exact kf33 17 a.toNat rfl | (rw [kf33 17 a.toNat rfl]; simp [hs_ss, hs_up]; done)
        have y33_23 : ∀ j : Nat, σ33 23 j = σ 23 j := fun j => (kf33 23 j rfl).trans (y0_23 j)
        show hs_Wd _ _ _ _ _ _ _ _ _ _ _ _ _ _ _ _ _ 36 _ [vI z33] σ33
        refine s_zret (pc := 36) C (by omega) dX12_loopRead_36 ?_
        refine ⟨_, rfl, ?_⟩
        exact ⟨g33, f33, p33_TY, ⟨by omega, by omega, fun q => by exfalso; omega, fun j _ => y33_23 j⟩⟩
    · skip
      refine s_aload_n (pc := 14) C dX12_loopRead_14 0 rfl ?_
      refine s_iconst (pc := 15) C dX12_loopRead_15 ?_
      refine s_callVi (pc := 16) C (c_X12_wrong l 1 (by first | omega | assumption | (constructor <;> omega) | (refine ⟨⟨?_, ?_⟩, ?_⟩ <;> omega) | (simp [hs_ss, hs_up]; omega) | (simp [hs_ss, hs_up]; done))) [vI 1] [] rfl rfl dX12_loopRead_16 wlX12_254 wiX12_wrong weX12_wrong wcX12_wrong wnX12 noX12_wrong (by decide) (by decide) (Nat.le_of_ble_eq_true rfl) (gy_self g0) rfl rfl ?_
      rintro z16 σ16 k16
      obtain ⟨kg16, kf16, k16⟩ := k16
      have g16 := gy_trans g0 kg16
      have f16 := frm_tr f0 (frm_mono (Q := (PLr a.toNat)) kf16 (fun c j h => by simp [PWr, PLr] at h ⊢ <;> omega))
      have p16_TY := TY_cg (frm_mono (Q := okTY) kf16 (fun c j h => by simp [PWr, okTY] at h ⊢ <;> omega)) p0_TY
      have up16_TY := p16_TY.1
      have x16_0_27 : σ16 0 27 = σ 0 27 := kf16 0 27 rfl
      have x16_0_28 : σ16 0 28 = σ 0 28 := kf16 0 28 rfl
      have x16_0_29 : σ16 0 29 = σ 0 29 := kf16 0 29 rfl
      have x16_0_30 : σ16 0 30 = σ 0 30 := kf16 0 30 rfl
      have x16_0_31 : σ16 0 31 = σ 0 31 := kf16 0 31 rfl
      have x16_0_32 : σ16 0 32 = σ 0 32 := kf16 0 32 rfl
      have x16_0_41 : σ16 0 41 = σ 0 41 := kf16 0 41 rfl
      have x16_16_atoNat : σ16 16 a.toNat = σ 16 a.toNat := by first | exact kf16 16 a.toNat rfl | (rw [kf16 16 a.toNat rfl]; simp [hs_ss, hs_up]; done)
      have x16_17_atoNat : σ16 17 a.toNat = σ 17 a.toNat := by first | exact kf16 17 a.toNat rfl | (rw [kf16 17 a.toNat rfl]; simp [hs_ss, hs_up]; done)
      have y16_23 : ∀ j : Nat, σ16 23 j = σ 23 j := fun j => (kf16 23 j rfl).trans (y0_23 j)
      show hs_Wd _ _ _ _ _ _ _ _ _ _ _ _ _ _ _ _ _ 19 _ [vI z16] σ16
      refine s_zret (pc := 19) C (by omega) dX12_loopRead_19 ?_
      refine ⟨_, rfl, ?_⟩
      exact ⟨g16, f16, p16_TY, ⟨by omega, by omega, fun q => by exfalso; omega, fun j _ => y16_23 j⟩⟩
