set_option maxHeartbeats 4000000 in
set_option maxRecDepth 100000 in
theorem c_X12_actRead (l : Launch)  : hs_Met l yX12_actRead cX12_actRead 3 (some .boolean) 5 SHY (fun ad => [.ref (ad 0)]) (fun σ => GY σ σ ∧ TY σ ∧ NI σ) (hs_PI (fun σ z σ1 => GY σ σ1 ∧ FRM PAr σ σ1 ∧ TY σ1 ∧ (z = 0 ∨ z = 1) ∧ (z = 1 → NI σ1 ∧ σ 0 31 < σ1 0 31))) := by
  refine hs_from pfX12_actRead (fun _ => Nat.le_of_ble_eq_true rfl) ?_
  intro p e s m args below meth c D dA ad A σ C hpre
  have C : hs_C p s m args meth c D dA SHY ad A 3 cX12_actRead RX12 (some .boolean) := C
  obtain ⟨g0, p0_TY, hpre⟩ := hpre
  have f0 : FRM PAr σ σ := frm_rf
  have up0_TY := p0_TY.1
  have b32 : (0 : Int) ≤ σ 0 32 ∧ σ 0 32 ≤ 60 := g0.1 0 32
  have b41 : (0 : Int) ≤ σ 0 41 ∧ σ 0 41 ≤ 5 := g0.1 0 41
  show hs_Wd p l e 5 s m args below meth c D dA SHY ad A 3 (hs_PI (fun σ z σ1 => GY σ σ1 ∧ FRM PAr σ σ1 ∧ TY σ1 ∧ (z = 0 ∨ z = 1) ∧ (z = 1 → NI σ1 ∧ σ 0 31 < σ1 0 31)) σ) 0 [(0, .ref (ad 0))] [] σ
  refine s_aload_n (pc := 0) C dX12_actRead_0 0 rfl ?_
  refine s_bipush (pc := 1) C dX12_actRead_1 (by decide) ?_
  refine s_callVi (pc := 3) C (c_X12_isSign l 41 ⟨by omega, by omega⟩) [vI 41] [] rfl rfl dX12_actRead_3 wlX12_251 wiX12_isSign weX12_isSign wcX12_isSign wnX12 noX12_isSign (by decide) (by decide) (Nat.le_of_ble_eq_true rfl) (gy_self g0) rfl rfl ?_
  rintro z3 _ ⟨rfl, k3⟩
  show hs_Wd _ _ _ _ _ _ _ _ _ _ _ _ _ _ _ _ _ 6 _ [vI z3] σ
  refine s_if_eq (pc := 6) C (tgt := 50) dX12_actRead_6 (by decide) ⟨by omega, by omega⟩ (fun h6 => ?_) (fun h6 => ?_)
  · skip
    refine s_aload_n (pc := 50) C dX12_actRead_50 0 rfl ?_
    refine s_geti (q := 0) (ci := 12) (N := 68) (CN := RX12) (T := TX12) (pc := 51) C 29 dX12_actRead_51 wlX12_236 rfl rfl rfl wfX12 (by decide) rfl (σ 0 29) rfl ?_
    have b51 : (0 : Int) ≤ σ 0 29 ∧ σ 0 29 ≤ 5 := g0.1 0 29
    refine s_iconst (pc := 54) C dX12_actRead_54 ?_
    refine s_icmp_eq (pc := 55) C (tgt := 64) dX12_actRead_55 (by decide) ⟨by omega, by omega⟩ ⟨by decide, by decide⟩ (fun h55 => ?_) (fun h55 => ?_)
    · skip
      refine s_aload_n (pc := 64) C dX12_actRead_64 0 rfl ?_
      refine s_geti (q := 0) (ci := 12) (N := 68) (CN := RX12) (T := TX12) (pc := 65) C 32 dX12_actRead_65 wlX12_282 rfl rfl rfl wfX12 (by decide) rfl (σ 0 32) rfl ?_
      have b65 : (0 : Int) ≤ σ 0 32 ∧ σ 0 32 ≤ 60 := g0.1 0 32
      refine s_bipush (pc := 68) C dX12_actRead_68 (by decide) ?_
      refine s_icmp_ne (pc := 70) C (tgt := 79) dX12_actRead_70 (by decide) ⟨by omega, by omega⟩ ⟨by decide, by decide⟩ (fun h70 => ?_) (fun h70 => ?_)
      · skip
        have h6 := p0_TY.2.1 (by omega)
        have hpg := p0_TY.2.2.2 (by omega)
        refine s_aload_n (pc := 79) C dX12_actRead_79 0 rfl ?_
        refine s_geti (q := 0) (ci := 12) (N := 68) (CN := RX12) (T := TX12) (pc := 80) C 30 dX12_actRead_80 wlX12_245 rfl rfl rfl wfX12 (by decide) rfl (σ 0 30) rfl ?_
        have b80 : (-1 : Int) ≤ σ 0 30 ∧ σ 0 30 ≤ 10000 := g0.1 0 30
        refine s_istore_n (pc := 83) C [(1, vI (σ 0 30)), (0, .ref (ad 0))] dX12_actRead_83 (by decide) rfl ?_
        refine s_aload_n (pc := 84) C dX12_actRead_84 1 rfl ?_
        refine s_geti (q := 0) (ci := 12) (N := 68) (CN := RX12) (T := TX12) (pc := 85) C 32 dX12_actRead_85 wlX12_282 rfl rfl rfl wfX12 (by decide) rfl (σ 0 32) rfl ?_
        have b85 : (0 : Int) ≤ σ 0 32 ∧ σ 0 32 ≤ 60 := g0.1 0 32
        refine s_istore_n (pc := 88) C [(2, vI (σ 0 32)), (1, vI (σ 0 30)), (0, .ref (ad 0))] dX12_actRead_88 (by decide) rfl ?_
        refine s_aload_n (pc := 89) C dX12_actRead_89 2 rfl ?_
        refine s_getr (q := 0) (ci := 12) (N := 68) (CN := RX12) (T := TX12) (pc := 90) C 33 dX12_actRead_90 wlX12_59 rfl rfl rfl wfX12 (by decide) rfl ?_
        refine s_iload_n (pc := 93) C dX12_actRead_93 0 rfl ?_
        refine s_iload_n (pc := 94) C dX12_actRead_94 1 rfl ?_
        refine s_iast (q := 15) (n := 60) (pc := 95) C dX12_actRead_95 rfl (by omega) (by omega) (by decide) ?_
        have g95 := gy_set (z := (σ 0 30)) g0 15 ((σ 0 32).toNat) rfl (0) (6) rfl ⟨by omega, by omega⟩
        have f95 := frm_set (P := PAr) (z := (σ 0 30)) f0 15 ((σ 0 32).toNat) rfl
        have p95_TY := TY_cg (frm_one (P := okTY) (z := (σ 0 30)) 15 ((σ 0 32).toNat) rfl) p0_TY
        refine s_aload_n (pc := 96) C dX12_actRead_96 2 rfl ?_
        refine s_getr (q := 0) (ci := 12) (N := 68) (CN := RX12) (T := TX12) (pc := 97) C 35 dX12_actRead_97 wlX12_65 rfl rfl rfl wfX12 (by decide) rfl ?_
        refine s_iload_n (pc := 100) C dX12_actRead_100 0 rfl ?_
        refine s_iconst (pc := 101) C dX12_actRead_101 ?_
        refine s_iast (q := 17) (n := 60) (pc := 102) C dX12_actRead_102 rfl (by omega) (by omega) (by decide) ?_
        have g102 := gy_set (z := ((-1))) g95 17 ((σ 0 32).toNat) rfl (-1) (7) rfl ⟨by omega, by omega⟩
        have f102 := frm_set (P := PAr) (z := ((-1))) f95 17 ((σ 0 32).toNat) rfl
        have p102_TY := TY_cg (frm_one (P := okTY) (z := ((-1))) 17 ((σ 0 32).toNat) rfl) p95_TY
        refine s_aload_n (pc := 103) C dX12_actRead_103 2 rfl ?_
        refine s_dup (pc := 104) C dX12_actRead_104 rfl ?_
        refine s_geti (q := 0) (ci := 12) (N := 68) (CN := RX12) (T := TX12) (pc := 105) C 32 dX12_actRead_105 wlX12_282 rfl rfl rfl wfX12 (by decide) rfl (σ 0 32) rfl ?_
        have b105 : (0 : Int) ≤ σ 0 32 ∧ σ 0 32 ≤ 60 := g102.1 0 32
        refine s_iconst (pc := 108) C dX12_actRead_108 ?_
        refine s_iadd (pc := 109) C dX12_actRead_109 ?_
        refine s_puti (q := 0) (ci := 12) (N := 68) (CN := RX12) (T := TX12) (ty0 := tyX12) (ty := .int) (pc := 110) C 32 dX12_actRead_110 wlX12_282 rfl rfl rfl wfX12 tyX12_ok nmX12 (by decide) rfl rfl rfl (vp_nar_int _) rfl ?_
        have g110 := gy_set (z := ((σ 0 32) + 1)) g102 0 32 rfl (0) (60) rfl ⟨by omega, by omega⟩
        have f110 := frm_set (P := PAr) (z := ((σ 0 32) + 1)) f102 0 32 rfl
        have p110_TY := TY_cg (frm_one (P := okTY) (z := ((σ 0 32) + 1)) 0 32 rfl) p102_TY
        refine s_aload_n (pc := 113) C dX12_actRead_113 2 rfl ?_
        have r114_0_27 : (hs_ss (hs_ss (hs_ss σ 15 ((σ 0 32).toNat) (σ 0 30)) 17 ((σ 0 32).toNat) ((-1))) 0 32 ((σ 0 32) + 1)) 0 27 = σ 0 27 := rfl
        have r114_0_28 : (hs_ss (hs_ss (hs_ss σ 15 ((σ 0 32).toNat) (σ 0 30)) 17 ((σ 0 32).toNat) ((-1))) 0 32 ((σ 0 32) + 1)) 0 28 = σ 0 28 := rfl
        refine s_callVv (pc := 114) C (c_X12_take l) [] [] rfl rfl dX12_actRead_114 wlX12_257 wiX12_take weX12_take wcX12_take wnX12 noX12_take (by decide) (by decide) (Nat.le_of_ble_eq_true rfl) ⟨(gy_self g110), by first | omega | assumption | (constructor <;> omega) | (refine ⟨⟨?_, ?_⟩, ?_⟩ <;> omega) | (simp [hs_ss, hs_up]; omega) | (simp [hs_ss, hs_up]; done)⟩ rfl rfl ?_
        rintro σ114 k114
        obtain ⟨kg114, kf114, k114⟩ := k114
        have g114 := gy_trans g110 kg114
        have f114 := frm_tr f110 (frm_mono (Q := PAr) kf114 (fun c j h => by simp [PTa, PAr] at h ⊢ <;> omega))
        have x114_0_27 : σ114 0 27 = σ 0 27 := kf114 0 27 rfl
        have x114_0_32 : σ114 0 32 = (σ 0 32) + 1 := kf114 0 32 rfl
        have x114_0_41 : σ114 0 41 = σ 0 41 := kf114 0 41 rfl
        obtain ⟨kt114, k114⟩ := k114
        have ut114 := kt114.1
        show hs_Wd _ _ _ _ _ _ _ _ _ _ _ _ _ _ _ _ _ 117 _ [] σ114
        refine s_iload_n (pc := 117) C dX12_actRead_117 1 rfl ?_
        refine s_iconst (pc := 118) C dX12_actRead_118 ?_
        refine s_icmp_gt (pc := 119) C (tgt := 129) dX12_actRead_119 (by decide) ⟨by omega, by omega⟩ ⟨by decide, by decide⟩ (fun h119 => ?_) (fun h119 => ?_)
        · skip
          refine s_iload_n (pc := 129) C dX12_actRead_129 1 rfl ?_
          refine s_iconst (pc := 130) C dX12_actRead_130 ?_
          refine s_icmp_ge (pc := 131) C (tgt := 143) dX12_actRead_131 (by decide) ⟨by omega, by omega⟩ ⟨by decide, by decide⟩ (fun h131 => ?_) (fun h131 => ?_)
          · skip
            refine s_aload_n (pc := 143) C dX12_actRead_143 2 rfl ?_
            refine s_iload_n (pc := 144) C dX12_actRead_144 0 rfl ?_
            refine s_iload_n (pc := 145) C dX12_actRead_145 1 rfl ?_
            refine s_callVi (pc := 146) C (c_X12_loopRead l (σ 0 32) (by first | omega | assumption | (constructor <;> omega) | (refine ⟨⟨?_, ?_⟩, ?_⟩ <;> omega) | (simp [hs_ss, hs_up]; omega) | (simp [hs_ss, hs_up]; done)) (σ 0 30) (by first | omega | assumption | (constructor <;> omega) | (refine ⟨⟨?_, ?_⟩, ?_⟩ <;> omega) | (simp [hs_ss, hs_up]; omega) | (simp [hs_ss, hs_up]; done))) [vI (σ 0 32), vI (σ 0 30)] [] rfl rfl dX12_actRead_146 wlX12_288 wiX12_loopRead weX12_loopRead wcX12_loopRead wnX12 noX12_loopRead (by decide) (by decide) (Nat.le_of_ble_eq_true rfl) ⟨(gy_self g114), kt114⟩ rfl rfl ?_
            rintro z146 σ146 k146
            obtain ⟨kg146, kf146, p146_TY, k146⟩ := k146
            have g146 := gy_trans g114 kg146
            have f146 := frm_tr f114 (frm_mono (Q := PAr) kf146 (fun c j h => by simp [PLr, PAr] at h ⊢ <;> omega))
            have up146_TY := p146_TY.1
            have x146_0_27 : σ146 0 27 = σ114 0 27 := kf146 0 27 rfl
            have x146_0_32 : σ146 0 32 = σ114 0 32 := kf146 0 32 rfl
            show hs_Wd _ _ _ _ _ _ _ _ _ _ _ _ _ _ _ _ _ 149 _ [vI z146] σ146
            refine s_zret (pc := 149) C (by omega) dX12_actRead_149 ?_
            refine ⟨_, rfl, ?_⟩
            have e15 : σ146 15 (σ 0 32).toNat = σ 0 30 := by rw [kf146 15 _ rfl, kf114 15 _ rfl]; simp [hs_ss, hs_up]
            have hN : z146 = 1 → NI σ146 := fun q => ni_add hpre (n := (σ 0 32).toNat) (by omega) (by omega) (fun i hi => by rw [kf146 15 i rfl, kf114 15 i rfl]; simp [hs_ss, hs_up, (show i ≠ (σ 0 32).toNat by omega)]) (fun i hi => by rw [kf146 16 i (by simp [PLr] <;> omega), kf114 16 i rfl]; rfl) (fun i hi => by rw [kf146 17 i (by simp [PLr] <;> omega), kf114 17 i rfl]; simp [hs_ss, hs_up, (show i ≠ (σ 0 32).toNat by omega)]) (fun i hi => by rw [kf146 22 i rfl, kf114 22 i rfl]; rfl) (by unfold OKA; rw [e15]; exact ⟨fun q6 => (k146.2.2.1 q).2.2.2 (by omega), fun q => by exfalso; omega⟩) (Or.inr ⟨by omega, by omega, by omega, by have e := (k146.2.2.1 q).2.2.1; rw [x114_0_41] at e; omega, fun k hk => by rw [k146.2.2.2 k (by omega), kf114 23 k rfl]; rfl⟩)
            exact ⟨g146, f146, p146_TY, by omega, fun q => ⟨hN q, by omega⟩⟩
          · skip
            refine s_aload_n (pc := 134) C dX12_actRead_134 2 rfl ?_
            refine s_bipush (pc := 135) C dX12_actRead_135 (by decide) ?_
            refine s_callVi (pc := 137) C (c_X12_comesSign l 59 ⟨by omega, by omega⟩) [vI 59] [] rfl rfl dX12_actRead_137 wlX12_279 wiX12_comesSign weX12_comesSign wcX12_comesSign wnX12 noX12_comesSign (by decide) (by decide) (Nat.le_of_ble_eq_true rfl) ⟨(gy_self g114), kt114⟩ rfl rfl ?_
            rintro z137 σ137 k137
            obtain ⟨kg137, kf137, p137_TY, k137⟩ := k137
            have g137 := gy_trans g114 kg137
            have f137 := frm_tr f114 (frm_mono (Q := PAr) kf137 (fun c j h => by simp [PTw, PAr] at h ⊢ <;> omega))
            have up137_TY := p137_TY.1
            have x137_0_27 : σ137 0 27 = σ114 0 27 := kf137 0 27 rfl
            have x137_0_32 : σ137 0 32 = σ114 0 32 := kf137 0 32 rfl
            have x137_0_41 : σ137 0 41 = σ114 0 41 := kf137 0 41 rfl
            show hs_Wd _ _ _ _ _ _ _ _ _ _ _ _ _ _ _ _ _ 140 _ [vI z137] σ137
            refine s_goto (pc := 140) C (tgt := 149) dX12_actRead_140 (by decide) ?_
            refine s_zret (pc := 149) C (by omega) dX12_actRead_149 ?_
            refine ⟨_, rfl, ?_⟩
            have e15 : σ137 15 (σ 0 32).toNat = σ 0 30 := by rw [kf137 15 _ rfl, kf114 15 _ rfl]; simp [hs_ss, hs_up]
            have hN : z137 = 1 → NI σ137 := fun q => ni_add hpre (n := (σ 0 32).toNat) (by omega) (by omega) (fun i hi => by rw [kf137 15 i rfl, kf114 15 i rfl]; simp [hs_ss, hs_up, (show i ≠ (σ 0 32).toNat by omega)]) (fun i hi => by rw [kf137 16 i rfl, kf114 16 i rfl]; rfl) (fun i hi => by rw [kf137 17 i rfl, kf114 17 i rfl]; simp [hs_ss, hs_up, (show i ≠ (σ 0 32).toNat by omega)]) (fun i hi => by rw [kf137 22 i rfl, kf114 22 i rfl]; rfl) (by unfold OKA; rw [e15]; exact ⟨fun q => by exfalso; omega, fun q => by exfalso; omega⟩) (Or.inl ⟨by omega, by omega, fun k hk => by rw [kf137 23 k rfl, kf114 23 k rfl]; rfl⟩)
            exact ⟨g137, f137, p137_TY, by omega, fun q => ⟨hN q, by omega⟩⟩
        · skip
          refine s_aload_n (pc := 122) C dX12_actRead_122 2 rfl ?_
          refine s_iload_n (pc := 123) C dX12_actRead_123 0 rfl ?_
          refine s_iload_n (pc := 124) C dX12_actRead_124 1 rfl ?_
          refine s_callVi (pc := 125) C (c_X12_turnRead l (σ 0 32) (by first | omega | assumption | (constructor <;> omega) | (refine ⟨⟨?_, ?_⟩, ?_⟩ <;> omega) | (simp [hs_ss, hs_up]; omega) | (simp [hs_ss, hs_up]; done)) (σ 0 30) (by first | omega | assumption | (constructor <;> omega) | (refine ⟨⟨?_, ?_⟩, ?_⟩ <;> omega) | (simp [hs_ss, hs_up]; omega) | (simp [hs_ss, hs_up]; done))) [vI (σ 0 32), vI (σ 0 30)] [] rfl rfl dX12_actRead_125 wlX12_285 wiX12_turnRead weX12_turnRead wcX12_turnRead wnX12 noX12_turnRead (by decide) (by decide) (Nat.le_of_ble_eq_true rfl) ⟨(gy_self g114), kt114⟩ rfl rfl ?_
          rintro z125 σ125 k125
          obtain ⟨kg125, kf125, p125_TY, k125⟩ := k125
          have g125 := gy_trans g114 kg125
          have f125 := frm_tr f114 (frm_mono (Q := PAr) kf125 (fun c j h => by simp [PTr, PAr] at h ⊢ <;> omega))
          have up125_TY := p125_TY.1
          have x125_0_27 : σ125 0 27 = σ114 0 27 := kf125 0 27 rfl
          have x125_0_32 : σ125 0 32 = σ114 0 32 := kf125 0 32 rfl
          have x125_0_41 : σ125 0 41 = σ114 0 41 := kf125 0 41 rfl
          show hs_Wd _ _ _ _ _ _ _ _ _ _ _ _ _ _ _ _ _ 128 _ [vI z125] σ125
          refine s_zret (pc := 128) C (by omega) dX12_actRead_128 ?_
          refine ⟨_, rfl, ?_⟩
          have e15 : σ125 15 (σ 0 32).toNat = σ 0 30 := by rw [kf125 15 _ rfl, kf114 15 _ rfl]; simp [hs_ss, hs_up]
          have hN : z125 = 1 → NI σ125 := fun q => ni_add hpre (n := (σ 0 32).toNat) (by omega) (by omega) (fun i hi => by rw [kf125 15 i rfl, kf114 15 i rfl]; simp [hs_ss, hs_up, (show i ≠ (σ 0 32).toNat by omega)]) (fun i hi => by rw [kf125 16 i (by simp [PTr] <;> omega), kf114 16 i rfl]; rfl) (fun i hi => by rw [kf125 17 i (by simp [PTr] <;> omega), kf114 17 i rfl]; simp [hs_ss, hs_up, (show i ≠ (σ 0 32).toNat by omega)]) (fun i hi => by rw [kf125 22 i rfl, kf114 22 i rfl]; rfl) (by unfold OKA; rw [e15]; exact ⟨fun q => by exfalso; omega, fun _ => k125.2.2⟩) (Or.inl ⟨by omega, by omega, fun k hk => by rw [kf125 23 k rfl, kf114 23 k rfl]; rfl⟩)
          exact ⟨g125, f125, p125_TY, by omega, fun q => ⟨hN q, by omega⟩⟩
      · skip
        refine s_aload_n (pc := 73) C dX12_actRead_73 0 rfl ?_
        refine s_iconst (pc := 74) C dX12_actRead_74 ?_
        refine s_callVi (pc := 75) C (c_X12_wrong l 2 (by first | omega | assumption | (constructor <;> omega) | (refine ⟨⟨?_, ?_⟩, ?_⟩ <;> omega) | (simp [hs_ss, hs_up]; omega) | (simp [hs_ss, hs_up]; done))) [vI 2] [] rfl rfl dX12_actRead_75 wlX12_254 wiX12_wrong weX12_wrong wcX12_wrong wnX12 noX12_wrong (by decide) (by decide) (Nat.le_of_ble_eq_true rfl) (gy_self g0) rfl rfl ?_
        rintro z75 σ75 k75
        obtain ⟨kg75, kf75, k75⟩ := k75
        have g75 := gy_trans g0 kg75
        have f75 := frm_tr f0 (frm_mono (Q := PAr) kf75 (fun c j h => by simp [PWr, PAr] at h ⊢ <;> omega))
        have p75_TY := TY_cg (frm_mono (Q := okTY) kf75 (fun c j h => by simp [PWr, okTY] at h ⊢ <;> omega)) p0_TY
        have up75_TY := p75_TY.1
        have x75_0_27 : σ75 0 27 = σ 0 27 := kf75 0 27 rfl
        have x75_0_28 : σ75 0 28 = σ 0 28 := kf75 0 28 rfl
        have x75_0_29 : σ75 0 29 = σ 0 29 := kf75 0 29 rfl
        have x75_0_30 : σ75 0 30 = σ 0 30 := kf75 0 30 rfl
        have x75_0_31 : σ75 0 31 = σ 0 31 := kf75 0 31 rfl
        have x75_0_32 : σ75 0 32 = σ 0 32 := kf75 0 32 rfl
        have x75_0_41 : σ75 0 41 = σ 0 41 := kf75 0 41 rfl
        show hs_Wd _ _ _ _ _ _ _ _ _ _ _ _ _ _ _ _ _ 78 _ [vI z75] σ75
        refine s_zret (pc := 78) C (by omega) dX12_actRead_78 ?_
        refine ⟨_, rfl, ?_⟩
        exact ⟨g75, f75, p75_TY, by omega, fun q => by exfalso; omega⟩
    · skip
      refine s_aload_n (pc := 58) C dX12_actRead_58 0 rfl ?_
      refine s_iconst (pc := 59) C dX12_actRead_59 ?_
      refine s_callVi (pc := 60) C (c_X12_wrong l 1 (by first | omega | assumption | (constructor <;> omega) | (refine ⟨⟨?_, ?_⟩, ?_⟩ <;> omega) | (simp [hs_ss, hs_up]; omega) | (simp [hs_ss, hs_up]; done))) [vI 1] [] rfl rfl dX12_actRead_60 wlX12_254 wiX12_wrong weX12_wrong wcX12_wrong wnX12 noX12_wrong (by decide) (by decide) (Nat.le_of_ble_eq_true rfl) (gy_self g0) rfl rfl ?_
      rintro z60 σ60 k60
      obtain ⟨kg60, kf60, k60⟩ := k60
      have g60 := gy_trans g0 kg60
      have f60 := frm_tr f0 (frm_mono (Q := PAr) kf60 (fun c j h => by simp [PWr, PAr] at h ⊢ <;> omega))
      have p60_TY := TY_cg (frm_mono (Q := okTY) kf60 (fun c j h => by simp [PWr, okTY] at h ⊢ <;> omega)) p0_TY
      have up60_TY := p60_TY.1
      have x60_0_27 : σ60 0 27 = σ 0 27 := kf60 0 27 rfl
      have x60_0_28 : σ60 0 28 = σ 0 28 := kf60 0 28 rfl
      have x60_0_29 : σ60 0 29 = σ 0 29 := kf60 0 29 rfl
      have x60_0_30 : σ60 0 30 = σ 0 30 := kf60 0 30 rfl
      have x60_0_31 : σ60 0 31 = σ 0 31 := kf60 0 31 rfl
      have x60_0_32 : σ60 0 32 = σ 0 32 := kf60 0 32 rfl
      have x60_0_41 : σ60 0 41 = σ 0 41 := kf60 0 41 rfl
      show hs_Wd _ _ _ _ _ _ _ _ _ _ _ _ _ _ _ _ _ 63 _ [vI z60] σ60
      refine s_zret (pc := 63) C (by omega) dX12_actRead_63 ?_
      refine ⟨_, rfl, ?_⟩
      exact ⟨g60, f60, p60_TY, by omega, fun q => by exfalso; omega⟩
  · skip
    refine s_aload_n (pc := 9) C dX12_actRead_9 0 rfl ?_
    refine s_geti (q := 0) (ci := 12) (N := 68) (CN := RX12) (T := TX12) (pc := 10) C 41 dX12_actRead_10 wlX12_260 rfl rfl rfl wfX12 (by decide) rfl (σ 0 41) rfl ?_
    have b10 : (0 : Int) ≤ σ 0 41 ∧ σ 0 41 ≤ 5 := g0.1 0 41
    refine s_if_le (pc := 13) C (tgt := 50) dX12_actRead_13 (by decide) ⟨by omega, by omega⟩ (fun h13 => ?_) (fun h13 => ?_)
    · skip
      refine s_aload_n (pc := 50) C dX12_actRead_50 0 rfl ?_
      refine s_geti (q := 0) (ci := 12) (N := 68) (CN := RX12) (T := TX12) (pc := 51) C 29 dX12_actRead_51 wlX12_236 rfl rfl rfl wfX12 (by decide) rfl (σ 0 29) rfl ?_
      have b51 : (0 : Int) ≤ σ 0 29 ∧ σ 0 29 ≤ 5 := g0.1 0 29
      refine s_iconst (pc := 54) C dX12_actRead_54 ?_
      refine s_icmp_eq (pc := 55) C (tgt := 64) dX12_actRead_55 (by decide) ⟨by omega, by omega⟩ ⟨by decide, by decide⟩ (fun h55 => ?_) (fun h55 => ?_)
      · skip
        refine s_aload_n (pc := 64) C dX12_actRead_64 0 rfl ?_
        refine s_geti (q := 0) (ci := 12) (N := 68) (CN := RX12) (T := TX12) (pc := 65) C 32 dX12_actRead_65 wlX12_282 rfl rfl rfl wfX12 (by decide) rfl (σ 0 32) rfl ?_
        have b65 : (0 : Int) ≤ σ 0 32 ∧ σ 0 32 ≤ 60 := g0.1 0 32
        refine s_bipush (pc := 68) C dX12_actRead_68 (by decide) ?_
        refine s_icmp_ne (pc := 70) C (tgt := 79) dX12_actRead_70 (by decide) ⟨by omega, by omega⟩ ⟨by decide, by decide⟩ (fun h70 => ?_) (fun h70 => ?_)
        · skip
          have h6 := p0_TY.2.1 (by omega)
          have hpg := p0_TY.2.2.2 (by omega)
          refine s_aload_n (pc := 79) C dX12_actRead_79 0 rfl ?_
          refine s_geti (q := 0) (ci := 12) (N := 68) (CN := RX12) (T := TX12) (pc := 80) C 30 dX12_actRead_80 wlX12_245 rfl rfl rfl wfX12 (by decide) rfl (σ 0 30) rfl ?_
          have b80 : (-1 : Int) ≤ σ 0 30 ∧ σ 0 30 ≤ 10000 := g0.1 0 30
          refine s_istore_n (pc := 83) C [(1, vI (σ 0 30)), (0, .ref (ad 0))] dX12_actRead_83 (by decide) rfl ?_
          refine s_aload_n (pc := 84) C dX12_actRead_84 1 rfl ?_
          refine s_geti (q := 0) (ci := 12) (N := 68) (CN := RX12) (T := TX12) (pc := 85) C 32 dX12_actRead_85 wlX12_282 rfl rfl rfl wfX12 (by decide) rfl (σ 0 32) rfl ?_
          have b85 : (0 : Int) ≤ σ 0 32 ∧ σ 0 32 ≤ 60 := g0.1 0 32
          refine s_istore_n (pc := 88) C [(2, vI (σ 0 32)), (1, vI (σ 0 30)), (0, .ref (ad 0))] dX12_actRead_88 (by decide) rfl ?_
          refine s_aload_n (pc := 89) C dX12_actRead_89 2 rfl ?_
          refine s_getr (q := 0) (ci := 12) (N := 68) (CN := RX12) (T := TX12) (pc := 90) C 33 dX12_actRead_90 wlX12_59 rfl rfl rfl wfX12 (by decide) rfl ?_
          refine s_iload_n (pc := 93) C dX12_actRead_93 0 rfl ?_
          refine s_iload_n (pc := 94) C dX12_actRead_94 1 rfl ?_
          refine s_iast (q := 15) (n := 60) (pc := 95) C dX12_actRead_95 rfl (by omega) (by omega) (by decide) ?_
          have g95 := gy_set (z := (σ 0 30)) g0 15 ((σ 0 32).toNat) rfl (0) (6) rfl ⟨by omega, by omega⟩
          have f95 := frm_set (P := PAr) (z := (σ 0 30)) f0 15 ((σ 0 32).toNat) rfl
          have p95_TY := TY_cg (frm_one (P := okTY) (z := (σ 0 30)) 15 ((σ 0 32).toNat) rfl) p0_TY
          refine s_aload_n (pc := 96) C dX12_actRead_96 2 rfl ?_
          refine s_getr (q := 0) (ci := 12) (N := 68) (CN := RX12) (T := TX12) (pc := 97) C 35 dX12_actRead_97 wlX12_65 rfl rfl rfl wfX12 (by decide) rfl ?_
          refine s_iload_n (pc := 100) C dX12_actRead_100 0 rfl ?_
          refine s_iconst (pc := 101) C dX12_actRead_101 ?_
          refine s_iast (q := 17) (n := 60) (pc := 102) C dX12_actRead_102 rfl (by omega) (by omega) (by decide) ?_
          have g102 := gy_set (z := ((-1))) g95 17 ((σ 0 32).toNat) rfl (-1) (7) rfl ⟨by omega, by omega⟩
          have f102 := frm_set (P := PAr) (z := ((-1))) f95 17 ((σ 0 32).toNat) rfl
          have p102_TY := TY_cg (frm_one (P := okTY) (z := ((-1))) 17 ((σ 0 32).toNat) rfl) p95_TY
          refine s_aload_n (pc := 103) C dX12_actRead_103 2 rfl ?_
          refine s_dup (pc := 104) C dX12_actRead_104 rfl ?_
          refine s_geti (q := 0) (ci := 12) (N := 68) (CN := RX12) (T := TX12) (pc := 105) C 32 dX12_actRead_105 wlX12_282 rfl rfl rfl wfX12 (by decide) rfl (σ 0 32) rfl ?_
          have b105 : (0 : Int) ≤ σ 0 32 ∧ σ 0 32 ≤ 60 := g102.1 0 32
          refine s_iconst (pc := 108) C dX12_actRead_108 ?_
          refine s_iadd (pc := 109) C dX12_actRead_109 ?_
          refine s_puti (q := 0) (ci := 12) (N := 68) (CN := RX12) (T := TX12) (ty0 := tyX12) (ty := .int) (pc := 110) C 32 dX12_actRead_110 wlX12_282 rfl rfl rfl wfX12 tyX12_ok nmX12 (by decide) rfl rfl rfl (vp_nar_int _) rfl ?_
          have g110 := gy_set (z := ((σ 0 32) + 1)) g102 0 32 rfl (0) (60) rfl ⟨by omega, by omega⟩
          have f110 := frm_set (P := PAr) (z := ((σ 0 32) + 1)) f102 0 32 rfl
          have p110_TY := TY_cg (frm_one (P := okTY) (z := ((σ 0 32) + 1)) 0 32 rfl) p102_TY
          refine s_aload_n (pc := 113) C dX12_actRead_113 2 rfl ?_
          have r114_0_27 : (hs_ss (hs_ss (hs_ss σ 15 ((σ 0 32).toNat) (σ 0 30)) 17 ((σ 0 32).toNat) ((-1))) 0 32 ((σ 0 32) + 1)) 0 27 = σ 0 27 := rfl
          have r114_0_28 : (hs_ss (hs_ss (hs_ss σ 15 ((σ 0 32).toNat) (σ 0 30)) 17 ((σ 0 32).toNat) ((-1))) 0 32 ((σ 0 32) + 1)) 0 28 = σ 0 28 := rfl
          refine s_callVv (pc := 114) C (c_X12_take l) [] [] rfl rfl dX12_actRead_114 wlX12_257 wiX12_take weX12_take wcX12_take wnX12 noX12_take (by decide) (by decide) (Nat.le_of_ble_eq_true rfl) ⟨(gy_self g110), by first | omega | assumption | (constructor <;> omega) | (refine ⟨⟨?_, ?_⟩, ?_⟩ <;> omega) | (simp [hs_ss, hs_up]; omega) | (simp [hs_ss, hs_up]; done)⟩ rfl rfl ?_
          rintro σ114 k114
          obtain ⟨kg114, kf114, k114⟩ := k114
          have g114 := gy_trans g110 kg114
          have f114 := frm_tr f110 (frm_mono (Q := PAr) kf114 (fun c j h => by simp [PTa, PAr] at h ⊢ <;> omega))
          have x114_0_27 : σ114 0 27 = σ 0 27 := kf114 0 27 rfl
          have x114_0_32 : σ114 0 32 = (σ 0 32) + 1 := kf114 0 32 rfl
          have x114_0_41 : σ114 0 41 = σ 0 41 := kf114 0 41 rfl
          obtain ⟨kt114, k114⟩ := k114
          have ut114 := kt114.1
          show hs_Wd _ _ _ _ _ _ _ _ _ _ _ _ _ _ _ _ _ 117 _ [] σ114
          refine s_iload_n (pc := 117) C dX12_actRead_117 1 rfl ?_
          refine s_iconst (pc := 118) C dX12_actRead_118 ?_
          refine s_icmp_gt (pc := 119) C (tgt := 129) dX12_actRead_119 (by decide) ⟨by omega, by omega⟩ ⟨by decide, by decide⟩ (fun h119 => ?_) (fun h119 => ?_)
          · skip
            refine s_iload_n (pc := 129) C dX12_actRead_129 1 rfl ?_
            refine s_iconst (pc := 130) C dX12_actRead_130 ?_
            refine s_icmp_ge (pc := 131) C (tgt := 143) dX12_actRead_131 (by decide) ⟨by omega, by omega⟩ ⟨by decide, by decide⟩ (fun h131 => ?_) (fun h131 => ?_)
            · skip
              refine s_aload_n (pc := 143) C dX12_actRead_143 2 rfl ?_
              refine s_iload_n (pc := 144) C dX12_actRead_144 0 rfl ?_
              refine s_iload_n (pc := 145) C dX12_actRead_145 1 rfl ?_
              refine s_callVi (pc := 146) C (c_X12_loopRead l (σ 0 32) (by first | omega | assumption | (constructor <;> omega) | (refine ⟨⟨?_, ?_⟩, ?_⟩ <;> omega) | (simp [hs_ss, hs_up]; omega) | (simp [hs_ss, hs_up]; done)) (σ 0 30) (by first | omega | assumption | (constructor <;> omega) | (refine ⟨⟨?_, ?_⟩, ?_⟩ <;> omega) | (simp [hs_ss, hs_up]; omega) | (simp [hs_ss, hs_up]; done))) [vI (σ 0 32), vI (σ 0 30)] [] rfl rfl dX12_actRead_146 wlX12_288 wiX12_loopRead weX12_loopRead wcX12_loopRead wnX12 noX12_loopRead (by decide) (by decide) (Nat.le_of_ble_eq_true rfl) ⟨(gy_self g114), kt114⟩ rfl rfl ?_
              rintro z146 σ146 k146
              obtain ⟨kg146, kf146, p146_TY, k146⟩ := k146
              have g146 := gy_trans g114 kg146
              have f146 := frm_tr f114 (frm_mono (Q := PAr) kf146 (fun c j h => by simp [PLr, PAr] at h ⊢ <;> omega))
              have up146_TY := p146_TY.1
              have x146_0_27 : σ146 0 27 = σ114 0 27 := kf146 0 27 rfl
              have x146_0_32 : σ146 0 32 = σ114 0 32 := kf146 0 32 rfl
              show hs_Wd _ _ _ _ _ _ _ _ _ _ _ _ _ _ _ _ _ 149 _ [vI z146] σ146
              refine s_zret (pc := 149) C (by omega) dX12_actRead_149 ?_
              refine ⟨_, rfl, ?_⟩
              have e15 : σ146 15 (σ 0 32).toNat = σ 0 30 := by rw [kf146 15 _ rfl, kf114 15 _ rfl]; simp [hs_ss, hs_up]
              have hN : z146 = 1 → NI σ146 := fun q => ni_add hpre (n := (σ 0 32).toNat) (by omega) (by omega) (fun i hi => by rw [kf146 15 i rfl, kf114 15 i rfl]; simp [hs_ss, hs_up, (show i ≠ (σ 0 32).toNat by omega)]) (fun i hi => by rw [kf146 16 i (by simp [PLr] <;> omega), kf114 16 i rfl]; rfl) (fun i hi => by rw [kf146 17 i (by simp [PLr] <;> omega), kf114 17 i rfl]; simp [hs_ss, hs_up, (show i ≠ (σ 0 32).toNat by omega)]) (fun i hi => by rw [kf146 22 i rfl, kf114 22 i rfl]; rfl) (by unfold OKA; rw [e15]; exact ⟨fun q6 => (k146.2.2.1 q).2.2.2 (by omega), fun q => by exfalso; omega⟩) (Or.inr ⟨by omega, by omega, by omega, by have e := (k146.2.2.1 q).2.2.1; rw [x114_0_41] at e; omega, fun k hk => by rw [k146.2.2.2 k (by omega), kf114 23 k rfl]; rfl⟩)
              exact ⟨g146, f146, p146_TY, by omega, fun q => ⟨hN q, by omega⟩⟩
            · skip
              refine s_aload_n (pc := 134) C dX12_actRead_134 2 rfl ?_
              refine s_bipush (pc := 135) C dX12_actRead_135 (by decide) ?_
              refine s_callVi (pc := 137) C (c_X12_comesSign l 59 ⟨by omega, by omega⟩) [vI 59] [] rfl rfl dX12_actRead_137 wlX12_279 wiX12_comesSign weX12_comesSign wcX12_comesSign wnX12 noX12_comesSign (by decide) (by decide) (Nat.le_of_ble_eq_true rfl) ⟨(gy_self g114), kt114⟩ rfl rfl ?_
              rintro z137 σ137 k137
              obtain ⟨kg137, kf137, p137_TY, k137⟩ := k137
              have g137 := gy_trans g114 kg137
              have f137 := frm_tr f114 (frm_mono (Q := PAr) kf137 (fun c j h => by simp [PTw, PAr] at h ⊢ <;> omega))
              have up137_TY := p137_TY.1
              have x137_0_27 : σ137 0 27 = σ114 0 27 := kf137 0 27 rfl
              have x137_0_32 : σ137 0 32 = σ114 0 32 := kf137 0 32 rfl
              have x137_0_41 : σ137 0 41 = σ114 0 41 := kf137 0 41 rfl
              show hs_Wd _ _ _ _ _ _ _ _ _ _ _ _ _ _ _ _ _ 140 _ [vI z137] σ137
              refine s_goto (pc := 140) C (tgt := 149) dX12_actRead_140 (by decide) ?_
              refine s_zret (pc := 149) C (by omega) dX12_actRead_149 ?_
              refine ⟨_, rfl, ?_⟩
              have e15 : σ137 15 (σ 0 32).toNat = σ 0 30 := by rw [kf137 15 _ rfl, kf114 15 _ rfl]; simp [hs_ss, hs_up]
              have hN : z137 = 1 → NI σ137 := fun q => ni_add hpre (n := (σ 0 32).toNat) (by omega) (by omega) (fun i hi => by rw [kf137 15 i rfl, kf114 15 i rfl]; simp [hs_ss, hs_up, (show i ≠ (σ 0 32).toNat by omega)]) (fun i hi => by rw [kf137 16 i rfl, kf114 16 i rfl]; rfl) (fun i hi => by rw [kf137 17 i rfl, kf114 17 i rfl]; simp [hs_ss, hs_up, (show i ≠ (σ 0 32).toNat by omega)]) (fun i hi => by rw [kf137 22 i rfl, kf114 22 i rfl]; rfl) (by unfold OKA; rw [e15]; exact ⟨fun q => by exfalso; omega, fun q => by exfalso; omega⟩) (Or.inl ⟨by omega, by omega, fun k hk => by rw [kf137 23 k rfl, kf114 23 k rfl]; rfl⟩)
              exact ⟨g137, f137, p137_TY, by omega, fun q => ⟨hN q, by omega⟩⟩
          · skip
            refine s_aload_n (pc := 122) C dX12_actRead_122 2 rfl ?_
            refine s_iload_n (pc := 123) C dX12_actRead_123 0 rfl ?_
            refine s_iload_n (pc := 124) C dX12_actRead_124 1 rfl ?_
            refine s_callVi (pc := 125) C (c_X12_turnRead l (σ 0 32) (by first | omega | assumption | (constructor <;> omega) | (refine ⟨⟨?_, ?_⟩, ?_⟩ <;> omega) | (simp [hs_ss, hs_up]; omega) | (simp [hs_ss, hs_up]; done)) (σ 0 30) (by first | omega | assumption | (constructor <;> omega) | (refine ⟨⟨?_, ?_⟩, ?_⟩ <;> omega) | (simp [hs_ss, hs_up]; omega) | (simp [hs_ss, hs_up]; done))) [vI (σ 0 32), vI (σ 0 30)] [] rfl rfl dX12_actRead_125 wlX12_285 wiX12_turnRead weX12_turnRead wcX12_turnRead wnX12 noX12_turnRead (by decide) (by decide) (Nat.le_of_ble_eq_true rfl) ⟨(gy_self g114), kt114⟩ rfl rfl ?_
            rintro z125 σ125 k125
            obtain ⟨kg125, kf125, p125_TY, k125⟩ := k125
            have g125 := gy_trans g114 kg125
            have f125 := frm_tr f114 (frm_mono (Q := PAr) kf125 (fun c j h => by simp [PTr, PAr] at h ⊢ <;> omega))
            have up125_TY := p125_TY.1
            have x125_0_27 : σ125 0 27 = σ114 0 27 := kf125 0 27 rfl
            have x125_0_32 : σ125 0 32 = σ114 0 32 := kf125 0 32 rfl
            have x125_0_41 : σ125 0 41 = σ114 0 41 := kf125 0 41 rfl
            show hs_Wd _ _ _ _ _ _ _ _ _ _ _ _ _ _ _ _ _ 128 _ [vI z125] σ125
            refine s_zret (pc := 128) C (by omega) dX12_actRead_128 ?_
            refine ⟨_, rfl, ?_⟩
            have e15 : σ125 15 (σ 0 32).toNat = σ 0 30 := by rw [kf125 15 _ rfl, kf114 15 _ rfl]; simp [hs_ss, hs_up]
            have hN : z125 = 1 → NI σ125 := fun q => ni_add hpre (n := (σ 0 32).toNat) (by omega) (by omega) (fun i hi => by rw [kf125 15 i rfl, kf114 15 i rfl]; simp [hs_ss, hs_up, (show i ≠ (σ 0 32).toNat by omega)]) (fun i hi => by rw [kf125 16 i (by simp [PTr] <;> omega), kf114 16 i rfl]; rfl) (fun i hi => by rw [kf125 17 i (by simp [PTr] <;> omega), kf114 17 i rfl]; simp [hs_ss, hs_up, (show i ≠ (σ 0 32).toNat by omega)]) (fun i hi => by rw [kf125 22 i rfl, kf114 22 i rfl]; rfl) (by unfold OKA; rw [e15]; exact ⟨fun q => by exfalso; omega, fun _ => k125.2.2⟩) (Or.inl ⟨by omega, by omega, fun k hk => by rw [kf125 23 k rfl, kf114 23 k rfl]; rfl⟩)
            exact ⟨g125, f125, p125_TY, by omega, fun q => ⟨hN q, by omega⟩⟩
        · skip
          refine s_aload_n (pc := 73) C dX12_actRead_73 0 rfl ?_
          refine s_iconst (pc := 74) C dX12_actRead_74 ?_
          refine s_callVi (pc := 75) C (c_X12_wrong l 2 (by first | omega | assumption | (constructor <;> omega) | (refine ⟨⟨?_, ?_⟩, ?_⟩ <;> omega) | (simp [hs_ss, hs_up]; omega) | (simp [hs_ss, hs_up]; done))) [vI 2] [] rfl rfl dX12_actRead_75 wlX12_254 wiX12_wrong weX12_wrong wcX12_wrong wnX12 noX12_wrong (by decide) (by decide) (Nat.le_of_ble_eq_true rfl) (gy_self g0) rfl rfl ?_
          rintro z75 σ75 k75
          obtain ⟨kg75, kf75, k75⟩ := k75
          have g75 := gy_trans g0 kg75
          have f75 := frm_tr f0 (frm_mono (Q := PAr) kf75 (fun c j h => by simp [PWr, PAr] at h ⊢ <;> omega))
          have p75_TY := TY_cg (frm_mono (Q := okTY) kf75 (fun c j h => by simp [PWr, okTY] at h ⊢ <;> omega)) p0_TY
          have up75_TY := p75_TY.1
          have x75_0_27 : σ75 0 27 = σ 0 27 := kf75 0 27 rfl
          have x75_0_28 : σ75 0 28 = σ 0 28 := kf75 0 28 rfl
          have x75_0_29 : σ75 0 29 = σ 0 29 := kf75 0 29 rfl
          have x75_0_30 : σ75 0 30 = σ 0 30 := kf75 0 30 rfl
          have x75_0_31 : σ75 0 31 = σ 0 31 := kf75 0 31 rfl
          have x75_0_32 : σ75 0 32 = σ 0 32 := kf75 0 32 rfl
          have x75_0_41 : σ75 0 41 = σ 0 41 := kf75 0 41 rfl
          show hs_Wd _ _ _ _ _ _ _ _ _ _ _ _ _ _ _ _ _ 78 _ [vI z75] σ75
          refine s_zret (pc := 78) C (by omega) dX12_actRead_78 ?_
          refine ⟨_, rfl, ?_⟩
          exact ⟨g75, f75, p75_TY, by omega, fun q => by exfalso; omega⟩
      · skip
        refine s_aload_n (pc := 58) C dX12_actRead_58 0 rfl ?_
        refine s_iconst (pc := 59) C dX12_actRead_59 ?_
        refine s_callVi (pc := 60) C (c_X12_wrong l 1 (by first | omega | assumption | (constructor <;> omega) | (refine ⟨⟨?_, ?_⟩, ?_⟩ <;> omega) | (simp [hs_ss, hs_up]; omega) | (simp [hs_ss, hs_up]; done))) [vI 1] [] rfl rfl dX12_actRead_60 wlX12_254 wiX12_wrong weX12_wrong wcX12_wrong wnX12 noX12_wrong (by decide) (by decide) (Nat.le_of_ble_eq_true rfl) (gy_self g0) rfl rfl ?_
        rintro z60 σ60 k60
        obtain ⟨kg60, kf60, k60⟩ := k60
        have g60 := gy_trans g0 kg60
        have f60 := frm_tr f0 (frm_mono (Q := PAr) kf60 (fun c j h => by simp [PWr, PAr] at h ⊢ <;> omega))
        have p60_TY := TY_cg (frm_mono (Q := okTY) kf60 (fun c j h => by simp [PWr, okTY] at h ⊢ <;> omega)) p0_TY
        have up60_TY := p60_TY.1
        have x60_0_27 : σ60 0 27 = σ 0 27 := kf60 0 27 rfl
        have x60_0_28 : σ60 0 28 = σ 0 28 := kf60 0 28 rfl
        have x60_0_29 : σ60 0 29 = σ 0 29 := kf60 0 29 rfl
        have x60_0_30 : σ60 0 30 = σ 0 30 := kf60 0 30 rfl
        have x60_0_31 : σ60 0 31 = σ 0 31 := kf60 0 31 rfl
        have x60_0_32 : σ60 0 32 = σ 0 32 := kf60 0 32 rfl
        have x60_0_41 : σ60 0 41 = σ 0 41 := kf60 0 41 rfl
        show hs_Wd _ _ _ _ _ _ _ _ _ _ _ _ _ _ _ _ _ 63 _ [vI z60] σ60
        refine s_zret (pc := 63) C (by omega) dX12_actRead_63 ?_
        refine ⟨_, rfl, ?_⟩
        exact ⟨g60, f60, p60_TY, by omega, fun q => by exfalso; omega⟩
    · skip
      have hpg := p0_TY.2.2.2 (by omega)
      refine s_aload_n (pc := 16) C dX12_actRead_16 0 rfl ?_
      refine s_dup (pc := 17) C dX12_actRead_17 rfl ?_
      refine s_geti (q := 0) (ci := 12) (N := 68) (CN := RX12) (T := TX12) (pc := 18) C 41 dX12_actRead_18 wlX12_260 rfl rfl rfl wfX12 (by decide) rfl (σ 0 41) rfl ?_
      have b18 : (0 : Int) ≤ σ 0 41 ∧ σ 0 41 ≤ 5 := g0.1 0 41
      refine s_iconst (pc := 21) C dX12_actRead_21 ?_
      refine s_isub (pc := 22) C dX12_actRead_22 ?_
      refine s_puti (q := 0) (ci := 12) (N := 68) (CN := RX12) (T := TX12) (ty0 := tyX12) (ty := .int) (pc := 23) C 41 dX12_actRead_23 wlX12_260 rfl rfl rfl wfX12 tyX12_ok nmX12 (by decide) rfl rfl rfl (vp_nar_int _) rfl ?_
      have g23 := gy_set (z := ((σ 0 41) - 1)) g0 0 41 rfl (0) (5) rfl ⟨by omega, by omega⟩
      have f23 := frm_set (P := PAr) (z := ((σ 0 41) - 1)) f0 0 41 rfl
      have p23_TY := TY_cg (frm_one (P := okTY) (z := ((σ 0 41) - 1)) 0 41 rfl) p0_TY
      refine s_aload_n (pc := 26) C dX12_actRead_26 0 rfl ?_
      refine s_getr (q := 0) (ci := 12) (N := 68) (CN := RX12) (T := TX12) (pc := 27) C 40 dX12_actRead_27 wlX12_80 rfl rfl rfl wfX12 (by decide) rfl ?_
      refine s_aload_n (pc := 30) C dX12_actRead_30 0 rfl ?_
      refine s_getr (q := 0) (ci := 12) (N := 68) (CN := RX12) (T := TX12) (pc := 31) C 42 dX12_actRead_31 wlX12_83 rfl rfl rfl wfX12 (by decide) rfl ?_
      refine s_aload_n (pc := 34) C dX12_actRead_34 0 rfl ?_
      refine s_geti (q := 0) (ci := 12) (N := 68) (CN := RX12) (T := TX12) (pc := 35) C 41 dX12_actRead_35 wlX12_260 rfl rfl rfl wfX12 (by decide) rfl ((σ 0 41) - 1) rfl ?_
      have b35 : (0 : Int) ≤ (σ 0 41) - 1 ∧ (σ 0 41) - 1 ≤ 5 := g23.1 0 41
      refine s_iald (q := 23) (n := 5) (pc := 38) C (σ 23 (((σ 0 41) - 1).toNat)) rfl dX12_actRead_38 rfl (by omega) (by omega) (by decide) ?_
      have b38 : (0 : Int) ≤ σ 23 (((σ 0 41) - 1).toNat) ∧ σ 23 (((σ 0 41) - 1).toNat) ≤ 59 := g23.1 23 (((σ 0 41) - 1).toNat)
      refine s_aload_n (pc := 39) C dX12_actRead_39 0 rfl ?_
      refine s_geti (q := 0) (ci := 12) (N := 68) (CN := RX12) (T := TX12) (pc := 40) C 32 dX12_actRead_40 wlX12_282 rfl rfl rfl wfX12 (by decide) rfl (σ 0 32) rfl ?_
      have b40 : (0 : Int) ≤ σ 0 32 ∧ σ 0 32 ≤ 60 := g23.1 0 32
      refine s_iast (q := 22) (n := 60) (pc := 43) C dX12_actRead_43 rfl (by omega) (by omega) (by decide) ?_
      have g43 := gy_set (z := (σ 0 32)) g23 22 ((σ 23 (((σ 0 41) - 1).toNat)).toNat) rfl (0) (60) rfl ⟨by omega, by omega⟩
      have f43 := frm_set (P := PAr) (z := (σ 0 32)) f23 22 ((σ 23 (((σ 0 41) - 1).toNat)).toNat) rfl
      have p43_TY := TY_cg (frm_one (P := okTY) (z := (σ 0 32)) 22 ((σ 23 (((σ 0 41) - 1).toNat)).toNat) rfl) p23_TY
      refine s_aload_n (pc := 44) C dX12_actRead_44 0 rfl ?_
      have r45_0_27 : (hs_ss (hs_ss σ 0 41 ((σ 0 41) - 1)) 22 ((σ 23 (((σ 0 41) - 1).toNat)).toNat) (σ 0 32)) 0 27 = σ 0 27 := rfl
      have r45_0_28 : (hs_ss (hs_ss σ 0 41 ((σ 0 41) - 1)) 22 ((σ 23 (((σ 0 41) - 1).toNat)).toNat) (σ 0 32)) 0 28 = σ 0 28 := rfl
      refine s_callVv (pc := 45) C (c_X12_take l) [] [] rfl rfl dX12_actRead_45 wlX12_257 wiX12_take weX12_take wcX12_take wnX12 noX12_take (by decide) (by decide) (Nat.le_of_ble_eq_true rfl) ⟨(gy_self g43), by first | omega | assumption | (constructor <;> omega) | (refine ⟨⟨?_, ?_⟩, ?_⟩ <;> omega) | (simp [hs_ss, hs_up]; omega) | (simp [hs_ss, hs_up]; done)⟩ rfl rfl ?_
      rintro σ45 k45
      obtain ⟨kg45, kf45, k45⟩ := k45
      have g45 := gy_trans g43 kg45
      have f45 := frm_tr f43 (frm_mono (Q := PAr) kf45 (fun c j h => by simp [PTa, PAr] at h ⊢ <;> omega))
      have x45_0_27 : σ45 0 27 = σ 0 27 := kf45 0 27 rfl
      have x45_0_32 : σ45 0 32 = σ 0 32 := kf45 0 32 rfl
      have x45_0_41 : σ45 0 41 = (σ 0 41) - 1 := kf45 0 41 rfl
      obtain ⟨kt45, k45⟩ := k45
      have ut45 := kt45.1
      show hs_Wd _ _ _ _ _ _ _ _ _ _ _ _ _ _ _ _ _ 48 _ [] σ45
      refine s_iconst (pc := 48) C dX12_actRead_48 ?_
      refine s_zret (pc := 49) C (by omega) dX12_actRead_49 ?_
      refine ⟨_, rfl, ?_⟩
      have hN : NI σ45 := NI_cg (frm_mono (Q := okNI) kf45 (fun c j h => by simp [PTa, okNI] at h ⊢ <;> omega)) (ni_close hpre (o := (σ 0 41 - 1).toNat) (by omega) (by omega) (by show σ 0 41 - 1 = _; omega) rfl (fun _ => rfl) (fun _ => rfl) (fun _ => rfl) (fun _ => rfl) (by simp [hs_ss, hs_up]) (fun i hi => by rw [hs_ss_j hi]; rfl))
      exact ⟨g45, f45, kt45, by omega, fun _ => ⟨hN, by omega⟩⟩
set_option maxHeartbeats 4000000 in
set_option maxRecDepth 100000 in
theorem c_X12_textRead (l : Launch)  : hs_Met l yX12_textRead cX12_textRead 1 (some .boolean) 6 SHY (fun ad => [.ref (ad 0)]) (fun σ => GY σ σ) (hs_PI (fun σ z σ1 => GY σ σ1 ∧ FRM PAr σ σ1 ∧ (z = 0 ∨ z = 1) ∧ (z = 1 → PG σ1))) := by
  refine hs_from pfX12_textRead (fun _ => Nat.le_of_ble_eq_true rfl) ?_
  intro p e s m args below meth c D dA ad A σ C hpre
  have C : hs_C p s m args meth c D dA SHY ad A 1 cX12_textRead RX12 (some .boolean) := C
  have g0 := hpre
  have f0 : FRM PAr σ σ := frm_rf
  show hs_Wd p l e 6 s m args below meth c D dA SHY ad A 1 (hs_PI (fun σ z σ1 => GY σ σ1 ∧ FRM PAr σ σ1 ∧ (z = 0 ∨ z = 1) ∧ (z = 1 → PG σ1)) σ) 0 [(0, .ref (ad 0))] [] σ
  refine s_aload_n (pc := 0) C dX12_textRead_0 0 rfl ?_
  refine s_iconst (pc := 1) C dX12_textRead_1 ?_
  refine s_puti (q := 0) (ci := 12) (N := 68) (CN := RX12) (T := TX12) (ty0 := tyX12) (ty := .int) (pc := 2) C 32 dX12_textRead_2 wlX12_282 rfl rfl rfl wfX12 tyX12_ok nmX12 (by decide) rfl rfl rfl (vp_nar_int _) rfl ?_
  have g2 := gy_set (z := 0) g0 0 32 rfl (0) (60) rfl ⟨by omega, by omega⟩
  have f2 := frm_set (P := PAr) (z := 0) f0 0 32 rfl
  refine s_aload_n (pc := 5) C dX12_textRead_5 0 rfl ?_
  refine s_iconst (pc := 6) C dX12_textRead_6 ?_
  refine s_puti (q := 0) (ci := 12) (N := 68) (CN := RX12) (T := TX12) (ty0 := tyX12) (ty := .int) (pc := 7) C 41 dX12_textRead_7 wlX12_260 rfl rfl rfl wfX12 tyX12_ok nmX12 (by decide) rfl rfl rfl (vp_nar_int _) rfl ?_
  have g7 := gy_set (z := 0) g2 0 41 rfl (0) (5) rfl ⟨by omega, by omega⟩
  have f7 := frm_set (P := PAr) (z := 0) f2 0 41 rfl
  refine s_aload_n (pc := 10) C dX12_textRead_10 0 rfl ?_
  refine s_iconst (pc := 11) C dX12_textRead_11 ?_
  refine s_puti (q := 0) (ci := 12) (N := 68) (CN := RX12) (T := TX12) (ty0 := tyX12) (ty := .int) (pc := 12) C 28 dX12_textRead_12 wlX12_233 rfl rfl rfl wfX12 tyX12_ok nmX12 (by decide) rfl rfl rfl (vp_nar_int _) rfl ?_
  have g12 := gy_set (z := 0) g7 0 28 rfl (0) (500) rfl ⟨by omega, by omega⟩
  have f12 := frm_set (P := PAr) (z := 0) f7 0 28 rfl
  refine s_aload_n (pc := 15) C dX12_textRead_15 0 rfl ?_
  have r16_0_27 : (hs_ss (hs_ss (hs_ss σ 0 32 0) 0 41 0) 0 28 0) 0 27 = σ 0 27 := rfl
  have r16_0_28 : (hs_ss (hs_ss (hs_ss σ 0 32 0) 0 41 0) 0 28 0) 0 28 = 0 := rfl
  refine s_callVv (pc := 16) C (c_X12_take l) [] [] rfl rfl dX12_textRead_16 wlX12_257 wiX12_take weX12_take wcX12_take wnX12 noX12_take (by decide) (by decide) (Nat.le_of_ble_eq_true rfl) ⟨(gy_self g12), by show (0 : Int) ≤ σ 0 27; have b := g0.1 0 27; have b : (0 : Int) ≤ σ 0 27 ∧ σ 0 27 ≤ 500 := b; omega⟩ rfl rfl ?_
  rintro σ16 k16
  obtain ⟨kg16, kf16, k16⟩ := k16
  have g16 := gy_trans g12 kg16
  have f16 := frm_tr f12 (frm_mono (Q := PAr) kf16 (fun c j h => by simp [PTa, PAr] at h ⊢ <;> omega))
  show hs_Wd _ _ _ _ _ _ _ _ _ _ _ _ _ _ _ _ _ 19 _ [] σ16
  refine s_sub C [0] [(0, .ref (ad 0))] rfl ?_
  have hi19 : GY σ σ16 ∧ FRM PAr σ σ16 ∧ TY σ16 ∧ NI σ16 := ⟨g16, f16, ⟨k16.1, NI_cg (frm_mono (Q := okNI) kf16 (fun c j h => by simp [PTa, okNI] at h ⊢ <;> omega)) (ni_0 rfl rfl)⟩⟩
  refine hs_loop (α := hs_S) (fun x_ => (GY σ x_ ∧ FRM PAr σ x_ ∧ TY x_ ∧ NI x_) → hs_Wd p l e 6 s m args below meth c D dA SHY ad A 1 (hs_PI (fun σ z σ1 => GY σ σ1 ∧ FRM PAr σ σ1 ∧ (z = 0 ∨ z = 1) ∧ (z = 1 → PG σ1)) σ) 19 [(0, .ref (ad 0))] [] x_) (fun x_ => (502 - x_ 0 31).toNat) ?_ (σ16) hi19
  rintro σ1 ih19 hinv
  replace hinv : GY σ σ1 ∧ FRM PAr σ σ1 ∧ TY σ1 ∧ NI σ1 := hinv
  obtain ⟨hg19, hf19, hv19⟩ := hinv
  show hs_Wd p l e 6 s m args below meth c D dA SHY ad A 1 (hs_PI (fun σ z σ1 => GY σ σ1 ∧ FRM PAr σ σ1 ∧ (z = 0 ∨ z = 1) ∧ (z = 1 → PG σ1)) σ) 19 [(0, .ref (ad 0))] [] σ1
  refine s_aload_n (pc := 19) C dX12_textRead_19 0 rfl ?_
  refine s_geti (q := 0) (ci := 12) (N := 68) (CN := RX12) (T := TX12) (pc := 20) C 29 dX12_textRead_20 wlX12_236 rfl rfl rfl wfX12 (by decide) rfl (σ1 0 29) rfl ?_
  have b20 : (0 : Int) ≤ σ1 0 29 ∧ σ1 0 29 ≤ 5 := hg19.1 0 29
  refine s_if_ne (pc := 23) C (tgt := 33) dX12_textRead_23 (by decide) ⟨by omega, by omega⟩ (fun h23 => ?_) (fun h23 => ?_)
  · skip
    refine s_aload_n (pc := 33) C dX12_textRead_33 0 rfl ?_
    refine s_callVi (pc := 34) C (c_X12_actRead l) [] [] rfl rfl dX12_textRead_34 wlX12_291 wiX12_actRead weX12_actRead wcX12_actRead wnX12 noX12_actRead (by decide) (by decide) (Nat.le_of_ble_eq_true rfl) ⟨(gy_self hg19), hv19.1, hv19.2⟩ rfl rfl ?_
    rintro z34 σ34 k34
    obtain ⟨kg34, kf34, p34_TY, k34⟩ := k34
    have g34 := gy_trans hg19 kg34
    have f34 := frm_tr hf19 (frm_mono (Q := PAr) kf34 (fun _ _ h => h))
    have up34_TY := p34_TY.1
    show hs_Wd _ _ _ _ _ _ _ _ _ _ _ _ _ _ _ _ _ 37 _ [vI z34] σ34
    refine s_if_ne (pc := 37) C (tgt := 19) dX12_textRead_37 (by decide) ⟨by omega, by omega⟩ (fun h37 => ?_) (fun h37 => ?_)
    · skip
      refine s_sub C [0] [(0, .ref (ad 0))] rfl ?_
      have hi19 : GY σ σ34 ∧ FRM PAr σ σ34 ∧ TY σ34 ∧ NI σ34 := ⟨g34, f34, ⟨p34_TY, (k34.2 (by omega)).1⟩⟩
      exact ih19 (σ34) (by have q := (k34.2 (by omega)).2; have b : (0 : Int) ≤ σ34 0 31 ∧ σ34 0 31 ≤ 500 := g34.1 0 31; show (502 - σ34 0 31).toNat < (502 - σ1 0 31).toNat; omega) hi19
    · skip
      refine s_iconst (pc := 40) C dX12_textRead_40 ?_
      refine s_zret (pc := 41) C (by omega) dX12_textRead_41 ?_
      refine ⟨_, rfl, ?_⟩
      exact ⟨g34, f34, ⟨by omega, fun q => by exfalso; omega⟩⟩
  · skip
    refine s_aload_n (pc := 26) C dX12_textRead_26 0 rfl ?_
    refine s_geti (q := 0) (ci := 12) (N := 68) (CN := RX12) (T := TX12) (pc := 27) C 41 dX12_textRead_27 wlX12_260 rfl rfl rfl wfX12 (by decide) rfl (σ1 0 41) rfl ?_
    have b27 : (0 : Int) ≤ σ1 0 41 ∧ σ1 0 41 ≤ 5 := hg19.1 0 41
    refine s_if_le (pc := 30) C (tgt := 42) dX12_textRead_30 (by decide) ⟨by omega, by omega⟩ (fun h30 => ?_) (fun h30 => ?_)
    · skip
      refine s_iconst (pc := 42) C dX12_textRead_42 ?_
      refine s_zret (pc := 43) C (by omega) dX12_textRead_43 ?_
      refine ⟨_, rfl, ?_⟩
      exact ⟨hg19, hf19, ⟨by omega, fun _ => ni_pg hv19.2 h30⟩⟩
    · skip
      refine s_aload_n (pc := 33) C dX12_textRead_33 0 rfl ?_
      refine s_callVi (pc := 34) C (c_X12_actRead l) [] [] rfl rfl dX12_textRead_34 wlX12_291 wiX12_actRead weX12_actRead wcX12_actRead wnX12 noX12_actRead (by decide) (by decide) (Nat.le_of_ble_eq_true rfl) ⟨(gy_self hg19), hv19.1, hv19.2⟩ rfl rfl ?_
      rintro z34 σ34 k34
      obtain ⟨kg34, kf34, p34_TY, k34⟩ := k34
      have g34 := gy_trans hg19 kg34
      have f34 := frm_tr hf19 (frm_mono (Q := PAr) kf34 (fun _ _ h => h))
      have up34_TY := p34_TY.1
      show hs_Wd _ _ _ _ _ _ _ _ _ _ _ _ _ _ _ _ _ 37 _ [vI z34] σ34
      refine s_if_ne (pc := 37) C (tgt := 19) dX12_textRead_37 (by decide) ⟨by omega, by omega⟩ (fun h37 => ?_) (fun h37 => ?_)
      · skip
        refine s_sub C [0] [(0, .ref (ad 0))] rfl ?_
        have hi19 : GY σ σ34 ∧ FRM PAr σ σ34 ∧ TY σ34 ∧ NI σ34 := ⟨g34, f34, ⟨p34_TY, (k34.2 (by omega)).1⟩⟩
        exact ih19 (σ34) (by have q := (k34.2 (by omega)).2; have b : (0 : Int) ≤ σ34 0 31 ∧ σ34 0 31 ≤ 500 := g34.1 0 31; show (502 - σ34 0 31).toNat < (502 - σ1 0 31).toNat; omega) hi19
      · skip
        refine s_iconst (pc := 40) C dX12_textRead_40 ?_
        refine s_zret (pc := 41) C (by omega) dX12_textRead_41 ?_
        refine ⟨_, rfl, ?_⟩
        exact ⟨g34, f34, ⟨by omega, fun q => by exfalso; omega⟩⟩
