set_option maxHeartbeats 4000000 in
set_option maxRecDepth 100000 in
theorem c_X12_numberRead (l : Launch) (a b : Int) (ha : 0 ≤ a ∧ a ≤ b ∧ b ≤ 999) : hs_Met l yX12_numberRead cX12_numberRead 3 (some .boolean) 2 SHY (fun ad => [.ref (ad 0), vI a, vI b]) (fun σ => GY σ σ) (hs_PI (fun σ z σ1 => GY σ σ1 ∧ FRM PWr σ σ1 ∧ (z = 0 ∨ z = 1) ∧ (z = 1 → a ≤ σ 0 30 ∧ σ 0 30 ≤ b))) := by
  refine hs_from pfX12_numberRead (fun _ => Nat.le_of_ble_eq_true rfl) ?_
  intro p e s m args below meth c D dA ad A σ C hpre
  have C : hs_C p s m args meth c D dA SHY ad A 3 cX12_numberRead RX12 (some .boolean) := C
  have g0 := hpre
  have f0 : FRM PWr σ σ := frm_rf
  show hs_Wd p l e 2 s m args below meth c D dA SHY ad A 3 (hs_PI (fun σ z σ1 => GY σ σ1 ∧ FRM PWr σ σ1 ∧ (z = 0 ∨ z = 1) ∧ (z = 1 → a ≤ σ 0 30 ∧ σ 0 30 ≤ b)) σ) 0 [(0, .ref (ad 0)), (1, vI a), (2, vI b)] [] σ
  refine s_aload_n (pc := 0) C dX12_numberRead_0 0 rfl ?_
  refine s_geti (q := 0) (ci := 12) (N := 68) (CN := RX12) (T := TX12) (pc := 1) C 29 dX12_numberRead_1 wlX12_236 rfl rfl rfl wfX12 (by decide) rfl (σ 0 29) rfl ?_
  have b1 : (0 : Int) ≤ σ 0 29 ∧ σ 0 29 ≤ 5 := g0.1 0 29
  refine s_iconst (pc := 4) C dX12_numberRead_4 ?_
  refine s_icmp_eq (pc := 5) C (tgt := 14) dX12_numberRead_5 (by decide) ⟨by omega, by omega⟩ ⟨by decide, by decide⟩ (fun h5 => ?_) (fun h5 => ?_)
  · skip
    refine s_aload_n (pc := 14) C dX12_numberRead_14 0 rfl ?_
    refine s_geti (q := 0) (ci := 12) (N := 68) (CN := RX12) (T := TX12) (pc := 15) C 30 dX12_numberRead_15 wlX12_245 rfl rfl rfl wfX12 (by decide) rfl (σ 0 30) rfl ?_
    have b15 : (-1 : Int) ≤ σ 0 30 ∧ σ 0 30 ≤ 10000 := g0.1 0 30
    refine s_iload_n (pc := 18) C dX12_numberRead_18 1 rfl ?_
    refine s_icmp_lt (pc := 19) C (tgt := 30) dX12_numberRead_19 (by decide) ⟨by omega, by omega⟩ ⟨by omega, by omega⟩ (fun h19 => ?_) (fun h19 => ?_)
    · skip
      refine s_aload_n (pc := 30) C dX12_numberRead_30 0 rfl ?_
      refine s_iconst (pc := 31) C dX12_numberRead_31 ?_
      refine s_callVi (pc := 32) C (c_X12_wrong l 2 (by first | omega | assumption | (constructor <;> omega) | (refine ⟨⟨?_, ?_⟩, ?_⟩ <;> omega) | (simp [hs_ss, hs_up]; omega) | (simp [hs_ss, hs_up]; done))) [vI 2] [] rfl rfl dX12_numberRead_32 wlX12_254 wiX12_wrong weX12_wrong wcX12_wrong wnX12 noX12_wrong (by decide) (by decide) (Nat.le_of_ble_eq_true rfl) (gy_self g0) rfl rfl ?_
      rintro z32 σ32 k32
      obtain ⟨kg32, kf32, k32⟩ := k32
      have g32 := gy_trans g0 kg32
      have f32 := frm_tr f0 (frm_mono (Q := PWr) kf32 (fun _ _ h => h))
      show hs_Wd _ _ _ _ _ _ _ _ _ _ _ _ _ _ _ _ _ 35 _ [vI z32] σ32
      refine s_if_eq (pc := 35) C (tgt := 42) dX12_numberRead_35 (by decide) ⟨by omega, by omega⟩ (fun h35 => ?_) (fun h35 => ?_)
      · skip
        refine s_iconst (pc := 42) C dX12_numberRead_42 ?_
        refine s_zret (pc := 43) C (by omega) dX12_numberRead_43 ?_
        refine ⟨_, rfl, ?_⟩
        exact ⟨g32, f32, by first | omega | assumption | (constructor <;> omega) | (refine ⟨⟨?_, ?_⟩, ?_⟩ <;> omega) | (simp [hs_ss, hs_up]; omega) | (simp [hs_ss, hs_up]; done)⟩
      · skip
        refine s_iconst (pc := 38) C dX12_numberRead_38 ?_
        refine s_goto (pc := 39) C (tgt := 43) dX12_numberRead_39 (by decide) ?_
        refine s_zret (pc := 43) C (by omega) dX12_numberRead_43 ?_
        refine ⟨_, rfl, ?_⟩
        exact ⟨g32, f32, by first | omega | assumption | (constructor <;> omega) | (refine ⟨⟨?_, ?_⟩, ?_⟩ <;> omega) | (simp [hs_ss, hs_up]; omega) | (simp [hs_ss, hs_up]; done)⟩
    · skip
      refine s_aload_n (pc := 22) C dX12_numberRead_22 0 rfl ?_
      refine s_geti (q := 0) (ci := 12) (N := 68) (CN := RX12) (T := TX12) (pc := 23) C 30 dX12_numberRead_23 wlX12_245 rfl rfl rfl wfX12 (by decide) rfl (σ 0 30) rfl ?_
      have b23 : (-1 : Int) ≤ σ 0 30 ∧ σ 0 30 ≤ 10000 := g0.1 0 30
      refine s_iload_n (pc := 26) C dX12_numberRead_26 2 rfl ?_
      refine s_icmp_le (pc := 27) C (tgt := 38) dX12_numberRead_27 (by decide) ⟨by omega, by omega⟩ ⟨by omega, by omega⟩ (fun h27 => ?_) (fun h27 => ?_)
      · skip
        refine s_iconst (pc := 38) C dX12_numberRead_38 ?_
        refine s_goto (pc := 39) C (tgt := 43) dX12_numberRead_39 (by decide) ?_
        refine s_zret (pc := 43) C (by omega) dX12_numberRead_43 ?_
        refine ⟨_, rfl, ?_⟩
        exact ⟨g0, f0, by first | omega | assumption | (constructor <;> omega) | (refine ⟨⟨?_, ?_⟩, ?_⟩ <;> omega) | (simp [hs_ss, hs_up]; omega) | (simp [hs_ss, hs_up]; done)⟩
      · skip
        refine s_aload_n (pc := 30) C dX12_numberRead_30 0 rfl ?_
        refine s_iconst (pc := 31) C dX12_numberRead_31 ?_
        refine s_callVi (pc := 32) C (c_X12_wrong l 2 (by first | omega | assumption | (constructor <;> omega) | (refine ⟨⟨?_, ?_⟩, ?_⟩ <;> omega) | (simp [hs_ss, hs_up]; omega) | (simp [hs_ss, hs_up]; done))) [vI 2] [] rfl rfl dX12_numberRead_32 wlX12_254 wiX12_wrong weX12_wrong wcX12_wrong wnX12 noX12_wrong (by decide) (by decide) (Nat.le_of_ble_eq_true rfl) (gy_self g0) rfl rfl ?_
        rintro z32 σ32 k32
        obtain ⟨kg32, kf32, k32⟩ := k32
        have g32 := gy_trans g0 kg32
        have f32 := frm_tr f0 (frm_mono (Q := PWr) kf32 (fun _ _ h => h))
        show hs_Wd _ _ _ _ _ _ _ _ _ _ _ _ _ _ _ _ _ 35 _ [vI z32] σ32
        refine s_if_eq (pc := 35) C (tgt := 42) dX12_numberRead_35 (by decide) ⟨by omega, by omega⟩ (fun h35 => ?_) (fun h35 => ?_)
        · skip
          refine s_iconst (pc := 42) C dX12_numberRead_42 ?_
          refine s_zret (pc := 43) C (by omega) dX12_numberRead_43 ?_
          refine ⟨_, rfl, ?_⟩
          exact ⟨g32, f32, by first | omega | assumption | (constructor <;> omega) | (refine ⟨⟨?_, ?_⟩, ?_⟩ <;> omega) | (simp [hs_ss, hs_up]; omega) | (simp [hs_ss, hs_up]; done)⟩
        · skip
          refine s_iconst (pc := 38) C dX12_numberRead_38 ?_
          refine s_goto (pc := 39) C (tgt := 43) dX12_numberRead_39 (by decide) ?_
          refine s_zret (pc := 43) C (by omega) dX12_numberRead_43 ?_
          refine ⟨_, rfl, ?_⟩
          exact ⟨g32, f32, by first | omega | assumption | (constructor <;> omega) | (refine ⟨⟨?_, ?_⟩, ?_⟩ <;> omega) | (simp [hs_ss, hs_up]; omega) | (simp [hs_ss, hs_up]; done)⟩
  · skip
    refine s_aload_n (pc := 8) C dX12_numberRead_8 0 rfl ?_
    refine s_iconst (pc := 9) C dX12_numberRead_9 ?_
    refine s_callVi (pc := 10) C (c_X12_wrong l 1 (by first | omega | assumption | (constructor <;> omega) | (refine ⟨⟨?_, ?_⟩, ?_⟩ <;> omega) | (simp [hs_ss, hs_up]; omega) | (simp [hs_ss, hs_up]; done))) [vI 1] [] rfl rfl dX12_numberRead_10 wlX12_254 wiX12_wrong weX12_wrong wcX12_wrong wnX12 noX12_wrong (by decide) (by decide) (Nat.le_of_ble_eq_true rfl) (gy_self g0) rfl rfl ?_
    rintro z10 σ10 k10
    obtain ⟨kg10, kf10, k10⟩ := k10
    have g10 := gy_trans g0 kg10
    have f10 := frm_tr f0 (frm_mono (Q := PWr) kf10 (fun _ _ h => h))
    show hs_Wd _ _ _ _ _ _ _ _ _ _ _ _ _ _ _ _ _ 13 _ [vI z10] σ10
    refine s_zret (pc := 13) C (by omega) dX12_numberRead_13 ?_
    refine ⟨_, rfl, ?_⟩
    exact ⟨g10, f10, by first | omega | assumption | (constructor <;> omega) | (refine ⟨⟨?_, ?_⟩, ?_⟩ <;> omega) | (simp [hs_ss, hs_up]; omega) | (simp [hs_ss, hs_up]; done)⟩
set_option maxHeartbeats 4000000 in
set_option maxRecDepth 100000 in
theorem c_X12_comesSign (l : Launch) (a : Int) (ha : hs_R a) : hs_Met l yX12_comesSign cX12_comesSign 2 (some .boolean) 3 SHY (fun ad => [.ref (ad 0), vI a]) (fun σ => GY σ σ ∧ TY σ) (hs_PI (fun σ z σ1 => GY σ σ1 ∧ FRM PTw σ σ1 ∧ TY σ1 ∧ (z = 0 ∨ z = 1) ∧ σ 0 31 ≤ σ1 0 31)) := by
  refine hs_from pfX12_comesSign (fun _ => Nat.le_of_ble_eq_true rfl) ?_
  intro p e s m args below meth c D dA ad A σ C hpre
  have C : hs_C p s m args meth c D dA SHY ad A 2 cX12_comesSign RX12 (some .boolean) := C
  obtain ⟨g0, p0_TY⟩ := hpre
  have f0 : FRM PTw σ σ := frm_rf
  have up0_TY := p0_TY.1
  show hs_Wd p l e 3 s m args below meth c D dA SHY ad A 2 (hs_PI (fun σ z σ1 => GY σ σ1 ∧ FRM PTw σ σ1 ∧ TY σ1 ∧ (z = 0 ∨ z = 1) ∧ σ 0 31 ≤ σ1 0 31) σ) 0 [(0, .ref (ad 0)), (1, vI a)] [] σ
  refine s_aload_n (pc := 0) C dX12_comesSign_0 0 rfl ?_
  refine s_iload_n (pc := 1) C dX12_comesSign_1 1 rfl ?_
  refine s_callVi (pc := 2) C (c_X12_isSign l a ⟨by omega, by omega⟩) [vI a] [] rfl rfl dX12_comesSign_2 wlX12_251 wiX12_isSign weX12_isSign wcX12_isSign wnX12 noX12_isSign (by decide) (by decide) (Nat.le_of_ble_eq_true rfl) (gy_self g0) rfl rfl ?_
  rintro z2 _ ⟨rfl, k2⟩
  show hs_Wd _ _ _ _ _ _ _ _ _ _ _ _ _ _ _ _ _ 5 _ [vI z2] σ
  refine s_if_ne (pc := 5) C (tgt := 14) dX12_comesSign_5 (by decide) ⟨by omega, by omega⟩ (fun h5 => ?_) (fun h5 => ?_)
  · skip
    refine s_aload_n (pc := 14) C dX12_comesSign_14 0 rfl ?_
    refine s_callVv (pc := 15) C (c_X12_take l) [] [] rfl rfl dX12_comesSign_15 wlX12_257 wiX12_take weX12_take wcX12_take wnX12 noX12_take (by decide) (by decide) (Nat.le_of_ble_eq_true rfl) ⟨(gy_self g0), by first | omega | assumption | (constructor <;> omega) | (refine ⟨⟨?_, ?_⟩, ?_⟩ <;> omega) | (simp [hs_ss, hs_up]; omega) | (simp [hs_ss, hs_up]; done)⟩ rfl rfl ?_
    rintro σ15 k15
    obtain ⟨kg15, kf15, k15⟩ := k15
    have g15 := gy_trans g0 kg15
    have f15 := frm_tr f0 (frm_mono (Q := PTw) kf15 (fun c j h => by simp [PTa, PTw] at h ⊢ <;> omega))
    have x15_0_27 : σ15 0 27 = σ 0 27 := kf15 0 27 rfl
    have x15_0_32 : σ15 0 32 = σ 0 32 := kf15 0 32 rfl
    have x15_0_41 : σ15 0 41 = σ 0 41 := kf15 0 41 rfl
    obtain ⟨kt15, k15⟩ := k15
    have ut15 := kt15.1
    show hs_Wd _ _ _ _ _ _ _ _ _ _ _ _ _ _ _ _ _ 18 _ [] σ15
    refine s_iconst (pc := 18) C dX12_comesSign_18 ?_
    refine s_zret (pc := 19) C (by omega) dX12_comesSign_19 ?_
    refine ⟨_, rfl, ?_⟩
    exact ⟨g15, f15, kt15, by first | omega | assumption | (constructor <;> omega) | (refine ⟨⟨?_, ?_⟩, ?_⟩ <;> omega) | (simp [hs_ss, hs_up]; omega) | (simp [hs_ss, hs_up]; done)⟩
  · skip
    refine s_aload_n (pc := 8) C dX12_comesSign_8 0 rfl ?_
    refine s_iconst (pc := 9) C dX12_comesSign_9 ?_
    refine s_callVi (pc := 10) C (c_X12_wrong l 1 (by first | omega | assumption | (constructor <;> omega) | (refine ⟨⟨?_, ?_⟩, ?_⟩ <;> omega) | (simp [hs_ss, hs_up]; omega) | (simp [hs_ss, hs_up]; done))) [vI 1] [] rfl rfl dX12_comesSign_10 wlX12_254 wiX12_wrong weX12_wrong wcX12_wrong wnX12 noX12_wrong (by decide) (by decide) (Nat.le_of_ble_eq_true rfl) (gy_self g0) rfl rfl ?_
    rintro z10 σ10 k10
    obtain ⟨kg10, kf10, k10⟩ := k10
    have g10 := gy_trans g0 kg10
    have f10 := frm_tr f0 (frm_mono (Q := PTw) kf10 (fun c j h => by simp [PWr, PTw] at h ⊢ <;> omega))
    have p10_TY := TY_cg (frm_mono (Q := okTY) kf10 (fun c j h => by simp [PWr, okTY] at h ⊢ <;> omega)) p0_TY
    have up10_TY := p10_TY.1
    have x10_0_27 : σ10 0 27 = σ 0 27 := kf10 0 27 rfl
    have x10_0_28 : σ10 0 28 = σ 0 28 := kf10 0 28 rfl
    have x10_0_29 : σ10 0 29 = σ 0 29 := kf10 0 29 rfl
    have x10_0_30 : σ10 0 30 = σ 0 30 := kf10 0 30 rfl
    have x10_0_31 : σ10 0 31 = σ 0 31 := kf10 0 31 rfl
    have x10_0_32 : σ10 0 32 = σ 0 32 := kf10 0 32 rfl
    have x10_0_41 : σ10 0 41 = σ 0 41 := kf10 0 41 rfl
    show hs_Wd _ _ _ _ _ _ _ _ _ _ _ _ _ _ _ _ _ 13 _ [vI z10] σ10
    refine s_zret (pc := 13) C (by omega) dX12_comesSign_13 ?_
    refine ⟨_, rfl, ?_⟩
    exact ⟨g10, f10, p10_TY, by first | omega | assumption | (constructor <;> omega) | (refine ⟨⟨?_, ?_⟩, ?_⟩ <;> omega) | (simp [hs_ss, hs_up]; omega) | (simp [hs_ss, hs_up]; done)⟩
set_option maxHeartbeats 4000000 in
set_option maxRecDepth 100000 in
theorem c_X12_isAround (l : Launch) (a : Int) (ha : hs_R a) : hs_Met l yX12_isAround cX12_isAround 3 (some .boolean) 1 SHY (fun ad => [.ref (ad 0), vI a]) (fun σ => GY σ σ) (hs_PI (fun σ z σ1 => σ = σ1 ∧ (z = 0 ∨ z = 1))) := by
  refine hs_from pfX12_isAround (fun _ => Nat.le_of_ble_eq_true rfl) ?_
  intro p e s m args below meth c D dA ad A σ C hpre
  have C : hs_C p s m args meth c D dA SHY ad A 3 cX12_isAround RX12 (some .boolean) := C
  have g0 := hpre
  show hs_Wd p l e 1 s m args below meth c D dA SHY ad A 3 (hs_PI (fun σ z σ1 => σ = σ1 ∧ (z = 0 ∨ z = 1)) σ) 0 [(0, .ref (ad 0)), (1, vI a)] [] σ
  refine s_iconst (pc := 0) C dX12_isAround_0 ?_
  refine s_istore_n (pc := 1) C [(2, vI 0), (0, .ref (ad 0)), (1, vI a)] dX12_isAround_1 (by decide) rfl ?_
  refine s_sub C [1, 2, 0] [(0, .ref (ad 0)), (1, vI a), (2, vI 0)] rfl ?_
  have hi2 : 0 ≤ (0 : Int) ∧ (0 : Int) ≤ 5 := (by first | omega | assumption | (constructor <;> omega) | (refine ⟨⟨?_, ?_⟩, ?_⟩ <;> omega) | (simp [hs_ss, hs_up]; omega) | (simp [hs_ss, hs_up]; done))
  refine hs_loop (α := Int) (fun x_ => (0 ≤ x_ ∧ x_ ≤ 5) → hs_Wd p l e 1 s m args below meth c D dA SHY ad A 3 (hs_PI (fun σ z σ1 => σ = σ1 ∧ (z = 0 ∨ z = 1)) σ) 2 [(0, .ref (ad 0)), (1, vI a), (2, vI x_)] [] σ) (fun x_ => (6 - x_).toNat) ?_ (0) hi2
  rintro k ih2 hinv
  replace hinv : 0 ≤ k ∧ k ≤ 5 := hinv
  show hs_Wd p l e 1 s m args below meth c D dA SHY ad A 3 (hs_PI (fun σ z σ1 => σ = σ1 ∧ (z = 0 ∨ z = 1)) σ) 2 [(0, .ref (ad 0)), (1, vI a), (2, vI k)] [] σ
  refine s_iload_n (pc := 2) C dX12_isAround_2 2 rfl ?_
  refine s_aload_n (pc := 3) C dX12_isAround_3 0 rfl ?_
  refine s_geti (q := 0) (ci := 12) (N := 68) (CN := RX12) (T := TX12) (pc := 4) C 41 dX12_isAround_4 wlX12_260 rfl rfl rfl wfX12 (by decide) rfl (σ 0 41) rfl ?_
  have b4 : (0 : Int) ≤ σ 0 41 ∧ σ 0 41 ≤ 5 := g0.1 0 41
  refine s_icmp_ge (pc := 7) C (tgt := 49) dX12_isAround_7 (by decide) ⟨by omega, by omega⟩ ⟨by omega, by omega⟩ (fun h7 => ?_) (fun h7 => ?_)
  · skip
    refine s_iconst (pc := 49) C dX12_isAround_49 ?_
    refine s_zret (pc := 50) C (by omega) dX12_isAround_50 ?_
    refine ⟨_, rfl, ?_⟩
    exact ⟨rfl, by first | omega | assumption | (constructor <;> omega) | (refine ⟨⟨?_, ?_⟩, ?_⟩ <;> omega) | (simp [hs_ss, hs_up]; omega) | (simp [hs_ss, hs_up]; done)⟩
  · skip
    refine s_aload_n (pc := 10) C dX12_isAround_10 0 rfl ?_
    refine s_getr (q := 0) (ci := 12) (N := 68) (CN := RX12) (T := TX12) (pc := 11) C 33 dX12_isAround_11 wlX12_59 rfl rfl rfl wfX12 (by decide) rfl ?_
    refine s_aload_n (pc := 14) C dX12_isAround_14 0 rfl ?_
    refine s_getr (q := 0) (ci := 12) (N := 68) (CN := RX12) (T := TX12) (pc := 15) C 42 dX12_isAround_15 wlX12_83 rfl rfl rfl wfX12 (by decide) rfl ?_
    refine s_iload_n (pc := 18) C dX12_isAround_18 2 rfl ?_
    refine s_iald (q := 23) (n := 5) (pc := 19) C (σ 23 k.toNat) rfl dX12_isAround_19 rfl (by omega) (by omega) (by decide) ?_
    have b19 : (0 : Int) ≤ σ 23 k.toNat ∧ σ 23 k.toNat ≤ 59 := g0.1 23 k.toNat
    refine s_iald (q := 15) (n := 60) (pc := 20) C (σ 15 ((σ 23 k.toNat).toNat)) rfl dX12_isAround_20 rfl (by omega) (by omega) (by decide) ?_
    have b20 : (0 : Int) ≤ σ 15 ((σ 23 k.toNat).toNat) ∧ σ 15 ((σ 23 k.toNat).toNat) ≤ 6 := g0.1 15 ((σ 23 k.toNat).toNat)
    refine s_bipush (pc := 21) C dX12_isAround_21 (by decide) ?_
    refine s_icmp_ne (pc := 23) C (tgt := 43) dX12_isAround_23 (by decide) ⟨by omega, by omega⟩ ⟨by decide, by decide⟩ (fun h23 => ?_) (fun h23 => ?_)
    · skip
      refine s_iinc (pc := 43) C [(2, vI (k + 1)), (0, .ref (ad 0)), (1, vI a)] dX12_isAround_43 2 rfl (by decide) rfl ?_
      refine s_goto (pc := 46) C (tgt := 2) dX12_isAround_46 (by decide) ?_
      refine s_sub C [1, 2, 0] [(0, .ref (ad 0)), (1, vI a), (2, vI (k + 1))] rfl ?_
      have hi2 : 0 ≤ (k + 1) ∧ (k + 1) ≤ 5 := (by first | omega | assumption | (constructor <;> omega) | (refine ⟨⟨?_, ?_⟩, ?_⟩ <;> omega) | (simp [hs_ss, hs_up]; omega) | (simp [hs_ss, hs_up]; done))
      exact ih2 (k + 1) (by first | omega | (simp only []; omega)) hi2
    · skip
      refine s_aload_n (pc := 26) C dX12_isAround_26 0 rfl ?_
      refine s_getr (q := 0) (ci := 12) (N := 68) (CN := RX12) (T := TX12) (pc := 27) C 35 dX12_isAround_27 wlX12_65 rfl rfl rfl wfX12 (by decide) rfl ?_
      refine s_aload_n (pc := 30) C dX12_isAround_30 0 rfl ?_
      refine s_getr (q := 0) (ci := 12) (N := 68) (CN := RX12) (T := TX12) (pc := 31) C 42 dX12_isAround_31 wlX12_83 rfl rfl rfl wfX12 (by decide) rfl ?_
      refine s_iload_n (pc := 34) C dX12_isAround_34 2 rfl ?_
      refine s_iald (q := 23) (n := 5) (pc := 35) C (σ 23 k.toNat) rfl dX12_isAround_35 rfl (by omega) (by omega) (by decide) ?_
      have b35 : (0 : Int) ≤ σ 23 k.toNat ∧ σ 23 k.toNat ≤ 59 := g0.1 23 k.toNat
      refine s_iald (q := 17) (n := 60) (pc := 36) C (σ 17 ((σ 23 k.toNat).toNat)) rfl dX12_isAround_36 rfl (by omega) (by omega) (by decide) ?_
      have b36 : (-1 : Int) ≤ σ 17 ((σ 23 k.toNat).toNat) ∧ σ 17 ((σ 23 k.toNat).toNat) ≤ 7 := g0.1 17 ((σ 23 k.toNat).toNat)
      refine s_iload_n (pc := 37) C dX12_isAround_37 1 rfl ?_
      refine s_icmp_ne (pc := 38) C (tgt := 43) dX12_isAround_38 (by decide) ⟨by omega, by omega⟩ ⟨by omega, by omega⟩ (fun h38 => ?_) (fun h38 => ?_)
      · skip
        refine s_iinc (pc := 43) C [(2, vI (k + 1)), (0, .ref (ad 0)), (1, vI a)] dX12_isAround_43 2 rfl (by decide) rfl ?_
        refine s_goto (pc := 46) C (tgt := 2) dX12_isAround_46 (by decide) ?_
        refine s_sub C [1, 2, 0] [(0, .ref (ad 0)), (1, vI a), (2, vI (k + 1))] rfl ?_
        have hi2 : 0 ≤ (k + 1) ∧ (k + 1) ≤ 5 := (by first | omega | assumption | (constructor <;> omega) | (refine ⟨⟨?_, ?_⟩, ?_⟩ <;> omega) | (simp [hs_ss, hs_up]; omega) | (simp [hs_ss, hs_up]; done))
        exact ih2 (k + 1) (by first | omega | (simp only []; omega)) hi2
      · skip
        refine s_iconst (pc := 41) C dX12_isAround_41 ?_
        refine s_zret (pc := 42) C (by omega) dX12_isAround_42 ?_
        refine ⟨_, rfl, ?_⟩
        exact ⟨rfl, by first | omega | assumption | (constructor <;> omega) | (refine ⟨⟨?_, ?_⟩, ?_⟩ <;> omega) | (simp [hs_ss, hs_up]; omega) | (simp [hs_ss, hs_up]; done)⟩
set_option maxHeartbeats 4000000 in
set_option maxRecDepth 100000 in
theorem c_X12_placeRead (l : Launch)  : hs_Met l yX12_placeRead cX12_placeRead 2 (some .boolean) 3 SHY (fun ad => [.ref (ad 0)]) (fun σ => GY σ σ ∧ TY σ) (hs_PI (fun σ z σ1 => GY σ σ1 ∧ FRM PPl σ σ1 ∧ TY σ1 ∧ (z = 0 ∨ z = 1) ∧ σ 0 31 ≤ σ1 0 31)) := by
  refine hs_from pfX12_placeRead (fun _ => Nat.le_of_ble_eq_true rfl) ?_
  intro p e s m args below meth c D dA ad A σ C hpre
  have C : hs_C p s m args meth c D dA SHY ad A 2 cX12_placeRead RX12 (some .boolean) := C
  obtain ⟨g0, p0_TY⟩ := hpre
  have f0 : FRM PPl σ σ := frm_rf
  have up0_TY := p0_TY.1
  show hs_Wd p l e 3 s m args below meth c D dA SHY ad A 2 (hs_PI (fun σ z σ1 => GY σ σ1 ∧ FRM PPl σ σ1 ∧ TY σ1 ∧ (z = 0 ∨ z = 1) ∧ σ 0 31 ≤ σ1 0 31) σ) 0 [(0, .ref (ad 0))] [] σ
  refine s_aload_n (pc := 0) C dX12_placeRead_0 0 rfl ?_
  refine s_iconst (pc := 1) C dX12_placeRead_1 ?_
  refine s_puti (q := 0) (ci := 12) (N := 68) (CN := RX12) (T := TX12) (ty0 := tyX12) (ty := .int) (pc := 2) C 43 dX12_placeRead_2 wlX12_263 rfl rfl rfl wfX12 tyX12_ok nmX12 (by decide) rfl rfl rfl (vp_nar_int _) rfl ?_
  have g2 := gy_set (z := ((-1))) g0 0 43 rfl (-1) (7) rfl ⟨by omega, by omega⟩
  have f2 := frm_set (P := PPl) (z := ((-1))) f0 0 43 rfl
  have p2_TY := TY_cg (frm_one (P := okTY) (z := ((-1))) 0 43 rfl) p0_TY
  refine s_aload_n (pc := 5) C dX12_placeRead_5 0 rfl ?_
  refine s_iconst (pc := 6) C dX12_placeRead_6 ?_
  refine s_puti (q := 0) (ci := 12) (N := 68) (CN := RX12) (T := TX12) (ty0 := tyX12) (ty := .int) (pc := 7) C 44 dX12_placeRead_7 wlX12_266 rfl rfl rfl wfX12 tyX12_ok nmX12 (by decide) rfl rfl rfl (vp_nar_int _) rfl ?_
  have g7 := gy_set (z := 0) g2 0 44 rfl (-999) (999) rfl ⟨by omega, by omega⟩
  have f7 := frm_set (P := PPl) (z := 0) f2 0 44 rfl
  have p7_TY := TY_cg (frm_one (P := okTY) (z := 0) 0 44 rfl) p2_TY
  refine s_aload_n (pc := 10) C dX12_placeRead_10 0 rfl ?_
  refine s_geti (q := 0) (ci := 12) (N := 68) (CN := RX12) (T := TX12) (pc := 11) C 29 dX12_placeRead_11 wlX12_236 rfl rfl rfl wfX12 (by decide) rfl (σ 0 29) rfl ?_
  have b11 : (0 : Int) ≤ σ 0 29 ∧ σ 0 29 ≤ 5 := g7.1 0 29
  refine s_iconst (pc := 14) C dX12_placeRead_14 ?_
  refine s_icmp_ne (pc := 15) C (tgt := 114) dX12_placeRead_15 (by decide) ⟨by omega, by omega⟩ ⟨by decide, by decide⟩ (fun h15 => ?_) (fun h15 => ?_)
  · skip
    refine s_aload_n (pc := 114) C dX12_placeRead_114 0 rfl ?_
    refine s_iconst (pc := 115) C dX12_placeRead_115 ?_
    refine s_sipush (pc := 116) C dX12_placeRead_116 (by decide) ?_
    have r119_0_30 : (hs_ss (hs_ss σ 0 43 ((-1))) 0 44 0) 0 30 = σ 0 30 := rfl
    refine s_callVi (pc := 119) C (c_X12_numberRead l 0 999 (by first | omega | assumption | (constructor <;> omega) | (refine ⟨⟨?_, ?_⟩, ?_⟩ <;> omega) | (simp [hs_ss, hs_up]; omega) | (simp [hs_ss, hs_up]; done))) [vI 0, vI 999] [] rfl rfl dX12_placeRead_119 wlX12_272 wiX12_numberRead weX12_numberRead wcX12_numberRead wnX12 noX12_numberRead (by decide) (by decide) (Nat.le_of_ble_eq_true rfl) (gy_self g7) rfl rfl ?_
    rintro z119 σ119 k119
    obtain ⟨kg119, kf119, k119⟩ := k119
    have g119 := gy_trans g7 kg119
    have f119 := frm_tr f7 (frm_mono (Q := PPl) kf119 (fun c j h => by simp [PWr, PPl] at h ⊢ <;> omega))
    have p119_TY := TY_cg (frm_mono (Q := okTY) kf119 (fun c j h => by simp [PWr, okTY] at h ⊢ <;> omega)) p7_TY
    have up119_TY := p119_TY.1
    have x119_0_27 : σ119 0 27 = σ 0 27 := kf119 0 27 rfl
    have x119_0_28 : σ119 0 28 = σ 0 28 := kf119 0 28 rfl
    have x119_0_29 : σ119 0 29 = σ 0 29 := kf119 0 29 rfl
    have x119_0_30 : σ119 0 30 = σ 0 30 := kf119 0 30 rfl
    have x119_0_31 : σ119 0 31 = σ 0 31 := kf119 0 31 rfl
    have x119_0_32 : σ119 0 32 = σ 0 32 := kf119 0 32 rfl
    have x119_0_41 : σ119 0 41 = σ 0 41 := kf119 0 41 rfl
    show hs_Wd _ _ _ _ _ _ _ _ _ _ _ _ _ _ _ _ _ 122 _ [vI z119] σ119
    refine s_if_ne (pc := 122) C (tgt := 127) dX12_placeRead_122 (by decide) ⟨by omega, by omega⟩ (fun h122 => ?_) (fun h122 => ?_)
    · skip
      refine s_aload_n (pc := 127) C dX12_placeRead_127 0 rfl ?_
      refine s_aload_n (pc := 128) C dX12_placeRead_128 0 rfl ?_
      refine s_geti (q := 0) (ci := 12) (N := 68) (CN := RX12) (T := TX12) (pc := 129) C 30 dX12_placeRead_129 wlX12_245 rfl rfl rfl wfX12 (by decide) rfl (σ119 0 30) rfl ?_
      have b129 : (-1 : Int) ≤ σ119 0 30 ∧ σ119 0 30 ≤ 10000 := g119.1 0 30
      refine s_puti (q := 0) (ci := 12) (N := 68) (CN := RX12) (T := TX12) (ty0 := tyX12) (ty := .int) (pc := 132) C 44 dX12_placeRead_132 wlX12_266 rfl rfl rfl wfX12 tyX12_ok nmX12 (by decide) rfl rfl rfl (vp_nar_int _) rfl ?_
      have g132 := gy_set (z := (σ119 0 30)) g119 0 44 rfl (-999) (999) rfl ⟨by omega, by omega⟩
      have f132 := frm_set (P := PPl) (z := (σ119 0 30)) f119 0 44 rfl
      have p132_TY := TY_cg (frm_one (P := okTY) (z := (σ119 0 30)) 0 44 rfl) p119_TY
      refine s_aload_n (pc := 135) C dX12_placeRead_135 0 rfl ?_
      have r136_0_27 : (hs_ss σ119 0 44 (σ119 0 30)) 0 27 = σ119 0 27 := rfl
      have r136_0_28 : (hs_ss σ119 0 44 (σ119 0 30)) 0 28 = σ119 0 28 := rfl
      refine s_callVv (pc := 136) C (c_X12_take l) [] [] rfl rfl dX12_placeRead_136 wlX12_257 wiX12_take weX12_take wcX12_take wnX12 noX12_take (by decide) (by decide) (Nat.le_of_ble_eq_true rfl) ⟨(gy_self g132), by first | omega | assumption | (constructor <;> omega) | (refine ⟨⟨?_, ?_⟩, ?_⟩ <;> omega) | (simp [hs_ss, hs_up]; omega) | (simp [hs_ss, hs_up]; done)⟩ rfl rfl ?_
      rintro σ136 k136
      obtain ⟨kg136, kf136, k136⟩ := k136
      have g136 := gy_trans g132 kg136
      have f136 := frm_tr f132 (frm_mono (Q := PPl) kf136 (fun c j h => by simp [PTa, PPl] at h ⊢ <;> omega))
      have x136_0_27 : σ136 0 27 = σ119 0 27 := kf136 0 27 rfl
      have x136_0_32 : σ136 0 32 = σ119 0 32 := kf136 0 32 rfl
      have x136_0_41 : σ136 0 41 = σ119 0 41 := kf136 0 41 rfl
      obtain ⟨kt136, k136⟩ := k136
      have ut136 := kt136.1
      show hs_Wd _ _ _ _ _ _ _ _ _ _ _ _ _ _ _ _ _ 139 _ [] σ136
      refine s_iconst (pc := 139) C dX12_placeRead_139 ?_
      refine s_zret (pc := 140) C (by omega) dX12_placeRead_140 ?_
      refine ⟨_, rfl, ?_⟩
      exact ⟨g136, f136, kt136, by first | omega | assumption | (constructor <;> omega) | (refine ⟨⟨?_, ?_⟩, ?_⟩ <;> omega) | (simp [hs_ss, hs_up]; omega) | (simp [hs_ss, hs_up]; done)⟩
    · skip
      refine s_iconst (pc := 125) C dX12_placeRead_125 ?_
      refine s_zret (pc := 126) C (by omega) dX12_placeRead_126 ?_
      refine ⟨_, rfl, ?_⟩
      exact ⟨g119, f119, p119_TY, by first | omega | assumption | (constructor <;> omega) | (refine ⟨⟨?_, ?_⟩, ?_⟩ <;> omega) | (simp [hs_ss, hs_up]; omega) | (simp [hs_ss, hs_up]; done)⟩
  · skip
    refine s_aload_n (pc := 18) C dX12_placeRead_18 0 rfl ?_
    refine s_aload_n (pc := 19) C dX12_placeRead_19 0 rfl ?_
    refine s_geti (q := 0) (ci := 12) (N := 68) (CN := RX12) (T := TX12) (pc := 20) C 30 dX12_placeRead_20 wlX12_245 rfl rfl rfl wfX12 (by decide) rfl (σ 0 30) rfl ?_
    have b20 : (-1 : Int) ≤ σ 0 30 ∧ σ 0 30 ≤ 10000 := g7.1 0 30
    refine s_callVi (pc := 23) C (c_X12_isAround l (σ 0 30) ⟨by omega, by omega⟩) [vI (σ 0 30)] [] rfl rfl dX12_placeRead_23 wlX12_269 wiX12_isAround weX12_isAround wcX12_isAround wnX12 noX12_isAround (by decide) (by decide) (Nat.le_of_ble_eq_true rfl) (gy_self g7) rfl rfl ?_
    rintro z23 _ ⟨rfl, k23⟩
    show hs_Wd _ _ _ _ _ _ _ _ _ _ _ _ _ _ _ _ _ 26 _ [vI z23] (hs_ss (hs_ss σ 0 43 ((-1))) 0 44 0)
    refine s_if_ne (pc := 26) C (tgt := 35) dX12_placeRead_26 (by decide) ⟨by omega, by omega⟩ (fun h26 => ?_) (fun h26 => ?_)
    · skip
      have h7 := p0_TY.2.2.1 (by omega)
      refine s_aload_n (pc := 35) C dX12_placeRead_35 0 rfl ?_
      refine s_aload_n (pc := 36) C dX12_placeRead_36 0 rfl ?_
      refine s_geti (q := 0) (ci := 12) (N := 68) (CN := RX12) (T := TX12) (pc := 37) C 30 dX12_placeRead_37 wlX12_245 rfl rfl rfl wfX12 (by decide) rfl (σ 0 30) rfl ?_
      have b37 : (-1 : Int) ≤ σ 0 30 ∧ σ 0 30 ≤ 10000 := g7.1 0 30
      refine s_puti (q := 0) (ci := 12) (N := 68) (CN := RX12) (T := TX12) (ty0 := tyX12) (ty := .int) (pc := 40) C 43 dX12_placeRead_40 wlX12_263 rfl rfl rfl wfX12 tyX12_ok nmX12 (by decide) rfl rfl rfl (vp_nar_int _) rfl ?_
      have g40 := gy_set (z := (σ 0 30)) g7 0 43 rfl (-1) (7) rfl ⟨by omega, by omega⟩
      have f40 := frm_set (P := PPl) (z := (σ 0 30)) f7 0 43 rfl
      have p40_TY := TY_cg (frm_one (P := okTY) (z := (σ 0 30)) 0 43 rfl) p7_TY
      refine s_aload_n (pc := 43) C dX12_placeRead_43 0 rfl ?_
      have r44_0_27 : (hs_ss (hs_ss (hs_ss σ 0 43 ((-1))) 0 44 0) 0 43 (σ 0 30)) 0 27 = σ 0 27 := rfl
      have r44_0_28 : (hs_ss (hs_ss (hs_ss σ 0 43 ((-1))) 0 44 0) 0 43 (σ 0 30)) 0 28 = σ 0 28 := rfl
      refine s_callVv (pc := 44) C (c_X12_take l) [] [] rfl rfl dX12_placeRead_44 wlX12_257 wiX12_take weX12_take wcX12_take wnX12 noX12_take (by decide) (by decide) (Nat.le_of_ble_eq_true rfl) ⟨(gy_self g40), by first | omega | assumption | (constructor <;> omega) | (refine ⟨⟨?_, ?_⟩, ?_⟩ <;> omega) | (simp [hs_ss, hs_up]; omega) | (simp [hs_ss, hs_up]; done)⟩ rfl rfl ?_
      rintro σ44 k44
      obtain ⟨kg44, kf44, k44⟩ := k44
      have g44 := gy_trans g40 kg44
      have f44 := frm_tr f40 (frm_mono (Q := PPl) kf44 (fun c j h => by simp [PTa, PPl] at h ⊢ <;> omega))
      have x44_0_27 : σ44 0 27 = σ 0 27 := kf44 0 27 rfl
      have x44_0_32 : σ44 0 32 = σ 0 32 := kf44 0 32 rfl
      have x44_0_41 : σ44 0 41 = σ 0 41 := kf44 0 41 rfl
      obtain ⟨kt44, k44⟩ := k44
      have ut44 := kt44.1
      show hs_Wd _ _ _ _ _ _ _ _ _ _ _ _ _ _ _ _ _ 47 _ [] σ44
      refine s_aload_n (pc := 47) C dX12_placeRead_47 0 rfl ?_
      refine s_bipush (pc := 48) C dX12_placeRead_48 (by decide) ?_
      refine s_callVi (pc := 50) C (c_X12_isSign l 43 ⟨by omega, by omega⟩) [vI 43] [] rfl rfl dX12_placeRead_50 wlX12_251 wiX12_isSign weX12_isSign wcX12_isSign wnX12 noX12_isSign (by decide) (by decide) (Nat.le_of_ble_eq_true rfl) (gy_self g44) rfl rfl ?_
      rintro z50 _ ⟨rfl, k50⟩
      show hs_Wd _ _ _ _ _ _ _ _ _ _ _ _ _ _ _ _ _ 53 _ [vI z50] σ44
      refine s_if_ne (pc := 53) C (tgt := 67) dX12_placeRead_53 (by decide) ⟨by omega, by omega⟩ (fun h53 => ?_) (fun h53 => ?_)
      · skip
        refine s_aload_n (pc := 67) C dX12_placeRead_67 0 rfl ?_
        refine s_bipush (pc := 68) C dX12_placeRead_68 (by decide) ?_
        refine s_callVi (pc := 70) C (c_X12_isSign l 45 ⟨by omega, by omega⟩) [vI 45] [] rfl rfl dX12_placeRead_70 wlX12_251 wiX12_isSign weX12_isSign wcX12_isSign wnX12 noX12_isSign (by decide) (by decide) (Nat.le_of_ble_eq_true rfl) (gy_self g44) rfl rfl ?_
        rintro z70 _ ⟨rfl, k70⟩
        show hs_Wd _ _ _ _ _ _ _ _ _ _ _ _ _ _ _ _ _ 73 _ [vI z70] σ44
        refine s_istore_n (pc := 73) C [(1, vI z70), (0, .ref (ad 0))] dX12_placeRead_73 (by decide) rfl ?_
        refine s_aload_n (pc := 74) C dX12_placeRead_74 1 rfl ?_
        refine s_callVv (pc := 75) C (c_X12_take l) [] [] rfl rfl dX12_placeRead_75 wlX12_257 wiX12_take weX12_take wcX12_take wnX12 noX12_take (by decide) (by decide) (Nat.le_of_ble_eq_true rfl) ⟨(gy_self g44), by first | omega | assumption | (constructor <;> omega) | (refine ⟨⟨?_, ?_⟩, ?_⟩ <;> omega) | (simp [hs_ss, hs_up]; omega) | (simp [hs_ss, hs_up]; done)⟩ rfl rfl ?_
        rintro σ75 k75
        obtain ⟨kg75, kf75, k75⟩ := k75
        have g75 := gy_trans g44 kg75
        have f75 := frm_tr f44 (frm_mono (Q := PPl) kf75 (fun c j h => by simp [PTa, PPl] at h ⊢ <;> omega))
        have x75_0_27 : σ75 0 27 = σ44 0 27 := kf75 0 27 rfl
        have x75_0_32 : σ75 0 32 = σ44 0 32 := kf75 0 32 rfl
        have x75_0_41 : σ75 0 41 = σ44 0 41 := kf75 0 41 rfl
        obtain ⟨kt75, k75⟩ := k75
        have ut75 := kt75.1
        show hs_Wd _ _ _ _ _ _ _ _ _ _ _ _ _ _ _ _ _ 78 _ [] σ75
        refine s_aload_n (pc := 78) C dX12_placeRead_78 1 rfl ?_
        refine s_iconst (pc := 79) C dX12_placeRead_79 ?_
        refine s_sipush (pc := 80) C dX12_placeRead_80 (by decide) ?_
        refine s_callVi (pc := 83) C (c_X12_numberRead l 0 999 (by first | omega | assumption | (constructor <;> omega) | (refine ⟨⟨?_, ?_⟩, ?_⟩ <;> omega) | (simp [hs_ss, hs_up]; omega) | (simp [hs_ss, hs_up]; done))) [vI 0, vI 999] [] rfl rfl dX12_placeRead_83 wlX12_272 wiX12_numberRead weX12_numberRead wcX12_numberRead wnX12 noX12_numberRead (by decide) (by decide) (Nat.le_of_ble_eq_true rfl) (gy_self g75) rfl rfl ?_
        rintro z83 σ83 k83
        obtain ⟨kg83, kf83, k83⟩ := k83
        have g83 := gy_trans g75 kg83
        have f83 := frm_tr f75 (frm_mono (Q := PPl) kf83 (fun c j h => by simp [PWr, PPl] at h ⊢ <;> omega))
        have p83_TY := TY_cg (frm_mono (Q := okTY) kf83 (fun c j h => by simp [PWr, okTY] at h ⊢ <;> omega)) kt75
        have up83_TY := p83_TY.1
        have x83_0_27 : σ83 0 27 = σ75 0 27 := kf83 0 27 rfl
        have x83_0_28 : σ83 0 28 = σ75 0 28 := kf83 0 28 rfl
        have x83_0_29 : σ83 0 29 = σ75 0 29 := kf83 0 29 rfl
        have x83_0_30 : σ83 0 30 = σ75 0 30 := kf83 0 30 rfl
        have x83_0_31 : σ83 0 31 = σ75 0 31 := kf83 0 31 rfl
        have x83_0_32 : σ83 0 32 = σ75 0 32 := kf83 0 32 rfl
        have x83_0_41 : σ83 0 41 = σ75 0 41 := kf83 0 41 rfl
        show hs_Wd _ _ _ _ _ _ _ _ _ _ _ _ _ _ _ _ _ 86 _ [vI z83] σ83
        refine s_if_ne (pc := 86) C (tgt := 91) dX12_placeRead_86 (by decide) ⟨by omega, by omega⟩ (fun h86 => ?_) (fun h86 => ?_)
        · skip
          refine s_aload_n (pc := 91) C dX12_placeRead_91 1 rfl ?_
          refine s_iload_n (pc := 92) C dX12_placeRead_92 0 rfl ?_
          refine s_if_eq (pc := 93) C (tgt := 104) dX12_placeRead_93 (by decide) ⟨by omega, by omega⟩ (fun h93 => ?_) (fun h93 => ?_)
          · skip
            refine s_aload_n (pc := 104) C dX12_placeRead_104 1 rfl ?_
            refine s_geti (q := 0) (ci := 12) (N := 68) (CN := RX12) (T := TX12) (pc := 105) C 30 dX12_placeRead_105 wlX12_245 rfl rfl rfl wfX12 (by decide) rfl (σ83 0 30) rfl ?_
            have b105 : (-1 : Int) ≤ σ83 0 30 ∧ σ83 0 30 ≤ 10000 := g83.1 0 30
            refine s_puti (q := 0) (ci := 12) (N := 68) (CN := RX12) (T := TX12) (ty0 := tyX12) (ty := .int) (pc := 108) C 44 dX12_placeRead_108 wlX12_266 rfl rfl rfl wfX12 tyX12_ok nmX12 (by decide) rfl rfl rfl (vp_nar_int _) rfl ?_
            have g108 := gy_set (z := (σ83 0 30)) g83 0 44 rfl (-999) (999) rfl ⟨by omega, by omega⟩
            have f108 := frm_set (P := PPl) (z := (σ83 0 30)) f83 0 44 rfl
            have p108_TY := TY_cg (frm_one (P := okTY) (z := (σ83 0 30)) 0 44 rfl) p83_TY
            refine s_goto (pc := 111) C (tgt := 135) dX12_placeRead_111 (by decide) ?_
            refine s_aload_n (pc := 135) C dX12_placeRead_135 1 rfl ?_
            have r136_0_27 : (hs_ss σ83 0 44 (σ83 0 30)) 0 27 = σ83 0 27 := rfl
            have r136_0_28 : (hs_ss σ83 0 44 (σ83 0 30)) 0 28 = σ83 0 28 := rfl
            refine s_callVv (pc := 136) C (c_X12_take l) [] [] rfl rfl dX12_placeRead_136 wlX12_257 wiX12_take weX12_take wcX12_take wnX12 noX12_take (by decide) (by decide) (Nat.le_of_ble_eq_true rfl) ⟨(gy_self g108), by first | omega | assumption | (constructor <;> omega) | (refine ⟨⟨?_, ?_⟩, ?_⟩ <;> omega) | (simp [hs_ss, hs_up]; omega) | (simp [hs_ss, hs_up]; done)⟩ rfl rfl ?_
            rintro σ136 k136
            obtain ⟨kg136, kf136, k136⟩ := k136
            have g136 := gy_trans g108 kg136
            have f136 := frm_tr f108 (frm_mono (Q := PPl) kf136 (fun c j h => by simp [PTa, PPl] at h ⊢ <;> omega))
            have x136_0_27 : σ136 0 27 = σ83 0 27 := kf136 0 27 rfl
            have x136_0_32 : σ136 0 32 = σ83 0 32 := kf136 0 32 rfl
            have x136_0_41 : σ136 0 41 = σ83 0 41 := kf136 0 41 rfl
            obtain ⟨kt136, k136⟩ := k136
            have ut136 := kt136.1
            show hs_Wd _ _ _ _ _ _ _ _ _ _ _ _ _ _ _ _ _ 139 _ [] σ136
            refine s_iconst (pc := 139) C dX12_placeRead_139 ?_
            refine s_zret (pc := 140) C (by omega) dX12_placeRead_140 ?_
            refine ⟨_, rfl, ?_⟩
            exact ⟨g136, f136, kt136, by first | omega | assumption | (constructor <;> omega) | (refine ⟨⟨?_, ?_⟩, ?_⟩ <;> omega) | (simp [hs_ss, hs_up]; omega) | (simp [hs_ss, hs_up]; done)⟩
          · skip
            refine s_aload_n (pc := 96) C dX12_placeRead_96 1 rfl ?_
            refine s_geti (q := 0) (ci := 12) (N := 68) (CN := RX12) (T := TX12) (pc := 97) C 30 dX12_placeRead_97 wlX12_245 rfl rfl rfl wfX12 (by decide) rfl (σ83 0 30) rfl ?_
            have b97 : (-1 : Int) ≤ σ83 0 30 ∧ σ83 0 30 ≤ 10000 := g83.1 0 30
            refine s_ineg (pc := 100) C dX12_placeRead_100 ?_
            refine s_goto (pc := 101) C (tgt := 108) dX12_placeRead_101 (by decide) ?_
            refine s_puti (q := 0) (ci := 12) (N := 68) (CN := RX12) (T := TX12) (ty0 := tyX12) (ty := .int) (pc := 108) C 44 dX12_placeRead_108 wlX12_266 rfl rfl rfl wfX12 tyX12_ok nmX12 (by decide) rfl rfl rfl (vp_nar_int _) rfl ?_
            have g108 := gy_set (z := (-(σ83 0 30))) g83 0 44 rfl (-999) (999) rfl ⟨by omega, by omega⟩
            have f108 := frm_set (P := PPl) (z := (-(σ83 0 30))) f83 0 44 rfl
            have p108_TY := TY_cg (frm_one (P := okTY) (z := (-(σ83 0 30))) 0 44 rfl) p83_TY
            refine s_goto (pc := 111) C (tgt := 135) dX12_placeRead_111 (by decide) ?_
            refine s_aload_n (pc := 135) C dX12_placeRead_135 1 rfl ?_
            have r136_0_27 : (hs_ss σ83 0 44 (-(σ83 0 30))) 0 27 = σ83 0 27 := rfl
            have r136_0_28 : (hs_ss σ83 0 44 (-(σ83 0 30))) 0 28 = σ83 0 28 := rfl
            refine s_callVv (pc := 136) C (c_X12_take l) [] [] rfl rfl dX12_placeRead_136 wlX12_257 wiX12_take weX12_take wcX12_take wnX12 noX12_take (by decide) (by decide) (Nat.le_of_ble_eq_true rfl) ⟨(gy_self g108), by first | omega | assumption | (constructor <;> omega) | (refine ⟨⟨?_, ?_⟩, ?_⟩ <;> omega) | (simp [hs_ss, hs_up]; omega) | (simp [hs_ss, hs_up]; done)⟩ rfl rfl ?_
            rintro σ136 k136
            obtain ⟨kg136, kf136, k136⟩ := k136
            have g136 := gy_trans g108 kg136
            have f136 := frm_tr f108 (frm_mono (Q := PPl) kf136 (fun c j h => by simp [PTa, PPl] at h ⊢ <;> omega))
            have x136_0_27 : σ136 0 27 = σ83 0 27 := kf136 0 27 rfl
            have x136_0_32 : σ136 0 32 = σ83 0 32 := kf136 0 32 rfl
            have x136_0_41 : σ136 0 41 = σ83 0 41 := kf136 0 41 rfl
            obtain ⟨kt136, k136⟩ := k136
            have ut136 := kt136.1
            show hs_Wd _ _ _ _ _ _ _ _ _ _ _ _ _ _ _ _ _ 139 _ [] σ136
            refine s_iconst (pc := 139) C dX12_placeRead_139 ?_
            refine s_zret (pc := 140) C (by omega) dX12_placeRead_140 ?_
            refine ⟨_, rfl, ?_⟩
            exact ⟨g136, f136, kt136, by first | omega | assumption | (constructor <;> omega) | (refine ⟨⟨?_, ?_⟩, ?_⟩ <;> omega) | (simp [hs_ss, hs_up]; omega) | (simp [hs_ss, hs_up]; done)⟩
        · skip
          refine s_iconst (pc := 89) C dX12_placeRead_89 ?_
          refine s_zret (pc := 90) C (by omega) dX12_placeRead_90 ?_
          refine ⟨_, rfl, ?_⟩
          exact ⟨g83, f83, p83_TY, by first | omega | assumption | (constructor <;> omega) | (refine ⟨⟨?_, ?_⟩, ?_⟩ <;> omega) | (simp [hs_ss, hs_up]; omega) | (simp [hs_ss, hs_up]; done)⟩
      · skip
        refine s_aload_n (pc := 56) C dX12_placeRead_56 0 rfl ?_
        refine s_bipush (pc := 57) C dX12_placeRead_57 (by decide) ?_
        refine s_callVi (pc := 59) C (c_X12_isSign l 45 ⟨by omega, by omega⟩) [vI 45] [] rfl rfl dX12_placeRead_59 wlX12_251 wiX12_isSign weX12_isSign wcX12_isSign wnX12 noX12_isSign (by decide) (by decide) (Nat.le_of_ble_eq_true rfl) (gy_self g44) rfl rfl ?_
        rintro z59 _ ⟨rfl, k59⟩
        show hs_Wd _ _ _ _ _ _ _ _ _ _ _ _ _ _ _ _ _ 62 _ [vI z59] σ44
        refine s_if_ne (pc := 62) C (tgt := 67) dX12_placeRead_62 (by decide) ⟨by omega, by omega⟩ (fun h62 => ?_) (fun h62 => ?_)
        · skip
          refine s_aload_n (pc := 67) C dX12_placeRead_67 0 rfl ?_
          refine s_bipush (pc := 68) C dX12_placeRead_68 (by decide) ?_
          refine s_callVi (pc := 70) C (c_X12_isSign l 45 ⟨by omega, by omega⟩) [vI 45] [] rfl rfl dX12_placeRead_70 wlX12_251 wiX12_isSign weX12_isSign wcX12_isSign wnX12 noX12_isSign (by decide) (by decide) (Nat.le_of_ble_eq_true rfl) (gy_self g44) rfl rfl ?_
          rintro z70 _ ⟨rfl, k70⟩
          show hs_Wd _ _ _ _ _ _ _ _ _ _ _ _ _ _ _ _ _ 73 _ [vI z70] σ44
          refine s_istore_n (pc := 73) C [(1, vI z70), (0, .ref (ad 0))] dX12_placeRead_73 (by decide) rfl ?_
          refine s_aload_n (pc := 74) C dX12_placeRead_74 1 rfl ?_
          refine s_callVv (pc := 75) C (c_X12_take l) [] [] rfl rfl dX12_placeRead_75 wlX12_257 wiX12_take weX12_take wcX12_take wnX12 noX12_take (by decide) (by decide) (Nat.le_of_ble_eq_true rfl) ⟨(gy_self g44), by first | omega | assumption | (constructor <;> omega) | (refine ⟨⟨?_, ?_⟩, ?_⟩ <;> omega) | (simp [hs_ss, hs_up]; omega) | (simp [hs_ss, hs_up]; done)⟩ rfl rfl ?_
          rintro σ75 k75
          obtain ⟨kg75, kf75, k75⟩ := k75
          have g75 := gy_trans g44 kg75
          have f75 := frm_tr f44 (frm_mono (Q := PPl) kf75 (fun c j h => by simp [PTa, PPl] at h ⊢ <;> omega))
          have x75_0_27 : σ75 0 27 = σ44 0 27 := kf75 0 27 rfl
          have x75_0_32 : σ75 0 32 = σ44 0 32 := kf75 0 32 rfl
          have x75_0_41 : σ75 0 41 = σ44 0 41 := kf75 0 41 rfl
          obtain ⟨kt75, k75⟩ := k75
          have ut75 := kt75.1
          show hs_Wd _ _ _ _ _ _ _ _ _ _ _ _ _ _ _ _ _ 78 _ [] σ75
          refine s_aload_n (pc := 78) C dX12_placeRead_78 1 rfl ?_
          refine s_iconst (pc := 79) C dX12_placeRead_79 ?_
          refine s_sipush (pc := 80) C dX12_placeRead_80 (by decide) ?_
          refine s_callVi (pc := 83) C (c_X12_numberRead l 0 999 (by first | omega | assumption | (constructor <;> omega) | (refine ⟨⟨?_, ?_⟩, ?_⟩ <;> omega) | (simp [hs_ss, hs_up]; omega) | (simp [hs_ss, hs_up]; done))) [vI 0, vI 999] [] rfl rfl dX12_placeRead_83 wlX12_272 wiX12_numberRead weX12_numberRead wcX12_numberRead wnX12 noX12_numberRead (by decide) (by decide) (Nat.le_of_ble_eq_true rfl) (gy_self g75) rfl rfl ?_
          rintro z83 σ83 k83
          obtain ⟨kg83, kf83, k83⟩ := k83
          have g83 := gy_trans g75 kg83
          have f83 := frm_tr f75 (frm_mono (Q := PPl) kf83 (fun c j h => by simp [PWr, PPl] at h ⊢ <;> omega))
          have p83_TY := TY_cg (frm_mono (Q := okTY) kf83 (fun c j h => by simp [PWr, okTY] at h ⊢ <;> omega)) kt75
          have up83_TY := p83_TY.1
          have x83_0_27 : σ83 0 27 = σ75 0 27 := kf83 0 27 rfl
          have x83_0_28 : σ83 0 28 = σ75 0 28 := kf83 0 28 rfl
          have x83_0_29 : σ83 0 29 = σ75 0 29 := kf83 0 29 rfl
          have x83_0_30 : σ83 0 30 = σ75 0 30 := kf83 0 30 rfl
          have x83_0_31 : σ83 0 31 = σ75 0 31 := kf83 0 31 rfl
          have x83_0_32 : σ83 0 32 = σ75 0 32 := kf83 0 32 rfl
          have x83_0_41 : σ83 0 41 = σ75 0 41 := kf83 0 41 rfl
          show hs_Wd _ _ _ _ _ _ _ _ _ _ _ _ _ _ _ _ _ 86 _ [vI z83] σ83
          refine s_if_ne (pc := 86) C (tgt := 91) dX12_placeRead_86 (by decide) ⟨by omega, by omega⟩ (fun h86 => ?_) (fun h86 => ?_)
          · skip
            refine s_aload_n (pc := 91) C dX12_placeRead_91 1 rfl ?_
            refine s_iload_n (pc := 92) C dX12_placeRead_92 0 rfl ?_
            refine s_if_eq (pc := 93) C (tgt := 104) dX12_placeRead_93 (by decide) ⟨by omega, by omega⟩ (fun h93 => ?_) (fun h93 => ?_)
            · skip
              refine s_aload_n (pc := 104) C dX12_placeRead_104 1 rfl ?_
              refine s_geti (q := 0) (ci := 12) (N := 68) (CN := RX12) (T := TX12) (pc := 105) C 30 dX12_placeRead_105 wlX12_245 rfl rfl rfl wfX12 (by decide) rfl (σ83 0 30) rfl ?_
              have b105 : (-1 : Int) ≤ σ83 0 30 ∧ σ83 0 30 ≤ 10000 := g83.1 0 30
              refine s_puti (q := 0) (ci := 12) (N := 68) (CN := RX12) (T := TX12) (ty0 := tyX12) (ty := .int) (pc := 108) C 44 dX12_placeRead_108 wlX12_266 rfl rfl rfl wfX12 tyX12_ok nmX12 (by decide) rfl rfl rfl (vp_nar_int _) rfl ?_
              have g108 := gy_set (z := (σ83 0 30)) g83 0 44 rfl (-999) (999) rfl ⟨by omega, by omega⟩
              have f108 := frm_set (P := PPl) (z := (σ83 0 30)) f83 0 44 rfl
              have p108_TY := TY_cg (frm_one (P := okTY) (z := (σ83 0 30)) 0 44 rfl) p83_TY
              refine s_goto (pc := 111) C (tgt := 135) dX12_placeRead_111 (by decide) ?_
              refine s_aload_n (pc := 135) C dX12_placeRead_135 1 rfl ?_
              have r136_0_27 : (hs_ss σ83 0 44 (σ83 0 30)) 0 27 = σ83 0 27 := rfl
              have r136_0_28 : (hs_ss σ83 0 44 (σ83 0 30)) 0 28 = σ83 0 28 := rfl
              refine s_callVv (pc := 136) C (c_X12_take l) [] [] rfl rfl dX12_placeRead_136 wlX12_257 wiX12_take weX12_take wcX12_take wnX12 noX12_take (by decide) (by decide) (Nat.le_of_ble_eq_true rfl) ⟨(gy_self g108), by first | omega | assumption | (constructor <;> omega) | (refine ⟨⟨?_, ?_⟩, ?_⟩ <;> omega) | (simp [hs_ss, hs_up]; omega) | (simp [hs_ss, hs_up]; done)⟩ rfl rfl ?_
              rintro σ136 k136
              obtain ⟨kg136, kf136, k136⟩ := k136
              have g136 := gy_trans g108 kg136
              have f136 := frm_tr f108 (frm_mono (Q := PPl) kf136 (fun c j h => by simp [PTa, PPl] at h ⊢ <;> omega))
              have x136_0_27 : σ136 0 27 = σ83 0 27 := kf136 0 27 rfl
              have x136_0_32 : σ136 0 32 = σ83 0 32 := kf136 0 32 rfl
              have x136_0_41 : σ136 0 41 = σ83 0 41 := kf136 0 41 rfl
              obtain ⟨kt136, k136⟩ := k136
              have ut136 := kt136.1
              show hs_Wd _ _ _ _ _ _ _ _ _ _ _ _ _ _ _ _ _ 139 _ [] σ136
              refine s_iconst (pc := 139) C dX12_placeRead_139 ?_
              refine s_zret (pc := 140) C (by omega) dX12_placeRead_140 ?_
              refine ⟨_, rfl, ?_⟩
              exact ⟨g136, f136, kt136, by first | omega | assumption | (constructor <;> omega) | (refine ⟨⟨?_, ?_⟩, ?_⟩ <;> omega) | (simp [hs_ss, hs_up]; omega) | (simp [hs_ss, hs_up]; done)⟩
            · skip
              refine s_aload_n (pc := 96) C dX12_placeRead_96 1 rfl ?_
              refine s_geti (q := 0) (ci := 12) (N := 68) (CN := RX12) (T := TX12) (pc := 97) C 30 dX12_placeRead_97 wlX12_245 rfl rfl rfl wfX12 (by decide) rfl (σ83 0 30) rfl ?_
              have b97 : (-1 : Int) ≤ σ83 0 30 ∧ σ83 0 30 ≤ 10000 := g83.1 0 30
              refine s_ineg (pc := 100) C dX12_placeRead_100 ?_
              refine s_goto (pc := 101) C (tgt := 108) dX12_placeRead_101 (by decide) ?_
              refine s_puti (q := 0) (ci := 12) (N := 68) (CN := RX12) (T := TX12) (ty0 := tyX12) (ty := .int) (pc := 108) C 44 dX12_placeRead_108 wlX12_266 rfl rfl rfl wfX12 tyX12_ok nmX12 (by decide) rfl rfl rfl (vp_nar_int _) rfl ?_
              have g108 := gy_set (z := (-(σ83 0 30))) g83 0 44 rfl (-999) (999) rfl ⟨by omega, by omega⟩
              have f108 := frm_set (P := PPl) (z := (-(σ83 0 30))) f83 0 44 rfl
              have p108_TY := TY_cg (frm_one (P := okTY) (z := (-(σ83 0 30))) 0 44 rfl) p83_TY
              refine s_goto (pc := 111) C (tgt := 135) dX12_placeRead_111 (by decide) ?_
              refine s_aload_n (pc := 135) C dX12_placeRead_135 1 rfl ?_
              have r136_0_27 : (hs_ss σ83 0 44 (-(σ83 0 30))) 0 27 = σ83 0 27 := rfl
              have r136_0_28 : (hs_ss σ83 0 44 (-(σ83 0 30))) 0 28 = σ83 0 28 := rfl
              refine s_callVv (pc := 136) C (c_X12_take l) [] [] rfl rfl dX12_placeRead_136 wlX12_257 wiX12_take weX12_take wcX12_take wnX12 noX12_take (by decide) (by decide) (Nat.le_of_ble_eq_true rfl) ⟨(gy_self g108), by first | omega | assumption | (constructor <;> omega) | (refine ⟨⟨?_, ?_⟩, ?_⟩ <;> omega) | (simp [hs_ss, hs_up]; omega) | (simp [hs_ss, hs_up]; done)⟩ rfl rfl ?_
              rintro σ136 k136
              obtain ⟨kg136, kf136, k136⟩ := k136
              have g136 := gy_trans g108 kg136
              have f136 := frm_tr f108 (frm_mono (Q := PPl) kf136 (fun c j h => by simp [PTa, PPl] at h ⊢ <;> omega))
              have x136_0_27 : σ136 0 27 = σ83 0 27 := kf136 0 27 rfl
              have x136_0_32 : σ136 0 32 = σ83 0 32 := kf136 0 32 rfl
              have x136_0_41 : σ136 0 41 = σ83 0 41 := kf136 0 41 rfl
              obtain ⟨kt136, k136⟩ := k136
              have ut136 := kt136.1
              show hs_Wd _ _ _ _ _ _ _ _ _ _ _ _ _ _ _ _ _ 139 _ [] σ136
              refine s_iconst (pc := 139) C dX12_placeRead_139 ?_
              refine s_zret (pc := 140) C (by omega) dX12_placeRead_140 ?_
              refine ⟨_, rfl, ?_⟩
              exact ⟨g136, f136, kt136, by first | omega | assumption | (constructor <;> omega) | (refine ⟨⟨?_, ?_⟩, ?_⟩ <;> omega) | (simp [hs_ss, hs_up]; omega) | (simp [hs_ss, hs_up]; done)⟩
          · skip
            refine s_iconst (pc := 89) C dX12_placeRead_89 ?_
            refine s_zret (pc := 90) C (by omega) dX12_placeRead_90 ?_
            refine ⟨_, rfl, ?_⟩
            exact ⟨g83, f83, p83_TY, by first | omega | assumption | (constructor <;> omega) | (refine ⟨⟨?_, ?_⟩, ?_⟩ <;> omega) | (simp [hs_ss, hs_up]; omega) | (simp [hs_ss, hs_up]; done)⟩
        · skip
          refine s_iconst (pc := 65) C dX12_placeRead_65 ?_
          refine s_zret (pc := 66) C (by omega) dX12_placeRead_66 ?_
          refine ⟨_, rfl, ?_⟩
          exact ⟨g44, f44, kt44, by first | omega | assumption | (constructor <;> omega) | (refine ⟨⟨?_, ?_⟩, ?_⟩ <;> omega) | (simp [hs_ss, hs_up]; omega) | (simp [hs_ss, hs_up]; done)⟩
    · skip
      refine s_aload_n (pc := 29) C dX12_placeRead_29 0 rfl ?_
      refine s_iconst (pc := 30) C dX12_placeRead_30 ?_
      refine s_callVi (pc := 31) C (c_X12_wrong l 3 (by first | omega | assumption | (constructor <;> omega) | (refine ⟨⟨?_, ?_⟩, ?_⟩ <;> omega) | (simp [hs_ss, hs_up]; omega) | (simp [hs_ss, hs_up]; done))) [vI 3] [] rfl rfl dX12_placeRead_31 wlX12_254 wiX12_wrong weX12_wrong wcX12_wrong wnX12 noX12_wrong (by decide) (by decide) (Nat.le_of_ble_eq_true rfl) (gy_self g7) rfl rfl ?_
      rintro z31 σ31 k31
      obtain ⟨kg31, kf31, k31⟩ := k31
      have g31 := gy_trans g7 kg31
      have f31 := frm_tr f7 (frm_mono (Q := PPl) kf31 (fun c j h => by simp [PWr, PPl] at h ⊢ <;> omega))
      have p31_TY := TY_cg (frm_mono (Q := okTY) kf31 (fun c j h => by simp [PWr, okTY] at h ⊢ <;> omega)) p7_TY
      have up31_TY := p31_TY.1
      have x31_0_27 : σ31 0 27 = σ 0 27 := kf31 0 27 rfl
      have x31_0_28 : σ31 0 28 = σ 0 28 := kf31 0 28 rfl
      have x31_0_29 : σ31 0 29 = σ 0 29 := kf31 0 29 rfl
      have x31_0_30 : σ31 0 30 = σ 0 30 := kf31 0 30 rfl
      have x31_0_31 : σ31 0 31 = σ 0 31 := kf31 0 31 rfl
      have x31_0_32 : σ31 0 32 = σ 0 32 := kf31 0 32 rfl
      have x31_0_41 : σ31 0 41 = σ 0 41 := kf31 0 41 rfl
      show hs_Wd _ _ _ _ _ _ _ _ _ _ _ _ _ _ _ _ _ 34 _ [vI z31] σ31
      refine s_zret (pc := 34) C (by omega) dX12_placeRead_34 ?_
      refine ⟨_, rfl, ?_⟩
      exact ⟨g31, f31, p31_TY, by first | omega | assumption | (constructor <;> omega) | (refine ⟨⟨?_, ?_⟩, ?_⟩ <;> omega) | (simp [hs_ss, hs_up]; omega) | (simp [hs_ss, hs_up]; done)⟩
