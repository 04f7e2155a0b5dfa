set_option maxHeartbeats 4000000 in
set_option maxRecDepth 100000 in
theorem c_X12_take (l : Launch)  : hs_Met l yX12_take cX12_take 2 none 2 SHY (fun ad => [.ref (ad 0)]) (fun σ => GY σ σ ∧ σ 0 28 ≤ σ 0 27) (hs_PV (fun σ σ1 => GY σ σ1 ∧ FRM PTa σ σ1 ∧ TY σ1 ∧ σ 0 28 ≤ σ1 0 31)) := by
  refine hs_from pfX12_take (fun _ => Nat.le_of_ble_eq_true rfl) ?_
  intro p e s m args below meth c D dA ad A σ C hpre
  have C : hs_C p s m args meth c D dA SHY ad A 2 cX12_take RX12 none := C
  obtain ⟨g0, hpre⟩ := hpre
  have f0 : FRM PTa σ σ := frm_rf
  show hs_Wd p l e 2 s m args below meth c D dA SHY ad A 2 (hs_PV (fun σ σ1 => GY σ σ1 ∧ FRM PTa σ σ1 ∧ TY σ1 ∧ σ 0 28 ≤ σ1 0 31) σ) 0 [(0, .ref (ad 0))] [] σ
  refine s_sub C [0] [(0, .ref (ad 0))] rfl ?_
  have hi0 : GY σ σ ∧ FRM PTa σ σ ∧ σ 0 28 ≤ σ 0 28 ∧ σ 0 28 ≤ σ 0 27 := ⟨g0, f0, ⟨by omega, by omega⟩⟩
  refine hs_loop (α := hs_S) (fun x_ => (GY σ x_ ∧ FRM PTa σ x_ ∧ σ 0 28 ≤ x_ 0 28 ∧ x_ 0 28 ≤ x_ 0 27) → hs_Wd p l e 2 s m args below meth c D dA SHY ad A 2 (hs_PV (fun σ σ1 => GY σ σ1 ∧ FRM PTa σ σ1 ∧ TY σ1 ∧ σ 0 28 ≤ σ1 0 31) σ) 0 [(0, .ref (ad 0))] [] x_) (fun x_ => (501 - x_ 0 28).toNat) ?_ (σ) hi0
  rintro σ1 ih0 hinv
  replace hinv : GY σ σ1 ∧ FRM PTa σ σ1 ∧ σ 0 28 ≤ σ1 0 28 ∧ σ1 0 28 ≤ σ1 0 27 := hinv
  obtain ⟨hg0, hf0, hv0⟩ := hinv
  show hs_Wd p l e 2 s m args below meth c D dA SHY ad A 2 (hs_PV (fun σ σ1 => GY σ σ1 ∧ FRM PTa σ σ1 ∧ TY σ1 ∧ σ 0 28 ≤ σ1 0 31) σ) 0 [(0, .ref (ad 0))] [] σ1
  obtain ⟨hn0, hn1⟩ := hv0
  have b28 : (0 : Int) ≤ σ1 0 28 ∧ σ1 0 28 ≤ 500 := hg0.1 0 28
  have b27 : (0 : Int) ≤ σ1 0 27 ∧ σ1 0 27 ≤ 500 := hg0.1 0 27
  refine s_aload_n (pc := 0) C dX12_take_0 0 rfl ?_
  have j52 : (True) → hs_Wd p l e 2 s m args below meth c D dA SHY ad A 2 (hs_PV (fun σ σ1 => GY σ σ1 ∧ FRM PTa σ σ1 ∧ TY σ1 ∧ σ 0 28 ≤ σ1 0 31) σ) 52 [(0, .ref (ad 0))] [] σ1 := by
    intro  hj52
    refine s_aload_n (pc := 52) C dX12_take_52 0 rfl ?_
    refine s_aload_n (pc := 53) C dX12_take_53 0 rfl ?_
    refine s_geti (q := 0) (ci := 12) (N := 68) (CN := RX12) (T := TX12) (pc := 54) C 28 dX12_take_54 wlX12_233 rfl rfl rfl wfX12 (by decide) rfl (σ1 0 28) rfl ?_
    have b54 : (0 : Int) ≤ σ1 0 28 ∧ σ1 0 28 ≤ 500 := hg0.1 0 28
    refine s_puti (q := 0) (ci := 12) (N := 68) (CN := RX12) (T := TX12) (ty0 := tyX12) (ty := .int) (pc := 57) C 31 dX12_take_57 wlX12_227 rfl rfl rfl wfX12 tyX12_ok nmX12 (by decide) rfl rfl rfl (vp_nar_int _) rfl ?_
    have g57 := gy_set (z := (σ1 0 28)) hg0 0 31 rfl (0) (500) rfl ⟨by omega, by omega⟩
    have f57 := frm_set (P := PTa) (z := (σ1 0 28)) hf0 0 31 rfl
    refine s_aload_n (pc := 60) C dX12_take_60 0 rfl ?_
    refine s_geti (q := 0) (ci := 12) (N := 68) (CN := RX12) (T := TX12) (pc := 61) C 28 dX12_take_61 wlX12_233 rfl rfl rfl wfX12 (by decide) rfl (σ1 0 28) rfl ?_
    have b61 : (0 : Int) ≤ σ1 0 28 ∧ σ1 0 28 ≤ 500 := g57.1 0 28
    refine s_aload_n (pc := 64) C dX12_take_64 0 rfl ?_
    refine s_geti (q := 0) (ci := 12) (N := 68) (CN := RX12) (T := TX12) (pc := 65) C 27 dX12_take_65 wlX12_230 rfl rfl rfl wfX12 (by decide) rfl (σ1 0 27) rfl ?_
    have b65 : (0 : Int) ≤ σ1 0 27 ∧ σ1 0 27 ≤ 500 := g57.1 0 27
    refine s_icmp_ne (pc := 68) C (tgt := 79) dX12_take_68 (by decide) ⟨by omega, by omega⟩ ⟨by omega, by omega⟩ (fun h68 => ?_) (fun h68 => ?_)
    · skip
      refine s_aload_n (pc := 79) C dX12_take_79 0 rfl ?_
      refine s_aload_n (pc := 80) C dX12_take_80 0 rfl ?_
      refine s_geti (q := 0) (ci := 12) (N := 68) (CN := RX12) (T := TX12) (pc := 81) C 28 dX12_take_81 wlX12_233 rfl rfl rfl wfX12 (by decide) rfl (σ1 0 28) rfl ?_
      have b81 : (0 : Int) ≤ σ1 0 28 ∧ σ1 0 28 ≤ 500 := g57.1 0 28
      have r84_0_27 : (hs_ss σ1 0 31 (σ1 0 28)) 0 27 = σ1 0 27 := rfl
      refine s_callVi (pc := 84) C (c_X12_isSmall l (σ1 0 28) (by first | omega | assumption | (constructor <;> omega) | (refine ⟨⟨?_, ?_⟩, ?_⟩ <;> omega) | (simp [hs_ss, hs_up]; omega) | (simp [hs_ss, hs_up]; done))) [vI (σ1 0 28)] [] rfl rfl dX12_take_84 wlX12_239 wiX12_isSmall weX12_isSmall wcX12_isSmall wnX12 noX12_isSmall (by decide) (by decide) (Nat.le_of_ble_eq_true rfl) (gy_self g57) rfl rfl ?_
      rintro z84 _ ⟨rfl, k84⟩
      replace k84 : (z84 = 0 ∨ z84 = 1) ∧ (z84 = 1 ↔ σ1 0 28 < σ1 0 27 ∧ 97 ≤ σ1 1 (σ1 0 28).toNat ∧ σ1 1 (σ1 0 28).toNat ≤ 122) := k84
      show hs_Wd _ _ _ _ _ _ _ _ _ _ _ _ _ _ _ _ _ 87 _ [vI z84] (hs_ss σ1 0 31 (σ1 0 28))
      refine s_if_eq (pc := 87) C (tgt := 208) dX12_take_87 (by decide) ⟨by omega, by omega⟩ (fun h87 => ?_) (fun h87 => ?_)
      · skip
        refine s_aload_n (pc := 208) C dX12_take_208 0 rfl ?_
        refine s_aload_n (pc := 209) C dX12_take_209 0 rfl ?_
        refine s_geti (q := 0) (ci := 12) (N := 68) (CN := RX12) (T := TX12) (pc := 210) C 28 dX12_take_210 wlX12_233 rfl rfl rfl wfX12 (by decide) rfl (σ1 0 28) rfl ?_
        have b210 : (0 : Int) ≤ σ1 0 28 ∧ σ1 0 28 ≤ 500 := g57.1 0 28
        have r213_0_27 : (hs_ss σ1 0 31 (σ1 0 28)) 0 27 = σ1 0 27 := rfl
        refine s_callVi (pc := 213) C (c_X12_isDigit l (σ1 0 28) (by first | omega | assumption | (constructor <;> omega) | (refine ⟨⟨?_, ?_⟩, ?_⟩ <;> omega) | (simp [hs_ss, hs_up]; omega) | (simp [hs_ss, hs_up]; done))) [vI (σ1 0 28)] [] rfl rfl dX12_take_213 wlX12_248 wiX12_isDigit weX12_isDigit wcX12_isDigit wnX12 noX12_isDigit (by decide) (by decide) (Nat.le_of_ble_eq_true rfl) (gy_self g57) rfl rfl ?_
        rintro z213 _ ⟨rfl, k213⟩
        replace k213 : (z213 = 0 ∨ z213 = 1) ∧ (z213 = 1 ↔ σ1 0 28 < σ1 0 27 ∧ 48 ≤ σ1 1 (σ1 0 28).toNat ∧ σ1 1 (σ1 0 28).toNat ≤ 57) := k213
        show hs_Wd _ _ _ _ _ _ _ _ _ _ _ _ _ _ _ _ _ 216 _ [vI z213] (hs_ss σ1 0 31 (σ1 0 28))
        refine s_if_eq (pc := 216) C (tgt := 294) dX12_take_216 (by decide) ⟨by omega, by omega⟩ (fun h216 => ?_) (fun h216 => ?_)
        · skip
          refine s_aload_n (pc := 294) C dX12_take_294 0 rfl ?_
          refine s_aload_n (pc := 295) C dX12_take_295 0 rfl ?_
          refine s_getr (q := 0) (ci := 12) (N := 68) (CN := RX12) (T := TX12) (pc := 296) C 0 dX12_take_296 wlX12_7 rfl rfl rfl wfX12 (by decide) rfl ?_
          refine s_aload_n (pc := 299) C dX12_take_299 0 rfl ?_
          refine s_geti (q := 0) (ci := 12) (N := 68) (CN := RX12) (T := TX12) (pc := 300) C 28 dX12_take_300 wlX12_233 rfl rfl rfl wfX12 (by decide) rfl (σ1 0 28) rfl ?_
          have b300 : (0 : Int) ≤ σ1 0 28 ∧ σ1 0 28 ≤ 500 := g57.1 0 28
          refine s_iald (q := 1) (n := 500) (pc := 303) C (σ1 1 ((σ1 0 28).toNat)) rfl dX12_take_303 rfl (by omega) (by omega) (by decide) ?_
          have b303 : (0 : Int) ≤ σ1 1 ((σ1 0 28).toNat) ∧ σ1 1 ((σ1 0 28).toNat) ≤ 255 := g57.1 1 ((σ1 0 28).toNat)
          refine s_puti (q := 0) (ci := 12) (N := 68) (CN := RX12) (T := TX12) (ty0 := tyX12) (ty := .int) (pc := 304) C 30 dX12_take_304 wlX12_245 rfl rfl rfl wfX12 tyX12_ok nmX12 (by decide) rfl rfl rfl (vp_nar_int _) rfl ?_
          have g304 := gy_set (z := (σ1 1 ((σ1 0 28).toNat))) g57 0 30 rfl (-1) (10000) rfl ⟨by omega, by omega⟩
          have f304 := frm_set (P := PTa) (z := (σ1 1 ((σ1 0 28).toNat))) f57 0 30 rfl
          refine s_aload_n (pc := 307) C dX12_take_307 0 rfl ?_
          refine s_aload_n (pc := 308) C dX12_take_308 0 rfl ?_
          refine s_geti (q := 0) (ci := 12) (N := 68) (CN := RX12) (T := TX12) (pc := 309) C 30 dX12_take_309 wlX12_245 rfl rfl rfl wfX12 (by decide) rfl (σ1 1 ((σ1 0 28).toNat)) rfl ?_
          have b309 : (-1 : Int) ≤ σ1 1 ((σ1 0 28).toNat) ∧ σ1 1 ((σ1 0 28).toNat) ≤ 10000 := g304.1 0 30
          refine s_bipush (pc := 312) C dX12_take_312 (by decide) ?_
          refine s_icmp_eq (pc := 314) C (tgt := 353) dX12_take_314 (by decide) ⟨by omega, by omega⟩ ⟨by decide, by decide⟩ (fun h314 => ?_) (fun h314 => ?_)
          · skip
            refine s_iconst (pc := 353) C dX12_take_353 ?_
            refine s_goto (pc := 354) C (tgt := 358) dX12_take_354 (by decide) ?_
            refine s_puti (q := 0) (ci := 12) (N := 68) (CN := RX12) (T := TX12) (ty0 := tyX12) (ty := .int) (pc := 358) C 29 dX12_take_358 wlX12_236 rfl rfl rfl wfX12 tyX12_ok nmX12 (by decide) rfl rfl rfl (vp_nar_int _) rfl ?_
            have g358 := gy_set (z := 4) g304 0 29 rfl (0) (5) rfl ⟨by omega, by omega⟩
            have f358 := frm_set (P := PTa) (z := 4) f304 0 29 rfl
            refine s_aload_n (pc := 361) C dX12_take_361 0 rfl ?_
            refine s_dup (pc := 362) C dX12_take_362 rfl ?_
            refine s_geti (q := 0) (ci := 12) (N := 68) (CN := RX12) (T := TX12) (pc := 363) C 28 dX12_take_363 wlX12_233 rfl rfl rfl wfX12 (by decide) rfl (σ1 0 28) rfl ?_
            have b363 : (0 : Int) ≤ σ1 0 28 ∧ σ1 0 28 ≤ 500 := g358.1 0 28
            refine s_iconst (pc := 366) C dX12_take_366 ?_
            refine s_iadd (pc := 367) C dX12_take_367 ?_
            refine s_puti (q := 0) (ci := 12) (N := 68) (CN := RX12) (T := TX12) (ty0 := tyX12) (ty := .int) (pc := 368) C 28 dX12_take_368 wlX12_233 rfl rfl rfl wfX12 tyX12_ok nmX12 (by decide) rfl rfl rfl (vp_nar_int _) rfl ?_
            have g368 := gy_set (z := ((σ1 0 28) + 1)) g358 0 28 rfl (0) (500) rfl ⟨by omega, by omega⟩
            have f368 := frm_set (P := PTa) (z := ((σ1 0 28) + 1)) f358 0 28 rfl
            refine s_vret (pc := 371) C dX12_take_371 ?_
            refine ⟨rfl, ?_⟩
            exact ⟨g368, f368, ⟨by unfold TY; first | omega | (simp [hs_ss, hs_up]; omega), by first | omega | (simp [hs_ss, hs_up]; omega)⟩⟩
          · skip
            refine s_aload_n (pc := 317) C dX12_take_317 0 rfl ?_
            refine s_geti (q := 0) (ci := 12) (N := 68) (CN := RX12) (T := TX12) (pc := 318) C 30 dX12_take_318 wlX12_245 rfl rfl rfl wfX12 (by decide) rfl (σ1 1 ((σ1 0 28).toNat)) rfl ?_
            have b318 : (-1 : Int) ≤ σ1 1 ((σ1 0 28).toNat) ∧ σ1 1 ((σ1 0 28).toNat) ≤ 10000 := g304.1 0 30
            refine s_bipush (pc := 321) C dX12_take_321 (by decide) ?_
            refine s_icmp_eq (pc := 323) C (tgt := 353) dX12_take_323 (by decide) ⟨by omega, by omega⟩ ⟨by decide, by decide⟩ (fun h323 => ?_) (fun h323 => ?_)
            · skip
              refine s_iconst (pc := 353) C dX12_take_353 ?_
              refine s_goto (pc := 354) C (tgt := 358) dX12_take_354 (by decide) ?_
              refine s_puti (q := 0) (ci := 12) (N := 68) (CN := RX12) (T := TX12) (ty0 := tyX12) (ty := .int) (pc := 358) C 29 dX12_take_358 wlX12_236 rfl rfl rfl wfX12 tyX12_ok nmX12 (by decide) rfl rfl rfl (vp_nar_int _) rfl ?_
              have g358 := gy_set (z := 4) g304 0 29 rfl (0) (5) rfl ⟨by omega, by omega⟩
              have f358 := frm_set (P := PTa) (z := 4) f304 0 29 rfl
              refine s_aload_n (pc := 361) C dX12_take_361 0 rfl ?_
              refine s_dup (pc := 362) C dX12_take_362 rfl ?_
              refine s_geti (q := 0) (ci := 12) (N := 68) (CN := RX12) (T := TX12) (pc := 363) C 28 dX12_take_363 wlX12_233 rfl rfl rfl wfX12 (by decide) rfl (σ1 0 28) rfl ?_
              have b363 : (0 : Int) ≤ σ1 0 28 ∧ σ1 0 28 ≤ 500 := g358.1 0 28
              refine s_iconst (pc := 366) C dX12_take_366 ?_
              refine s_iadd (pc := 367) C dX12_take_367 ?_
              refine s_puti (q := 0) (ci := 12) (N := 68) (CN := RX12) (T := TX12) (ty0 := tyX12) (ty := .int) (pc := 368) C 28 dX12_take_368 wlX12_233 rfl rfl rfl wfX12 tyX12_ok nmX12 (by decide) rfl rfl rfl (vp_nar_int _) rfl ?_
              have g368 := gy_set (z := ((σ1 0 28) + 1)) g358 0 28 rfl (0) (500) rfl ⟨by omega, by omega⟩
              have f368 := frm_set (P := PTa) (z := ((σ1 0 28) + 1)) f358 0 28 rfl
              refine s_vret (pc := 371) C dX12_take_371 ?_
              refine ⟨rfl, ?_⟩
              exact ⟨g368, f368, ⟨by unfold TY; first | omega | (simp [hs_ss, hs_up]; omega), by first | omega | (simp [hs_ss, hs_up]; omega)⟩⟩
            · skip
              refine s_aload_n (pc := 326) C dX12_take_326 0 rfl ?_
              refine s_geti (q := 0) (ci := 12) (N := 68) (CN := RX12) (T := TX12) (pc := 327) C 30 dX12_take_327 wlX12_245 rfl rfl rfl wfX12 (by decide) rfl (σ1 1 ((σ1 0 28).toNat)) rfl ?_
              have b327 : (-1 : Int) ≤ σ1 1 ((σ1 0 28).toNat) ∧ σ1 1 ((σ1 0 28).toNat) ≤ 10000 := g304.1 0 30
              refine s_bipush (pc := 330) C dX12_take_330 (by decide) ?_
              refine s_icmp_eq (pc := 332) C (tgt := 353) dX12_take_332 (by decide) ⟨by omega, by omega⟩ ⟨by decide, by decide⟩ (fun h332 => ?_) (fun h332 => ?_)
              · skip
                refine s_iconst (pc := 353) C dX12_take_353 ?_
                refine s_goto (pc := 354) C (tgt := 358) dX12_take_354 (by decide) ?_
                refine s_puti (q := 0) (ci := 12) (N := 68) (CN := RX12) (T := TX12) (ty0 := tyX12) (ty := .int) (pc := 358) C 29 dX12_take_358 wlX12_236 rfl rfl rfl wfX12 tyX12_ok nmX12 (by decide) rfl rfl rfl (vp_nar_int _) rfl ?_
                have g358 := gy_set (z := 4) g304 0 29 rfl (0) (5) rfl ⟨by omega, by omega⟩
                have f358 := frm_set (P := PTa) (z := 4) f304 0 29 rfl
                refine s_aload_n (pc := 361) C dX12_take_361 0 rfl ?_
                refine s_dup (pc := 362) C dX12_take_362 rfl ?_
                refine s_geti (q := 0) (ci := 12) (N := 68) (CN := RX12) (T := TX12) (pc := 363) C 28 dX12_take_363 wlX12_233 rfl rfl rfl wfX12 (by decide) rfl (σ1 0 28) rfl ?_
                have b363 : (0 : Int) ≤ σ1 0 28 ∧ σ1 0 28 ≤ 500 := g358.1 0 28
                refine s_iconst (pc := 366) C dX12_take_366 ?_
                refine s_iadd (pc := 367) C dX12_take_367 ?_
                refine s_puti (q := 0) (ci := 12) (N := 68) (CN := RX12) (T := TX12) (ty0 := tyX12) (ty := .int) (pc := 368) C 28 dX12_take_368 wlX12_233 rfl rfl rfl wfX12 tyX12_ok nmX12 (by decide) rfl rfl rfl (vp_nar_int _) rfl ?_
                have g368 := gy_set (z := ((σ1 0 28) + 1)) g358 0 28 rfl (0) (500) rfl ⟨by omega, by omega⟩
                have f368 := frm_set (P := PTa) (z := ((σ1 0 28) + 1)) f358 0 28 rfl
                refine s_vret (pc := 371) C dX12_take_371 ?_
                refine ⟨rfl, ?_⟩
                exact ⟨g368, f368, ⟨by unfold TY; first | omega | (simp [hs_ss, hs_up]; omega), by first | omega | (simp [hs_ss, hs_up]; omega)⟩⟩
              · skip
                refine s_aload_n (pc := 335) C dX12_take_335 0 rfl ?_
                refine s_geti (q := 0) (ci := 12) (N := 68) (CN := RX12) (T := TX12) (pc := 336) C 30 dX12_take_336 wlX12_245 rfl rfl rfl wfX12 (by decide) rfl (σ1 1 ((σ1 0 28).toNat)) rfl ?_
                have b336 : (-1 : Int) ≤ σ1 1 ((σ1 0 28).toNat) ∧ σ1 1 ((σ1 0 28).toNat) ≤ 10000 := g304.1 0 30
                refine s_bipush (pc := 339) C dX12_take_339 (by decide) ?_
                refine s_icmp_eq (pc := 341) C (tgt := 353) dX12_take_341 (by decide) ⟨by omega, by omega⟩ ⟨by decide, by decide⟩ (fun h341 => ?_) (fun h341 => ?_)
                · skip
                  refine s_iconst (pc := 353) C dX12_take_353 ?_
                  refine s_goto (pc := 354) C (tgt := 358) dX12_take_354 (by decide) ?_
                  refine s_puti (q := 0) (ci := 12) (N := 68) (CN := RX12) (T := TX12) (ty0 := tyX12) (ty := .int) (pc := 358) C 29 dX12_take_358 wlX12_236 rfl rfl rfl wfX12 tyX12_ok nmX12 (by decide) rfl rfl rfl (vp_nar_int _) rfl ?_
                  have g358 := gy_set (z := 4) g304 0 29 rfl (0) (5) rfl ⟨by omega, by omega⟩
                  have f358 := frm_set (P := PTa) (z := 4) f304 0 29 rfl
                  refine s_aload_n (pc := 361) C dX12_take_361 0 rfl ?_
                  refine s_dup (pc := 362) C dX12_take_362 rfl ?_
                  refine s_geti (q := 0) (ci := 12) (N := 68) (CN := RX12) (T := TX12) (pc := 363) C 28 dX12_take_363 wlX12_233 rfl rfl rfl wfX12 (by decide) rfl (σ1 0 28) rfl ?_
                  have b363 : (0 : Int) ≤ σ1 0 28 ∧ σ1 0 28 ≤ 500 := g358.1 0 28
                  refine s_iconst (pc := 366) C dX12_take_366 ?_
                  refine s_iadd (pc := 367) C dX12_take_367 ?_
                  refine s_puti (q := 0) (ci := 12) (N := 68) (CN := RX12) (T := TX12) (ty0 := tyX12) (ty := .int) (pc := 368) C 28 dX12_take_368 wlX12_233 rfl rfl rfl wfX12 tyX12_ok nmX12 (by decide) rfl rfl rfl (vp_nar_int _) rfl ?_
                  have g368 := gy_set (z := ((σ1 0 28) + 1)) g358 0 28 rfl (0) (500) rfl ⟨by omega, by omega⟩
                  have f368 := frm_set (P := PTa) (z := ((σ1 0 28) + 1)) f358 0 28 rfl
                  refine s_vret (pc := 371) C dX12_take_371 ?_
                  refine ⟨rfl, ?_⟩
                  exact ⟨g368, f368, ⟨by unfold TY; first | omega | (simp [hs_ss, hs_up]; omega), by first | omega | (simp [hs_ss, hs_up]; omega)⟩⟩
                · skip
                  refine s_aload_n (pc := 344) C dX12_take_344 0 rfl ?_
                  refine s_geti (q := 0) (ci := 12) (N := 68) (CN := RX12) (T := TX12) (pc := 345) C 30 dX12_take_345 wlX12_245 rfl rfl rfl wfX12 (by decide) rfl (σ1 1 ((σ1 0 28).toNat)) rfl ?_
                  have b345 : (-1 : Int) ≤ σ1 1 ((σ1 0 28).toNat) ∧ σ1 1 ((σ1 0 28).toNat) ≤ 10000 := g304.1 0 30
                  refine s_bipush (pc := 348) C dX12_take_348 (by decide) ?_
                  refine s_icmp_ne (pc := 350) C (tgt := 357) dX12_take_350 (by decide) ⟨by omega, by omega⟩ ⟨by decide, by decide⟩ (fun h350 => ?_) (fun h350 => ?_)
                  · skip
                    refine s_iconst (pc := 357) C dX12_take_357 ?_
                    refine s_puti (q := 0) (ci := 12) (N := 68) (CN := RX12) (T := TX12) (ty0 := tyX12) (ty := .int) (pc := 358) C 29 dX12_take_358 wlX12_236 rfl rfl rfl wfX12 tyX12_ok nmX12 (by decide) rfl rfl rfl (vp_nar_int _) rfl ?_
                    have g358 := gy_set (z := 5) g304 0 29 rfl (0) (5) rfl ⟨by omega, by omega⟩
                    have f358 := frm_set (P := PTa) (z := 5) f304 0 29 rfl
                    refine s_aload_n (pc := 361) C dX12_take_361 0 rfl ?_
                    refine s_dup (pc := 362) C dX12_take_362 rfl ?_
                    refine s_geti (q := 0) (ci := 12) (N := 68) (CN := RX12) (T := TX12) (pc := 363) C 28 dX12_take_363 wlX12_233 rfl rfl rfl wfX12 (by decide) rfl (σ1 0 28) rfl ?_
                    have b363 : (0 : Int) ≤ σ1 0 28 ∧ σ1 0 28 ≤ 500 := g358.1 0 28
                    refine s_iconst (pc := 366) C dX12_take_366 ?_
                    refine s_iadd (pc := 367) C dX12_take_367 ?_
                    refine s_puti (q := 0) (ci := 12) (N := 68) (CN := RX12) (T := TX12) (ty0 := tyX12) (ty := .int) (pc := 368) C 28 dX12_take_368 wlX12_233 rfl rfl rfl wfX12 tyX12_ok nmX12 (by decide) rfl rfl rfl (vp_nar_int _) rfl ?_
                    have g368 := gy_set (z := ((σ1 0 28) + 1)) g358 0 28 rfl (0) (500) rfl ⟨by omega, by omega⟩
                    have f368 := frm_set (P := PTa) (z := ((σ1 0 28) + 1)) f358 0 28 rfl
                    refine s_vret (pc := 371) C dX12_take_371 ?_
                    refine ⟨rfl, ?_⟩
                    exact ⟨g368, f368, ⟨by unfold TY; first | omega | (simp [hs_ss, hs_up]; omega), by first | omega | (simp [hs_ss, hs_up]; omega)⟩⟩
                  · skip
                    refine s_iconst (pc := 353) C dX12_take_353 ?_
                    refine s_goto (pc := 354) C (tgt := 358) dX12_take_354 (by decide) ?_
                    refine s_puti (q := 0) (ci := 12) (N := 68) (CN := RX12) (T := TX12) (ty0 := tyX12) (ty := .int) (pc := 358) C 29 dX12_take_358 wlX12_236 rfl rfl rfl wfX12 tyX12_ok nmX12 (by decide) rfl rfl rfl (vp_nar_int _) rfl ?_
                    have g358 := gy_set (z := 4) g304 0 29 rfl (0) (5) rfl ⟨by omega, by omega⟩
                    have f358 := frm_set (P := PTa) (z := 4) f304 0 29 rfl
                    refine s_aload_n (pc := 361) C dX12_take_361 0 rfl ?_
                    refine s_dup (pc := 362) C dX12_take_362 rfl ?_
                    refine s_geti (q := 0) (ci := 12) (N := 68) (CN := RX12) (T := TX12) (pc := 363) C 28 dX12_take_363 wlX12_233 rfl rfl rfl wfX12 (by decide) rfl (σ1 0 28) rfl ?_
                    have b363 : (0 : Int) ≤ σ1 0 28 ∧ σ1 0 28 ≤ 500 := g358.1 0 28
                    refine s_iconst (pc := 366) C dX12_take_366 ?_
                    refine s_iadd (pc := 367) C dX12_take_367 ?_
                    refine s_puti (q := 0) (ci := 12) (N := 68) (CN := RX12) (T := TX12) (ty0 := tyX12) (ty := .int) (pc := 368) C 28 dX12_take_368 wlX12_233 rfl rfl rfl wfX12 tyX12_ok nmX12 (by decide) rfl rfl rfl (vp_nar_int _) rfl ?_
                    have g368 := gy_set (z := ((σ1 0 28) + 1)) g358 0 28 rfl (0) (500) rfl ⟨by omega, by omega⟩
                    have f368 := frm_set (P := PTa) (z := ((σ1 0 28) + 1)) f358 0 28 rfl
                    refine s_vret (pc := 371) C dX12_take_371 ?_
                    refine ⟨rfl, ?_⟩
                    exact ⟨g368, f368, ⟨by unfold TY; first | omega | (simp [hs_ss, hs_up]; omega), by first | omega | (simp [hs_ss, hs_up]; omega)⟩⟩
        · skip
          refine s_aload_n (pc := 219) C dX12_take_219 0 rfl ?_
          refine s_iconst (pc := 220) C dX12_take_220 ?_
          refine s_puti (q := 0) (ci := 12) (N := 68) (CN := RX12) (T := TX12) (ty0 := tyX12) (ty := .int) (pc := 221) C 29 dX12_take_221 wlX12_236 rfl rfl rfl wfX12 tyX12_ok nmX12 (by decide) rfl rfl rfl (vp_nar_int _) rfl ?_
          have g221 := gy_set (z := 3) g57 0 29 rfl (0) (5) rfl ⟨by omega, by omega⟩
          have f221 := frm_set (P := PTa) (z := 3) f57 0 29 rfl
          refine s_aload_n (pc := 224) C dX12_take_224 0 rfl ?_
          refine s_iconst (pc := 225) C dX12_take_225 ?_
          refine s_puti (q := 0) (ci := 12) (N := 68) (CN := RX12) (T := TX12) (ty0 := tyX12) (ty := .int) (pc := 226) C 30 dX12_take_226 wlX12_245 rfl rfl rfl wfX12 tyX12_ok nmX12 (by decide) rfl rfl rfl (vp_nar_int _) rfl ?_
          have g226 := gy_set (z := 0) g221 0 30 rfl (-1) (10000) rfl ⟨by omega, by omega⟩
          have f226 := frm_set (P := PTa) (z := 0) f221 0 30 rfl
          refine s_sub C [0] [(0, .ref (ad 0))] rfl ?_
          have hi229 : GY σ ((hs_ss (hs_ss (hs_ss σ1 0 31 (σ1 0 28)) 0 29 3) 0 30 0)) ∧ FRM PTa σ ((hs_ss (hs_ss (hs_ss σ1 0 31 (σ1 0 28)) 0 29 3) 0 30 0)) ∧ ((hs_ss (hs_ss (hs_ss σ1 0 31 (σ1 0 28)) 0 29 3) 0 30 0)) 0 31 = σ1 0 28 ∧ ((hs_ss (hs_ss (hs_ss σ1 0 31 (σ1 0 28)) 0 29 3) 0 30 0)) 0 29 = 3 ∧ 0 ≤ ((hs_ss (hs_ss (hs_ss σ1 0 31 (σ1 0 28)) 0 29 3) 0 30 0)) 0 30 ∧ ((hs_ss (hs_ss (hs_ss σ1 0 31 (σ1 0 28)) 0 29 3) 0 30 0)) 0 28 ≤ ((hs_ss (hs_ss (hs_ss σ1 0 31 (σ1 0 28)) 0 29 3) 0 30 0)) 0 27 ∧ (σ1 0 28 < ((hs_ss (hs_ss (hs_ss σ1 0 31 (σ1 0 28)) 0 29 3) 0 30 0)) 0 28 ∨ (((hs_ss (hs_ss (hs_ss σ1 0 31 (σ1 0 28)) 0 29 3) 0 30 0)) 0 28 = σ1 0 28 ∧ ((hs_ss (hs_ss (hs_ss σ1 0 31 (σ1 0 28)) 0 29 3) 0 30 0)) 0 28 < ((hs_ss (hs_ss (hs_ss σ1 0 31 (σ1 0 28)) 0 29 3) 0 30 0)) 0 27 ∧ 48 ≤ ((hs_ss (hs_ss (hs_ss σ1 0 31 (σ1 0 28)) 0 29 3) 0 30 0)) 1 (((hs_ss (hs_ss (hs_ss σ1 0 31 (σ1 0 28)) 0 29 3) 0 30 0)) 0 28).toNat ∧ ((hs_ss (hs_ss (hs_ss σ1 0 31 (σ1 0 28)) 0 29 3) 0 30 0)) 1 (((hs_ss (hs_ss (hs_ss σ1 0 31 (σ1 0 28)) 0 29 3) 0 30 0)) 0 28).toNat ≤ 57)) := ⟨g226, f226, ⟨rfl, rfl, by show (0 : Int) ≤ 0; omega, by show σ1 0 28 ≤ σ1 0 27; omega, Or.inr ⟨rfl, by show σ1 0 28 < σ1 0 27; omega, by show 48 ≤ σ1 1 (σ1 0 28).toNat; omega, by show σ1 1 (σ1 0 28).toNat ≤ 57; omega⟩⟩⟩
          refine hs_loop (α := hs_S) (fun x_ => (GY σ x_ ∧ FRM PTa σ x_ ∧ x_ 0 31 = σ1 0 28 ∧ x_ 0 29 = 3 ∧ 0 ≤ x_ 0 30 ∧ x_ 0 28 ≤ x_ 0 27 ∧ (σ1 0 28 < x_ 0 28 ∨ (x_ 0 28 = σ1 0 28 ∧ x_ 0 28 < x_ 0 27 ∧ 48 ≤ x_ 1 (x_ 0 28).toNat ∧ x_ 1 (x_ 0 28).toNat ≤ 57))) → hs_Wd p l e 2 s m args below meth c D dA SHY ad A 2 (hs_PV (fun σ σ1 => GY σ σ1 ∧ FRM PTa σ σ1 ∧ TY σ1 ∧ σ 0 28 ≤ σ1 0 31) σ) 229 [(0, .ref (ad 0))] [] x_) (fun x_ => (501 - x_ 0 28).toNat) ?_ ((hs_ss (hs_ss (hs_ss σ1 0 31 (σ1 0 28)) 0 29 3) 0 30 0)) hi229
          rintro σ3 ih229 hinv
          replace hinv : GY σ σ3 ∧ FRM PTa σ σ3 ∧ σ3 0 31 = σ1 0 28 ∧ σ3 0 29 = 3 ∧ 0 ≤ σ3 0 30 ∧ σ3 0 28 ≤ σ3 0 27 ∧ (σ1 0 28 < σ3 0 28 ∨ (σ3 0 28 = σ1 0 28 ∧ σ3 0 28 < σ3 0 27 ∧ 48 ≤ σ3 1 (σ3 0 28).toNat ∧ σ3 1 (σ3 0 28).toNat ≤ 57)) := hinv
          obtain ⟨hg229, hf229, hv229⟩ := hinv
          show hs_Wd p l e 2 s m args below meth c D dA SHY ad A 2 (hs_PV (fun σ σ1 => GY σ σ1 ∧ FRM PTa σ σ1 ∧ TY σ1 ∧ σ 0 28 ≤ σ1 0 31) σ) 229 [(0, .ref (ad 0))] [] σ3
          obtain ⟨hs31, hs29, hs30, hs28, hsm⟩ := hv229
          have b283 : (0 : Int) ≤ σ3 0 28 ∧ σ3 0 28 ≤ 500 := hg229.1 0 28
          have b273 : (0 : Int) ≤ σ3 0 27 ∧ σ3 0 27 ≤ 500 := hg229.1 0 27
          refine s_aload_n (pc := 229) C dX12_take_229 0 rfl ?_
          refine s_aload_n (pc := 230) C dX12_take_230 0 rfl ?_
          refine s_geti (q := 0) (ci := 12) (N := 68) (CN := RX12) (T := TX12) (pc := 231) C 28 dX12_take_231 wlX12_233 rfl rfl rfl wfX12 (by decide) rfl (σ3 0 28) rfl ?_
          have b231 : (0 : Int) ≤ σ3 0 28 ∧ σ3 0 28 ≤ 500 := hg229.1 0 28
          refine s_callVi (pc := 234) C (c_X12_isDigit l (σ3 0 28) (by first | omega | assumption | (constructor <;> omega) | (refine ⟨⟨?_, ?_⟩, ?_⟩ <;> omega) | (simp [hs_ss, hs_up]; omega) | (simp [hs_ss, hs_up]; done))) [vI (σ3 0 28)] [] rfl rfl dX12_take_234 wlX12_248 wiX12_isDigit weX12_isDigit wcX12_isDigit wnX12 noX12_isDigit (by decide) (by decide) (Nat.le_of_ble_eq_true rfl) (gy_self hg229) rfl rfl ?_
          rintro z234 _ ⟨rfl, k234⟩
          show hs_Wd _ _ _ _ _ _ _ _ _ _ _ _ _ _ _ _ _ 237 _ [vI z234] σ3
          refine s_if_eq (pc := 237) C (tgt := 371) dX12_take_237 (by decide) ⟨by omega, by omega⟩ (fun h237 => ?_) (fun h237 => ?_)
          · skip
            refine s_vret (pc := 371) C dX12_take_371 ?_
            refine ⟨rfl, ?_⟩
            exact ⟨hg229, hf229, ⟨by unfold TY; first | omega | (simp [hs_ss, hs_up]; omega), by first | omega | (simp [hs_ss, hs_up]; omega)⟩⟩
          · skip
            refine s_aload_n (pc := 240) C dX12_take_240 0 rfl ?_
            refine s_aload_n (pc := 241) C dX12_take_241 0 rfl ?_
            refine s_geti (q := 0) (ci := 12) (N := 68) (CN := RX12) (T := TX12) (pc := 242) C 30 dX12_take_242 wlX12_245 rfl rfl rfl wfX12 (by decide) rfl (σ3 0 30) rfl ?_
            have b242 : (-1 : Int) ≤ σ3 0 30 ∧ σ3 0 30 ≤ 10000 := hg229.1 0 30
            refine s_sipush (pc := 245) C dX12_take_245 (by decide) ?_
            refine s_icmp_le (pc := 248) C (tgt := 258) dX12_take_248 (by decide) ⟨by omega, by omega⟩ ⟨by decide, by decide⟩ (fun h248 => ?_) (fun h248 => ?_)
            · skip
              refine s_bipush (pc := 258) C dX12_take_258 (by decide) ?_
              refine s_aload_n (pc := 260) C dX12_take_260 0 rfl ?_
              refine s_geti (q := 0) (ci := 12) (N := 68) (CN := RX12) (T := TX12) (pc := 261) C 30 dX12_take_261 wlX12_245 rfl rfl rfl wfX12 (by decide) rfl (σ3 0 30) rfl ?_
              have b261 : (-1 : Int) ≤ σ3 0 30 ∧ σ3 0 30 ≤ 10000 := hg229.1 0 30
              refine s_imul (pc := 264) C dX12_take_264 ?_
              refine s_aload_n (pc := 265) C dX12_take_265 0 rfl ?_
              refine s_getr (q := 0) (ci := 12) (N := 68) (CN := RX12) (T := TX12) (pc := 266) C 0 dX12_take_266 wlX12_7 rfl rfl rfl wfX12 (by decide) rfl ?_
              refine s_aload_n (pc := 269) C dX12_take_269 0 rfl ?_
              refine s_geti (q := 0) (ci := 12) (N := 68) (CN := RX12) (T := TX12) (pc := 270) C 28 dX12_take_270 wlX12_233 rfl rfl rfl wfX12 (by decide) rfl (σ3 0 28) rfl ?_
              have b270 : (0 : Int) ≤ σ3 0 28 ∧ σ3 0 28 ≤ 500 := hg229.1 0 28
              refine s_iald (q := 1) (n := 500) (pc := 273) C (σ3 1 ((σ3 0 28).toNat)) rfl dX12_take_273 rfl (by omega) (by omega) (by decide) ?_
              have b273 : (0 : Int) ≤ σ3 1 ((σ3 0 28).toNat) ∧ σ3 1 ((σ3 0 28).toNat) ≤ 255 := hg229.1 1 ((σ3 0 28).toNat)
              refine s_iadd (pc := 274) C dX12_take_274 ?_
              refine s_bipush (pc := 275) C dX12_take_275 (by decide) ?_
              refine s_isub (pc := 277) C dX12_take_277 ?_
              refine s_puti (q := 0) (ci := 12) (N := 68) (CN := RX12) (T := TX12) (ty0 := tyX12) (ty := .int) (pc := 278) C 30 dX12_take_278 wlX12_245 rfl rfl rfl wfX12 tyX12_ok nmX12 (by decide) rfl rfl rfl (vp_nar_int _) rfl ?_
              have g278 := gy_set (z := (((10 * (σ3 0 30)) + (σ3 1 ((σ3 0 28).toNat))) - 48)) hg229 0 30 rfl (-1) (10000) rfl ⟨by omega, by omega⟩
              have f278 := frm_set (P := PTa) (z := (((10 * (σ3 0 30)) + (σ3 1 ((σ3 0 28).toNat))) - 48)) hf229 0 30 rfl
              refine s_aload_n (pc := 281) C dX12_take_281 0 rfl ?_
              refine s_dup (pc := 282) C dX12_take_282 rfl ?_
              refine s_geti (q := 0) (ci := 12) (N := 68) (CN := RX12) (T := TX12) (pc := 283) C 28 dX12_take_283 wlX12_233 rfl rfl rfl wfX12 (by decide) rfl (σ3 0 28) rfl ?_
              have b283 : (0 : Int) ≤ σ3 0 28 ∧ σ3 0 28 ≤ 500 := g278.1 0 28
              refine s_iconst (pc := 286) C dX12_take_286 ?_
              refine s_iadd (pc := 287) C dX12_take_287 ?_
              refine s_puti (q := 0) (ci := 12) (N := 68) (CN := RX12) (T := TX12) (ty0 := tyX12) (ty := .int) (pc := 288) C 28 dX12_take_288 wlX12_233 rfl rfl rfl wfX12 tyX12_ok nmX12 (by decide) rfl rfl rfl (vp_nar_int _) rfl ?_
              have g288 := gy_set (z := ((σ3 0 28) + 1)) g278 0 28 rfl (0) (500) rfl ⟨by omega, by omega⟩
              have f288 := frm_set (P := PTa) (z := ((σ3 0 28) + 1)) f278 0 28 rfl
              refine s_goto (pc := 291) C (tgt := 229) dX12_take_291 (by decide) ?_
              refine s_sub C [0] [(0, .ref (ad 0))] rfl ?_
              have hi229 : GY σ ((hs_ss (hs_ss σ3 0 30 (((10 * (σ3 0 30)) + (σ3 1 ((σ3 0 28).toNat))) - 48)) 0 28 ((σ3 0 28) + 1))) ∧ FRM PTa σ ((hs_ss (hs_ss σ3 0 30 (((10 * (σ3 0 30)) + (σ3 1 ((σ3 0 28).toNat))) - 48)) 0 28 ((σ3 0 28) + 1))) ∧ ((hs_ss (hs_ss σ3 0 30 (((10 * (σ3 0 30)) + (σ3 1 ((σ3 0 28).toNat))) - 48)) 0 28 ((σ3 0 28) + 1))) 0 31 = σ1 0 28 ∧ ((hs_ss (hs_ss σ3 0 30 (((10 * (σ3 0 30)) + (σ3 1 ((σ3 0 28).toNat))) - 48)) 0 28 ((σ3 0 28) + 1))) 0 29 = 3 ∧ 0 ≤ ((hs_ss (hs_ss σ3 0 30 (((10 * (σ3 0 30)) + (σ3 1 ((σ3 0 28).toNat))) - 48)) 0 28 ((σ3 0 28) + 1))) 0 30 ∧ ((hs_ss (hs_ss σ3 0 30 (((10 * (σ3 0 30)) + (σ3 1 ((σ3 0 28).toNat))) - 48)) 0 28 ((σ3 0 28) + 1))) 0 28 ≤ ((hs_ss (hs_ss σ3 0 30 (((10 * (σ3 0 30)) + (σ3 1 ((σ3 0 28).toNat))) - 48)) 0 28 ((σ3 0 28) + 1))) 0 27 ∧ (σ1 0 28 < ((hs_ss (hs_ss σ3 0 30 (((10 * (σ3 0 30)) + (σ3 1 ((σ3 0 28).toNat))) - 48)) 0 28 ((σ3 0 28) + 1))) 0 28 ∨ (((hs_ss (hs_ss σ3 0 30 (((10 * (σ3 0 30)) + (σ3 1 ((σ3 0 28).toNat))) - 48)) 0 28 ((σ3 0 28) + 1))) 0 28 = σ1 0 28 ∧ ((hs_ss (hs_ss σ3 0 30 (((10 * (σ3 0 30)) + (σ3 1 ((σ3 0 28).toNat))) - 48)) 0 28 ((σ3 0 28) + 1))) 0 28 < ((hs_ss (hs_ss σ3 0 30 (((10 * (σ3 0 30)) + (σ3 1 ((σ3 0 28).toNat))) - 48)) 0 28 ((σ3 0 28) + 1))) 0 27 ∧ 48 ≤ ((hs_ss (hs_ss σ3 0 30 (((10 * (σ3 0 30)) + (σ3 1 ((σ3 0 28).toNat))) - 48)) 0 28 ((σ3 0 28) + 1))) 1 (((hs_ss (hs_ss σ3 0 30 (((10 * (σ3 0 30)) + (σ3 1 ((σ3 0 28).toNat))) - 48)) 0 28 ((σ3 0 28) + 1))) 0 28).toNat ∧ ((hs_ss (hs_ss σ3 0 30 (((10 * (σ3 0 30)) + (σ3 1 ((σ3 0 28).toNat))) - 48)) 0 28 ((σ3 0 28) + 1))) 1 (((hs_ss (hs_ss σ3 0 30 (((10 * (σ3 0 30)) + (σ3 1 ((σ3 0 28).toNat))) - 48)) 0 28 ((σ3 0 28) + 1))) 0 28).toNat ≤ 57)) := ⟨g288, f288, ⟨hs31, hs29, by first | (show 0 ≤ σ3 0 30; omega) | (show 0 ≤ 10 * σ3 0 30 + σ3 1 (σ3 0 28).toNat - 48; omega), by show σ3 0 28 + 1 ≤ σ3 0 27; omega, Or.inl (by show σ1 0 28 < σ3 0 28 + 1; omega)⟩⟩
              exact ih229 ((hs_ss (hs_ss σ3 0 30 (((10 * (σ3 0 30)) + (σ3 1 ((σ3 0 28).toNat))) - 48)) 0 28 ((σ3 0 28) + 1))) (by show (501 - (σ3 0 28 + 1)).toNat < (501 - σ3 0 28).toNat; omega) hi229
            · skip
              refine s_aload_n (pc := 251) C dX12_take_251 0 rfl ?_
              refine s_geti (q := 0) (ci := 12) (N := 68) (CN := RX12) (T := TX12) (pc := 252) C 30 dX12_take_252 wlX12_245 rfl rfl rfl wfX12 (by decide) rfl (σ3 0 30) rfl ?_
              have b252 : (-1 : Int) ≤ σ3 0 30 ∧ σ3 0 30 ≤ 10000 := hg229.1 0 30
              refine s_goto (pc := 255) C (tgt := 278) dX12_take_255 (by decide) ?_
              refine s_puti (q := 0) (ci := 12) (N := 68) (CN := RX12) (T := TX12) (ty0 := tyX12) (ty := .int) (pc := 278) C 30 dX12_take_278 wlX12_245 rfl rfl rfl wfX12 tyX12_ok nmX12 (by decide) rfl rfl rfl (vp_nar_int _) rfl ?_
              have g278 := gy_set (z := (σ3 0 30)) hg229 0 30 rfl (-1) (10000) rfl ⟨by omega, by omega⟩
              have f278 := frm_set (P := PTa) (z := (σ3 0 30)) hf229 0 30 rfl
              refine s_aload_n (pc := 281) C dX12_take_281 0 rfl ?_
              refine s_dup (pc := 282) C dX12_take_282 rfl ?_
              refine s_geti (q := 0) (ci := 12) (N := 68) (CN := RX12) (T := TX12) (pc := 283) C 28 dX12_take_283 wlX12_233 rfl rfl rfl wfX12 (by decide) rfl (σ3 0 28) rfl ?_
              have b283 : (0 : Int) ≤ σ3 0 28 ∧ σ3 0 28 ≤ 500 := g278.1 0 28
              refine s_iconst (pc := 286) C dX12_take_286 ?_
              refine s_iadd (pc := 287) C dX12_take_287 ?_
              refine s_puti (q := 0) (ci := 12) (N := 68) (CN := RX12) (T := TX12) (ty0 := tyX12) (ty := .int) (pc := 288) C 28 dX12_take_288 wlX12_233 rfl rfl rfl wfX12 tyX12_ok nmX12 (by decide) rfl rfl rfl (vp_nar_int _) rfl ?_
              have g288 := gy_set (z := ((σ3 0 28) + 1)) g278 0 28 rfl (0) (500) rfl ⟨by omega, by omega⟩
              have f288 := frm_set (P := PTa) (z := ((σ3 0 28) + 1)) f278 0 28 rfl
              refine s_goto (pc := 291) C (tgt := 229) dX12_take_291 (by decide) ?_
              refine s_sub C [0] [(0, .ref (ad 0))] rfl ?_
              have hi229 : GY σ ((hs_ss (hs_ss σ3 0 30 (σ3 0 30)) 0 28 ((σ3 0 28) + 1))) ∧ FRM PTa σ ((hs_ss (hs_ss σ3 0 30 (σ3 0 30)) 0 28 ((σ3 0 28) + 1))) ∧ ((hs_ss (hs_ss σ3 0 30 (σ3 0 30)) 0 28 ((σ3 0 28) + 1))) 0 31 = σ1 0 28 ∧ ((hs_ss (hs_ss σ3 0 30 (σ3 0 30)) 0 28 ((σ3 0 28) + 1))) 0 29 = 3 ∧ 0 ≤ ((hs_ss (hs_ss σ3 0 30 (σ3 0 30)) 0 28 ((σ3 0 28) + 1))) 0 30 ∧ ((hs_ss (hs_ss σ3 0 30 (σ3 0 30)) 0 28 ((σ3 0 28) + 1))) 0 28 ≤ ((hs_ss (hs_ss σ3 0 30 (σ3 0 30)) 0 28 ((σ3 0 28) + 1))) 0 27 ∧ (σ1 0 28 < ((hs_ss (hs_ss σ3 0 30 (σ3 0 30)) 0 28 ((σ3 0 28) + 1))) 0 28 ∨ (((hs_ss (hs_ss σ3 0 30 (σ3 0 30)) 0 28 ((σ3 0 28) + 1))) 0 28 = σ1 0 28 ∧ ((hs_ss (hs_ss σ3 0 30 (σ3 0 30)) 0 28 ((σ3 0 28) + 1))) 0 28 < ((hs_ss (hs_ss σ3 0 30 (σ3 0 30)) 0 28 ((σ3 0 28) + 1))) 0 27 ∧ 48 ≤ ((hs_ss (hs_ss σ3 0 30 (σ3 0 30)) 0 28 ((σ3 0 28) + 1))) 1 (((hs_ss (hs_ss σ3 0 30 (σ3 0 30)) 0 28 ((σ3 0 28) + 1))) 0 28).toNat ∧ ((hs_ss (hs_ss σ3 0 30 (σ3 0 30)) 0 28 ((σ3 0 28) + 1))) 1 (((hs_ss (hs_ss σ3 0 30 (σ3 0 30)) 0 28 ((σ3 0 28) + 1))) 0 28).toNat ≤ 57)) := ⟨g288, f288, ⟨hs31, hs29, by first | (show 0 ≤ σ3 0 30; omega) | (show 0 ≤ 10 * σ3 0 30 + σ3 1 (σ3 0 28).toNat - 48; omega), by show σ3 0 28 + 1 ≤ σ3 0 27; omega, Or.inl (by show σ1 0 28 < σ3 0 28 + 1; omega)⟩⟩
              exact ih229 ((hs_ss (hs_ss σ3 0 30 (σ3 0 30)) 0 28 ((σ3 0 28) + 1))) (by show (501 - (σ3 0 28 + 1)).toNat < (501 - σ3 0 28).toNat; omega) hi229
      · skip
        refine s_sub C [0] [(0, .ref (ad 0))] rfl ?_
        have hi90 : GY σ ((hs_ss σ1 0 31 (σ1 0 28))) ∧ FRM PTa σ ((hs_ss σ1 0 31 (σ1 0 28))) ∧ ((hs_ss σ1 0 31 (σ1 0 28))) 0 31 = σ1 0 28 ∧ ((hs_ss σ1 0 31 (σ1 0 28))) 0 28 ≤ ((hs_ss σ1 0 31 (σ1 0 28))) 0 27 ∧ (σ1 0 28 < ((hs_ss σ1 0 31 (σ1 0 28))) 0 28 ∨ (((hs_ss σ1 0 31 (σ1 0 28))) 0 28 = σ1 0 28 ∧ ((hs_ss σ1 0 31 (σ1 0 28))) 0 28 < ((hs_ss σ1 0 31 (σ1 0 28))) 0 27 ∧ 97 ≤ ((hs_ss σ1 0 31 (σ1 0 28))) 1 (((hs_ss σ1 0 31 (σ1 0 28))) 0 28).toNat ∧ ((hs_ss σ1 0 31 (σ1 0 28))) 1 (((hs_ss σ1 0 31 (σ1 0 28))) 0 28).toNat ≤ 122)) ∧ 97 ≤ ((hs_ss σ1 0 31 (σ1 0 28))) 1 (((hs_ss σ1 0 31 (σ1 0 28))) 0 31).toNat ∧ ((hs_ss σ1 0 31 (σ1 0 28))) 1 (((hs_ss σ1 0 31 (σ1 0 28))) 0 31).toNat ≤ 122 := ⟨g57, f57, ⟨rfl, by show σ1 0 28 ≤ σ1 0 27; omega, Or.inr ⟨rfl, by show σ1 0 28 < σ1 0 27; omega, by show 97 ≤ σ1 1 (σ1 0 28).toNat; omega, by show σ1 1 (σ1 0 28).toNat ≤ 122; omega⟩, by show 97 ≤ σ1 1 (σ1 0 28).toNat; omega, by show σ1 1 (σ1 0 28).toNat ≤ 122; omega⟩⟩
        refine hs_loop (α := hs_S) (fun x_ => (GY σ x_ ∧ FRM PTa σ x_ ∧ x_ 0 31 = σ1 0 28 ∧ x_ 0 28 ≤ x_ 0 27 ∧ (σ1 0 28 < x_ 0 28 ∨ (x_ 0 28 = σ1 0 28 ∧ x_ 0 28 < x_ 0 27 ∧ 97 ≤ x_ 1 (x_ 0 28).toNat ∧ x_ 1 (x_ 0 28).toNat ≤ 122)) ∧ 97 ≤ x_ 1 (x_ 0 31).toNat ∧ x_ 1 (x_ 0 31).toNat ≤ 122) → hs_Wd p l e 2 s m args below meth c D dA SHY ad A 2 (hs_PV (fun σ σ1 => GY σ σ1 ∧ FRM PTa σ σ1 ∧ TY σ1 ∧ σ 0 28 ≤ σ1 0 31) σ) 90 [(0, .ref (ad 0))] [] x_) (fun x_ => (501 - x_ 0 28).toNat) ?_ ((hs_ss σ1 0 31 (σ1 0 28))) hi90
        rintro σ2 ih90 hinv
        replace hinv : GY σ σ2 ∧ FRM PTa σ σ2 ∧ σ2 0 31 = σ1 0 28 ∧ σ2 0 28 ≤ σ2 0 27 ∧ (σ1 0 28 < σ2 0 28 ∨ (σ2 0 28 = σ1 0 28 ∧ σ2 0 28 < σ2 0 27 ∧ 97 ≤ σ2 1 (σ2 0 28).toNat ∧ σ2 1 (σ2 0 28).toNat ≤ 122)) ∧ 97 ≤ σ2 1 (σ2 0 31).toNat ∧ σ2 1 (σ2 0 31).toNat ≤ 122 := hinv
        obtain ⟨hg90, hf90, hv90⟩ := hinv
        show hs_Wd p l e 2 s m args below meth c D dA SHY ad A 2 (hs_PV (fun σ σ1 => GY σ σ1 ∧ FRM PTa σ σ1 ∧ TY σ1 ∧ σ 0 28 ≤ σ1 0 31) σ) 90 [(0, .ref (ad 0))] [] σ2
        obtain ⟨hs31, hs28, hsm, ht0, ht1⟩ := hv90
        have b282 : (0 : Int) ≤ σ2 0 28 ∧ σ2 0 28 ≤ 500 := hg90.1 0 28
        have b272 : (0 : Int) ≤ σ2 0 27 ∧ σ2 0 27 ≤ 500 := hg90.1 0 27
        refine s_aload_n (pc := 90) C dX12_take_90 0 rfl ?_
        refine s_aload_n (pc := 91) C dX12_take_91 0 rfl ?_
        refine s_geti (q := 0) (ci := 12) (N := 68) (CN := RX12) (T := TX12) (pc := 92) C 28 dX12_take_92 wlX12_233 rfl rfl rfl wfX12 (by decide) rfl (σ2 0 28) rfl ?_
        have b92 : (0 : Int) ≤ σ2 0 28 ∧ σ2 0 28 ≤ 500 := hg90.1 0 28
        refine s_callVi (pc := 95) C (c_X12_isSmall l (σ2 0 28) (by first | omega | assumption | (constructor <;> omega) | (refine ⟨⟨?_, ?_⟩, ?_⟩ <;> omega) | (simp [hs_ss, hs_up]; omega) | (simp [hs_ss, hs_up]; done))) [vI (σ2 0 28)] [] rfl rfl dX12_take_95 wlX12_239 wiX12_isSmall weX12_isSmall wcX12_isSmall wnX12 noX12_isSmall (by decide) (by decide) (Nat.le_of_ble_eq_true rfl) (gy_self hg90) rfl rfl ?_
        rintro z95 _ ⟨rfl, k95⟩
        show hs_Wd _ _ _ _ _ _ _ _ _ _ _ _ _ _ _ _ _ 98 _ [vI z95] σ2
        refine s_if_eq (pc := 98) C (tgt := 114) dX12_take_98 (by decide) ⟨by omega, by omega⟩ (fun h98 => ?_) (fun h98 => ?_)
        · skip
          refine s_aload_n (pc := 114) C dX12_take_114 0 rfl ?_
          refine s_geti (q := 0) (ci := 12) (N := 68) (CN := RX12) (T := TX12) (pc := 115) C 28 dX12_take_115 wlX12_233 rfl rfl rfl wfX12 (by decide) rfl (σ2 0 28) rfl ?_
          have b115 : (0 : Int) ≤ σ2 0 28 ∧ σ2 0 28 ≤ 500 := hg90.1 0 28
          refine s_aload_n (pc := 118) C dX12_take_118 0 rfl ?_
          refine s_geti (q := 0) (ci := 12) (N := 68) (CN := RX12) (T := TX12) (pc := 119) C 31 dX12_take_119 wlX12_227 rfl rfl rfl wfX12 (by decide) rfl (σ2 0 31) rfl ?_
          have b119 : (0 : Int) ≤ σ2 0 31 ∧ σ2 0 31 ≤ 500 := hg90.1 0 31
          refine s_iconst (pc := 122) C dX12_take_122 ?_
          refine s_iadd (pc := 123) C dX12_take_123 ?_
          refine s_icmp_ne (pc := 124) C (tgt := 131) dX12_take_124 (by decide) ⟨by omega, by omega⟩ ⟨by omega, by omega⟩ (fun h124 => ?_) (fun h124 => ?_)
          · skip
            refine s_iconst (pc := 131) C dX12_take_131 ?_
            refine s_istore_n (pc := 132) C [(1, vI 0), (0, .ref (ad 0))] dX12_take_132 (by decide) rfl ?_
            refine s_aload_n (pc := 133) C dX12_take_133 1 rfl ?_
            refine s_iload_n (pc := 134) C dX12_take_134 0 rfl ?_
            refine s_if_eq (pc := 135) C (tgt := 153) dX12_take_135 (by decide) ⟨by decide, by decide⟩ (fun h135 => ?_) (fun h135 => ?_)
            · skip
              refine s_aload_n (pc := 153) C dX12_take_153 1 rfl ?_
              refine s_aload_n (pc := 154) C dX12_take_154 1 rfl ?_
              refine s_geti (q := 0) (ci := 12) (N := 68) (CN := RX12) (T := TX12) (pc := 155) C 31 dX12_take_155 wlX12_227 rfl rfl rfl wfX12 (by decide) rfl (σ2 0 31) rfl ?_
              have b155 : (0 : Int) ≤ σ2 0 31 ∧ σ2 0 31 ≤ 500 := hg90.1 0 31
              refine s_aload_n (pc := 158) C dX12_take_158 1 rfl ?_
              refine s_geti (q := 0) (ci := 12) (N := 68) (CN := RX12) (T := TX12) (pc := 159) C 28 dX12_take_159 wlX12_233 rfl rfl rfl wfX12 (by decide) rfl (σ2 0 28) rfl ?_
              have b159 : (0 : Int) ≤ σ2 0 28 ∧ σ2 0 28 ≤ 500 := hg90.1 0 28
              refine s_callVi (pc := 162) C (c_X12_wordAt l (σ2 0 31) (σ2 0 28) (by first | omega | assumption | (constructor <;> omega) | (refine ⟨⟨?_, ?_⟩, ?_⟩ <;> omega) | (simp [hs_ss, hs_up]; omega) | (simp [hs_ss, hs_up]; done))) [vI (σ2 0 31), vI (σ2 0 28)] [.ref (ad 0)] rfl rfl dX12_take_162 wlX12_242 wiX12_wordAt weX12_wordAt wcX12_wordAt wnX12 noX12_wordAt (by decide) (by decide) (Nat.le_of_ble_eq_true rfl) (gy_self hg90) rfl rfl ?_
              rintro z162 _ ⟨rfl, k162⟩
              show hs_Wd _ _ _ _ _ _ _ _ _ _ _ _ _ _ _ _ _ 165 _ [vI z162, .ref (ad 0)] σ2
              refine s_puti (q := 0) (ci := 12) (N := 68) (CN := RX12) (T := TX12) (ty0 := tyX12) (ty := .int) (pc := 165) C 30 dX12_take_165 wlX12_245 rfl rfl rfl wfX12 tyX12_ok nmX12 (by decide) rfl rfl rfl (vp_nar_int _) rfl ?_
              have g165 := gy_set (z := z162) hg90 0 30 rfl (-1) (10000) rfl ⟨by omega, by omega⟩
              have f165 := frm_set (P := PTa) (z := z162) hf90 0 30 rfl
              refine s_aload_n (pc := 168) C dX12_take_168 1 rfl ?_
              refine s_iload_n (pc := 169) C dX12_take_169 0 rfl ?_
              refine s_if_eq (pc := 170) C (tgt := 190) dX12_take_170 (by decide) ⟨by decide, by decide⟩ (fun h170 => ?_) (fun h170 => ?_)
              · skip
                refine s_aload_n (pc := 190) C dX12_take_190 1 rfl ?_
                refine s_geti (q := 0) (ci := 12) (N := 68) (CN := RX12) (T := TX12) (pc := 191) C 30 dX12_take_191 wlX12_245 rfl rfl rfl wfX12 (by decide) rfl (z162) rfl ?_
                have b191 : (-1 : Int) ≤ z162 ∧ z162 ≤ 10000 := g165.1 0 30
                refine s_if_ge (pc := 194) C (tgt := 201) dX12_take_194 (by decide) ⟨by omega, by omega⟩ (fun h194 => ?_) (fun h194 => ?_)
                · skip
                  refine s_iconst (pc := 201) C dX12_take_201 ?_
                  refine s_puti (q := 0) (ci := 12) (N := 68) (CN := RX12) (T := TX12) (ty0 := tyX12) (ty := .int) (pc := 202) C 29 dX12_take_202 wlX12_236 rfl rfl rfl wfX12 tyX12_ok nmX12 (by decide) rfl rfl rfl (vp_nar_int _) rfl ?_
                  have g202 := gy_set (z := 1) g165 0 29 rfl (0) (5) rfl ⟨by omega, by omega⟩
                  have f202 := frm_set (P := PTa) (z := 1) f165 0 29 rfl
                  refine s_goto (pc := 205) C (tgt := 371) dX12_take_205 (by decide) ?_
                  refine s_vret (pc := 371) C dX12_take_371 ?_
                  refine ⟨rfl, ?_⟩
                  exact ⟨g202, f202, ⟨by unfold TY; first | omega | (simp [hs_ss, hs_up]; omega), by first | omega | (simp [hs_ss, hs_up]; omega)⟩⟩
                · skip
                  refine s_iconst (pc := 197) C dX12_take_197 ?_
                  refine s_goto (pc := 198) C (tgt := 202) dX12_take_198 (by decide) ?_
                  refine s_puti (q := 0) (ci := 12) (N := 68) (CN := RX12) (T := TX12) (ty0 := tyX12) (ty := .int) (pc := 202) C 29 dX12_take_202 wlX12_236 rfl rfl rfl wfX12 tyX12_ok nmX12 (by decide) rfl rfl rfl (vp_nar_int _) rfl ?_
                  have g202 := gy_set (z := 5) g165 0 29 rfl (0) (5) rfl ⟨by omega, by omega⟩
                  have f202 := frm_set (P := PTa) (z := 5) f165 0 29 rfl
                  refine s_goto (pc := 205) C (tgt := 371) dX12_take_205 (by decide) ?_
                  refine s_vret (pc := 371) C dX12_take_371 ?_
                  refine ⟨rfl, ?_⟩
                  exact ⟨g202, f202, ⟨by unfold TY; first | omega | (simp [hs_ss, hs_up]; omega), by first | omega | (simp [hs_ss, hs_up]; omega)⟩⟩
              · exact absurd h170 (by decide)
            · exact absurd h135 (by decide)
          · skip
            refine s_iconst (pc := 127) C dX12_take_127 ?_
            refine s_goto (pc := 128) C (tgt := 132) dX12_take_128 (by decide) ?_
            refine s_istore_n (pc := 132) C [(1, vI 1), (0, .ref (ad 0))] dX12_take_132 (by decide) rfl ?_
            refine s_aload_n (pc := 133) C dX12_take_133 1 rfl ?_
            refine s_iload_n (pc := 134) C dX12_take_134 0 rfl ?_
            refine s_if_eq (pc := 135) C (tgt := 153) dX12_take_135 (by decide) ⟨by decide, by decide⟩ (fun h135 => ?_) (fun h135 => ?_)
            · exact absurd h135 (by decide)
            · skip
              refine s_aload_n (pc := 138) C dX12_take_138 1 rfl ?_
              refine s_getr (q := 0) (ci := 12) (N := 68) (CN := RX12) (T := TX12) (pc := 139) C 0 dX12_take_139 wlX12_7 rfl rfl rfl wfX12 (by decide) rfl ?_
              refine s_aload_n (pc := 142) C dX12_take_142 1 rfl ?_
              refine s_geti (q := 0) (ci := 12) (N := 68) (CN := RX12) (T := TX12) (pc := 143) C 31 dX12_take_143 wlX12_227 rfl rfl rfl wfX12 (by decide) rfl (σ2 0 31) rfl ?_
              have b143 : (0 : Int) ≤ σ2 0 31 ∧ σ2 0 31 ≤ 500 := hg90.1 0 31
              refine s_iald (q := 1) (n := 500) (pc := 146) C (σ2 1 ((σ2 0 31).toNat)) rfl dX12_take_146 rfl (by omega) (by omega) (by decide) ?_
              have b146 : (0 : Int) ≤ σ2 1 ((σ2 0 31).toNat) ∧ σ2 1 ((σ2 0 31).toNat) ≤ 255 := hg90.1 1 ((σ2 0 31).toNat)
              refine s_bipush (pc := 147) C dX12_take_147 (by decide) ?_
              refine s_isub (pc := 149) C dX12_take_149 ?_
              refine s_goto (pc := 150) C (tgt := 165) dX12_take_150 (by decide) ?_
              refine s_puti (q := 0) (ci := 12) (N := 68) (CN := RX12) (T := TX12) (ty0 := tyX12) (ty := .int) (pc := 165) C 30 dX12_take_165 wlX12_245 rfl rfl rfl wfX12 tyX12_ok nmX12 (by decide) rfl rfl rfl (vp_nar_int _) rfl ?_
              have g165 := gy_set (z := ((σ2 1 ((σ2 0 31).toNat)) - 97)) hg90 0 30 rfl (-1) (10000) rfl ⟨by omega, by omega⟩
              have f165 := frm_set (P := PTa) (z := ((σ2 1 ((σ2 0 31).toNat)) - 97)) hf90 0 30 rfl
              refine s_aload_n (pc := 168) C dX12_take_168 1 rfl ?_
              refine s_iload_n (pc := 169) C dX12_take_169 0 rfl ?_
              refine s_if_eq (pc := 170) C (tgt := 190) dX12_take_170 (by decide) ⟨by decide, by decide⟩ (fun h170 => ?_) (fun h170 => ?_)
              · exact absurd h170 (by decide)
              · skip
                refine s_aload_n (pc := 173) C dX12_take_173 1 rfl ?_
                refine s_geti (q := 0) (ci := 12) (N := 68) (CN := RX12) (T := TX12) (pc := 174) C 30 dX12_take_174 wlX12_245 rfl rfl rfl wfX12 (by decide) rfl ((σ2 1 ((σ2 0 31).toNat)) - 97) rfl ?_
                have b174 : (-1 : Int) ≤ (σ2 1 ((σ2 0 31).toNat)) - 97 ∧ (σ2 1 ((σ2 0 31).toNat)) - 97 ≤ 10000 := g165.1 0 30
                refine s_bipush (pc := 177) C dX12_take_177 (by decide) ?_
                refine s_icmp_ge (pc := 179) C (tgt := 186) dX12_take_179 (by decide) ⟨by omega, by omega⟩ ⟨by decide, by decide⟩ (fun h179 => ?_) (fun h179 => ?_)
                · skip
                  refine s_iconst (pc := 186) C dX12_take_186 ?_
                  refine s_goto (pc := 187) C (tgt := 202) dX12_take_187 (by decide) ?_
                  refine s_puti (q := 0) (ci := 12) (N := 68) (CN := RX12) (T := TX12) (ty0 := tyX12) (ty := .int) (pc := 202) C 29 dX12_take_202 wlX12_236 rfl rfl rfl wfX12 tyX12_ok nmX12 (by decide) rfl rfl rfl (vp_nar_int _) rfl ?_
                  have g202 := gy_set (z := 5) g165 0 29 rfl (0) (5) rfl ⟨by omega, by omega⟩
                  have f202 := frm_set (P := PTa) (z := 5) f165 0 29 rfl
                  refine s_goto (pc := 205) C (tgt := 371) dX12_take_205 (by decide) ?_
                  refine s_vret (pc := 371) C dX12_take_371 ?_
                  refine ⟨rfl, ?_⟩
                  exact ⟨g202, f202, ⟨by unfold TY; first | omega | (simp [hs_ss, hs_up]; omega), by first | omega | (simp [hs_ss, hs_up]; omega)⟩⟩
                · skip
                  refine s_iconst (pc := 182) C dX12_take_182 ?_
                  refine s_goto (pc := 183) C (tgt := 202) dX12_take_183 (by decide) ?_
                  refine s_puti (q := 0) (ci := 12) (N := 68) (CN := RX12) (T := TX12) (ty0 := tyX12) (ty := .int) (pc := 202) C 29 dX12_take_202 wlX12_236 rfl rfl rfl wfX12 tyX12_ok nmX12 (by decide) rfl rfl rfl (vp_nar_int _) rfl ?_
                  have g202 := gy_set (z := 2) g165 0 29 rfl (0) (5) rfl ⟨by omega, by omega⟩
                  have f202 := frm_set (P := PTa) (z := 2) f165 0 29 rfl
                  refine s_goto (pc := 205) C (tgt := 371) dX12_take_205 (by decide) ?_
                  refine s_vret (pc := 371) C dX12_take_371 ?_
                  refine ⟨rfl, ?_⟩
                  exact ⟨g202, f202, ⟨by unfold TY; first | omega | (simp [hs_ss, hs_up]; omega), by first | omega | (simp [hs_ss, hs_up]; omega)⟩⟩
        · skip
          refine s_aload_n (pc := 101) C dX12_take_101 0 rfl ?_
          refine s_dup (pc := 102) C dX12_take_102 rfl ?_
          refine s_geti (q := 0) (ci := 12) (N := 68) (CN := RX12) (T := TX12) (pc := 103) C 28 dX12_take_103 wlX12_233 rfl rfl rfl wfX12 (by decide) rfl (σ2 0 28) rfl ?_
          have b103 : (0 : Int) ≤ σ2 0 28 ∧ σ2 0 28 ≤ 500 := hg90.1 0 28
          refine s_iconst (pc := 106) C dX12_take_106 ?_
          refine s_iadd (pc := 107) C dX12_take_107 ?_
          refine s_puti (q := 0) (ci := 12) (N := 68) (CN := RX12) (T := TX12) (ty0 := tyX12) (ty := .int) (pc := 108) C 28 dX12_take_108 wlX12_233 rfl rfl rfl wfX12 tyX12_ok nmX12 (by decide) rfl rfl rfl (vp_nar_int _) rfl ?_
          have g108 := gy_set (z := ((σ2 0 28) + 1)) hg90 0 28 rfl (0) (500) rfl ⟨by omega, by omega⟩
          have f108 := frm_set (P := PTa) (z := ((σ2 0 28) + 1)) hf90 0 28 rfl
          refine s_goto (pc := 111) C (tgt := 90) dX12_take_111 (by decide) ?_
          refine s_sub C [0] [(0, .ref (ad 0))] rfl ?_
          have hi90 : GY σ ((hs_ss σ2 0 28 ((σ2 0 28) + 1))) ∧ FRM PTa σ ((hs_ss σ2 0 28 ((σ2 0 28) + 1))) ∧ ((hs_ss σ2 0 28 ((σ2 0 28) + 1))) 0 31 = σ1 0 28 ∧ ((hs_ss σ2 0 28 ((σ2 0 28) + 1))) 0 28 ≤ ((hs_ss σ2 0 28 ((σ2 0 28) + 1))) 0 27 ∧ (σ1 0 28 < ((hs_ss σ2 0 28 ((σ2 0 28) + 1))) 0 28 ∨ (((hs_ss σ2 0 28 ((σ2 0 28) + 1))) 0 28 = σ1 0 28 ∧ ((hs_ss σ2 0 28 ((σ2 0 28) + 1))) 0 28 < ((hs_ss σ2 0 28 ((σ2 0 28) + 1))) 0 27 ∧ 97 ≤ ((hs_ss σ2 0 28 ((σ2 0 28) + 1))) 1 (((hs_ss σ2 0 28 ((σ2 0 28) + 1))) 0 28).toNat ∧ ((hs_ss σ2 0 28 ((σ2 0 28) + 1))) 1 (((hs_ss σ2 0 28 ((σ2 0 28) + 1))) 0 28).toNat ≤ 122)) ∧ 97 ≤ ((hs_ss σ2 0 28 ((σ2 0 28) + 1))) 1 (((hs_ss σ2 0 28 ((σ2 0 28) + 1))) 0 31).toNat ∧ ((hs_ss σ2 0 28 ((σ2 0 28) + 1))) 1 (((hs_ss σ2 0 28 ((σ2 0 28) + 1))) 0 31).toNat ≤ 122 := ⟨g108, f108, ⟨hs31, by show σ2 0 28 + 1 ≤ σ2 0 27; omega, Or.inl (by show σ1 0 28 < σ2 0 28 + 1; omega), ht0, ht1⟩⟩
          exact ih90 ((hs_ss σ2 0 28 ((σ2 0 28) + 1))) (by show (501 - (σ2 0 28 + 1)).toNat < (501 - σ2 0 28).toNat; omega) hi90
    · skip
      refine s_aload_n (pc := 71) C dX12_take_71 0 rfl ?_
      refine s_iconst (pc := 72) C dX12_take_72 ?_
      refine s_puti (q := 0) (ci := 12) (N := 68) (CN := RX12) (T := TX12) (ty0 := tyX12) (ty := .int) (pc := 73) C 29 dX12_take_73 wlX12_236 rfl rfl rfl wfX12 tyX12_ok nmX12 (by decide) rfl rfl rfl (vp_nar_int _) rfl ?_
      have g73 := gy_set (z := 0) g57 0 29 rfl (0) (5) rfl ⟨by omega, by omega⟩
      have f73 := frm_set (P := PTa) (z := 0) f57 0 29 rfl
      refine s_goto (pc := 76) C (tgt := 371) dX12_take_76 (by decide) ?_
      refine s_vret (pc := 371) C dX12_take_371 ?_
      refine ⟨rfl, ?_⟩
      exact ⟨g73, f73, ⟨by unfold TY; first | omega | (simp [hs_ss, hs_up]; omega), by first | omega | (simp [hs_ss, hs_up]; omega)⟩⟩
  refine s_geti (q := 0) (ci := 12) (N := 68) (CN := RX12) (T := TX12) (pc := 1) C 28 dX12_take_1 wlX12_233 rfl rfl rfl wfX12 (by decide) rfl (σ1 0 28) rfl ?_
  have b1 : (0 : Int) ≤ σ1 0 28 ∧ σ1 0 28 ≤ 500 := hg0.1 0 28
  refine s_aload_n (pc := 4) C dX12_take_4 0 rfl ?_
  refine s_geti (q := 0) (ci := 12) (N := 68) (CN := RX12) (T := TX12) (pc := 5) C 27 dX12_take_5 wlX12_230 rfl rfl rfl wfX12 (by decide) rfl (σ1 0 27) rfl ?_
  have b5 : (0 : Int) ≤ σ1 0 27 ∧ σ1 0 27 ≤ 500 := hg0.1 0 27
  refine s_icmp_ge (pc := 8) C (tgt := 52) dX12_take_8 (by decide) ⟨by omega, by omega⟩ ⟨by omega, by omega⟩ (fun h8 => ?_) (fun h8 => ?_)
  · skip
    refine s_sub C [0] [(0, .ref (ad 0))] rfl ?_
    exact j52  (by first | omega | assumption | (constructor <;> omega) | (refine ⟨⟨?_, ?_⟩, ?_⟩ <;> omega) | (simp [hs_ss, hs_up]; omega) | (simp [hs_ss, hs_up]; done))
  · skip
    refine s_aload_n (pc := 11) C dX12_take_11 0 rfl ?_
    refine s_getr (q := 0) (ci := 12) (N := 68) (CN := RX12) (T := TX12) (pc := 12) C 0 dX12_take_12 wlX12_7 rfl rfl rfl wfX12 (by decide) rfl ?_
    refine s_aload_n (pc := 15) C dX12_take_15 0 rfl ?_
    refine s_geti (q := 0) (ci := 12) (N := 68) (CN := RX12) (T := TX12) (pc := 16) C 28 dX12_take_16 wlX12_233 rfl rfl rfl wfX12 (by decide) rfl (σ1 0 28) rfl ?_
    have b16 : (0 : Int) ≤ σ1 0 28 ∧ σ1 0 28 ≤ 500 := hg0.1 0 28
    refine s_iald (q := 1) (n := 500) (pc := 19) C (σ1 1 ((σ1 0 28).toNat)) rfl dX12_take_19 rfl (by omega) (by omega) (by decide) ?_
    have b19 : (0 : Int) ≤ σ1 1 ((σ1 0 28).toNat) ∧ σ1 1 ((σ1 0 28).toNat) ≤ 255 := hg0.1 1 ((σ1 0 28).toNat)
    refine s_bipush (pc := 20) C dX12_take_20 (by decide) ?_
    refine s_icmp_eq (pc := 22) C (tgt := 39) dX12_take_22 (by decide) ⟨by omega, by omega⟩ ⟨by decide, by decide⟩ (fun h22 => ?_) (fun h22 => ?_)
    · skip
      refine s_aload_n (pc := 39) C dX12_take_39 0 rfl ?_
      refine s_dup (pc := 40) C dX12_take_40 rfl ?_
      refine s_geti (q := 0) (ci := 12) (N := 68) (CN := RX12) (T := TX12) (pc := 41) C 28 dX12_take_41 wlX12_233 rfl rfl rfl wfX12 (by decide) rfl (σ1 0 28) rfl ?_
      have b41 : (0 : Int) ≤ σ1 0 28 ∧ σ1 0 28 ≤ 500 := hg0.1 0 28
      refine s_iconst (pc := 44) C dX12_take_44 ?_
      refine s_iadd (pc := 45) C dX12_take_45 ?_
      refine s_puti (q := 0) (ci := 12) (N := 68) (CN := RX12) (T := TX12) (ty0 := tyX12) (ty := .int) (pc := 46) C 28 dX12_take_46 wlX12_233 rfl rfl rfl wfX12 tyX12_ok nmX12 (by decide) rfl rfl rfl (vp_nar_int _) rfl ?_
      have g46 := gy_set (z := ((σ1 0 28) + 1)) hg0 0 28 rfl (0) (500) rfl ⟨by omega, by omega⟩
      have f46 := frm_set (P := PTa) (z := ((σ1 0 28) + 1)) hf0 0 28 rfl
      refine s_goto (pc := 49) C (tgt := 0) dX12_take_49 (by decide) ?_
      refine s_sub C [0] [(0, .ref (ad 0))] rfl ?_
      have hi0 : GY σ ((hs_ss σ1 0 28 ((σ1 0 28) + 1))) ∧ FRM PTa σ ((hs_ss σ1 0 28 ((σ1 0 28) + 1))) ∧ σ 0 28 ≤ ((hs_ss σ1 0 28 ((σ1 0 28) + 1))) 0 28 ∧ ((hs_ss σ1 0 28 ((σ1 0 28) + 1))) 0 28 ≤ ((hs_ss σ1 0 28 ((σ1 0 28) + 1))) 0 27 := ⟨g46, f46, ⟨by show σ 0 28 ≤ σ1 0 28 + 1; omega, by show σ1 0 28 + 1 ≤ σ1 0 27; omega⟩⟩
      exact ih0 ((hs_ss σ1 0 28 ((σ1 0 28) + 1))) (by show (501 - (σ1 0 28 + 1)).toNat < (501 - σ1 0 28).toNat; omega) hi0
    · skip
      refine s_aload_n (pc := 25) C dX12_take_25 0 rfl ?_
      refine s_getr (q := 0) (ci := 12) (N := 68) (CN := RX12) (T := TX12) (pc := 26) C 0 dX12_take_26 wlX12_7 rfl rfl rfl wfX12 (by decide) rfl ?_
      refine s_aload_n (pc := 29) C dX12_take_29 0 rfl ?_
      refine s_geti (q := 0) (ci := 12) (N := 68) (CN := RX12) (T := TX12) (pc := 30) C 28 dX12_take_30 wlX12_233 rfl rfl rfl wfX12 (by decide) rfl (σ1 0 28) rfl ?_
      have b30 : (0 : Int) ≤ σ1 0 28 ∧ σ1 0 28 ≤ 500 := hg0.1 0 28
      refine s_iald (q := 1) (n := 500) (pc := 33) C (σ1 1 ((σ1 0 28).toNat)) rfl dX12_take_33 rfl (by omega) (by omega) (by decide) ?_
      have b33 : (0 : Int) ≤ σ1 1 ((σ1 0 28).toNat) ∧ σ1 1 ((σ1 0 28).toNat) ≤ 255 := hg0.1 1 ((σ1 0 28).toNat)
      refine s_bipush (pc := 34) C dX12_take_34 (by decide) ?_
      refine s_icmp_ne (pc := 36) C (tgt := 52) dX12_take_36 (by decide) ⟨by omega, by omega⟩ ⟨by decide, by decide⟩ (fun h36 => ?_) (fun h36 => ?_)
      · skip
        refine s_sub C [0] [(0, .ref (ad 0))] rfl ?_
        exact j52  (by first | omega | assumption | (constructor <;> omega) | (refine ⟨⟨?_, ?_⟩, ?_⟩ <;> omega) | (simp [hs_ss, hs_up]; omega) | (simp [hs_ss, hs_up]; done))
      · skip
        refine s_aload_n (pc := 39) C dX12_take_39 0 rfl ?_
        refine s_dup (pc := 40) C dX12_take_40 rfl ?_
        refine s_geti (q := 0) (ci := 12) (N := 68) (CN := RX12) (T := TX12) (pc := 41) C 28 dX12_take_41 wlX12_233 rfl rfl rfl wfX12 (by decide) rfl (σ1 0 28) rfl ?_
        have b41 : (0 : Int) ≤ σ1 0 28 ∧ σ1 0 28 ≤ 500 := hg0.1 0 28
        refine s_iconst (pc := 44) C dX12_take_44 ?_
        refine s_iadd (pc := 45) C dX12_take_45 ?_
        refine s_puti (q := 0) (ci := 12) (N := 68) (CN := RX12) (T := TX12) (ty0 := tyX12) (ty := .int) (pc := 46) C 28 dX12_take_46 wlX12_233 rfl rfl rfl wfX12 tyX12_ok nmX12 (by decide) rfl rfl rfl (vp_nar_int _) rfl ?_
        have g46 := gy_set (z := ((σ1 0 28) + 1)) hg0 0 28 rfl (0) (500) rfl ⟨by omega, by omega⟩
        have f46 := frm_set (P := PTa) (z := ((σ1 0 28) + 1)) hf0 0 28 rfl
        refine s_goto (pc := 49) C (tgt := 0) dX12_take_49 (by decide) ?_
        refine s_sub C [0] [(0, .ref (ad 0))] rfl ?_
        have hi0 : GY σ ((hs_ss σ1 0 28 ((σ1 0 28) + 1))) ∧ FRM PTa σ ((hs_ss σ1 0 28 ((σ1 0 28) + 1))) ∧ σ 0 28 ≤ ((hs_ss σ1 0 28 ((σ1 0 28) + 1))) 0 28 ∧ ((hs_ss σ1 0 28 ((σ1 0 28) + 1))) 0 28 ≤ ((hs_ss σ1 0 28 ((σ1 0 28) + 1))) 0 27 := ⟨g46, f46, ⟨by show σ 0 28 ≤ σ1 0 28 + 1; omega, by show σ1 0 28 + 1 ≤ σ1 0 27; omega⟩⟩
        exact ih0 ((hs_ss σ1 0 28 ((σ1 0 28) + 1))) (by show (501 - (σ1 0 28 + 1)).toNat < (501 - σ1 0 28).toNat; omega) hi0
