set_option maxHeartbeats 4000000 in
set_option maxRecDepth 100000 in
theorem a_look {p : Program} {e : Env} {s : State} {m : MethodId} {below : List Frame} {meth : Method} {c : Code} {l : Launch} {b L : Nat} {xs : Nat → Int32} {D : va_G} {dA : Nat → ClassId} {A : Nat → Prop} {Q : State → Prop} {adx ady : Nat → Nat} {qo sa : Nat} {wo : va_W} (hL : L = 8) (C : hs_Cl p s m b L xs meth c D dA A) (hfl : l.stackTraces = false) (hU : vx_Zq Jvm.Bundle.tN "UNASSIGNED_STACK" Jvm.Bundle.steD A s s.heap) (hN : vx_Zq Jvm.Bundle.tN "SUPPRESSED_SENTINEL" Jvm.Bundle.listD A s s.heap) (hR : vk_R RX11 177 "no such wheel" sa s) (hCa : lk_nw s) (kend : ∀ (ws : va_W) (z : Int), hs_Wn p l e room_1 s m #[Value.ref b] below meth c D A 7 Q 1144 [(6, vI z), (5, vI 1), (4, vI 0), (3, .ref qo), (2, .ref (ady 0)), (1, .ref (adx 0)), (0, .ref b)] [] ws 97 12455) : hs_Wn p l e room_1 s m #[Value.ref b] below meth c D A 7 Q 475 [(4, vI 0), (3, .ref qo), (2, .ref (ady 0)), (1, .ref (adx 0)), (0, .ref b)] [] (hs_W SHX dA adx σX ++ (hs_W SHY dA ady σY ++ wo)) 96 12449 := by
  refine l_aload_n (pc := 475) C dL_law_475 3 rfl ?_
  refine l_aload_n (pc := 476) C dL_law_476 4 rfl ?_
  refine l_iload (pc := 477) C dL_law_477 0 rfl ?_
  refine l_iconst (pc := 479) C dL_law_479 ?_
  refine l_iadd (pc := 480) C dL_law_480 ?_
  refine l_sld (pc := 481) C 1 dL_law_481 (by decide) (by decide) (by omega) (by omega) ?_
  refine l_aload_n (pc := 482) C dL_law_482 4 rfl ?_
  refine l_iload (pc := 483) C dL_law_483 0 rfl ?_
  refine l_iconst (pc := 485) C dL_law_485 ?_
  refine l_iadd (pc := 486) C dL_law_486 ?_
  refine l_sld (pc := 487) C 2 dL_law_487 (by decide) (by decide) (by omega) (by omega) ?_
  refine l_aload_n (pc := 488) C dL_law_488 1 rfl ?_
  refine l_callK (pc := 489) (wr := (hs_W SHY dA ady σY ++ wo)) (rest := []) hfl C (xs 1).toInt (xs 2).toInt (hs_oR _) (hs_oR _) hU hN hR hCa dL_law_489 (by decide) (by decide) (by decide) ?_
  refine l_istore (pc := 492) C [(5, vI 1), (4, vI 0), (3, .ref qo), (2, .ref (ady 0)), (1, .ref (adx 0)), (0, .ref b)] dL_law_492 (by decide) rfl ?_
  refine l_aload_n (pc := 494) C dL_law_494 3 rfl ?_
  refine l_aload_n (pc := 495) C dL_law_495 5 rfl ?_
  refine l_iload (pc := 496) C dL_law_496 1 rfl ?_
  refine l_iconst (pc := 498) C dL_law_498 ?_
  refine l_iadd (pc := 499) C dL_law_499 ?_
  refine l_sld (pc := 500) C 1 dL_law_500 (by decide) (by decide) (by omega) (by omega) ?_
  refine l_aload_n (pc := 501) C dL_law_501 5 rfl ?_
  refine l_iload (pc := 502) C dL_law_502 1 rfl ?_
  refine l_iconst (pc := 504) C dL_law_504 ?_
  refine l_iadd (pc := 505) C dL_law_505 ?_
  refine l_sld (pc := 506) C 2 dL_law_506 (by decide) (by decide) (by omega) (by omega) ?_
  refine l_swap C (w1 := hs_W SHX dA adx σX) (w2 := hs_W SHY dA ady σY) (w3 := wo) rfl ?_
  refine l_callP (pc := 507) (SH := SHY) (ad := ady) (σ := σY) (wr := (wo ++ hs_W SHX dA adx σX)) C (c_X12_look l (xs 1).toInt ⟨by have := hs_oR (xs 1); omega, by have := hs_oR (xs 1); omega⟩ (xs 2).toInt ⟨by have := hs_oR (xs 2); omega, by have := hs_oR (xs 2); omega⟩) [vI (xs 1).toInt, vI (xs 2).toInt] [] rfl rfl rfl dL_law_507 wlL_59 wiX12_look weX12_look wcX12_look wnX12 noX12_look (by decide) (by decide) (Nat.le_of_ble_eq_true rfl) (by decide) (by decide) rfl rfl gy0 ?_
  rintro _ σ2 ⟨zy, rfl, kzy⟩
  show hs_Wn p l e room_1 s m #[Value.ref b] below meth c D A 7 Q 510 [(5, vI 1), (4, vI 0), (3, .ref qo), (2, .ref (ady 0)), (1, .ref (adx 0)), (0, .ref b)] [vI zy] (hs_W SHY dA ady σ2 ++ (wo ++ hs_W SHX dA adx σX)) 97 12455
  refine l_istore (pc := 510) C [(6, vI zy), (5, vI 1), (4, vI 0), (3, .ref qo), (2, .ref (ady 0)), (1, .ref (adx 0)), (0, .ref b)] dL_law_510 (by decide) rfl ?_
  refine l_aload_n (pc := 512) C dL_law_512 4 rfl ?_
  refine l_callP (pc := 513) (SH := SHY) (ad := ady) (σ := σ2) (wr := (wo ++ hs_W SHX dA adx σX)) C (c_X12_thrown l) [] [] rfl rfl rfl dL_law_513 wlL_60 wiX12_thrown weX12_thrown wcX12_thrown wnX12 noX12_thrown (by decide) (by decide) (Nat.le_of_ble_eq_true rfl) (by decide) (by decide) rfl rfl ⟨kzy.1.1, ky_rf⟩ ?_
  rintro _ _ ⟨zt, rfl, rfl, kt⟩
  show hs_Wn p l e room_1 s m #[Value.ref b] below meth c D A 7 Q 516 [(6, vI zy), (5, vI 1), (4, vI 0), (3, .ref qo), (2, .ref (ady 0)), (1, .ref (adx 0)), (0, .ref b)] [vI zt] (hs_W SHY dA ady σ2 ++ (wo ++ hs_W SHX dA adx σX)) 97 12455
  have y06 : σY 0 6 = 0 := rfl
  have h1 : σ2 0 2 = 1 := (kzy.2.2.1 (by omega)).1
  have hzt : zt = 1 := by omega
  refine l_iload (pc := 516) C dL_law_516 1 rfl ?_
  refine l_icmp_eq (pc := 518) C (tgt := 523) dL_law_518 (by decide) ⟨by omega, by omega⟩ ⟨by decide, by decide⟩ (fun _ => ?_) (fun h => absurd hzt h)
  refine l_iload (pc := 523) C dL_law_523 1 rfl ?_
  refine l_if_ne (pc := 525) C (tgt := 540) dL_law_525 (by decide) ⟨by decide, by decide⟩ (fun _ => ?_) (fun h => absurd h (by decide))
  exact l_goto (pc := 540) C (tgt := 1144) dL_law_540 (by decide) (kend _ _)
