theorem l_fin {p : Program} {e : Env} {s : State} {m : MethodId} {below : List Frame} {meth : Method} {c : Code} {l : Launch} {b L : Nat} {xs : Nat → Int32} {D : va_G} {dA : Nat → ClassId} (C : hs_Cl p s m b L xs meth c D dA (fun q : Nat => s.heap.size ≤ q)) (hr : meth.sig.returnType = ret) (hlocks : meth.locks = false) {lv : List (Nat × Value)} {ws : va_W} {cells slots : Nat} (hc : cells ≤ 600002) (hsl : slots ≤ 7302231) : hs_Wn p l e room_1 s m #[Value.ref b] below meth c D (fun q : Nat => s.heap.size ≤ q) 7 (lw_Z below #[Value.ref b] s) 1150 lv [] ws cells slots := by
  intro H locs ls hP hD hS hl
  refine lv_iconst C.1 C.2.1 dL_law_1150 rfl ?_
  refine va_forget (fun q hq => hS.2.2 q hq) ?_
  refine W.widen (k := 600002) (n := 7302231) hc hsl ?_
  exact lw_ret C.1 C.2.1 hr hlocks dL_law_1151
theorem l_end {p : Program} {e : Env} {s : State} {m : MethodId} {below : List Frame} {meth : Method} {c : Code} {l : Launch} {b L : Nat} {xs : Nat → Int32} {D : va_G} {dA : Nat → ClassId} (hL : L = 8) (C : hs_Cl p s m b L xs meth c D dA (fun q : Nat => s.heap.size ≤ q)) (hr : meth.sig.returnType = ret) (hlocks : meth.locks = false) {lv : List (Nat × Value)} (lv2 : List (Nat × Value)) (j j2 j3 : Nat) (hj : lv[j]? = some (4, vI 0)) (h2 : (4, Value.int (Int32.ofInt (0 + 8))) :: lv.filter (fun q => !(q.1 == 4) && !(q.1 + 1 == 4 && q.2.category == 2)) = lv2) (hj2 : lv2[j2]? = some (4, vI (0 + 8))) (hj3 : lv2[j3]? = some (0, .ref b)) {ws : va_W} {cells slots : Nat} (hc : cells ≤ 600002) (hsl : slots ≤ 7302231) : hs_Wn p l e room_1 s m #[Value.ref b] below meth c D (fun q : Nat => s.heap.size ≤ q) 7 (lw_Z below #[Value.ref b] s) 1144 lv [] ws cells slots := by
  refine l_iinc (pc := 1144) C lv2 dL_law_1144 j hj (by decide) h2 ?_
  refine l_goto (pc := 1147) C (tgt := 23) dL_law_1147 (by decide) ?_
  refine l_iload (pc := 23) C dL_law_23 j2 hj2 ?_
  refine l_aload_n (pc := 25) C dL_law_25 j3 hj3 ?_
  refine l_slen (pc := 26) C dL_law_26 (by omega) ?_
  refine l_bipush (pc := 27) C dL_law_27 (by decide) ?_
  refine l_isub (pc := 29) C dL_law_29 ?_
  exact l_icmp_gt (pc := 30) C (tgt := 1150) dL_law_30 (by decide) ⟨by decide, by decide⟩ ⟨by omega, by omega⟩ (fun _ => l_fin C hr hlocks hc hsl) (fun h => by omega)
set_option maxHeartbeats 4000000 in
set_option maxRecDepth 100000 in
theorem l_head {p : Program} {e : Env} {s : State} {m : MethodId} {below : List Frame} {meth : Method} {c : Code} {l : Launch} {b L : Nat} {xs : Nat → Int32} {D : va_G} {dA : Nat → ClassId} (hL : L ≤ 8) (C : hs_Cl p s m b L xs meth c D dA (fun q : Nat => s.heap.size ≤ q)) (hr : meth.sig.returnType = ret) (hlocks : meth.locks = false) (hfl : l.stackTraces = false) (hU : vx_Zq Jvm.Bundle.tN "UNASSIGNED_STACK" Jvm.Bundle.steD (fun q : Nat => s.heap.size ≤ q) s s.heap) (hN : vx_Zq Jvm.Bundle.tN "SUPPRESSED_SENTINEL" Jvm.Bundle.listD (fun q : Nat => s.heap.size ≤ q) s s.heap) {sa : Nat} (hR : vk_R RX11 177 "no such wheel" sa s) (hCa : lk_nw s) {adx ady : Nat → Nat} {qo : Nat} {wo : va_W} : hs_Wn p l e room_1 s m #[Value.ref b] below meth c D (fun q : Nat => s.heap.size ≤ q) 7 (lw_Z below #[Value.ref b] s) 23 [(4, vI 0), (3, .ref qo), (2, .ref (ady 0)), (1, .ref (adx 0)), (0, .ref b)] [] (hs_W SHX dA adx σX ++ (hs_W SHY dA ady σY ++ wo)) 96 12449 := by
  refine l_iload (pc := 23) C dL_law_23 0 rfl ?_
  refine l_aload_n (pc := 25) C dL_law_25 4 rfl ?_
  refine l_slen (pc := 26) C dL_law_26 (by omega) ?_
  refine l_bipush (pc := 27) C dL_law_27 (by decide) ?_
  refine l_isub (pc := 29) C dL_law_29 ?_
  refine l_icmp_gt (pc := 30) C (tgt := 1150) dL_law_30 (by decide) ⟨by decide, by decide⟩ ⟨by omega, by omega⟩ (fun _ => l_fin C hr hlocks (by decide) (by decide)) (fun h30 => ?_)
  have hL8 : L = 8 := by omega
  have kend : ∀ ws : va_W, hs_Wn p l e room_1 s m #[Value.ref b] below meth c D (fun q : Nat => s.heap.size ≤ q) 7 (lw_Z below #[Value.ref b] s) 1144 [(4, vI 0), (3, .ref qo), (2, .ref (ady 0)), (1, .ref (adx 0)), (0, .ref b)] [] ws 96 12449 := fun ws => l_end hL8 C hr hlocks [(4, vI (0 + 8)), (3, .ref qo), (2, .ref (ady 0)), (1, .ref (adx 0)), (0, .ref b)] 0 0 4 rfl rfl rfl rfl (by decide) (by decide)
  have kend2 : ∀ (ws : va_W) (z : Int), hs_Wn p l e room_1 s m #[Value.ref b] below meth c D (fun q : Nat => s.heap.size ≤ q) 7 (lw_Z below #[Value.ref b] s) 1144 [(6, vI z), (5, vI 1), (4, vI 0), (3, .ref qo), (2, .ref (ady 0)), (1, .ref (adx 0)), (0, .ref b)] [] ws 97 12455 := fun ws z => l_end hL8 C hr hlocks [(4, vI (0 + 8)), (6, vI z), (5, vI 1), (3, .ref qo), (2, .ref (ady 0)), (1, .ref (adx 0)), (0, .ref b)] 2 0 6 rfl rfl rfl rfl (by decide) (by decide)
  refine l_aload_n (pc := 33) C dL_law_33 4 rfl ?_
  refine l_iload (pc := 34) C dL_law_34 0 rfl ?_
  refine l_sld (pc := 36) C 0 dL_law_36 (by decide) (by decide) (by omega) (by omega) ?_
  refine l_bipush (pc := 37) C dL_law_37 (by decide) ?_
  refine l_iand (pc := 39) C dL_law_39 (fun z hz => ?_)
  rcases Classical.em (z < 0 ∨ 26 < z) with ho | ho
  · exact l_swOut (pc := 40) C (tgt := 1144) dL_law_40 hz ho (by decide) (kend _)
  · rcases (show z = 0 ∨ z = 1 ∨ z = 2 ∨ z = 3 ∨ z = 4 ∨ z = 5 ∨ z = 6 ∨ z = 7 ∨ z = 8 ∨ z = 9 ∨ z = 10 ∨ z = 11 ∨ z = 12 ∨ z = 13 ∨ z = 14 ∨ z = 15 ∨ z = 16 ∨ z = 17 ∨ z = 18 ∨ z = 19 ∨ z = 20 ∨ z = 21 ∨ z = 22 ∨ z = 23 ∨ z = 24 ∨ z = 25 ∨ z = 26 by omega) with rfl | rfl | rfl | rfl | rfl | rfl | rfl | rfl | rfl | rfl | rfl | rfl | rfl | rfl | rfl | rfl | rfl | rfl | rfl | rfl | rfl | rfl | rfl | rfl | rfl | rfl | rfl
    · exact l_swIn (pc := 40) C (tgt := 164) dL_law_40 hz (by decide) (by decide) (off := 124) rfl (by decide) (a_feed hL8 C kend)
    · exact l_swIn (pc := 40) C (tgt := 237) dL_law_40 hz (by decide) (by decide) (off := 197) rfl (by decide) (a_turn hL8 C kend)
    · exact l_swIn (pc := 40) C (tgt := 262) dL_law_40 hz (by decide) (by decide) (off := 222) rfl (by decide) (a_turned hL8 C kend)
    · exact l_swIn (pc := 40) C (tgt := 287) dL_law_40 hz (by decide) (by decide) (off := 247) rfl (by decide) (a_dial hL8 C kend)
    · exact l_swIn (pc := 40) C (tgt := 312) dL_law_40 hz (by decide) (by decide) (off := 272) rfl (by decide) (a_wheel hL8 C kend)
    · exact l_swIn (pc := 40) C (tgt := 413) dL_law_40 hz (by decide) (by decide) (off := 373) rfl (by decide) (a_second hL8 C kend)
    · exact l_swIn (pc := 40) C (tgt := 450) dL_law_40 hz (by decide) (by decide) (off := 410) rfl (by decide) (a_step hL8 C kend)
    · exact l_swIn (pc := 40) C (tgt := 475) dL_law_40 hz (by decide) (by decide) (off := 435) rfl (by decide) (a_look hL8 C hfl hU hN hR hCa kend2)
    · exact l_swIn (pc := 40) C (tgt := 543) dL_law_40 hz (by decide) (by decide) (off := 503) rfl (by decide) (a_rides hL8 C kend)
    · exact l_swIn (pc := 40) C (tgt := 556) dL_law_40 hz (by decide) (by decide) (off := 516) rfl (by decide) (a_open hL8 C kend)
    · exact l_swIn (pc := 40) C (tgt := 569) dL_law_40 hz (by decide) (by decide) (off := 529) rfl (by decide) (a_clock hL8 C kend)
    · exact l_swIn (pc := 40) C (tgt := 594) dL_law_40 hz (by decide) (by decide) (off := 554) rfl (by decide) (a_hours hL8 C kend)
    · exact l_swIn (pc := 40) C (tgt := 619) dL_law_40 hz (by decide) (by decide) (off := 579) rfl (by decide) (a_comes hL8 C kend)
    · exact l_swIn (pc := 40) C (tgt := 672) dL_law_40 hz (by decide) (by decide) (off := 632) rfl (by decide) (a_change hL8 C kend)
    · exact l_swIn (pc := 40) C (tgt := 709) dL_law_40 hz (by decide) (by decide) (off := 669) rfl (by decide) (a_feel hL8 C kend)
    · exact l_swIn (pc := 40) C (tgt := 746) dL_law_40 hz (by decide) (by decide) (off := 706) rfl (by decide) (a_doubt hL8 C kend)
    · exact l_swIn (pc := 40) C (tgt := 771) dL_law_40 hz (by decide) (by decide) (off := 731) rfl (by decide) (a_may hL8 C kend)
    · exact l_swIn (pc := 40) C (tgt := 808) dL_law_40 hz (by decide) (by decide) (off := 768) rfl (by decide) (a_cover hL8 C kend)
    · exact l_swIn (pc := 40) C (tgt := 845) dL_law_40 hz (by decide) (by decide) (off := 805) rfl (by decide) (a_seek hL8 C kend)
    · exact l_swIn (pc := 40) C (tgt := 871) dL_law_40 hz (by decide) (by decide) (off := 831) rfl (by decide) (a_best hL8 C kend)
    · exact l_swIn (pc := 40) C (tgt := 897) dL_law_40 hz (by decide) (by decide) (off := 857) rfl (by decide) (a_days hL8 C kend)
    · exact l_swIn (pc := 40) C (tgt := 922) dL_law_40 hz (by decide) (by decide) (off := 882) rfl (by decide) (a_tell hL8 C kend)
    · exact l_swIn (pc := 40) C (tgt := 971) dL_law_40 hz (by decide) (by decide) (off := 931) rfl (by decide) (a_strike hL8 C kend)
    · exact l_swIn (pc := 40) C (tgt := 996) dL_law_40 hz (by decide) (by decide) (off := 956) rfl (by decide) (a_gate hL8 C kend)
    · exact l_swIn (pc := 40) C (tgt := 1033) dL_law_40 hz (by decide) (by decide) (off := 993) rfl (by decide) (a_knows hL8 C kend)
    · exact l_swIn (pc := 40) C (tgt := 1082) dL_law_40 hz (by decide) (by decide) (off := 1042) rfl (by decide) (a_can hL8 C kend)
    · exact l_swIn (pc := 40) C (tgt := 1119) dL_law_40 hz (by decide) (by decide) (off := 1079) rfl (by decide) (a_count hL8 C kend)
theorem st1 {p : Program} {e : Env} {s : State} {m : MethodId} {below : List Frame} {meth : Method} {c : Code} {l : Launch} {b L : Nat} {xs : Nat → Int32} {D : va_G} {dA : Nat → ClassId} (C : hs_Cl p s m b L xs meth c D dA (fun q : Nat => s.heap.size ≤ q)) (k : ∀ (q1 : Nat) (r1 : Nat → Nat), hs_Wn p l e room_1 s m #[Value.ref b] below meth c D (fun q : Nat => s.heap.size ≤ q) 7 (lw_Z below #[Value.ref b] s) 8 [(1, .ref q1), (0, .ref b)] [] ([] ++ W_X11 dA q1 r1) 55 5705) : hs_Wn p l e room_1 s m #[Value.ref b] below meth c D (fun q : Nat => s.heap.size ≤ q) 7 (lw_Z below #[Value.ref b] s) 0 [(0, .ref b)] [] [] 0 0 := by
  refine l_new (pc := 0) (ci := 11) (CN := RX11) (T := TX11) (N := 11) C [.null, .null, .null, .null, .null, .null, .null, .null, .null, vI 0, vI 0] dL_law_0 wlL_8 wfX11 tyX11_ok wbX11 wnX11 rfl (by decide +kernel) (by decide) (by decide) (fun q1 => ?_)
  refine l_dup (pc := 3) C dL_law_3 rfl ?_
  refine l_callI (pc := 4) C (k_X11 l) [] [.ref q1] rfl rfl dL_law_4 wlL_17 wiX11_init wcX11_init wnX11 rfl noX11_init (by decide) (by decide) (Nat.le_of_ble_eq_true rfl) (by decide) (by decide) (fun r1 => ?_)
  exact l_astore_n (pc := 7) C [(1, .ref q1), (0, .ref b)] dL_law_7 (by decide) rfl (k q1 r1)
theorem st2 {p : Program} {e : Env} {s : State} {m : MethodId} {below : List Frame} {meth : Method} {c : Code} {l : Launch} {b L : Nat} {xs : Nat → Int32} {D : va_G} {dA : Nat → ClassId} {wx : va_W} {q1 : Nat} (C : hs_Cl p s m b L xs meth c D dA (fun q : Nat => s.heap.size ≤ q)) (k : ∀ (q2 : Nat) (r2 : Nat → Nat) (qo : Nat) (cA : ClassId), hs_Wn p l e room_1 s m #[Value.ref b] below meth c D (fun q : Nat => s.heap.size ≤ q) 7 (lw_Z below #[Value.ref b] s) 23 [(4, vI 0), (3, .ref qo), (2, .ref q2), (1, .ref q1), (0, .ref b)] [] ((wx ++ W_X12 dA q2 r2) ++ [(qo, .inl (cA, 1, .inr (.inl (fun _ => 0))))]) 96 12449) : hs_Wn p l e room_1 s m #[Value.ref b] below meth c D (fun q : Nat => s.heap.size ≤ q) 7 (lw_Z below #[Value.ref b] s) 8 [(1, .ref q1), (0, .ref b)] [] wx 55 5705 := by
  refine l_new (pc := 8) (ci := 12) (CN := RX12) (T := TX12) (N := 68) C [.null, vI 0, vI 0, vI 0, vI 0, vI 0, vI 0, .null, .null, .null, .null, .null, .null, .null, .null, .null, .null, vI 0, vI 0, vI 0, vI 0, .null, .null, vI 0, .null, vI 0, vI 0, vI 0, vI 0, vI 0, vI 0, vI 0, vI 0, .null, .null, .null, .null, .null, .null, .null, .null, vI 0, .null, vI 0, vI 0, vI 0, vI 0, vI 0, .null, vI 0, .null, .null, .null, vI 0, .null, .null, .null, .null, vL 0, .null, .null, vI 0, .null, .null, .null, .null, .null, .null] dL_law_8 wlL_18 wfX12 tyX12_ok wbX12 wnX12 rfl (by decide +kernel) (by decide) (by decide) (fun q2 => ?_)
  refine l_dup (pc := 11) C dL_law_11 rfl ?_
  refine l_callI (pc := 12) C (k_X12 l) wx [.ref q2] rfl rfl dL_law_12 wlL_20 wiX12_init wcX12_init wnX12 rfl noX12_init (by decide) (by decide) (Nat.le_of_ble_eq_true rfl) (by decide) (by decide) (fun r2 => ?_)
  refine l_astore_n (pc := 15) C [(2, .ref q2), (1, .ref q1), (0, .ref b)] dL_law_15 (by decide) rfl ?_
  refine l_iconst (pc := 16) C dL_law_16 ?_
  refine l_newL (pc := 17) (N := 1) C dL_law_17 (by decide) (by decide) (by decide) (by decide) (by decide) (fun qo cA _ => ?_)
  refine l_astore_n (pc := 19) C [(3, .ref qo), (2, .ref q2), (1, .ref q1), (0, .ref b)] dL_law_19 (by decide) rfl ?_
  refine l_iconst (pc := 20) C dL_law_20 ?_
  exact l_istore (pc := 21) C [(4, vI 0), (3, .ref qo), (2, .ref q2), (1, .ref q1), (0, .ref b)] dL_law_21 (by decide) rfl (k q2 r2 qo cA)

theorem whole_start {p : Program} {e : Env} {s : State} {m : MethodId} {below : List Frame} {meth : Method} {c : Code} (l : Launch) (hfl : l.stackTraces = false) {b L : Nat} {xs : Nat → Int32} (hL : L ≤ 8) (C0 : lw_At p s m meth c b L xs) : W p l e room_1 s m #[Value.ref b] below meth c s.heap [] 0 0 (lw_Z below #[Value.ref b] s) (entryFrame m ([Value.ref b] : List Value).toArray 7) := by
  obtain ⟨hx, hb, hr, hml, hown, hts, hX, hbl, hlocks, hgv⟩ := id C0
  obtain ⟨D, dA, hKC⟩ := lw_KC hts
  have C : hs_Cl p s m b L xs meth c D dA (fun q : Nat => s.heap.size ≤ q) := ⟨hx, hb, hml, hown, lw_WS hts, hKC, fun _ h => h, hX, hbl, Nat.not_le.mpr hbl⟩
  have hs := flat_of_before _ hgv
  have hA0 : ∀ a : Nat, a < s.heap.size → ¬ (fun q : Nat => s.heap.size ≤ q) a := fun a h => Nat.not_le.mpr h
  have hU := vx_Zqof (A := (fun q : Nat => s.heap.size ≤ q)) (hts (.laysStatic Jvm.Bundle.tN "UNASSIGNED_STACK" Jvm.Bundle.steD) (lw_mem5 80 (by decide +kernel))) (lw_WS hts _ wnTh) (hs (.isRef (.static Jvm.Bundle.tN "UNASSIGNED_STACK" Jvm.Bundle.steD)) (by decide +kernel)) hA0
  have hN := vx_Zqof (A := (fun q : Nat => s.heap.size ≤ q)) (hts (.laysStatic Jvm.Bundle.tN "SUPPRESSED_SENTINEL" Jvm.Bundle.listD) (lw_mem5 82 (by decide +kernel))) (lw_WS hts _ wnTh) (hs (.isRef (.static Jvm.Bundle.tN "SUPPRESSED_SENTINEL" Jvm.Bundle.listD)) (by decide +kernel)) hA0
  obtain ⟨sa, hR⟩ := lw_str hts
  have hCa := lw_lk hts
  have hl := lv_entry ([.ref b]) (n := 7) (Nat.le_of_ble_eq_true rfl)
  rw [lg_entry_eq]
  have hP : va_P D vwCl [] s.heap := fun k q h => by simp at h
  have hD : va_D (fun q : Nat => s.heap.size ≤ q) ([] : va_W) := ⟨fun i j p q h => by simp at h, fun k q h => by simp at h⟩
  have key : hs_Wn p l e room_1 s m #[Value.ref b] below meth c D (fun q : Nat => s.heap.size ≤ q) 7 (lw_Z below #[Value.ref b] s) 0 [(0, .ref b)] [] [] 0 0 := st1 C (fun q1 r1 => st2 C (fun q2 r2 qo cA => by
    have h := l_head (e := e) (below := below) hL C hr hlocks hfl hU hN hR hCa (adx := adX q1 r1) (ady := adY q2 r2) (qo := qo) (wo := [(qo, .inl (cA, 1, .inr (.inl (fun _ => 0))))])
    have e1 : ([] ++ W_X11 dA q1 r1 ++ W_X12 dA q2 r2) ++ [(qo, (.inl (cA, 1, .inr (.inl (fun _ => 0))) : va_E))] = W_X11 dA q1 r1 ++ (W_X12 dA q2 r2 ++ [(qo, .inl (cA, 1, .inr (.inl (fun _ => 0))))]) := by rw [List.nil_append, List.append_assoc]
    rw [e1]
    exact h))
  exact key _ _ _ hP hD va_S.rf hl
