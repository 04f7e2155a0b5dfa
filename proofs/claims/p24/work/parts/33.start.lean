theorem l_fin {p : Program} {e : Env} {s : State} {m : MethodId} {below : List Frame} {meth : Method} {c : Code} {l : Launch} {b L : Nat} {xs : Nat → Int32} {D : va_G} {dA : Nat → ClassId} (C : hs_Cl p s m b L xs meth c D dA (fun q : Nat => s.heap.size ≤ q)) (hr : meth.sig.returnType = ret) (hlocks : meth.locks = false) {lv : List (Nat × Value)} {ws : va_W} {cells slots : Nat} (hc : cells ≤ 601024) (hsl : slots ≤ 7293034) : hs_Wn p l e room_1 s m #[Value.ref b] below meth c D (fun q : Nat => s.heap.size ≤ q) 7 (lw_Z below #[Value.ref b] s) 1120 lv [] (ws) cells slots := by
  intro H locs ls hP hD hS hl
  refine lv_iconst C.1 C.2.1 dL_law_1120 rfl ?_
  refine va_forget (fun q hq => hS.2.2 q hq) ?_
  refine W.widen (k := 601024) (n := 7293034) hc hsl ?_
  exact lw_ret C.1 C.2.1 hr hlocks dL_law_1121
set_option maxHeartbeats 4000000 in
set_option maxRecDepth 100000 in
theorem l_head {p : Program} {e : Env} {s : State} {m : MethodId} {below : List Frame} {meth : Method} {c : Code} {l : Launch} {b L : Nat} {xs : Nat → Int32} {D : va_G} {dA : Nat → ClassId} {adx ady : Nat → Nat} {qo : Nat} {cO : ClassId} {f : Nat → Int64} {i : Int} {cells slots : Nat} (hi0 : 0 ≤ i) (hi1 : i ≤ 8192) (hL : L ≤ 4096) (hcl : cells + 1 ≤ 601024) (hsl : slots + 6 ≤ 7293034) (C : hs_Cl p s m b L xs meth c D dA (fun q : Nat => s.heap.size ≤ q)) (hr : meth.sig.returnType = ret) (hlocks : meth.locks = false) (hSx : hs_St adx (fun q : Nat => s.heap.size ≤ q) s) (hSy : hs_St ady (fun q : Nat => s.heap.size ≤ q) s) {x y : hs_S} (hli : LI x y) (hfl : l.stackTraces = false) (hU : vx_Zq Jvm.Bundle.tN "UNASSIGNED_STACK" Jvm.Bundle.steD (fun q : Nat => s.heap.size ≤ q) s s.heap) (hN : vx_Zq Jvm.Bundle.tN "SUPPRESSED_SENTINEL" Jvm.Bundle.listD (fun q : Nat => s.heap.size ≤ q) s s.heap) {sa sb : Nat} (hR : vk_R RX11 177 "no such wheel" sa s) (hR2 : vk_R RX11 206 "no such what" sb s) (hCa : lk_nw s) (hAT : ArrOfT s cO .long ∧ va_RA s cO .long)
    (kstep : ∀ (x1 y1 : hs_S) (f1 : Nat → Int64), LI x1 y1 → i + 8 ≤ (L : Int) → hs_Wn p l e room_1 s m #[Value.ref b] below meth c D (fun q : Nat => s.heap.size ≤ q) 7 (lw_Z below #[Value.ref b] s) 23 [(4, vI (i + 8)), (3, .ref qo), (2, .ref (ady 0)), (1, .ref (adx 0)), (0, .ref b)] [] (hs_W SHX dA adx x1 ++ (hs_W SHY dA ady y1 ++ lk_O qo cO f1)) (cells + 1) (slots + 6)) : hs_Wn p l e room_1 s m #[Value.ref b] below meth c D (fun q : Nat => s.heap.size ≤ q) 7 (lw_Z below #[Value.ref b] s) 23 [(4, vI i), (3, .ref qo), (2, .ref (ady 0)), (1, .ref (adx 0)), (0, .ref b)] [] (hs_W SHX dA adx x ++ (hs_W SHY dA ady y ++ lk_O qo cO f)) cells slots := by
  refine l_iload (pc := 23) C dL_law_23 0 rfl ?_
  refine l_aload_n (pc := 25) C dL_law_25 4 rfl ?_
  refine l_slen (pc := 26) C dL_law_26 (by omega) ?_
  refine l_bipush (pc := 27) C dL_law_27 (by decide) ?_
  refine l_isub (pc := 29) C dL_law_29 ?_
  refine l_icmp_gt (pc := 30) C (tgt := 1120) dL_law_30 (by decide) ⟨by omega, by omega⟩ ⟨by omega, by omega⟩ (fun _ => l_fin C hr hlocks (by omega) (by omega)) (fun h30 => ?_)
  have hi8 : i + 8 ≤ (L : Int) := by omega
  have kend : ∀ (x1 y1 : hs_S) (f1 : Nat → Int64), LI x1 y1 → hs_Wn p l e room_1 s m #[Value.ref b] below meth c D (fun q : Nat => s.heap.size ≤ q) 7 (lw_Z below #[Value.ref b] s) 1114 [(4, vI i), (3, .ref qo), (2, .ref (ady 0)), (1, .ref (adx 0)), (0, .ref b)] [] (hs_W SHX dA adx x1 ++ (hs_W SHY dA ady y1 ++ lk_O qo cO f1)) (cells + 1) (slots + 6) := fun x1 y1 f1 h1 => l_iinc (pc := 1114) C [(4, vI (i + 8)), (3, .ref qo), (2, .ref (ady 0)), (1, .ref (adx 0)), (0, .ref b)] dL_law_1114 0 rfl (by decide) rfl (l_goto (pc := 1117) C (tgt := 23) dL_law_1117 (by decide) (kstep x1 y1 f1 h1 hi8))
  refine l_aload_n (pc := 33) C dL_law_33 4 rfl ?_
  refine l_iload (pc := 34) C dL_law_34 0 rfl ?_
  refine l_sld (pc := 36) C i.toNat dL_law_36 hi0 rfl (by omega) (by omega) ?_
  refine l_bipush (pc := 37) C dL_law_37 (by decide) ?_
  refine l_iand (pc := 39) C dL_law_39 (fun z hz => ?_)
  rcases Classical.em (z < 0 ∨ 26 < z) with ho | ho
  · exact l_swOut (pc := 40) C (tgt := 1114) dL_law_40 hz ho (by decide) (l_widen C (c2 := cells + 1) (s2 := slots + 6) (by omega) (by omega) (kend x y f hli))
  · rcases (show z = 0 ∨ z = 1 ∨ z = 2 ∨ z = 3 ∨ z = 4 ∨ z = 5 ∨ z = 6 ∨ z = 7 ∨ z = 8 ∨ z = 9 ∨ z = 10 ∨ z = 11 ∨ z = 12 ∨ z = 13 ∨ z = 14 ∨ z = 15 ∨ z = 16 ∨ z = 17 ∨ z = 18 ∨ z = 19 ∨ z = 20 ∨ z = 21 ∨ z = 22 ∨ z = 23 ∨ z = 24 ∨ z = 25 ∨ z = 26 by omega) with rfl | rfl | rfl | rfl | rfl | rfl | rfl | rfl | rfl | rfl | rfl | rfl | rfl | rfl | rfl | rfl | rfl | rfl | rfl | rfl | rfl | rfl | rfl | rfl | rfl | rfl | rfl
    · exact l_swIn (pc := 40) C (tgt := 164) dL_law_40 hz (by decide) (by decide) (off := 124) rfl (by decide) (a_feed hi0 hi8 hL hcl hsl C hSx hSy hli kend)
    · exact l_swIn (pc := 40) C (tgt := 237) dL_law_40 hz (by decide) (by decide) (off := 197) rfl (by decide) (a_turn hi0 hi8 hL hcl hsl C hSx hSy hli kend)
    · exact l_swIn (pc := 40) C (tgt := 262) dL_law_40 hz (by decide) (by decide) (off := 222) rfl (by decide) (a_turned hi0 hi8 hL hcl hsl C hSx hSy hli kend)
    · exact l_swIn (pc := 40) C (tgt := 287) dL_law_40 hz (by decide) (by decide) (off := 247) rfl (by decide) (a_dial hi0 hi8 hL hcl hsl C hSx hSy hli kend)
    · exact l_swIn (pc := 40) C (tgt := 312) dL_law_40 hz (by decide) (by decide) (off := 272) rfl (by decide) (a_wheel hi0 hi8 hL hcl hsl C hSx hSy hli kend)
    · exact l_swIn (pc := 40) C (tgt := 413) dL_law_40 hz (by decide) (by decide) (off := 373) rfl (by decide) (a_second hi0 hi8 hL hcl hsl C hSx hSy hli kend)
    · exact l_swIn (pc := 40) C (tgt := 450) dL_law_40 hz (by decide) (by decide) (off := 410) rfl (by decide) (a_step hi0 hi8 hL hcl hsl C hSx hSy hli kend)
    · exact l_swIn (pc := 40) C (tgt := 475) dL_law_40 hz (by decide) (by decide) (off := 435) rfl (by decide) (a_look hi0 hi8 hL hcl hsl C hSx hSy hli hfl hU hN hR hR2 hCa hAT kend)
    · exact l_swIn (pc := 40) C (tgt := 515) dL_law_40 hz (by decide) (by decide) (off := 475) rfl (by decide) (a_rides hi0 hi8 hL hcl hsl C hSx hSy hli kend)
    · exact l_swIn (pc := 40) C (tgt := 528) dL_law_40 hz (by decide) (by decide) (off := 488) rfl (by decide) (a_open hi0 hi8 hL hcl hsl C hSx hSy hli kend)
    · exact l_swIn (pc := 40) C (tgt := 541) dL_law_40 hz (by decide) (by decide) (off := 501) rfl (by decide) (a_clock hi0 hi8 hL hcl hsl C hSx hSy hli kend)
    · exact l_swIn (pc := 40) C (tgt := 566) dL_law_40 hz (by decide) (by decide) (off := 526) rfl (by decide) (a_hours hi0 hi8 hL hcl hsl C hSx hSy hli kend)
    · exact l_swIn (pc := 40) C (tgt := 591) dL_law_40 hz (by decide) (by decide) (off := 551) rfl (by decide) (a_comes hi0 hi8 hL hcl hsl C hSx hSy hli kend)
    · exact l_swIn (pc := 40) C (tgt := 644) dL_law_40 hz (by decide) (by decide) (off := 604) rfl (by decide) (a_change hi0 hi8 hL hcl hsl C hSx hSy hli kend)
    · exact l_swIn (pc := 40) C (tgt := 681) dL_law_40 hz (by decide) (by decide) (off := 641) rfl (by decide) (a_feel hi0 hi8 hL hcl hsl C hSx hSy hli kend)
    · exact l_swIn (pc := 40) C (tgt := 718) dL_law_40 hz (by decide) (by decide) (off := 678) rfl (by decide) (a_doubt hi0 hi8 hL hcl hsl C hSx hSy hli kend)
    · exact l_swIn (pc := 40) C (tgt := 743) dL_law_40 hz (by decide) (by decide) (off := 703) rfl (by decide) (a_may hi0 hi8 hL hcl hsl C hSx hSy hli kend)
    · exact l_swIn (pc := 40) C (tgt := 780) dL_law_40 hz (by decide) (by decide) (off := 740) rfl (by decide) (a_cover hi0 hi8 hL hcl hsl C hSx hSy hli kend)
    · exact l_swIn (pc := 40) C (tgt := 817) dL_law_40 hz (by decide) (by decide) (off := 777) rfl (by decide) (a_seek hi0 hi8 hL hcl hsl C hSx hSy hli kend)
    · exact l_swIn (pc := 40) C (tgt := 842) dL_law_40 hz (by decide) (by decide) (off := 802) rfl (by decide) (a_best hi0 hi8 hL hcl hsl C hSx hSy hli kend)
    · exact l_swIn (pc := 40) C (tgt := 867) dL_law_40 hz (by decide) (by decide) (off := 827) rfl (by decide) (a_days hi0 hi8 hL hcl hsl C hSx hSy hli kend)
    · exact l_swIn (pc := 40) C (tgt := 892) dL_law_40 hz (by decide) (by decide) (off := 852) rfl (by decide) (a_tell hi0 hi8 hL hcl hsl C hSx hSy hli kend)
    · exact l_swIn (pc := 40) C (tgt := 941) dL_law_40 hz (by decide) (by decide) (off := 901) rfl (by decide) (a_strike hi0 hi8 hL hcl hsl C hSx hSy hli kend)
    · exact l_swIn (pc := 40) C (tgt := 966) dL_law_40 hz (by decide) (by decide) (off := 926) rfl (by decide) (a_gate hi0 hi8 hL hcl hsl C hSx hSy hli kend)
    · exact l_swIn (pc := 40) C (tgt := 1003) dL_law_40 hz (by decide) (by decide) (off := 963) rfl (by decide) (a_knows hi0 hi8 hL hcl hsl C hSx hSy hli kend)
    · exact l_swIn (pc := 40) C (tgt := 1052) dL_law_40 hz (by decide) (by decide) (off := 1012) rfl (by decide) (a_can hi0 hi8 hL hcl hsl C hSx hSy hli kend)
    · exact l_swIn (pc := 40) C (tgt := 1089) dL_law_40 hz (by decide) (by decide) (off := 1049) rfl (by decide) (a_count hi0 hi8 hL hcl hsl C hSx hSy hli kend)
theorem l_loop {p : Program} {e : Env} {s : State} {m : MethodId} {below : List Frame} {meth : Method} {c : Code} {l : Launch} {b L : Nat} {xs : Nat → Int32} {D : va_G} {dA : Nat → ClassId} {adx ady : Nat → Nat} {qo : Nat} {cO : ClassId} (hL : L ≤ 4096) (C : hs_Cl p s m b L xs meth c D dA (fun q : Nat => s.heap.size ≤ q)) (hr : meth.sig.returnType = ret) (hlocks : meth.locks = false) (hSx : hs_St adx (fun q : Nat => s.heap.size ≤ q) s) (hSy : hs_St ady (fun q : Nat => s.heap.size ≤ q) s) (hfl : l.stackTraces = false) (hU : vx_Zq Jvm.Bundle.tN "UNASSIGNED_STACK" Jvm.Bundle.steD (fun q : Nat => s.heap.size ≤ q) s s.heap) (hN : vx_Zq Jvm.Bundle.tN "SUPPRESSED_SENTINEL" Jvm.Bundle.listD (fun q : Nat => s.heap.size ≤ q) s s.heap) {sa sb : Nat} (hR : vk_R RX11 177 "no such wheel" sa s) (hR2 : vk_R RX11 206 "no such what" sb s) (hCa : lk_nw s) (hAT : ArrOfT s cO .long ∧ va_RA s cO .long) : ∀ (n k : Nat) (x y : hs_S) (f : Nat → Int64), LI x y → L ≤ 8 * k + n → k ≤ 512 → hs_Wn p l e room_1 s m #[Value.ref b] below meth c D (fun q : Nat => s.heap.size ≤ q) 7 (lw_Z below #[Value.ref b] s) 23 [(4, vI ((8 * k : Nat) : Int)), (3, .ref qo), (2, .ref (ady 0)), (1, .ref (adx 0)), (0, .ref b)] [] (hs_W SHX dA adx x ++ (hs_W SHY dA ady y ++ lk_O qo cO f)) (96 + k) (12449 + 6 * k) := by
  intro n
  induction n with
  | zero =>
    intro k x y f hli h1 h2
    exact l_head (by omega) (by omega) hL (by omega) (by omega) C hr hlocks hSx hSy hli hfl hU hN hR hR2 hCa hAT (fun x1 y1 f1 _ h8 => by omega)
  | succ n ih =>
    intro k x y f hli h1 h2
    refine l_head (by omega) (by omega) hL (by omega) (by omega) C hr hlocks hSx hSy hli hfl hU hN hR hR2 hCa hAT (fun x1 y1 f1 hl1 h8 => ?_)
    have h := ih (k + 1) x1 y1 f1 hl1 (by omega) (by omega)
    rw [show ((8 * (k + 1) : Nat) : Int) = ((8 * k : Nat) : Int) + 8 by omega, show 96 + (k + 1) = 96 + k + 1 by omega, show 12449 + 6 * (k + 1) = 12449 + 6 * k + 6 by omega] at h
    exact h
theorem st1 {p : Program} {e : Env} {s : State} {m : MethodId} {below : List Frame} {meth : Method} {c : Code} {l : Launch} {b L : Nat} {xs : Nat → Int32} {D : va_G} {dA : Nat → ClassId} (C : hs_Cl p s m b L xs meth c D dA (fun q : Nat => s.heap.size ≤ q)) (k : ∀ (q1 : Nat) (r1 : Nat → Nat), hs_Wn p l e room_1 s m #[Value.ref b] below meth c D (fun q : Nat => s.heap.size ≤ q) 7 (lw_Z below #[Value.ref b] s) 8 [(1, .ref q1), (0, .ref b)] [] ([] ++ W_X11 dA q1 r1) 55 5705) : hs_Wn p l e room_1 s m #[Value.ref b] below meth c D (fun q : Nat => s.heap.size ≤ q) 7 (lw_Z below #[Value.ref b] s) 0 [(0, .ref b)] [] ([]) 0 0 := by
  refine l_new (pc := 0) (ci := 11) (CN := RX11) (T := TX11) (N := 11) C [.null, .null, .null, .null, .null, .null, .null, .null, .null, vI 0, vI 0] dL_law_0 wlL_8 wfX11 tyX11_ok wbX11 wnX11 rfl (by decide +kernel) (by decide) (by decide) (fun q1 => ?_)
  refine l_dup (pc := 3) C dL_law_3 rfl ?_
  refine l_callI (pc := 4) C (k_X11 l) [] [.ref q1] rfl rfl dL_law_4 wlL_17 wiX11_init wcX11_init wnX11 rfl noX11_init (by decide) (by decide) (Nat.le_of_ble_eq_true rfl) (by decide) (by decide) (fun r1 => ?_)
  exact l_astore_n (pc := 7) C [(1, .ref q1), (0, .ref b)] dL_law_7 (by decide) rfl (k q1 r1)
theorem st2 {p : Program} {e : Env} {s : State} {m : MethodId} {below : List Frame} {meth : Method} {c : Code} {l : Launch} {b L : Nat} {xs : Nat → Int32} {D : va_G} {dA : Nat → ClassId} {wx : va_W} {q1 : Nat} (C : hs_Cl p s m b L xs meth c D dA (fun q : Nat => s.heap.size ≤ q)) (k : ∀ (q2 : Nat) (r2 : Nat → Nat) (qo : Nat) (cO : ClassId), ArrOfT s cO .long ∧ va_RA s cO .long → hs_Wn p l e room_1 s m #[Value.ref b] below meth c D (fun q : Nat => s.heap.size ≤ q) 7 (lw_Z below #[Value.ref b] s) 23 [(4, vI 0), (3, .ref qo), (2, .ref q2), (1, .ref q1), (0, .ref b)] [] ((wx ++ W_X12 dA q2 r2) ++ lk_O qo cO (fun _ => 0)) 96 12449) : hs_Wn p l e room_1 s m #[Value.ref b] below meth c D (fun q : Nat => s.heap.size ≤ q) 7 (lw_Z below #[Value.ref b] s) 8 [(1, .ref q1), (0, .ref b)] [] (wx) 55 5705 := by
  refine l_new (pc := 8) (ci := 12) (CN := RX12) (T := TX12) (N := 68) C [.null, vI 0, vI 0, vI 0, vI 0, vI 0, vI 0, .null, .null, .null, .null, .null, .null, .null, .null, .null, .null, vI 0, vI 0, vI 0, vI 0, .null, .null, vI 0, .null, vI 0, vI 0, vI 0, vI 0, vI 0, vI 0, vI 0, vI 0, .null, .null, .null, .null, .null, .null, .null, .null, vI 0, .null, vI 0, vI 0, vI 0, vI 0, vI 0, .null, vI 0, .null, .null, .null, vI 0, .null, .null, .null, .null, vL 0, .null, .null, vI 0, .null, .null, .null, .null, .null, .null] dL_law_8 wlL_18 wfX12 tyX12_ok wbX12 wnX12 rfl (by decide +kernel) (by decide) (by decide) (fun q2 => ?_)
  refine l_dup (pc := 11) C dL_law_11 rfl ?_
  refine l_callI (pc := 12) C (k_X12 l) wx [.ref q2] rfl rfl dL_law_12 wlL_20 wiX12_init wcX12_init wnX12 rfl noX12_init (by decide) (by decide) (Nat.le_of_ble_eq_true rfl) (by decide) (by decide) (fun r2 => ?_)
  refine l_astore_n (pc := 15) C [(2, .ref q2), (1, .ref q1), (0, .ref b)] dL_law_15 (by decide) rfl ?_
  refine l_iconst (pc := 16) C dL_law_16 ?_
  refine l_newL (pc := 17) (N := 1) C dL_law_17 (by decide) (by decide) (by decide) (by decide) (by decide) (fun qo cO hAT => ?_)
  refine l_astore_n (pc := 19) C [(3, .ref qo), (2, .ref q2), (1, .ref q1), (0, .ref b)] dL_law_19 (by decide) rfl ?_
  refine l_iconst (pc := 20) C dL_law_20 ?_
  exact l_istore (pc := 21) C [(4, vI 0), (3, .ref qo), (2, .ref q2), (1, .ref q1), (0, .ref b)] dL_law_21 (by decide) rfl (k q2 r2 qo cO hAT)
theorem whole_start {p : Program} {e : Env} {s : State} {m : MethodId} {below : List Frame} {meth : Method} {c : Code} (l : Launch) (hfl : l.stackTraces = false) {b L : Nat} {xs : Nat → Int32} (hL : L ≤ 4096) (C0 : lw_At p s m meth c b L xs) : W p l e room_1 s m #[Value.ref b] below meth c s.heap [] 0 0 (lw_Z below #[Value.ref b] s) (entryFrame m ([Value.ref b] : List Value).toArray 7) := by
  obtain ⟨hx, hb, hr, hml, hown, hts, hX, hbl, hlocks, hgv⟩ := id C0
  obtain ⟨D, dA, hKC⟩ := lw_KC hts
  have C : hs_Cl p s m b L xs meth c D dA (fun q : Nat => s.heap.size ≤ q) := ⟨hx, hb, hml, hown, lw_WS hts, hKC, fun _ h => h, hX, hbl, Nat.not_le.mpr hbl⟩
  have hs := flat_of_before _ hgv
  have hA0 : ∀ a : Nat, a < s.heap.size → ¬ (fun q : Nat => s.heap.size ≤ q) a := fun a h => Nat.not_le.mpr h
  have hU := vx_Zqof (A := (fun q : Nat => s.heap.size ≤ q)) (hts _ lw_t1) (hts _ lw_t3) (hs (.isRef (.static Jvm.Bundle.tN "UNASSIGNED_STACK" Jvm.Bundle.steD)) (by decide +kernel)) hA0
  have hN := vx_Zqof (A := (fun q : Nat => s.heap.size ≤ q)) (hts _ lw_t2) (hts _ lw_t3) (hs (.isRef (.static Jvm.Bundle.tN "SUPPRESSED_SENTINEL" Jvm.Bundle.listD)) (by decide +kernel)) hA0
  obtain ⟨sa, hR⟩ := lw_str1 hts
  obtain ⟨sb, hR2⟩ := lw_str2 hts
  have hCa := lw_lk hts hgv
  obtain ⟨adK, adV, hSt⟩ := lw_St (A := (fun q : Nat => s.heap.size ≤ q)) hts hgv hA0
  have hl := lv_entry ([.ref b]) (n := 7) (Nat.le_of_ble_eq_true rfl)
  rw [lg_entry_eq]
  have hP : va_P D vwCl [] s.heap := fun k q h => by simp at h
  have hD : va_D (fun q : Nat => s.heap.size ≤ q) ([] : va_W) := ⟨fun i j p q h => by simp at h, fun k q h => by simp at h⟩
  have key : hs_Wn p l e room_1 s m #[Value.ref b] below meth c D (fun q : Nat => s.heap.size ≤ q) 7 (lw_Z below #[Value.ref b] s) 0 [(0, .ref b)] [] ([]) 0 0 := st1 C (fun q1 r1 => st2 C (fun q2 r2 qo cO hAT => by
    have h := l_loop (e := e) (below := below) (adx := adS (adX q1 r1) adK adV) (ady := adS (adY q2 r2) adK adV) (qo := qo) hL C hr hlocks (hSt _) (hSt _) hfl hU hN hR hR2 hCa hAT L 0 σX σY (fun _ => 0) li0 (by omega) (by omega)
    rw [hs_Wad (a := adS (adX q1 r1) adK adV) (a' := adX q1 r1) (fun c h => adS_lo h) shx_ok.1 shx_ok.2, hs_Wad (a := adS (adY q2 r2) adK adV) (a' := adY q2 r2) (fun c h => adS_lo h) shy_ok.1 shy_ok.2] at h
    have e1 : ([] ++ W_X11 dA q1 r1 ++ W_X12 dA q2 r2) ++ lk_O qo cO (fun _ => 0) = W_X11 dA q1 r1 ++ (W_X12 dA q2 r2 ++ lk_O qo cO (fun _ => 0)) := by rw [List.nil_append, List.append_assoc]
    rw [e1]
    exact h))
  exact key _ _ _ hP hD va_S.rf hl
