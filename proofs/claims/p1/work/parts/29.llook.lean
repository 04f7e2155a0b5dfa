def lk_QL (D : va_G) (dA : Nat → ClassId) (ad : Nat → Nat) (sz : Nat) : Array Value → State → Outcome → State → Prop := va_Qi (S := Unit) (fun r _ => r = Int32.ofInt 1) (fun _ t => va_P D vwCl (hs_W SHX dA ad σX) t.heap) (hs_A SHX ad sz)
theorem lk_blind {D : va_G} {dA : Nat → ClassId} {ad : Nat → Nat} {sz sa : Nat} {av : List Value} : FrameBlind (va_Pc av (lk_Z D dA ad sz sa)) := fun a U g mk q =>
  ⟨q.1, q.2.1, q.2.2.1, ⟨va_K.moved (u := U) (U := U.calling g mk a) (Vm.Alike.refl U.vm) q.2.2.2.1.1, hs_nw_same (u := U) (U := U.calling g mk a) rfl q.2.2.2.1.2⟩, vx_Zq.moved (u := U) (U := U.calling g mk a) (Vm.Alike.refl U.vm) q.2.2.2.2.1, vx_Zq.moved (u := U) (U := U.calling g mk a) (Vm.Alike.refl U.vm) q.2.2.2.2.2.1, vk_R.same (u := U) (U := U.calling g mk a) rfl q.2.2.2.2.2.2.1, lk_nw_same (u := U) (U := U.calling g mk a) rfl q.2.2.2.2.2.2.2⟩
theorem lk_warm {D : va_G} {dA : Nat → ClassId} {ad : Nat → Nat} {sz sa : Nat} {s U : State} (hU : U.heap = s.heap) (hW : s.WarmedH U.vm) (h : lk_Z D dA ad sz sa s) : lk_Z D dA ad sz sa U := by
  obtain ⟨h1, h2, h3, h4, h5, h6, h7⟩ := h
  exact ⟨by rw [hU]; exact h1, by rw [hU]; exact h2, ⟨va_K.moved hW.alike h3.1, hs_nw_warm hW h3.2⟩, by rw [hU]; exact vx_Zq.moved hW.alike h4, by rw [hU]; exact vx_Zq.moved hW.alike h5, vk_R.warm hW h6, lk_nw_warm hW h7⟩
set_option maxHeartbeats 4000000 in
set_option maxRecDepth 100000 in
theorem l_look (l : Launch) (hfl : l.stackTraces = false) (w n : Int) (hw : hs_R w) (hn : hs_R n) (D : va_G) (dA : Nat → ClassId) (ad : Nat → Nat) (sz sa qo : Nat) (hinj : hs_inj SHX ad) : vx_Met l yL_look (Cond.codeWith yL_look cL_look 5 (some .int) LKH :: WS) (hs_rmC 10 1 6) (va_Pc [.ref (ad 0), vI w, vI n, .ref qo] (lk_Z D dA ad sz sa)) (lk_QL D dA ad sz) (fun _ _ _ => False) 1 6 (hs_A SHX ad sz) := by
  refine vx_ofWH (cc := cL_look) (maxL := 5) (ret := some .int) (hh := LKH) (by decide +kernel) rfl ?_
  intro p e s m args below meth c s₁ B hml hv
  obtain ⟨rfl, hZ⟩ := hv
  have hsz := hZ.1
  have hP := hZ.2.1
  have hK := hZ.2.2.1
  subst hsz
  have hts := atoms_spec (ws := Cond.codeWith yL_look cL_look 5 (some .int) LKH :: WS) B.pre
  have hown : s.vm.findClass RL = some m.cls := findClass_of_methodNamed B.named
  have hT : ∀ w' ∈ WS, w'.before [Value.ref (ad 0), vI w, vI n, Value.ref qo].toArray s = true := fun w' hw' => hts w' (List.mem_cons_of_mem _ hw')
  have htab : c.exceptionTable.toList = tableOf LKH := vx_table (x := yL_look) B (hts _ List.mem_cons_self)
  have hl0 := lv_entry [Value.ref (ad 0), vI w, vI n, Value.ref qo] (n := 5) (Nat.le_of_ble_eq_true rfl)
  rw [lg_entry_eq]
  suffices key : ∀ ls : Array Slot, lv_has ls 5 [(0, Value.ref (ad 0)), (1, vI w), (2, vI n), (3, Value.ref qo)] → W p l e (headSpec (Cond.codeWith yL_look cL_look 5 (some .int) LKH :: WS) (hs_rmC 10 1 6)).room s m [Value.ref (ad 0), vI w, vI n, Value.ref qo].toArray below meth c s.heap [] 0 0 (vx_MQ below (lk_QL D dA ad s.heap.size) (fun _ _ _ => False) [Value.ref (ad 0), vI w, vI n, Value.ref qo].toArray s 1 6 (hs_A SHX ad s.heap.size)) (F0 m 0 ls []) from key _ hl0
  clear hl0
  intro ls hl0
  refine lv_aload_n B.exec B.bytes dL_look_0 rfl (lv_at hl0 3 rfl) ?_
  refine lv_iconst B.exec B.bytes dL_look_1 rfl ?_
  refine lv_aload_n B.exec B.bytes dL_look_2 rfl (lv_at hl0 0 rfl) ?_
  refine lv_iload_n B.exec B.bytes dL_look_3 rfl (lv_at hl0 1 rfl) ?_
  refine lv_iload_n B.exec B.bytes dL_look_4 rfl (lv_at hl0 2 rfl) ?_
  have hG : GoodIn WS (Cond.code yX11_look cX11_look 4 (some .int) :: WS) := fun w h => by
    rcases List.mem_cons.mp h with rfl | h
    · exact ws_good _ wcX11_look
    · exact ws_good _ h
  have hsh : SHX[0]? = some (0, 11, _) := rfl
  have hr := vx_runV (p := p) (l := l) (e := e) (R := (headSpec (Cond.codeWith yL_look cL_look 5 (some .int) LKH :: WS) (hs_rmC 10 1 6)).room) (meth := meth) (below := below) (H := s.heap) (locs := []) (cells := 0) (slots := 0) (g := F0 m 5 ls [vI n, vI w, .ref (ad 0), vI 0, .ref qo]) (As := [vI w, vI n]) (rest := [vI 0, .ref qo]) (Ts := WS) (ws := Cond.code yX11_look cX11_look 4 (some .int) :: WS) ⟨B.exec, B.bytes, hml, hown, hT⟩ (x_look l hfl w n hw hn D dA ad s.heap.size sa hinj) (cwV (C := RX11) 2 hT (fun w h => by
      rcases List.mem_append.mp h with h | h
      · simp only [List.mem_cons, List.not_mem_nil, or_false] at h
        rcases h with rfl | rfl | rfl | rfl
        · exact ws_good _ wlL_7
        · exact ws_good _ wiX11_look
        · exact ws_good _ weX11_look
        · exact ws_good _ wnX11
      · exact hG w h) rfl rfl rfl ⟨rfl, noX11_look⟩ ⟨by decide, by decide⟩) ⟨lk_blind, va_recv hK.1 hP rfl (hs_W_get hsh), fun U hU hW => ⟨rfl, lk_warm hU hW hZ⟩⟩ rfl rfl hl0.1 rfl (lv_room (Nat.le_of_ble_eq_true rfl)) dL_look_5 ⟨by decide, by decide⟩
  refine vx_calli (A0 := hs_A SHX ad s.heap.size) hr va_S.rf (fun _ _ h => h) (fun _ h => h) (fun _ _ h => h) ?_ ?_
  · rintro E ce q9 _ t H1 locs1 rfl hAl - ⟨rfl, hP1⟩ hz1 hk1 hS1 hce hcv hcl
    refine vx_catch (own := RL) (name := IOOB) hown [] ⟨0, 10, 13, 13⟩ [⟨0, 10, 17, 15⟩] (by rw [htab]; rfl) (fun z hz => nomatch hz) (by decide) (by decide) (hT _ wkL_13) (lk_nw_use hZ.2.2.2.2.2.2 (List.mem_cons_self)) hce hcv hcl ?_
    refine lv_astore B.exec B.bytes (lv' := [(4, Value.ref q9), (0, Value.ref (ad 0)), (1, vI w), (2, vI n), (3, Value.ref qo)]) dL_look_13 hl0 (by decide) rfl (fun ls' hl' => ?_)
    refine lv_iconst B.exec B.bytes dL_look_15 rfl ?_
    refine vx_ret ?_
    refine W.iret B.exec B.bytes B.returns ?_ ?_ dL_look_16 B.notSynchronized
    · intro t2 ht2 hW2
      exact ⟨⟨_, (), rfl, rfl, by show va_P D vwCl (hs_W SHX dA ad σX) t2.heap; rw [ht2]; exact hP1⟩, hS1.F ht2⟩
    · exact hS1.2.2
  · intro r u t H1 locs1 _ _ hf
    exact hf.elim
theorem l_keep {D : va_G} {dA : Nat → ClassId} {A : Nat → Prop} {SH : List hs_Sh} {ad : Nat → Nat} {σ : hs_S} {wr : va_W} {H : Heap} {n0 : Nat} (hA : ∀ q : Nat, n0 ≤ q → A q) (hn0 : n0 ≤ H.size) (hP : va_P D vwCl (hs_W SH dA ad σ ++ wr) H) (hD : va_D A (hs_W SH dA ad σ ++ wr)) :
    va_P D vwCl (hs_W SH dA ad σ) H ∧ hs_inj SH ad ∧ (∀ q, hs_A SH ad H.size q → A q) ∧ (∀ H1 : Heap, va_P D vwCl (hs_W SH dA ad σ) H1 → (∀ q : Nat, q < H.size → ¬ hs_A SH ad H.size q → H1[q]? = H[q]?) → va_P D vwCl (hs_W SH dA ad σ ++ wr) H1) := by
  refine ⟨fun k x hk => hP k x (by rw [List.getElem?_append_left (List.getElem?_eq_some_iff.mp hk).1]; exact hk), ?_, ?_, ?_⟩
  · intro i j hi hj hij
    have h2 : SH[i]? = some SH[i] := List.getElem?_eq_getElem hi
    have h3 : SH[j]? = some SH[j] := List.getElem?_eq_getElem hj
    exact hD.1 i j _ _ (by rw [List.getElem?_append_left (by rw [hs_W_len]; exact hi)]; exact hs_W_get h2) (by rw [List.getElem?_append_left (by rw [hs_W_len]; exact hj)]; exact hs_W_get h3) hij
  · intro q h
    rcases h with ⟨c0, h1, rfl⟩ | h
    · have h2 : SH[c0]? = some SH[c0] := List.getElem?_eq_getElem h1
      exact hD.2 c0 _ (by rw [List.getElem?_append_left (by rw [hs_W_len]; exact h1)]; exact hs_W_get h2)
    · exact hA q (Nat.le_trans hn0 h)
  · intro H1 hb hk
    refine va_P.app hb (fun j q hq => ?_)
    have hw2 : (hs_W SH dA ad σ ++ wr)[SH.length + j]? = some q := by rw [List.getElem?_append_right (by rw [hs_W_len]; omega), hs_W_len, Nat.add_sub_cancel_left]; exact hq
    refine (hP _ q hw2).kept (hk q.1 (hP _ q hw2).lt (fun h => ?_))
    rcases h with ⟨c0, h1, h2⟩ | h
    · have h3 : SH[c0]? = some SH[c0] := List.getElem?_eq_getElem h1
      have := hD.1 (SH.length + j) c0 q _ hw2 (by rw [List.getElem?_append_left (by rw [hs_W_len]; exact h1)]; exact hs_W_get h3) h2
      omega
    · have := (hP _ q hw2).lt
      omega
theorem l_callK {p : Program} {l : Launch} {e : Env} {s : State} {m : MethodId} {b L : Nat} {xs : Nat → Int32} {below : List Frame} {meth : Method} {c : Code} {D : va_G} {dA : Nat → ClassId} {A : Nat → Prop} {Q : State → Prop} {pc : Nat} {lv : List (Nat × Value)} {cells slots : Nat} (hfl : l.stackTraces = false) (C : hs_Cl p s m b L xs meth c D dA A) {ad : Nat → Nat} {wr : va_W} {sa qo : Nat} {rest : List Value} (w n : Int) (hw : hs_R w) (hn : hs_R n) (hU : vx_Zq Jvm.Bundle.tN "UNASSIGNED_STACK" Jvm.Bundle.steD A s s.heap) (hN : vx_Zq Jvm.Bundle.tN "SUPPRESSED_SENTINEL" Jvm.Bundle.listD A s s.heap) (hR : vk_R RX11 177 "no such wheel" sa s) (hCa : lk_nw s) (hd : decode cL_law pc = .ok (.invokestatic 54, 3)) (hsum : (rest.map fun v => v.category).sum ≤ 8) (hcells : cells + 1 ≤ 600002) (hslots : slots + 6 ≤ 7302231)
    (k : hs_Wn p l e room_1 s m #[Value.ref b] below meth c D A 7 Q (pc + 3) lv (vI 1 :: rest) (hs_W SHX dA ad σX ++ wr) (cells + 1) (slots + 6)) : hs_Wn p l e room_1 s m #[Value.ref b] below meth c D A 7 Q pc lv (.ref qo :: vI n :: vI w :: .ref (ad 0) :: rest) (hs_W SHX dA ad σX ++ wr) cells slots := by
  intro H locs ls hP hD hS hl
  obtain ⟨hPl, hinj, hF, hKp⟩ := l_keep C.2.2.2.2.2.2.1 hS.1 hP hD
  have hPU : ∀ U : State, U.heap = H → s.WarmedH U.vm → lk_Z D dA ad H.size sa U := fun U hUH hW => ⟨by rw [hUH], by rw [hUH]; exact hPl, ⟨va_K.moved hW.alike C.2.2.2.2.2.1.1.1, hs_nw_warm hW C.2.2.2.2.2.1.1.2⟩, by rw [hUH]; exact (vx_Zq.moved hW.alike (hU.kept hS.2.1)).narrow hF, by rw [hUH]; exact (vx_Zq.moved hW.alike (hN.kept hS.2.1)).narrow hF, vk_R.warm hW hR, lk_nw_warm hW hCa⟩
  have hG : GoodIn WS (va_wsS RL 54 yL_look (Cond.codeWith yL_look cL_look 5 (some .int) LKH :: WS)) := fun w h => by
    unfold va_wsS at h
    rcases List.mem_append.mp h with h | h
    · simp only [List.mem_cons, List.not_mem_nil, or_false] at h
      rcases h with rfl | rfl | rfl
      · exact ws_good _ wlL_54
      · exact ws_good _ wtL_look
      · exact ws_good _ wnL
    · rcases List.mem_cons.mp h with rfl | h
      · exact ws_good _ wcL_look
      · exact ws_good _ h
  have hcw : vx_CSW room_1 s #[Value.ref b] RL 54 yL_look cL_look 5 (some .int) LKH (Cond.codeWith yL_look cL_look 5 (some .int) LKH :: WS) (hs_rmC 10 1 6) 1 6 4 := vx_cwSW (ws' := WS) 4 C.2.2.2.2.1 hG rfl rfl rfl noL_look ⟨Nat.le_of_ble_eq_true rfl, Nat.le_of_ble_eq_true rfl⟩
  have hr := vx_runSX (hh := LKH) (As := [.ref (ad 0), vI w, vI n, .ref qo]) (rest := rest) (Ts := WS) (own := RL) (ws := Cond.codeWith yL_look cL_look 5 (some .int) LKH :: WS) (g := F0 m pc ls (.ref qo :: vI n :: vI w :: .ref (ad 0) :: rest)) (cells := cells) (slots := slots) (locs := locs) (H := H) (below := below) (meth := meth) (e := e) (p := p) (R := room_1) ⟨C.1, C.2.1, C.2.2.1, C.2.2.2.1, C.2.2.2.2.1⟩ (l_look l hfl w n hw hn D dA ad H.size sa qo hinj) hcw ⟨lk_blind, fun U hU hW => ⟨rfl, hPU U hU hW⟩⟩ rfl rfl hl.1 rfl (lv_room hsum) hd ⟨hcells, hslots⟩
  intro T hT X
  rcases hr T hT X with ⟨v, st₀, t, T', Lc, e0, X', hL, e1, e2, ⟨⟨r, u, hv, hp, hb⟩, hz, hk⟩, stp⟩ | ⟨q, st₀, t, T', Lc, E, ce, e0, X', hL, e1, e2, hf, -⟩
  · cases hv
    subst hp
    rw [e0] at hz hk
    have hP2 : va_P D vwCl (hs_W SHX dA ad σX ++ wr) T'.heap := by
      rw [e1]
      exact hKp _ hb hk
    obtain ⟨t2, a1, b1⟩ := k T'.heap (locs ++ Lc) ls hP2 hD
      ⟨Nat.le_trans hS.1 (by rw [e1]; exact hz), fun x h1 h2 => by rw [e1, hk x (Nat.lt_of_lt_of_le h1 hS.1) (fun z => h2 (hF x z))]; exact hS.2.1 x h1 h2, fun x hx => by
        rcases List.mem_append.mp hx with h | h
        · exact hS.2.2 x h
        · exact hF _ (hL x h)⟩ hl T' rfl X'
    exact ⟨t2, stp t2 a1, b1⟩
  · exact hf.elim
