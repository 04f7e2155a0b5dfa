def hs_AO (ad : Nat → Nat) (qo sz : Nat) : Nat → Prop := fun q => hs_A SHX ad sz q ∨ q = qo
def lk_O (qo : Nat) (cO : ClassId) (f : Nat → Int64) : va_W := [(qo, (.inl (cO, 1, .inr (.inl f)) : va_E))]
def lk_Z3 (D : va_G) (dA : Nat → ClassId) (ad : Nat → Nat) (σ : hs_S) (sz sa sb qo : Nat) (cO : ClassId) (f : Nat → Int64) (U : State) : Prop := lk_Z D dA ad σ sz sa sb U ∧ va_P D vwCl (lk_O qo cO f) U.heap ∧ (ArrOfT U cO .long ∧ va_RA U cO .long) ∧ (∀ c, c < SHX.length → ad c ≠ qo)
def lk_QL (D : va_G) (dA : Nat → ClassId) (ad : Nat → Nat) (σ : hs_S) (sz qo : Nat) (cO : ClassId) : Array Value → State → Outcome → State → Prop := va_Qi (S := Nat → Int64) (fun _ _ => True) (fun f t => va_P D vwCl (hs_W SHX dA ad σ) t.heap ∧ va_P D vwCl (lk_O qo cO f) t.heap) (hs_AO ad qo sz)
theorem lk_blind {D : va_G} {dA : Nat → ClassId} {ad : Nat → Nat} {σ : hs_S} {sz sa sb : Nat} {av : List Value} : FrameBlind (va_Pc av (lk_Z D dA ad σ sz sa sb)) := fun a U g mk q =>
  ⟨q.1, q.2.1, q.2.2.1, ⟨⟨va_K.moved (u := U) (U := U.calling g mk a) (Vm.Alike.refl U.vm) q.2.2.2.1.1.1, hs_nw_same (u := U) (U := U.calling g mk a) rfl q.2.2.2.1.1.2⟩, hs_St_same (u := U) (U := U.calling g mk a) rfl rfl q.2.2.2.1.2⟩, vx_Zq.moved (u := U) (U := U.calling g mk a) (Vm.Alike.refl U.vm) q.2.2.2.2.1, vx_Zq.moved (u := U) (U := U.calling g mk a) (Vm.Alike.refl U.vm) q.2.2.2.2.2.1, vk_R.same (u := U) (U := U.calling g mk a) rfl q.2.2.2.2.2.2.1, vk_R.same (u := U) (U := U.calling g mk a) rfl q.2.2.2.2.2.2.2.1, lk_nw_same (u := U) (U := U.calling g mk a) rfl q.2.2.2.2.2.2.2.2⟩
theorem lk_blind3 {D : va_G} {dA : Nat → ClassId} {ad : Nat → Nat} {σ : hs_S} {sz sa sb qo : Nat} {cO : ClassId} {f : Nat → Int64} {av : List Value} : FrameBlind (va_Pc av (lk_Z3 D dA ad σ sz sa sb qo cO f)) := fun a U g mk q =>
  ⟨q.1, (lk_blind (av := av) a U g mk ⟨q.1, q.2.1⟩).2, q.2.2.1, ⟨arrOfT_moved (u := U) (E := U.calling g mk a) (Vm.Alike.refl U.vm) q.2.2.2.1.1, q.2.2.2.1.2.moved (U := U.calling g mk a) (Vm.Alike.refl U.vm)⟩, q.2.2.2.2⟩
theorem lk_warm {D : va_G} {dA : Nat → ClassId} {ad : Nat → Nat} {σ : hs_S} {sz sa sb : Nat} {s U : State} (hU : U.heap = s.heap) (hW : s.WarmedH U.vm) (h : lk_Z D dA ad σ sz sa sb s) : lk_Z D dA ad σ sz sa sb U := by
  obtain ⟨h1, h2, h3, h4, h5, h6, h7, h8⟩ := h
  exact ⟨by rw [hU]; exact h1, by rw [hU]; exact h2, ⟨⟨va_K.moved hW.alike h3.1.1, hs_nw_warm hW h3.1.2⟩, hs_St_at (locs := []) h3.2 va_S.rf hU hW (fun _ h => h)⟩, by rw [hU]; exact vx_Zq.moved hW.alike h4, by rw [hU]; exact vx_Zq.moved hW.alike h5, vk_R.warm hW h6, vk_R.warm hW h7, lk_nw_warm hW h8⟩
theorem lk_Okeep {D : va_G} {qo : Nat} {cO : ClassId} {f : Nat → Int64} {H H1 : Heap} (h : va_P D vwCl (lk_O qo cO f) H) (hk : qo < H.size → H1[qo]? = H[qo]?) : va_P D vwCl (lk_O qo cO f) H1 := by
  intro k q hq
  have h0 := h k q hq
  have e : q.1 = qo := by
    match k, hq with
    | 0, hq => cases hq; rfl
    | k + 1, hq => simp [lk_O] at hq
  exact h0.kept (by rw [e]; exact hk (by rw [← e]; exact h0.lt))
theorem lk_D {D : va_G} {dA : Nat → ClassId} {ad : Nat → Nat} {σ : hs_S} {sz qo : Nat} {cO : ClassId} {f : Nat → Int64} (hinj : hs_inj SHX ad) (hq : ∀ c, c < SHX.length → ad c ≠ qo) : va_D (hs_AO ad qo sz) (hs_W SHX dA ad σ ++ lk_O qo cO f) := by
  have key : ∀ (k : Nat) (x : Nat × va_E), (hs_W SHX dA ad σ ++ lk_O qo cO f)[k]? = some x → (k < SHX.length ∧ x.1 = ad k) ∨ (k = SHX.length ∧ x.1 = qo) := by
    intro k x hx
    by_cases hl : k < SHX.length
    · rw [List.getElem?_append_left (by rw [hs_W_len]; exact hl)] at hx
      exact Or.inl (hs_W_inv hx)
    · rw [List.getElem?_append_right (by rw [hs_W_len]; omega), hs_W_len] at hx
      right
      have h1 : k - SHX.length < 1 := (List.getElem?_eq_some_iff.mp hx).1
      have h2 : k = SHX.length := by omega
      rw [h2, Nat.sub_self] at hx
      cases hx
      exact ⟨h2, rfl⟩
  refine ⟨fun i j x y hx hy hxy => ?_, fun k x hx => ?_⟩
  · rcases key i x hx with ⟨a1, a2⟩ | ⟨a1, a2⟩
    · rcases key j y hy with ⟨b1, b2⟩ | ⟨b1, b2⟩
      · exact hinj i j a1 b1 (by rw [← a2, ← b2]; exact hxy)
      · exact absurd (by rw [← a2, ← b2]; exact hxy) (hq i a1)
    · rcases key j y hy with ⟨b1, b2⟩ | ⟨b1, b2⟩
      · exact absurd (by rw [← a2, ← b2]; exact hxy.symm) (hq j b1)
      · omega
  · rcases key k x hx with ⟨a1, a2⟩ | ⟨a1, a2⟩
    · rw [a2]; exact Or.inl (Or.inl ⟨k, a1, rfl⟩)
    · rw [a2]; exact Or.inr rfl
set_option maxHeartbeats 4000000 in
set_option maxRecDepth 100000 in
theorem l_look (l : Launch) (hfl : l.stackTraces = false) (w n : Int) (hw : hs_R w) (hn : hs_R n) (D : va_G) (dA : Nat → ClassId) (ad : Nat → Nat) (σ : hs_S) (hg : GX σ σ) (sz sa sb qo : Nat) (cO : ClassId) (f : Nat → Int64) (hinj : hs_inj SHX ad) : vx_Met l yL_look (Cond.codeWith yL_look cL_look 5 (some .int) LKH :: WS) (hs_rmC 10 1 6) (va_Pc [.ref (ad 0), vI w, vI n, .ref qo] (lk_Z3 D dA ad σ sz sa sb qo cO f)) (lk_QL D dA ad σ sz qo cO) (fun _ _ _ => False) 1 6 (hs_AO ad qo sz) := by
  refine vx_ofWH (cc := cL_look) (maxL := 5) (ret := some .int) (hh := LKH) (by decide +kernel) rfl ?_
  intro p e s m args below meth c s₁ B hml hv
  obtain ⟨rfl, hZ, hO, hAT, hqo⟩ := hv
  have hsz := hZ.1
  have hP := hZ.2.1
  have hK := hZ.2.2.1
  subst hsz
  have hts := atoms_spec (ws := Cond.codeWith yL_look cL_look 5 (some .int) LKH :: WS) B.pre
  have hown : s.vm.findClass RL = some m.cls := findClass_of_methodNamed B.named
  have hT : ∀ w' ∈ WS, w'.before [Value.ref (ad 0), vI w, vI n, Value.ref qo].toArray s = true := fun w' hw' => hts w' (List.mem_cons_of_mem _ hw')
  have htab : c.exceptionTable.toList = tableOf LKH := vx_table (x := yL_look) B (hts _ List.mem_cons_self)
  have hl0 := lv_entry [Value.ref (ad 0), vI w, vI n, Value.ref qo] (n := 5) (Nat.le_of_ble_eq_true rfl)
  have hnA : qo < s.heap.size → ¬ hs_A SHX ad s.heap.size qo := by
    intro hlt h
    rcases h with ⟨c0, h1, h2⟩ | h
    · exact hqo c0 h1 h2.symm
    · omega
  rw [lg_entry_eq]
  suffices key : ∀ ls : Array Slot, lv_has ls 5 [(0, Value.ref (ad 0)), (1, vI w), (2, vI n), (3, Value.ref qo)] → W p l e (headSpec (Cond.codeWith yL_look cL_look 5 (some .int) LKH :: WS) (hs_rmC 10 1 6)).room s m [Value.ref (ad 0), vI w, vI n, Value.ref qo].toArray below meth c s.heap [] 0 0 (vx_MQ below (lk_QL D dA ad σ s.heap.size qo cO) (fun _ _ _ => False) [Value.ref (ad 0), vI w, vI n, Value.ref qo].toArray s 1 6 (hs_AO ad qo s.heap.size)) (F0 m 0 ls []) from key _ hl0
  clear hl0
  intro ls hl0
  refine lv_aload_n B.exec B.bytes dL_look_0 rfl (lv_at hl0 3 rfl) ?_
  refine lv_iconst B.exec B.bytes dL_look_1 rfl ?_
  refine lv_aload_n B.exec B.bytes dL_look_2 rfl (lv_at hl0 0 rfl) ?_
  refine lv_iload_n B.exec B.bytes dL_look_3 rfl (lv_at hl0 1 rfl) ?_
  refine lv_iload_n B.exec B.bytes dL_look_4 rfl (lv_at hl0 2 rfl) ?_
  have hG : GoodIn WS (Cond.code yX11_look cX11_look 4 (some .int) :: WS) := fun w h => by
    rcases List.mem_cons.mp h with rfl | h
    · exact ws_good _ wcX11_look
    · exact ws_good _ h
  have hsh : SHX[0]? = some (0, 11, _) := rfl
  rcases Classical.em (0 ≤ w ∧ w < σ 3 4) with hq | hq
  rotate_left
  · skip
    have hr := vx_runV (p := p) (l := l) (e := e) (R := (headSpec (Cond.codeWith yL_look cL_look 5 (some .int) LKH :: WS) (hs_rmC 10 1 6)).room) (meth := meth) (below := below) (H := s.heap) (locs := []) (cells := 0) (slots := 0) (g := F0 m 5 ls [vI n, vI w, .ref (ad 0), vI 0, .ref qo]) (As := [vI w, vI n]) (rest := [vI 0, .ref qo]) (Ts := WS) (ws := Cond.code yX11_look cX11_look 4 (some .int) :: WS) ⟨B.exec, B.bytes, hml, hown, hT⟩ (x_look1 l hfl w n hw hn D dA ad σ s.heap.size sa sb hinj hg hq) (cwV (C := RX11) 2 hT (fun w h => by
      rcases List.mem_append.mp h with h | h
      · simp only [List.mem_cons, List.not_mem_nil, or_false] at h
        rcases h with rfl | rfl | rfl | rfl
        · exact ws_good _ wlL_7
        · exact ws_good _ wiX11_look
        · exact ws_good _ weX11_look
        · exact ws_good _ wnX11
      · exact hG w h) rfl rfl rfl ⟨rfl, noX11_look⟩ ⟨by decide, by decide⟩) ⟨lk_blind, va_recv hK.1.1 hP rfl (hs_W_get hsh), fun U hU hW => ⟨rfl, lk_warm hU hW hZ⟩⟩ rfl rfl hl0.1 rfl (lv_room (Nat.le_of_ble_eq_true rfl)) dL_look_5 ⟨by decide, by decide⟩
    refine vx_calli (A0 := hs_AO ad qo s.heap.size) hr va_S.rf (fun _ _ h => Or.inl h) (fun _ h => Or.inl h) (fun _ _ h => Or.inl h) ?_ ?_
    · rintro E ce q9 _ t H1 locs1 rfl hAl - ⟨rfl, hP1⟩ hz1 hk1 hS1 hce hcv hcl
      refine vx_catch (own := RL) (name := IOOB) hown [] ⟨0, 10, 13, 13⟩ [⟨0, 10, 17, 15⟩] (by rw [htab]; rfl) (fun z hz => nomatch hz) (by decide) (by decide) (hT _ wkL_13) (lk_nw_use hZ.2.2.2.2.2.2.2 List.mem_cons_self) hce hcv hcl ?_
      refine lv_astore B.exec B.bytes (lv' := [(4, Value.ref q9), (0, Value.ref (ad 0)), (1, vI w), (2, vI n), (3, Value.ref qo)]) dL_look_13 hl0 (by decide) rfl (fun ls' hl' => ?_)
      refine lv_iconst B.exec B.bytes dL_look_15 rfl ?_
      refine vx_ret ?_
      refine W.iret B.exec B.bytes B.returns ?_ ?_ dL_look_16 B.notSynchronized
      · intro t2 ht2 hW2
        exact ⟨⟨_, f, rfl, trivial, by rw [ht2]; exact hP1, by rw [ht2]; exact lk_Okeep hO (fun hlt => hk1 qo hlt (hnA hlt))⟩, hS1.F ht2⟩
      · exact hS1.2.2
    · intro r u t H1 locs1 _ _ hf
      exact hf.elim
  rcases Classical.em (n < 0 ∨ 7 < n) with h7 | h7
  · skip
    have hr := vx_runV (p := p) (l := l) (e := e) (R := (headSpec (Cond.codeWith yL_look cL_look 5 (some .int) LKH :: WS) (hs_rmC 10 1 6)).room) (meth := meth) (below := below) (H := s.heap) (locs := []) (cells := 0) (slots := 0) (g := F0 m 5 ls [vI n, vI w, .ref (ad 0), vI 0, .ref qo]) (As := [vI w, vI n]) (rest := [vI 0, .ref qo]) (Ts := WS) (ws := Cond.code yX11_look cX11_look 4 (some .int) :: WS) ⟨B.exec, B.bytes, hml, hown, hT⟩ (x_look2 l hfl w n hw hn D dA ad σ s.heap.size sa sb hinj hg (by omega) (by omega)) (cwV (C := RX11) 2 hT (fun w h => by
      rcases List.mem_append.mp h with h | h
      · simp only [List.mem_cons, List.not_mem_nil, or_false] at h
        rcases h with rfl | rfl | rfl | rfl
        · exact ws_good _ wlL_7
        · exact ws_good _ wiX11_look
        · exact ws_good _ weX11_look
        · exact ws_good _ wnX11
      · exact hG w h) rfl rfl rfl ⟨rfl, noX11_look⟩ ⟨by decide, by decide⟩) ⟨lk_blind, va_recv hK.1.1 hP rfl (hs_W_get hsh), fun U hU hW => ⟨rfl, lk_warm hU hW hZ⟩⟩ rfl rfl hl0.1 rfl (lv_room (Nat.le_of_ble_eq_true rfl)) dL_look_5 ⟨by decide, by decide⟩
    refine vx_calli (A0 := hs_AO ad qo s.heap.size) hr va_S.rf (fun _ _ h => Or.inl h) (fun _ h => Or.inl h) (fun _ _ h => Or.inl h) ?_ ?_
    · rintro E ce q9 _ t H1 locs1 rfl hAl - ⟨rfl, hP1⟩ hz1 hk1 hS1 hce hcv hcl
      refine vx_catch (own := RL) (name := NSEE) hown [⟨0, 10, 13, 13⟩] ⟨0, 10, 17, 15⟩ [] (by rw [htab]; rfl) (fun z hz => by rw [List.mem_singleton.mp hz]; exact Or.inr ⟨by decide, IOOB, hT _ wkL_13, hZ.2.2.2.2.2.2.2.2⟩) (by decide) (by decide) (hT _ wkL_15) (lk_nw_use hZ.2.2.2.2.2.2.2 (List.mem_cons_of_mem _ List.mem_cons_self)) hce hcv hcl ?_
      refine lv_astore B.exec B.bytes (lv' := [(4, Value.ref q9), (0, Value.ref (ad 0)), (1, vI w), (2, vI n), (3, Value.ref qo)]) dL_look_17 hl0 (by decide) rfl (fun ls' hl' => ?_)
      refine lv_iconst B.exec B.bytes dL_look_19 rfl ?_
      refine vx_ret ?_
      refine W.iret B.exec B.bytes B.returns ?_ ?_ dL_look_20 B.notSynchronized
      · intro t2 ht2 hW2
        exact ⟨⟨_, f, rfl, trivial, by rw [ht2]; exact hP1, by rw [ht2]; exact lk_Okeep hO (fun hlt => hk1 qo hlt (hnA hlt))⟩, hS1.F ht2⟩
      · exact hS1.2.2
    · intro r u t H1 locs1 _ _ hf
      exact hf.elim
  · have hPU : ∀ U : State, U.heap = s.heap → s.WarmedH U.vm → (U.heap.size = s.heap.size ∧ va_P D vwCl (hs_W SHX dA ad σ) U.heap ∧ hs_K D dA U ∧ hs_St ad (hs_A SHX ad s.heap.size) U) := fun U hU hW => ⟨by rw [hU], by rw [hU]; exact hP, ⟨va_K.moved hW.alike hK.1.1, hs_nw_warm hW hK.1.2⟩, hs_St_at (locs := []) hK.2 va_S.rf hU hW (fun _ h => h)⟩
    have hbl : FrameBlind (va_Pc [.ref (ad 0), vI w, vI n] (fun U => U.heap.size = s.heap.size ∧ va_P D vwCl (hs_W SHX dA ad σ) U.heap ∧ hs_K D dA U ∧ hs_St ad (hs_A SHX ad s.heap.size) U)) := fun a U g mk q => ⟨q.1, q.2.1, q.2.2.1, ⟨va_K.moved (u := U) (U := U.calling g mk a) (Vm.Alike.refl U.vm) q.2.2.2.1.1, hs_nw_same (u := U) (U := U.calling g mk a) rfl q.2.2.2.1.2⟩, hs_St_same (u := U) (U := U.calling g mk a) rfl rfl q.2.2.2.2⟩
    have hr := va_runV (p := p) (l := l) (e := e) (R := (headSpec (Cond.codeWith yL_look cL_look 5 (some .int) LKH :: WS) (hs_rmC 10 1 6)).room) (meth := meth) (below := below) (H := s.heap) (locs := []) (cells := 0) (slots := 0) (g := F0 m 5 ls [vI n, vI w, .ref (ad 0), vI 0, .ref qo]) (As := [vI w, vI n]) (rest := [vI 0, .ref qo]) (Ts := WS) (ws := Cond.code yX11_look cX11_look 4 (some .int) :: WS) ⟨B.exec, B.bytes, hml, hown, hT⟩ (c_X11_look l w hw n hn D dA ad s.heap.size σ hinj ⟨hg, by omega⟩) (cwV (C := RX11) 2 hT (fun w h => by
      rcases List.mem_append.mp h with h | h
      · simp only [List.mem_cons, List.not_mem_nil, or_false] at h
        rcases h with rfl | rfl | rfl | rfl
        · exact ws_good _ wlL_7
        · exact ws_good _ wiX11_look
        · exact ws_good _ weX11_look
        · exact ws_good _ wnX11
      · exact hG w h) rfl rfl rfl ⟨rfl, noX11_look⟩ ⟨by decide, by decide⟩) ⟨hbl, va_recv hK.1.1 hP rfl (hs_W_get hsh), fun U hU hW => ⟨rfl, hPU U hU hW⟩⟩ rfl rfl hl0.1 rfl (lv_room (Nat.le_of_ble_eq_true rfl)) dL_look_5 ⟨by decide, by decide⟩
    intro T hTT X
    obtain ⟨v, st₀, t, T', Lc, e0, X', hL, e1, e2, ⟨⟨v2, σ1, hv, hp, hb⟩, hz, hk⟩, stp⟩ := hr T hTT X
    cases hv
    obtain ⟨z, rfl, rfl, hzR⟩ := hp
    rw [e0] at hz hk
    have hS : va_S (hs_AO ad qo s.heap.size) s.heap T'.heap Lc := ⟨by rw [e1]; exact hz, fun x hx hx2 => by rw [e1]; exact hk x hx (fun h => hx2 (Or.inl h)), fun x hx => Or.inl (hL x hx)⟩
    have hP1 : va_P D vwCl (hs_W SHX dA ad σ) T'.heap := by rw [e1]; exact hb
    have hO1 : va_P D vwCl (lk_O qo cO f) T'.heap := lk_Okeep hO (fun hlt => by rw [e1]; exact hk qo hlt (hnA hlt))
    have hPc := va_P.app hP1 hO1
    have hDc : va_D (hs_AO ad qo s.heap.size) (hs_W SHX dA ad σ ++ lk_O qo cO f) := lk_D (D := D) hinj hqo
    have hKL : va_K D vwCl [(cO, .long)] s := ⟨hK.1.1.1, fun k q hq => by
      match k, hq with
      | 0, hq => cases hq; exact hAT
      | k + 1, hq => simp at hq⟩
    have hat : (hs_W SHX dA ad σ ++ lk_O qo cO f)[SHX.length]? = some (qo, .inl (cO, 1, .inr (.inl f))) := by
      rw [List.getElem?_append_right (by rw [hs_W_len]; omega), hs_W_len, Nat.sub_self]; rfl
    have K : W p l e (headSpec (Cond.codeWith yL_look cL_look 5 (some .int) LKH :: WS) (hs_rmC 10 1 6)).room s m [Value.ref (ad 0), vI w, vI n, Value.ref qo].toArray below meth c T'.heap ([] ++ Lc) (0 + 0) (0 + 0) (vx_MQ below (lk_QL D dA ad σ s.heap.size qo cO) (fun _ _ _ => False) [Value.ref (ad 0), vI w, vI n, Value.ref qo].toArray s 1 6 (hs_AO ad qo s.heap.size)) (F0 m 8 ls [vI z, vI 0, .ref qo]) := by
      refine lv_i2l B.exec B.bytes dL_look_8 rfl ?_
      refine va_last B.exec B.bytes hKL hPc hDc hS SHX.length 0 hat rfl (hs_in (a := 0) (by decide) (by decide) (by decide)) dL_look_9 (fun H1 locs1 hP2 hD2 hS2 => ?_)
      refine lv_goto (tgt := 21) B.exec B.bytes dL_look_10 (by decide) ?_
      refine lv_iconst B.exec B.bytes dL_look_21 rfl ?_
      refine W.widen (k := 1) (n := 6) (by decide) (by decide) ?_
      refine vx_ret ?_
      refine W.iret B.exec B.bytes B.returns ?_ ?_ dL_look_22 B.notSynchronized
      · intro t2 ht2 hW2
        refine ⟨⟨_, vp_updL f (Int32.ofInt 0).toNatClampNeg (Int32.ofInt z).toInt64, rfl, trivial, ?_, ?_⟩, hS2.F ht2⟩
        · intro k q hq
          rw [ht2]
          have hkl : k < SHX.length := (hs_W_inv hq).1
          exact hP2 k q (by rw [List.getElem?_set_ne (by omega), List.getElem?_append_left (by rw [hs_W_len]; exact hkl)]; exact hq)
        · intro k q hq
          rw [ht2]
          match k, hq with
          | 0, hq =>
            cases hq
            exact hP2 SHX.length _ (by rw [List.getElem?_set_self (by rw [List.length_append, hs_W_len]; exact Nat.lt_succ_self _)])
          | k + 1, hq => simp [lk_O] at hq
      · exact hS2.2.2
    obtain ⟨t2, a1, b1⟩ := K T' rfl X'
    exact ⟨t2, stp t2 a1, b1⟩
theorem l_keep3 {D : va_G} {dA : Nat → ClassId} {A : Nat → Prop} {ad : Nat → Nat} {σ : hs_S} {wy : va_W} {qo : Nat} {cO : ClassId} {f : Nat → Int64} {H : Heap} {n0 : Nat} (hA : ∀ q : Nat, n0 ≤ q → A q) (hn0 : n0 ≤ H.size) (hP : va_P D vwCl (hs_W SHX dA ad σ ++ (wy ++ lk_O qo cO f)) H) (hD : va_D A (hs_W SHX dA ad σ ++ (wy ++ lk_O qo cO f))) :
    va_P D vwCl (hs_W SHX dA ad σ) H ∧ va_P D vwCl (lk_O qo cO f) H ∧ hs_inj SHX ad ∧ (∀ c, c < SHX.length → ad c ≠ qo) ∧ (∀ q, hs_AO ad qo H.size q → A q) ∧ (∀ (H1 : Heap) (f1 : Nat → Int64), va_P D vwCl (hs_W SHX dA ad σ) H1 → va_P D vwCl (lk_O qo cO f1) H1 → (∀ q : Nat, q < H.size → ¬ hs_AO ad qo H.size q → H1[q]? = H[q]?) → va_P D vwCl (hs_W SHX dA ad σ ++ (wy ++ lk_O qo cO f1)) H1) ∧ (∀ f1 : Nat → Int64, va_D A (hs_W SHX dA ad σ ++ (wy ++ lk_O qo cO f1))) := by
  have gx : ∀ (k : Nat) (h : k < SHX.length), (hs_W SHX dA ad σ ++ (wy ++ lk_O qo cO f))[k]? = some (ad k, hs_E dA ad (σ k) SHX[k]) := fun k h => by
    have h2 : SHX[k]? = some SHX[k] := List.getElem?_eq_getElem h
    rw [List.getElem?_append_left (by rw [hs_W_len]; exact h)]
    exact hs_W_get h2
  have gy : ∀ (j : Nat) (q : Nat × va_E), wy[j]? = some q → (hs_W SHX dA ad σ ++ (wy ++ lk_O qo cO f))[SHX.length + j]? = some q := fun j q h => by
    rw [List.getElem?_append_right (by rw [hs_W_len]; omega), hs_W_len, Nat.add_sub_cancel_left, List.getElem?_append_left (List.getElem?_eq_some_iff.mp h).1]
    exact h
  have go : (hs_W SHX dA ad σ ++ (wy ++ lk_O qo cO f))[SHX.length + wy.length]? = some (qo, .inl (cO, 1, .inr (.inl f))) := by
    rw [List.getElem?_append_right (by rw [hs_W_len]; omega), hs_W_len, Nat.add_sub_cancel_left, List.getElem?_append_right (by omega), Nat.sub_self]
    rfl
  have hqo : ∀ c, c < SHX.length → ad c ≠ qo := fun c hc e => by
    have := hD.1 c (SHX.length + wy.length) _ _ (gx c hc) go e
    omega
  refine ⟨fun k x hk => hP k x (by rw [List.getElem?_append_left (List.getElem?_eq_some_iff.mp hk).1]; exact hk), ?_, ?_, hqo, ?_, ?_, ?_⟩
  · intro k x hx
    match k, hx with
    | 0, hx => cases hx; exact hP _ _ go
    | k + 1, hx => simp [lk_O] at hx
  · intro i j hi hj hij
    exact hD.1 i j _ _ (gx i hi) (gx j hj) hij
  · intro q h
    rcases h with (⟨c0, h1, rfl⟩ | h) | rfl
    · exact hD.2 c0 _ (gx c0 h1)
    · exact hA q (Nat.le_trans hn0 h)
    · exact hD.2 _ _ go
  · intro H1 f1 hb hO hk
    refine va_P.app hb (va_P.app (fun j q hq => ?_) hO)
    have hw2 := gy j q hq
    have hjl : j < wy.length := (List.getElem?_eq_some_iff.mp hq).1
    refine (hP _ q hw2).kept (hk q.1 (hP _ q hw2).lt (fun h => ?_))
    rcases h with (⟨c0, h1, h2⟩ | h) | h
    · have := hD.1 (SHX.length + j) c0 q _ hw2 (gx c0 h1) h2
      omega
    · have := (hP _ q hw2).lt
      omega
    · have := hD.1 (SHX.length + j) (SHX.length + wy.length) q _ hw2 go h
      omega
  · intro f1
    have key : ∀ (k : Nat) (q : Nat × va_E), (hs_W SHX dA ad σ ++ (wy ++ lk_O qo cO f1))[k]? = some q → ∃ q0, (hs_W SHX dA ad σ ++ (wy ++ lk_O qo cO f))[k]? = some q0 ∧ q0.1 = q.1 := by
      intro k q hk
      by_cases h1 : k < SHX.length
      · have h2 : SHX[k]? = some SHX[k] := List.getElem?_eq_getElem h1
        rw [List.getElem?_append_left (by rw [hs_W_len]; exact h1), hs_W_get h2] at hk
        cases hk
        exact ⟨_, gx k h1, rfl⟩
      · rw [List.getElem?_append_right (by rw [hs_W_len]; omega), hs_W_len] at hk
        by_cases h2 : k - SHX.length < wy.length
        · rw [List.getElem?_append_left h2] at hk
          refine ⟨q, ?_, rfl⟩
          have := gy _ q hk
          rwa [show SHX.length + (k - SHX.length) = k by omega] at this
        · rw [List.getElem?_append_right (by omega)] at hk
          have h3 : k - SHX.length - wy.length < 1 := (List.getElem?_eq_some_iff.mp hk).1
          have h4 : k = SHX.length + wy.length := by omega
          rw [show k - SHX.length - wy.length = 0 by omega] at hk
          cases hk
          exact ⟨(qo, .inl (cO, 1, .inr (.inl f))), by rw [h4]; exact go, rfl⟩
    refine ⟨fun i j x y hi hj hxy => ?_, fun k q hk => ?_⟩
    · obtain ⟨x0, a1, a2⟩ := key i x hi
      obtain ⟨y0, b1, b2⟩ := key j y hj
      exact hD.1 i j x0 y0 a1 b1 (a2.trans (hxy.trans b2.symm))
    · obtain ⟨q0, a1, a2⟩ := key k q hk
      rw [← a2]
      exact hD.2 k q0 a1
theorem l_callK {p : Program} {l : Launch} {e : Env} {s : State} {m : MethodId} {b L : Nat} {xs : Nat → Int32} {below : List Frame} {meth : Method} {c : Code} {D : va_G} {dA : Nat → ClassId} {A : Nat → Prop} {Q : State → Prop} {pc : Nat} {lv : List (Nat × Value)} {cells slots : Nat} (hfl : l.stackTraces = false) (C : hs_Cl p s m b L xs meth c D dA A) {ad : Nat → Nat} {σ : hs_S} (hg : GX σ σ) {wy : va_W} {sa sb qo i : Nat} {cO : ClassId} {f : Nat → Int64} {rest : List Value} (w n : Int) (hw : hs_R w) (hn : hs_R n) (hSt : hs_St ad A s) (hU : vx_Zq Jvm.Bundle.tN "UNASSIGNED_STACK" Jvm.Bundle.steD A s s.heap) (hN : vx_Zq Jvm.Bundle.tN "SUPPRESSED_SENTINEL" Jvm.Bundle.listD A s s.heap) (hR : vk_R RX11 177 "no such wheel" sa s) (hR2 : vk_R RX11 206 "no such what" sb s) (hCa : lk_nw s) (hAT : ArrOfT s cO .long ∧ va_RA s cO .long) (hd : decode cL_law pc = .ok (.invokestatic i, 3)) (hwl : Cond.methodLink RL i yL_look ∈ WS) (hsum : (rest.map fun v => v.category).sum ≤ 8) (hcells : cells + 1 ≤ 601024) (hslots : slots + 6 ≤ 7293034)
    (k : ∀ (r : Int) (f1 : Nat → Int64), hs_R r → hs_Wn p l e room_1 s m #[Value.ref b] below meth c D A 7 Q (pc + 3) lv (vI r :: rest) (hs_W SHX dA ad σ ++ (wy ++ lk_O qo cO f1)) (cells + 1) (slots + 6)) : hs_Wn p l e room_1 s m #[Value.ref b] below meth c D A 7 Q pc lv (.ref qo :: vI n :: vI w :: .ref (ad 0) :: rest) (hs_W SHX dA ad σ ++ (wy ++ lk_O qo cO f)) cells slots := by
  intro H locs ls hP hD hS hl
  obtain ⟨hPl, hPO, hinj, hqo, hF, hKp, hDp⟩ := l_keep3 C.2.2.2.2.2.2.1 hS.1 hP hD
  have hF1 : ∀ q, hs_A SHX ad H.size q → A q := fun q h => hF q (Or.inl h)
  have hPU : ∀ U : State, U.heap = H → s.WarmedH U.vm → lk_Z3 D dA ad σ H.size sa sb qo cO f U := fun U hUH hW => ⟨⟨by rw [hUH], by rw [hUH]; exact hPl, ⟨⟨va_K.moved hW.alike C.2.2.2.2.2.1.1.1, hs_nw_warm hW C.2.2.2.2.2.1.1.2⟩, hs_St_at hSt hS hUH hW hF1⟩, by rw [hUH]; exact (vx_Zq.moved hW.alike (hU.kept hS.2.1)).narrow hF1, by rw [hUH]; exact (vx_Zq.moved hW.alike (hN.kept hS.2.1)).narrow hF1, vk_R.warm hW hR, vk_R.warm hW hR2, lk_nw_warm hW hCa⟩, by rw [hUH]; exact hPO, ⟨arrOfT_moved hW.alike hAT.1, hAT.2.moved hW.alike⟩, hqo⟩
  have hG : GoodIn WS (va_wsS RL i yL_look (Cond.codeWith yL_look cL_look 5 (some .int) LKH :: WS)) := fun w h => by
    unfold va_wsS at h
    rcases List.mem_append.mp h with h | h
    · simp only [List.mem_cons, List.not_mem_nil, or_false] at h
      rcases h with rfl | rfl | rfl
      · exact ws_good _ hwl
      · exact ws_good _ wtL_look
      · exact ws_good _ wnL
    · rcases List.mem_cons.mp h with rfl | h
      · exact ws_good _ wcL_look
      · exact ws_good _ h
  have hcw : vx_CSW room_1 s #[Value.ref b] RL i yL_look cL_look 5 (some .int) LKH (Cond.codeWith yL_look cL_look 5 (some .int) LKH :: WS) (hs_rmC 10 1 6) 1 6 4 := vx_cwSW (ws' := WS) 4 C.2.2.2.2.1 hG rfl rfl rfl noL_look ⟨Nat.le_of_ble_eq_true rfl, Nat.le_of_ble_eq_true rfl⟩
  have hr := vx_runSX (hh := LKH) (As := [.ref (ad 0), vI w, vI n, .ref qo]) (rest := rest) (Ts := WS) (own := RL) (ws := Cond.codeWith yL_look cL_look 5 (some .int) LKH :: WS) (g := F0 m pc ls (.ref qo :: vI n :: vI w :: .ref (ad 0) :: rest)) (cells := cells) (slots := slots) (locs := locs) (H := H) (below := below) (meth := meth) (e := e) (p := p) (R := room_1) ⟨C.1, C.2.1, C.2.2.1, C.2.2.2.1, C.2.2.2.2.1⟩ (l_look l hfl w n hw hn D dA ad σ hg H.size sa sb qo cO f hinj) hcw ⟨lk_blind3, fun U hU hW => ⟨rfl, hPU U hU hW⟩⟩ rfl rfl hl.1 rfl (lv_room hsum) hd ⟨hcells, hslots⟩
  intro T hT X
  rcases hr T hT X with ⟨v, st₀, t, T', Lc, e0, X', hL, e1, e2, ⟨⟨r, u, hv, hp, hb, hbo⟩, hz, hk⟩, stp⟩ | ⟨q, st₀, t, T', Lc, E, ce, e0, X', hL, e1, e2, hf, -⟩
  · cases hv
    rw [e0] at hz hk
    have hP2 : va_P D vwCl (hs_W SHX dA ad σ ++ (wy ++ lk_O qo cO u)) T'.heap := by
      rw [e1]
      exact hKp _ u hb hbo hk
    have k2 := k r.toInt u (hs_oR r)
    rw [show vI r.toInt = Value.int r from congrArg Value.int (Int32.ofInt_toInt r)] at k2
    obtain ⟨t2, a1, b1⟩ := k2 T'.heap (locs ++ Lc) ls hP2 (hDp u)
      ⟨Nat.le_trans hS.1 (by rw [e1]; exact hz), fun x h1 h2 => by rw [e1, hk x (Nat.lt_of_lt_of_le h1 hS.1) (fun z => h2 (hF x z))]; exact hS.2.1 x h1 h2, fun x hx => by
        rcases List.mem_append.mp hx with h | h
        · exact hS.2.2 x h
        · exact hF _ (hL x h)⟩ hl T' rfl X'
    exact ⟨t2, stp t2 a1, b1⟩
  · exact hf.elim
