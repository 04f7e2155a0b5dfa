abbrev IOOB : String := "java/lang/IndexOutOfBoundsException"
abbrev NSEE : String := "java/util/NoSuchElementException"
abbrev IONM : List String := ["java/lang/RuntimeException", "java/lang/Exception"]
abbrev LKH : List (Nat × Nat × Nat × Nat) := [(0, 10, 13, 13), (0, 10, 17, 15)]
abbrev LKN : List Cond := [.castable IOOB IOOB, .castable NSEE NSEE, .declares ⟨"java/lang/RuntimeException", "<init>", "(Ljava/lang/String;)V"⟩, .declares ⟨"java/lang/Exception", "<init>", "(Ljava/lang/String;)V"⟩, .declares ⟨"java/lang/Throwable", "<init>", "(Ljava/lang/String;)V"⟩]
def lk_nw (U : State) : Prop := (∀ w ∈ LKN, va_Nw w U) ∧ va_Nc NSEE IOOB U
theorem lk_nw_warm {s U : State} (hW : s.WarmedH U.vm) (h : lk_nw s) : lk_nw U := by
  refine ⟨?_, va_Nc.moved hW.alike h.2⟩
  intro w hw
  have h1 := h.1 w hw
  have hd : ∀ y : MethodName, va_Nw (.declares y) s → va_Nw (.declares y) U := fun y hZ => va_tabs rfl (rfl : (s.setVm U.vm).vm = U.vm) (by rw [Cond.declares_setVm hW.alike]; exact hZ)
  simp only [List.mem_cons, List.not_mem_nil, or_false] at hw
  rcases hw with rfl | rfl | rfl | rfl | rfl
  · exact va_Nw.warmC hW h1
  · exact va_Nw.warmC hW h1
  · exact hd _ h1
  · exact hd _ h1
  · exact hd _ h1
theorem lk_nw_same {u U : State} (hv : u.vm = U.vm) (h : lk_nw u) : lk_nw U := by
  refine ⟨?_, va_Nc.moved (by rw [hv]; exact Vm.Alike.refl _) h.2⟩
  intro w hw
  have h1 := h.1 w hw
  simp only [List.mem_cons, List.not_mem_nil, or_false] at hw
  rcases hw with rfl | rfl | rfl | rfl | rfl <;> exact va_Nw.same rfl hv h1
theorem lk_nw_use {U : State} {args : Array Value} {w : Cond} (h : lk_nw U) (hw : w ∈ LKN) : w.before args U = true := by
  have h1 := h.1 w hw
  simp only [List.mem_cons, List.not_mem_nil, or_false] at hw
  rcases hw with rfl | rfl | rfl | rfl | rfl <;> exact va_Nw.use rfl h1
theorem ot_ws {w : Cond} (h : w ∈ WS) : vx_ot w = true := by
  have := (List.mem_filter.mp h).2
  simp [vx_ot, this]
theorem ot_lk {w : Cond} (h : w ∈ LKN) : vx_ot w = true := by
  simp only [List.mem_cons, List.not_mem_nil, or_false] at h
  rcases h with rfl | rfl | rfl | rfl | rfl <;> rfl
set_option maxRecDepth 100000 in
theorem at1_all : (vx_atS RX11 179 IOOB IONM).all (fun w => (decide (w ∈ lw_tbl) && goodWord w) || decide (w ∈ LKN)) = true := by decide +kernel
theorem at1_ws : ∀ w ∈ vx_atS RX11 179 IOOB IONM, w ∈ WS ∨ w ∈ LKN := by
  intro w hw
  have h1 := List.all_eq_true.mp at1_all w hw
  simp only [Bool.or_eq_true, Bool.and_eq_true, decide_eq_true_eq] at h1
  rcases h1 with h1 | h1
  · exact Or.inl (List.mem_filter.mpr h1)
  · exact Or.inr h1
set_option maxRecDepth 100000 in
theorem at2_all : (vx_atX RX11 208 NSEE 13 nsRx IONM).all (fun w => (decide (w ∈ lw_tbl) && goodWord w) || decide (w ∈ LKN)) = true := by decide +kernel
theorem at2_ws : ∀ w ∈ vx_atX RX11 208 NSEE 13 nsRx IONM, w ∈ WS ∨ w ∈ LKN := by
  intro w hw
  have h1 := List.all_eq_true.mp at2_all w hw
  simp only [Bool.or_eq_true, Bool.and_eq_true, decide_eq_true_eq] at h1
  rcases h1 with h1 | h1
  · exact Or.inl (List.mem_filter.mpr h1)
  · exact Or.inr h1
theorem wkX11_175 : Cond.classLink RX11 175 IOOB ∈ WS := List.mem_filter.mpr ⟨by decide +kernel, by decide +kernel⟩
theorem wkX11_204 : Cond.classLink RX11 204 NSEE ∈ WS := List.mem_filter.mpr ⟨by decide +kernel, by decide +kernel⟩
theorem wnIOOB : Cond.initialized IOOB ∈ WS := List.mem_filter.mpr ⟨by decide +kernel, by decide +kernel⟩
theorem wnNSEE : Cond.initialized NSEE ∈ WS := List.mem_filter.mpr ⟨by decide +kernel, by decide +kernel⟩
theorem wcL_look : Cond.codeWith yL_look cL_look 5 (some .int) LKH ∈ WS := List.mem_filter.mpr ⟨by decide +kernel, by decide +kernel⟩
theorem wkL_13 : Cond.classLink RL 13 IOOB ∈ WS := List.mem_filter.mpr ⟨by decide +kernel, by decide +kernel⟩
theorem wkL_15 : Cond.classLink RL 15 NSEE ∈ WS := List.mem_filter.mpr ⟨by decide +kernel, by decide +kernel⟩
def lk_Z (D : va_G) (dA : Nat → ClassId) (ad : Nat → Nat) (σ : hs_S) (sz sa sb : Nat) (U : State) : Prop := U.heap.size = sz ∧ va_P D vwCl (hs_W SHX dA ad σ) U.heap ∧ (hs_K D dA U ∧ hs_St ad (hs_A SHX ad sz) U) ∧ vx_Zq Jvm.Bundle.tN "UNASSIGNED_STACK" Jvm.Bundle.steD (hs_A SHX ad sz) U U.heap ∧ vx_Zq Jvm.Bundle.tN "SUPPRESSED_SENTINEL" Jvm.Bundle.listD (hs_A SHX ad sz) U U.heap ∧ vk_R RX11 177 "no such wheel" sa U ∧ vk_R RX11 206 "no such what" sb U ∧ lk_nw U
def lk_X (D : va_G) (dA : Nat → ClassId) (ad : Nat → Nat) (σ : hs_S) (sz : Nat) (E0 : String) : String → State → State → Prop := vx_X (S := Unit) (fun _ => True) (fun E _ t => E = E0 ∧ va_P D vwCl (hs_W SHX dA ad σ) t.heap) (hs_A SHX ad sz)
def lk_Q (ad : Nat → Nat) (sz : Nat) : Array Value → State → Outcome → State → Prop := va_Qi (S := Unit) (fun _ _ => False) (fun _ _ => True) (hs_A SHX ad sz)
theorem lk_getr {p : Program} {l : Launch} {e : Env} {R : Room} {s : State} {m : MethodId} {args : Array Value} {below : List Frame} {meth : Method} {c : Code} {D : va_G} {dA : Nat → ClassId} {SH : List hs_Sh} {ad : Nat → Nat} {cc : ByteArray} {own : String} {Q : State → Prop} {H : Heap} {locs : List Loc} {cells slots pc : Nat} {ls : Array Slot} {st : List Value} {σ : hs_S} (hx : p.tables.exec = Jvm.exec) (hb : c.code = cc) (hT : ∀ w ∈ WS, w.before args s = true) (hown : s.vm.findClass own = some m.cls) (hK : va_K D vwCl (hs_tys dA) s) (hP : va_P D vwCl (hs_W SH dA ad σ) H) {q ci N i x : Nat} {fl : List (Nat × Nat)} {CN ref : String} {T : u_T} (f : Nat) (hd : decode cc pc = .ok (.getfield i, 3)) (hw : Cond.fieldLink own i ref (T f).2.1 (T f).2.2.1 ∈ WS) (hsh : SH[q]? = some (0, ci, fl)) (hf : fl[f]? = some (2, x)) (hc : vwCl[ci]? = some (CN, T, N)) (hin : ∀ w ∈ u_ws CN T N, w ∈ WS) (hk : f < N) (hr : ref = (T f).1)
    (k : W p l e R s m args below meth c H locs cells slots Q (F0 m (pc + 3) ls (.ref (ad x) :: st))) : W p l e R s m args below meth c H locs cells slots Q (F0 m pc ls (.ref (ad q) :: st)) := by
  subst hr
  exact va_get hx hb (Ts := WS) hT hin hown hK hP q (hs_W_get hsh) hc f hk (hT _ hw) (fun _ h => h) (by simp [hs_E, List.getElem?_mapIdx, hf, hs_fv]) hd k
theorem lk_getrN {p : Program} {l : Launch} {e : Env} {R : Room} {s : State} {m : MethodId} {args : Array Value} {below : List Frame} {meth : Method} {c : Code} {D : va_G} {dA : Nat → ClassId} {SH : List hs_Sh} {ad : Nat → Nat} {cc : ByteArray} {own host : String} {Q : State → Prop} {H : Heap} {locs : List Loc} {cells slots pc : Nat} {ls : Array Slot} {st : List Value} {σ : hs_S} (hx : p.tables.exec = Jvm.exec) (hb : c.code = cc) (hT : ∀ w ∈ WS, w.before args s = true) (hN : hs_nw s) (hown : s.vm.findClass own = some m.cls) (hK : va_K D vwCl (hs_tys dA) s) (hP : va_P D vwCl (hs_W SH dA ad σ) H) {q ci N i x : Nat} {fl : List (Nat × Nat)} {CN ref : String} {T : u_T} (f : Nat) (hd : decode cc pc = .ok (.getfield i, 3)) (hw : Cond.fieldLinkNest own i ref (T f).2.1 (T f).2.2.1 host ∈ NWS) (hsh : SH[q]? = some (0, ci, fl)) (hf : fl[f]? = some (2, x)) (hc : vwCl[ci]? = some (CN, T, N)) (hin : ∀ w ∈ u_ws CN T N, w ∈ WS) (hk : f < N) (hr : ref = (T f).1)
    (k : W p l e R s m args below meth c H locs cells slots Q (F0 m (pc + 3) ls (.ref (ad x) :: st))) : W p l e R s m args below meth c H locs cells slots Q (F0 m pc ls (.ref (ad q) :: st)) := by
  subst hr
  exact va_getN hx hb (Ts := WS) hT hin hown hK hP q (hs_W_get hsh) hc f hk (va_Nw.use rfl (hN _ hw)) (fun _ h => h) (by simp [hs_E, List.getElem?_mapIdx, hf, hs_fv]) hd k
set_option maxHeartbeats 4000000 in
set_option maxRecDepth 100000 in
theorem x_look1 (l : Launch) (hfl : l.stackTraces = false) (w n : Int) (hw : hs_R w) (hn : hs_R n) (D : va_G) (dA : Nat → ClassId) (ad : Nat → Nat) (σ : hs_S) (sz sa sb : Nat) (hinj : hs_inj SHX ad) (hg : GX σ σ) (hc : ¬ (0 ≤ w ∧ w < σ 3 4)) : vx_Met l yX11_look (Cond.code yX11_look cX11_look 4 (some .int) :: WS) (hs_rmC 8 1 6) (va_Pc [.ref (ad 0), vI w, vI n] (lk_Z D dA ad σ sz sa sb)) (lk_Q ad sz) (lk_X D dA ad σ sz IOOB) 1 6 (hs_A SHX ad sz) := by
  refine vx_ofW (cc := cX11_look) (maxL := 4) (ret := some .int) (by decide +kernel) rfl ?_
  intro p e s m args below meth c s₁ B hml hno hv
  obtain ⟨rfl, hsz, hP, hK, hU, hN, hR, hR2, hCa⟩ := hv
  subst hsz
  have hts := atoms_spec (ws := Cond.code yX11_look cX11_look 4 (some .int) :: WS) B.pre
  have hown : s.vm.findClass RX11 = some m.cls := findClass_of_methodNamed B.named
  have hT : ∀ w' ∈ WS, w'.before [Value.ref (ad 0), vI w, vI n].toArray s = true := fun w' hw' => hts w' (List.mem_cons_of_mem _ hw')
  have hl0 := lv_entry [Value.ref (ad 0), vI w, vI n] (n := 4) (Nat.le_of_ble_eq_true rfl)
  rw [lg_entry_eq]
  suffices key : ∀ ls : Array Slot, lv_has ls 4 [(0, Value.ref (ad 0)), (1, vI w), (2, vI n)] → W p l e (headSpec (Cond.code yX11_look cX11_look 4 (some .int) :: WS) (hs_rmC 8 1 6)).room s m [Value.ref (ad 0), vI w, vI n].toArray below meth c s.heap [] 0 0 (vx_MQ below (lk_Q ad s.heap.size) (lk_X D dA ad σ s.heap.size IOOB) [Value.ref (ad 0), vI w, vI n].toArray s 1 6 (hs_A SHX ad s.heap.size)) (F0 m 0 ls []) from key _ hl0
  clear hl0
  intro ls hl0
  refine lv_aload_n B.exec B.bytes dX11_look_0 rfl (lv_at hl0 0 rfl) ?_
  refine lk_getr (q := 0) (ci := 11) (N := 11) (CN := RX11) (T := TX11) B.exec B.bytes hT hown hK.1.1 hP 1 dX11_look_1 wlX11_16 rfl rfl rfl wfX11 (by decide) rfl ?_
  refine lv_iload_n B.exec B.bytes dX11_look_4 rfl (lv_at hl0 1 rfl) ?_
  have hG : GoodIn WS (Cond.code yX5_hasWheel cX5_hasWheel 2 (some .boolean) :: WS) := fun w h => by
    rcases List.mem_cons.mp h with rfl | h
    · exact ws_good _ wcX5_hasWheel
    · exact ws_good _ h
  have hPU : ∀ U : State, U.heap = s.heap → s.WarmedH U.vm → (U.heap.size = s.heap.size ∧ va_P D vwCl (hs_W SHX dA ad σ) U.heap ∧ hs_K D dA U ∧ hs_St ad (hs_A SHX ad s.heap.size) U) := fun U hU hW => ⟨by rw [hU], by rw [hU]; exact hP, ⟨va_K.moved hW.alike hK.1.1, hs_nw_warm hW hK.1.2⟩, hs_St_at (locs := []) hK.2 va_S.rf hU hW (fun _ h => h)⟩
  have hbl : FrameBlind (va_Pc [.ref (ad 2), vI w] (fun U => U.heap.size = s.heap.size ∧ va_P D vwCl (hs_W SHX dA ad σ) U.heap ∧ hs_K D dA U ∧ hs_St ad (hs_A SHX ad s.heap.size) U)) := fun a U g mk q => ⟨q.1, q.2.1, q.2.2.1, ⟨va_K.moved (u := U) (U := U.calling g mk a) (Vm.Alike.refl U.vm) q.2.2.2.1.1, hs_nw_same (u := U) (U := U.calling g mk a) rfl q.2.2.2.1.2⟩, hs_St_same (u := U) (U := U.calling g mk a) rfl rfl q.2.2.2.2⟩
  have hsh : SHX[2]? = some (0, 5, _) := rfl
  have hr := va_runVN (p := p) (l := l) (e := e) (R := (headSpec (Cond.code yX11_look cX11_look 4 (some .int) :: WS) (hs_rmC 8 1 6)).room) (meth := meth) (below := below) (H := s.heap) (locs := []) (cells := 0) (slots := 0) (g := F0 m 5 ls [vI w, .ref (ad 2)]) (As := [vI w]) (rest := []) (Ts := WS) (C := RX5) (ws := Cond.code yX5_hasWheel cX5_hasWheel 2 (some .boolean) :: WS) ⟨B.exec, B.bytes, hml, hown, hT⟩ (c_X5_hasWheel l w hw D dA ad s.heap.size σ hinj hg) ⟨va_cnB (host := RX11) 1 hT hG rfl rfl rfl (hK.1.2 _ wlX11_154) (hT _ wnX5) noX5_hasWheel ⟨by decide, by decide⟩, hT _ wiX5_hasWheel, hT _ weX5_hasWheel⟩ ⟨hbl, va_recv hK.1.1 hP rfl (hs_W_get hsh), fun U hU hW => ⟨rfl, hPU U hU hW⟩⟩ rfl rfl hl0.1 rfl (lv_room (by decide)) dX11_look_5 ⟨by decide, by decide⟩
  intro T hTT X
  obtain ⟨v, st₀, t, T', Lc, e0, X', hL, e1, e2, ⟨⟨v2, σ1, hv, hp, hb⟩, hz, hk⟩, stp⟩ := hr T hTT X
  cases hv
  obtain ⟨z, rfl, rfl, h01, h1⟩ := hp
  rw [e0] at hz hk
  have hS : va_S (hs_A SHX ad s.heap.size) s.heap T'.heap Lc := ⟨by rw [e1]; exact hz, fun x hx hx2 => by rw [e1]; exact hk x hx hx2, fun x hx => hL x hx⟩
  have hP1 : va_P D vwCl (hs_W SHX dA ad σ) T'.heap := by rw [e1]; exact hb
  have hz0 : z = 0 := by omega
  have K : W p l e (headSpec (Cond.code yX11_look cX11_look 4 (some .int) :: WS) (hs_rmC 8 1 6)).room s m [Value.ref (ad 0), vI w, vI n].toArray below meth c T'.heap ([] ++ Lc) (0 + 0) (0 + 0) (vx_MQ below (lk_Q ad s.heap.size) (lk_X D dA ad σ s.heap.size IOOB) [Value.ref (ad 0), vI w, vI n].toArray s 1 6 (hs_A SHX ad s.heap.size)) (F0 m 8 ls [vI z]) := by
    refine lv_if_ne (tgt := 21) B.exec B.bytes dX11_look_8 (by decide) (fun h => absurd (show Int32.ofInt z = 0 by rw [hz0]; rfl) h) (fun _ => ?_)
    refine vx_throwS (own := RX11) (cls := IOOB) (text := "no such wheel") (names := IONM) (ik := 175) (is := 177) (ic := 179) B.exec B.bytes hfl hown (by decide +kernel) (by decide +kernel) (hT _ wkX11_175) (hT _ wnIOOB) hR (fun w' hw' => (at1_ws w' hw').elim (fun h => hT _ h) (fun h => lk_nw_use hCa h)) ?_ hU hN hS (hl0.1.trans hml.symm) dX11_look_11 dX11_look_14 dX11_look_15 dX11_look_17 dX11_look_20 (fun x hx => (hno x hx).elim) (by decide) (by decide) (by decide) (by decide) B.notSynchronized ?_ (fun z hz => hS.2.2 z hz) (by decide) (by decide)
    · intro w' hw'
      rcases List.mem_cons.mp hw' with rfl | hw'
      · exact ot_ws wkX11_175
      · rcases List.mem_cons.mp hw' with rfl | hw'
        · exact ot_ws wnIOOB
        · rcases at1_ws w' hw' with h | h
          · exact ot_ws h
          · exact ot_lk h
    · intro t9 _ hsz9 hk9
      exact ⟨(), trivial, ⟨rfl, fun k q hq => (hP1 k q hq).kept (hk9 q.1 (hP1 k q hq).lt)⟩, Nat.le_trans hS.1 hsz9, fun q h1 h2 => by rw [hk9 q (Nat.lt_of_lt_of_le h1 hS.1)]; exact hS.2.1 q h1 h2⟩
  obtain ⟨t2, a1, b1⟩ := K T' rfl X'
  exact ⟨t2, stp t2 a1, b1⟩
set_option maxHeartbeats 4000000 in
set_option maxRecDepth 100000 in
theorem x_look2 (l : Launch) (hfl : l.stackTraces = false) (w n : Int) (hw : hs_R w) (hn : hs_R n) (D : va_G) (dA : Nat → ClassId) (ad : Nat → Nat) (σ : hs_S) (sz sa sb : Nat) (hinj : hs_inj SHX ad) (hg : GX σ σ) (hc : 0 ≤ w ∧ w < σ 3 4) (hn7 : n < 0 ∨ 7 < n) : vx_Met l yX11_look (Cond.code yX11_look cX11_look 4 (some .int) :: WS) (hs_rmC 8 1 6) (va_Pc [.ref (ad 0), vI w, vI n] (lk_Z D dA ad σ sz sa sb)) (lk_Q ad sz) (lk_X D dA ad σ sz NSEE) 1 6 (hs_A SHX ad sz) := by
  refine vx_ofW (cc := cX11_look) (maxL := 4) (ret := some .int) (by decide +kernel) rfl ?_
  intro p e s m args below meth c s₁ B hml hno hv
  obtain ⟨rfl, hsz, hP, hK, hU, hN, hR, hR2, hCa⟩ := hv
  subst hsz
  have hts := atoms_spec (ws := Cond.code yX11_look cX11_look 4 (some .int) :: WS) B.pre
  have hown : s.vm.findClass RX11 = some m.cls := findClass_of_methodNamed B.named
  have hT : ∀ w' ∈ WS, w'.before [Value.ref (ad 0), vI w, vI n].toArray s = true := fun w' hw' => hts w' (List.mem_cons_of_mem _ hw')
  have hl0 := lv_entry [Value.ref (ad 0), vI w, vI n] (n := 4) (Nat.le_of_ble_eq_true rfl)
  rw [lg_entry_eq]
  suffices key : ∀ ls : Array Slot, lv_has ls 4 [(0, Value.ref (ad 0)), (1, vI w), (2, vI n)] → W p l e (headSpec (Cond.code yX11_look cX11_look 4 (some .int) :: WS) (hs_rmC 8 1 6)).room s m [Value.ref (ad 0), vI w, vI n].toArray below meth c s.heap [] 0 0 (vx_MQ below (lk_Q ad s.heap.size) (lk_X D dA ad σ s.heap.size NSEE) [Value.ref (ad 0), vI w, vI n].toArray s 1 6 (hs_A SHX ad s.heap.size)) (F0 m 0 ls []) from key _ hl0
  clear hl0
  intro ls hl0
  refine lv_aload_n B.exec B.bytes dX11_look_0 rfl (lv_at hl0 0 rfl) ?_
  refine lk_getr (q := 0) (ci := 11) (N := 11) (CN := RX11) (T := TX11) B.exec B.bytes hT hown hK.1.1 hP 1 dX11_look_1 wlX11_16 rfl rfl rfl wfX11 (by decide) rfl ?_
  refine lv_iload_n B.exec B.bytes dX11_look_4 rfl (lv_at hl0 1 rfl) ?_
  have hG : GoodIn WS (Cond.code yX5_hasWheel cX5_hasWheel 2 (some .boolean) :: WS) := fun w h => by
    rcases List.mem_cons.mp h with rfl | h
    · exact ws_good _ wcX5_hasWheel
    · exact ws_good _ h
  have hPU : ∀ U : State, U.heap = s.heap → s.WarmedH U.vm → (U.heap.size = s.heap.size ∧ va_P D vwCl (hs_W SHX dA ad σ) U.heap ∧ hs_K D dA U ∧ hs_St ad (hs_A SHX ad s.heap.size) U) := fun U hU hW => ⟨by rw [hU], by rw [hU]; exact hP, ⟨va_K.moved hW.alike hK.1.1, hs_nw_warm hW hK.1.2⟩, hs_St_at (locs := []) hK.2 va_S.rf hU hW (fun _ h => h)⟩
  have hbl : FrameBlind (va_Pc [.ref (ad 2), vI w] (fun U => U.heap.size = s.heap.size ∧ va_P D vwCl (hs_W SHX dA ad σ) U.heap ∧ hs_K D dA U ∧ hs_St ad (hs_A SHX ad s.heap.size) U)) := fun a U g mk q => ⟨q.1, q.2.1, q.2.2.1, ⟨va_K.moved (u := U) (U := U.calling g mk a) (Vm.Alike.refl U.vm) q.2.2.2.1.1, hs_nw_same (u := U) (U := U.calling g mk a) rfl q.2.2.2.1.2⟩, hs_St_same (u := U) (U := U.calling g mk a) rfl rfl q.2.2.2.2⟩
  have hsh : SHX[2]? = some (0, 5, _) := rfl
  have hr := va_runVN (p := p) (l := l) (e := e) (R := (headSpec (Cond.code yX11_look cX11_look 4 (some .int) :: WS) (hs_rmC 8 1 6)).room) (meth := meth) (below := below) (H := s.heap) (locs := []) (cells := 0) (slots := 0) (g := F0 m 5 ls [vI w, .ref (ad 2)]) (As := [vI w]) (rest := []) (Ts := WS) (C := RX5) (ws := Cond.code yX5_hasWheel cX5_hasWheel 2 (some .boolean) :: WS) ⟨B.exec, B.bytes, hml, hown, hT⟩ (c_X5_hasWheel l w hw D dA ad s.heap.size σ hinj hg) ⟨va_cnB (host := RX11) 1 hT hG rfl rfl rfl (hK.1.2 _ wlX11_154) (hT _ wnX5) noX5_hasWheel ⟨by decide, by decide⟩, hT _ wiX5_hasWheel, hT _ weX5_hasWheel⟩ ⟨hbl, va_recv hK.1.1 hP rfl (hs_W_get hsh), fun U hU hW => ⟨rfl, hPU U hU hW⟩⟩ rfl rfl hl0.1 rfl (lv_room (by decide)) dX11_look_5 ⟨by decide, by decide⟩
  intro T hTT X
  obtain ⟨v, st₀, t, T', Lc, e0, X', hL, e1, e2, ⟨⟨v2, σ1, hv, hp, hb⟩, hz, hk⟩, stp⟩ := hr T hTT X
  cases hv
  obtain ⟨z, rfl, rfl, h01, h1⟩ := hp
  rw [e0] at hz hk
  have hS : va_S (hs_A SHX ad s.heap.size) s.heap T'.heap Lc := ⟨by rw [e1]; exact hz, fun x hx hx2 => by rw [e1]; exact hk x hx hx2, fun x hx => hL x hx⟩
  have hP1 : va_P D vwCl (hs_W SHX dA ad σ) T'.heap := by rw [e1]; exact hb
  have hz1 : z = 1 := by omega
  have K : W p l e (headSpec (Cond.code yX11_look cX11_look 4 (some .int) :: WS) (hs_rmC 8 1 6)).room s m [Value.ref (ad 0), vI w, vI n].toArray below meth c T'.heap ([] ++ Lc) (0 + 0) (0 + 0) (vx_MQ below (lk_Q ad s.heap.size) (lk_X D dA ad σ s.heap.size NSEE) [Value.ref (ad 0), vI w, vI n].toArray s 1 6 (hs_A SHX ad s.heap.size)) (F0 m 8 ls [vI z]) := by
    refine lv_if_ne (tgt := 21) B.exec B.bytes dX11_look_8 (by decide) (fun _ => ?_) (fun h => absurd h (by rw [hz1]; decide))
    refine lv_aload_n B.exec B.bytes dX11_look_21 rfl (lv_at hl0 0 rfl) ?_
    refine lk_getr (q := 0) (ci := 11) (N := 11) (CN := RX11) (T := TX11) B.exec B.bytes hT hown hK.1.1 hP1 1 dX11_look_22 wlX11_16 rfl rfl rfl wfX11 (by decide) rfl ?_
    refine lk_getrN (q := 2) (ci := 5) (N := 3) (CN := RX5) (T := TX5) B.exec B.bytes hT hK.1.2 hown hK.1.1 hP1 1 dX11_look_25 wlX11_138 rfl rfl rfl wfX5 (by decide) rfl ?_
    refine lv_iload_n B.exec B.bytes dX11_look_28 rfl (lv_at hl0 1 rfl) ?_
    have b34 : (0 : Int) ≤ σ 3 4 ∧ σ 3 4 ≤ 4 := hg.1 3 4
    refine va_aldq B.exec B.bytes hK.1.1 hP1 7 3 (cA := dA 3) (n := 4) (f := fun j => some (ad (([(0, 8), (0, 9), (0, 10), (0, 11)] : List (Nat × Nat)).getD j (0, 0)).2)) (by rw [hs_W_get (sh := (2, 3, [(0, 8), (0, 9), (0, 10), (0, 11)])) rfl]; rfl) rfl (hs_in (by omega) (by show w < ((4 : Nat) : Int); omega) (by decide)) dX11_look_29 ?_
    refine lv_astore_n B.exec B.bytes (lv' := [(3, _), (0, Value.ref (ad 0)), (1, vI w), (2, vI n)]) dX11_look_30 rfl hl0 (by decide) rfl (fun ls hl0 => ?_)
    refine lv_iload_n B.exec B.bytes dX11_look_31 rfl (lv_at hl0 3 rfl) ?_
    refine lv_tableOut B.exec B.bytes dX11_look_32 (by rw [hs_ti hn]; exact hn7) (tgt := 152) (by decide) ?_
    refine vx_throwX (own := RX11) (cls := NSEE) (text := "no such what") (names := IONM) (ik := 204) (is := 206) (ic := 208) B.exec B.bytes hfl nsRx_0 nsRx_1 nsRx_2 nsRx_5 hown (by decide +kernel) (by decide +kernel) (hT _ wkX11_204) (hT _ wnNSEE) hR2 (fun w' hw' => (at2_ws w' hw').elim (fun h => hT _ h) (fun h => lk_nw_use hCa h)) ?_ hU hN hS (hl0.1.trans hml.symm) dX11_look_152 dX11_look_155 dX11_look_156 dX11_look_158 dX11_look_161 (fun x hx => (hno x hx).elim) (by decide) (by decide) (by decide) (by decide) B.notSynchronized ?_ (fun z hz => hS.2.2 z hz) (by decide) (by decide)
    · intro w' hw'
      rcases List.mem_cons.mp hw' with rfl | hw'
      · exact ot_ws wkX11_204
      · rcases List.mem_cons.mp hw' with rfl | hw'
        · exact ot_ws wnNSEE
        · rcases at2_ws w' hw' with h | h
          · exact ot_ws h
          · exact ot_lk h
    · intro t9 _ hsz9 hk9
      exact ⟨(), trivial, ⟨rfl, fun k q hq => (hP1 k q hq).kept (hk9 q.1 (hP1 k q hq).lt)⟩, Nat.le_trans hS.1 hsz9, fun q h1 h2 => by rw [hk9 q (Nat.lt_of_lt_of_le h1 hS.1)]; exact hS.2.1 q h1 h2⟩
  obtain ⟨t2, a1, b1⟩ := K T' rfl X'
  exact ⟨t2, stp t2 a1, b1⟩
