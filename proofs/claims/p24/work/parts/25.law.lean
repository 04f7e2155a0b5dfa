def hs_Cl (p : Program) (s : State) (m : MethodId) (b L : Nat) (xs : Nat → Int32) (meth : Method) (c : Code) (D : va_G) (dA : Nat → ClassId) (A : Nat → Prop) : Prop :=
  p.tables.exec = Jvm.exec ∧ c.code = cL_law ∧ c.maxLocals = 7 ∧ s.vm.findClass RL = some m.cls ∧ (∀ w ∈ WS, w.before #[Value.ref b] s = true) ∧ hs_KC D dA s ∧ (∀ q : Nat, s.heap.size ≤ q → A q) ∧ va_X b L xs s s.heap ∧ b < s.heap.size ∧ ¬ A b
theorem hs_PD {D : va_G} {A : Nat → Prop} {SH : List hs_Sh} {dA : Nat → ClassId} {ad : Nat → Nat} {σ σ1 : hs_S} {wr : va_W} (h : va_D A (hs_W SH dA ad σ ++ wr)) : va_D A (hs_W SH dA ad σ1 ++ wr) := by
  have key : ∀ (k : Nat) (q : Nat × va_E), (hs_W SH dA ad σ1 ++ wr)[k]? = some q → ∃ q0, (hs_W SH dA ad σ ++ wr)[k]? = some q0 ∧ q0.1 = q.1 := by
    intro k q hk
    by_cases hl : k < SH.length
    · have h2 : SH[k]? = some SH[k] := List.getElem?_eq_getElem hl
      rw [List.getElem?_append_left (by rw [hs_W_len]; exact hl), hs_W_get h2] at hk
      cases hk
      exact ⟨(ad k, hs_E dA ad (σ k) SH[k]), by rw [List.getElem?_append_left (by rw [hs_W_len]; exact hl), hs_W_get h2], rfl⟩
    · rw [List.getElem?_append_right (by rw [hs_W_len]; omega), hs_W_len] at hk
      exact ⟨q, by rw [List.getElem?_append_right (by rw [hs_W_len]; omega), hs_W_len]; exact hk, rfl⟩
  refine ⟨fun i j x y hi hj hxy => ?_, fun k q hk => ?_⟩
  · obtain ⟨x0, h1, h2⟩ := key i x hi
    obtain ⟨y0, h3, h4⟩ := key j y hj
    exact h.1 i j x0 y0 h1 h3 (h2.trans (hxy.trans h4.symm))
  · obtain ⟨q0, h1, h2⟩ := key k q hk
    rw [← h2]
    exact h.2 k q0 h1
section LW
variable {p : Program} {l : Launch} {e : Env} {s : State} {m : MethodId} {b L : Nat} {xs : Nat → Int32} {below : List Frame} {meth : Method} {c : Code} {D : va_G} {dA : Nat → ClassId} {A : Nat → Prop} {Q : State → Prop} {pc : Nat} {lv : List (Nat × Value)} {st : List Value} {ws : va_W} {cells slots : Nat}
theorem l_iconst (C : hs_Cl p s m b L xs meth c D dA A) {z : Int} (hd : decode cL_law pc = .ok (.iconst z, 1))
    (k : hs_Wn p l e room_1 s m #[Value.ref b] below meth c D A 7 Q (pc + 1) lv (vI z :: st) ws cells slots) : hs_Wn p l e room_1 s m #[Value.ref b] below meth c D A 7 Q pc lv st ws cells slots := by
  intro H locs ls hP hD hS hl
  exact lv_iconst C.1 C.2.1 hd rfl (k H locs ls hP hD hS hl)
theorem l_bipush (C : hs_Cl p s m b L xs meth c D dA A) {z : Int} (hd : decode cL_law pc = .ok (.bipush z, 2)) (hz : (Int8.ofInt z).toInt32 = Int32.ofInt z)
    (k : hs_Wn p l e room_1 s m #[Value.ref b] below meth c D A 7 Q (pc + 2) lv (vI z :: st) ws cells slots) : hs_Wn p l e room_1 s m #[Value.ref b] below meth c D A 7 Q pc lv st ws cells slots := by
  intro H locs ls hP hD hS hl
  exact lv_bipush C.1 C.2.1 hd hz (k H locs ls hP hD hS hl)
theorem l_aload_n (C : hs_Cl p s m b L xs meth c D dA A) {a : Nat} {i : Fin 4} (hd : decode cL_law pc = .ok (.aload_n i, 1)) (j : Nat) (hj : lv[j]? = some ((i : Nat), .ref a))
    (k : hs_Wn p l e room_1 s m #[Value.ref b] below meth c D A 7 Q (pc + 1) lv (.ref a :: st) ws cells slots) : hs_Wn p l e room_1 s m #[Value.ref b] below meth c D A 7 Q pc lv st ws cells slots := by
  intro H locs ls hP hD hS hl
  exact lv_aload_n C.1 C.2.1 hd rfl (lv_at hl j hj) (k H locs ls hP hD hS hl)
theorem l_iload (C : hs_Cl p s m b L xs meth c D dA A) {z : Int} {i : Nat} (hd : decode cL_law pc = .ok (.iload i, 2)) (j : Nat) (hj : lv[j]? = some (i, vI z))
    (k : hs_Wn p l e room_1 s m #[Value.ref b] below meth c D A 7 Q (pc + 2) lv (vI z :: st) ws cells slots) : hs_Wn p l e room_1 s m #[Value.ref b] below meth c D A 7 Q pc lv st ws cells slots := by
  intro H locs ls hP hD hS hl
  exact lv_iload C.1 C.2.1 hd (lv_at hl j hj) (k H locs ls hP hD hS hl)
theorem l_istore (C : hs_Cl p s m b L xs meth c D dA A) {z : Int} {i : Nat} (lv2 : List (Nat × Value)) (hd : decode cL_law pc = .ok (.istore i, 2)) (hn : i < 7) (h2 : (i, Value.int (Int32.ofInt z)) :: lv.filter (fun q => !(q.1 == i) && !(q.1 + 1 == i && q.2.category == 2)) = lv2)
    (k : hs_Wn p l e room_1 s m #[Value.ref b] below meth c D A 7 Q (pc + 2) lv2 st ws cells slots) : hs_Wn p l e room_1 s m #[Value.ref b] below meth c D A 7 Q pc lv (vI z :: st) ws cells slots := by
  intro H locs ls hP hD hS hl
  exact lv_istore C.1 C.2.1 hd hl hn h2 (fun ls hl => k H locs ls hP hD hS hl)
theorem l_astore_n (C : hs_Cl p s m b L xs meth c D dA A) {a : Nat} {i : Fin 4} (lv2 : List (Nat × Value)) (hd : decode cL_law pc = .ok (.astore_n i, 1)) (hn : (i : Nat) < 7) (h2 : ((i : Nat), Value.ref a) :: lv.filter (fun q => !(q.1 == (i : Nat)) && !(q.1 + 1 == (i : Nat) && q.2.category == 2)) = lv2)
    (k : hs_Wn p l e room_1 s m #[Value.ref b] below meth c D A 7 Q (pc + 1) lv2 st ws cells slots) : hs_Wn p l e room_1 s m #[Value.ref b] below meth c D A 7 Q pc lv (.ref a :: st) ws cells slots := by
  intro H locs ls hP hD hS hl
  exact lv_astore_n C.1 C.2.1 hd rfl hl hn h2 (fun ls hl => k H locs ls hP hD hS hl)
theorem l_iinc (C : hs_Cl p s m b L xs meth c D dA A) {z n : Int} {i : Nat} (lv2 : List (Nat × Value)) (hd : decode cL_law pc = .ok (.iinc i n, 3)) (j : Nat) (hj : lv[j]? = some (i, vI z)) (hn : i < 7) (h2 : (i, Value.int (Int32.ofInt (z + n))) :: lv.filter (fun q => !(q.1 == i) && !(q.1 + 1 == i && q.2.category == 2)) = lv2)
    (k : hs_Wn p l e room_1 s m #[Value.ref b] below meth c D A 7 Q (pc + 3) lv2 st ws cells slots) : hs_Wn p l e room_1 s m #[Value.ref b] below meth c D A 7 Q pc lv st ws cells slots := by
  intro H locs ls hP hD hS hl
  exact lv_iinc C.1 C.2.1 hd hl (k := j) hj (Int32.ofInt_add z n).symm hn h2 (fun ls hl => k H locs ls hP hD hS hl)
theorem l_dup (C : hs_Cl p s m b L xs meth c D dA A) {v : Value} (hd : decode cL_law pc = .ok (.dup, 1)) (hv : v.category = 1)
    (k : hs_Wn p l e room_1 s m #[Value.ref b] below meth c D A 7 Q (pc + 1) lv (v :: v :: st) ws cells slots) : hs_Wn p l e room_1 s m #[Value.ref b] below meth c D A 7 Q pc lv (v :: st) ws cells slots := by
  intro H locs ls hP hD hS hl
  exact lv_dup C.1 C.2.1 hd hv (k H locs ls hP hD hS hl)
theorem l_iadd (C : hs_Cl p s m b L xs meth c D dA A) {x y : Int} (hd : decode cL_law pc = .ok (.iadd, 1))
    (k : hs_Wn p l e room_1 s m #[Value.ref b] below meth c D A 7 Q (pc + 1) lv (vI (x + y) :: st) ws cells slots) : hs_Wn p l e room_1 s m #[Value.ref b] below meth c D A 7 Q pc lv (vI y :: vI x :: st) ws cells slots := by
  intro H locs ls hP hD hS hl
  exact lv_iadd C.1 C.2.1 hd (by rw [← Int32.ofInt_add]; exact k H locs ls hP hD hS hl)
theorem l_isub (C : hs_Cl p s m b L xs meth c D dA A) {x y : Int} (hd : decode cL_law pc = .ok (.isub, 1))
    (k : hs_Wn p l e room_1 s m #[Value.ref b] below meth c D A 7 Q (pc + 1) lv (vI (x - y) :: st) ws cells slots) : hs_Wn p l e room_1 s m #[Value.ref b] below meth c D A 7 Q pc lv (vI y :: vI x :: st) ws cells slots := by
  intro H locs ls hP hD hS hl
  exact lv_isub C.1 C.2.1 hd (by rw [← Int32.ofInt_sub]; exact k H locs ls hP hD hS hl)
theorem l_iand (C : hs_Cl p s m b L xs meth c D dA A) {x y : Int} (hd : decode cL_law pc = .ok (.iand, 1))
    (k : ∀ z : Int, hs_R z → hs_Wn p l e room_1 s m #[Value.ref b] below meth c D A 7 Q (pc + 1) lv (vI z :: st) ws cells slots) : hs_Wn p l e room_1 s m #[Value.ref b] below meth c D A 7 Q pc lv (vI y :: vI x :: st) ws cells slots := by
  intro H locs ls hP hD hS hl
  exact lv_iand C.1 C.2.1 hd (by rw [← Int32.ofInt_toInt (Int32.ofInt x &&& Int32.ofInt y)]; exact k _ (hs_oR _) H locs ls hP hD hS hl)
theorem l_goto (C : hs_Cl p s m b L xs meth c D dA A) {off : Int} {tgt : Nat} (hd : decode cL_law pc = .ok (.goto off, 3)) (ht : (pc : Int) + off = (tgt : Int))
    (k : hs_Wn p l e room_1 s m #[Value.ref b] below meth c D A 7 Q tgt lv st ws cells slots) : hs_Wn p l e room_1 s m #[Value.ref b] below meth c D A 7 Q pc lv st ws cells slots := by
  intro H locs ls hP hD hS hl
  exact lv_goto C.1 C.2.1 hd ht (k H locs ls hP hD hS hl)
theorem l_icmp_eq (C : hs_Cl p s m b L xs meth c D dA A) {x y off : Int} {tgt : Nat} (hd : decode cL_law pc = .ok (.if_icmp .eq off, 3)) (ht : (pc : Int) + off = (tgt : Int)) (hx : hs_R x) (hy : hs_R y)
    (kt : x = y → hs_Wn p l e room_1 s m #[Value.ref b] below meth c D A 7 Q tgt lv st ws cells slots) (kf : ¬ (x = y) → hs_Wn p l e room_1 s m #[Value.ref b] below meth c D A 7 Q (pc + 3) lv st ws cells slots) : hs_Wn p l e room_1 s m #[Value.ref b] below meth c D A 7 Q pc lv (vI y :: vI x :: st) ws cells slots := by
  intro H locs ls hP hD hS hl
  exact lv_icmp_eq C.1 C.2.1 hd ht (fun h => kt ((hs_eq hx hy).mp h) H locs ls hP hD hS hl) (fun h => kf (fun q => h ((hs_eq hx hy).mpr q)) H locs ls hP hD hS hl)
theorem l_icmp_ne (C : hs_Cl p s m b L xs meth c D dA A) {x y off : Int} {tgt : Nat} (hd : decode cL_law pc = .ok (.if_icmp .ne off, 3)) (ht : (pc : Int) + off = (tgt : Int)) (hx : hs_R x) (hy : hs_R y)
    (kt : ¬ x = y → hs_Wn p l e room_1 s m #[Value.ref b] below meth c D A 7 Q tgt lv st ws cells slots) (kf : x = y → hs_Wn p l e room_1 s m #[Value.ref b] below meth c D A 7 Q (pc + 3) lv st ws cells slots) : hs_Wn p l e room_1 s m #[Value.ref b] below meth c D A 7 Q pc lv (vI y :: vI x :: st) ws cells slots := by
  intro H locs ls hP hD hS hl
  exact lv_icmp_ne C.1 C.2.1 hd ht (fun h => kt (fun q => h ((hs_eq hx hy).mpr q)) H locs ls hP hD hS hl) (fun h => kf ((hs_eq hx hy).mp h) H locs ls hP hD hS hl)
theorem l_icmp_gt (C : hs_Cl p s m b L xs meth c D dA A) {x y off : Int} {tgt : Nat} (hd : decode cL_law pc = .ok (.if_icmp .gt off, 3)) (ht : (pc : Int) + off = (tgt : Int)) (hx : hs_R x) (hy : hs_R y)
    (kt : y < x → hs_Wn p l e room_1 s m #[Value.ref b] below meth c D A 7 Q tgt lv st ws cells slots) (kf : ¬ (y < x) → hs_Wn p l e room_1 s m #[Value.ref b] below meth c D A 7 Q (pc + 3) lv st ws cells slots) : hs_Wn p l e room_1 s m #[Value.ref b] below meth c D A 7 Q pc lv (vI y :: vI x :: st) ws cells slots := by
  intro H locs ls hP hD hS hl
  exact lv_icmp_gt C.1 C.2.1 hd ht (fun h => kt ((hs_lt hy hx).mp h) H locs ls hP hD hS hl) (fun h => kf (fun q => h ((hs_lt hy hx).mpr q)) H locs ls hP hD hS hl)
theorem l_if_eq (C : hs_Cl p s m b L xs meth c D dA A) {x off : Int} {tgt : Nat} (hd : decode cL_law pc = .ok (.ifCond .eq off, 3)) (ht : (pc : Int) + off = (tgt : Int)) (hx : hs_R x)
    (kt : x = 0 → hs_Wn p l e room_1 s m #[Value.ref b] below meth c D A 7 Q tgt lv st ws cells slots) (kf : ¬ (x = 0) → hs_Wn p l e room_1 s m #[Value.ref b] below meth c D A 7 Q (pc + 3) lv st ws cells slots) : hs_Wn p l e room_1 s m #[Value.ref b] below meth c D A 7 Q pc lv (vI x :: st) ws cells slots := by
  intro H locs ls hP hD hS hl
  exact lv_if_eq C.1 C.2.1 hd ht (fun h => kt ((hs_eq0 hx).mp h) H locs ls hP hD hS hl) (fun h => kf (fun q => h ((hs_eq0 hx).mpr q)) H locs ls hP hD hS hl)
theorem l_if_ne (C : hs_Cl p s m b L xs meth c D dA A) {x off : Int} {tgt : Nat} (hd : decode cL_law pc = .ok (.ifCond .ne off, 3)) (ht : (pc : Int) + off = (tgt : Int)) (hx : hs_R x)
    (kt : ¬ x = 0 → hs_Wn p l e room_1 s m #[Value.ref b] below meth c D A 7 Q tgt lv st ws cells slots) (kf : x = 0 → hs_Wn p l e room_1 s m #[Value.ref b] below meth c D A 7 Q (pc + 3) lv st ws cells slots) : hs_Wn p l e room_1 s m #[Value.ref b] below meth c D A 7 Q pc lv (vI x :: st) ws cells slots := by
  intro H locs ls hP hD hS hl
  exact lv_if_ne C.1 C.2.1 hd ht (fun h => kt (fun q => h ((hs_eq0 hx).mpr q)) H locs ls hP hD hS hl) (fun h => kf ((hs_eq0 hx).mp h) H locs ls hP hD hS hl)
theorem l_swOut (C : hs_Cl p s m b L xs meth c D dA A) {x dflt lo hi : Int} {offs : Array Int} {len tgt : Nat} (hd : decode cL_law pc = .ok (.tableswitch dflt lo hi offs, len)) (hx : hs_R x) (h : x < lo ∨ hi < x) (ht : (pc : Int) + dflt = (tgt : Int))
    (k : hs_Wn p l e room_1 s m #[Value.ref b] below meth c D A 7 Q tgt lv st ws cells slots) : hs_Wn p l e room_1 s m #[Value.ref b] below meth c D A 7 Q pc lv (vI x :: st) ws cells slots := by
  intro H locs ls hP hD hS hl
  exact lv_tableOut C.1 C.2.1 hd (by rw [hs_ti hx]; exact h) ht (k H locs ls hP hD hS hl)
theorem l_swIn (C : hs_Cl p s m b L xs meth c D dA A) {x dflt lo hi : Int} {offs : Array Int} {len tgt : Nat} {off : Int} (hd : decode cL_law pc = .ok (.tableswitch dflt lo hi offs, len)) (hx : hs_R x) (h1 : ¬ x < lo) (h2 : ¬ hi < x) (ho : offs[(x - lo).toNat]? = some off) (ht : (pc : Int) + off = (tgt : Int))
    (k : hs_Wn p l e room_1 s m #[Value.ref b] below meth c D A 7 Q tgt lv st ws cells slots) : hs_Wn p l e room_1 s m #[Value.ref b] below meth c D A 7 Q pc lv (vI x :: st) ws cells slots := by
  intro H locs ls hP hD hS hl
  exact lv_tableIn C.1 C.2.1 hd (by rw [hs_ti hx]; exact h1) (by rw [hs_ti hx]; exact h2) (by rw [hs_ti hx]; exact ho) ht (k H locs ls hP hD hS hl)
theorem l_slen (C : hs_Cl p s m b L xs meth c D dA A) (hd : decode cL_law pc = .ok (.arraylength, 1)) (hL : L ≤ 10000)
    (k : hs_Wn p l e room_1 s m #[Value.ref b] below meth c D A 7 Q (pc + 1) lv (vI (L : Int) :: st) ws cells slots) : hs_Wn p l e room_1 s m #[Value.ref b] below meth c D A 7 Q pc lv (.ref b :: st) ws cells slots := by
  intro H locs ls hP hD hS hl
  exact va_slen C.1 C.2.1 C.2.2.2.2.2.2.2.1 C.2.2.2.2.2.2.2.2.1 C.2.2.2.2.2.2.2.2.2 hS hd (by rw [← Int32.ofInt_eq_ofNat]; exact k H locs ls hP hD hS hl)
theorem l_sld (C : hs_Cl p s m b L xs meth c D dA A) {z : Int} (j : Nat) (hd : decode cL_law pc = .ok (.iaload, 1)) (hz : 0 ≤ z) (hj : z.toNat = j) (hjL : j < L) (hL : L ≤ 10000)
    (k : hs_Wn p l e room_1 s m #[Value.ref b] below meth c D A 7 Q (pc + 1) lv (vI (xs j).toInt :: st) ws cells slots) : hs_Wn p l e room_1 s m #[Value.ref b] below meth c D A 7 Q pc lv (vI z :: .ref b :: st) ws cells slots := by
  intro H locs ls hP hD hS hl
  have hR : hs_R z := ⟨by omega, by omega⟩
  refine va_sld C.1 C.2.1 C.2.2.2.2.2.2.2.1 C.2.2.2.2.2.2.2.2.1 C.2.2.2.2.2.2.2.2.2 hS (hs_in hz (by omega) (by omega)) hd ?_
  rw [hs_cl hR, hj]
  have h := k H locs ls hP hD hS hl
  rw [show vI (xs j).toInt = Value.int (xs j) from congrArg Value.int (Int32.ofInt_toInt (xs j))] at h
  exact h
theorem l_lcmp (C : hs_Cl p s m b L xs meth c D dA A) {x y : Int} (hd : decode cL_law pc = .ok (.lcmp, 1)) (hx : hs_RL x) (hy : hs_RL y)
    (k : ∀ z : Int, hs_R z → (z = 0 ↔ x = y) → hs_Wn p l e room_1 s m #[Value.ref b] below meth c D A 7 Q (pc + 1) lv (vI z :: st) ws cells slots) : hs_Wn p l e room_1 s m #[Value.ref b] below meth c D A 7 Q pc lv (vL y :: vL x :: st) ws cells slots := by
  intro H locs ls hP hD hS hl
  obtain ⟨h1, h2, h3, h4⟩ := hs_lcmp hx hy
  exact W.lcmp C.1 C.2.1 hd (by rw [← Int32.ofInt_toInt (lg_cmp (Int64.ofInt x) (Int64.ofInt y))]; exact k _ h1 h3 H locs ls hP hD hS hl)
theorem l_new (C : hs_Cl p s m b L xs meth c D dA A) {i ci N : Nat} {CN : String} {T : u_T} {ty : Nat → FieldType} (fs : List Value) (hd : decode cL_law pc = .ok (.new i, 3)) (hw : Cond.classLink RL i CN ∈ WS) (hin : ∀ w ∈ u_ws CN T N, w ∈ WS) (hty : ∀ k, k < N → parseFieldDescriptor (T k).2.2.1 = some (ty k)) (hinst : Cond.instantiable CN N ∈ WS) (hini : Cond.initialized CN ∈ WS) (hc : vwCl[ci]? = some (CN, T, N)) (hfs : ∀ j, j < N → defaultValue (ty j) = vp_V fs j) (hcells : cells + 1 ≤ 601024) (hslots : slots + N ≤ 7293034)
    (k : ∀ q : Nat, hs_Wn p l e room_1 s m #[Value.ref b] below meth c D A 7 Q (pc + 3) lv (.ref q :: st) (ws ++ [(q, .inr (ci, fs))]) (cells + 1) (slots + N)) : hs_Wn p l e room_1 s m #[Value.ref b] below meth c D A 7 Q pc lv st ws cells slots := by
  intro H locs ls hP hD hS hl
  exact va_new C.1 C.2.1 (Ts := WS) C.2.2.2.2.1 hin ty hty C.2.2.2.1 (C.2.2.2.2.1 _ hw) (C.2.2.2.2.1 _ hinst) (C.2.2.2.2.1 _ hini) C.2.2.2.2.2.1.1.1 hP hD hS C.2.2.2.2.2.2.1 hc hfs hcells hslots hd (fun q H1 hP1 hD1 hS1 => k q H1 locs ls hP1 hD1 hS1 hl)
theorem l_newL (C : hs_Cl p s m b L xs meth c D dA A) {z : Int} {N : Nat} (hd : decode cL_law pc = .ok (.newarray .long, 2)) (hz : 0 ≤ z) (hzN : z.toNat = N) (hN : N ≤ 10000) (hcells : cells + 1 ≤ 601024) (hslots : slots + N ≤ 7293034)
    (k : ∀ (q : Nat) (cA : ClassId), ArrOfT s cA .long ∧ va_RA s cA .long → hs_Wn p l e room_1 s m #[Value.ref b] below meth c D A 7 Q (pc + 2) lv (.ref q :: st) (ws ++ [(q, .inl (cA, N, .inr (.inl (fun _ => 0))))]) (cells + 1) (slots + N)) : hs_Wn p l e room_1 s m #[Value.ref b] below meth c D A 7 Q pc lv (vI z :: st) ws cells slots := by
  intro H locs ls hP hD hS hl
  have hR : hs_R z := ⟨by omega, by omega⟩
  exact va_newa (atype := .long) C.1 C.2.1 (C.2.2.2.2.1 _ wa_long) rfl C.2.2.2.2.2.1.1.1 hP hD hS C.2.2.2.2.2.2.1 (a0 := (N, .inr (.inl (fun _ => 0)))) (fun cA => rfl) (fun q => by have := (hs_lt0 hR).mp q; omega) (by rw [hs_cl hR]; exact hzN) (by show N * 8 ≤ _; omega) hcells hslots hd (fun q cA H1 hK1 hP1 hD1 hS1 => k q cA (hK1.2 5 (cA, .long) rfl) H1 locs ls hP1 hD1 hS1 hl)
theorem l_pop (C : hs_Cl p s m b L xs meth c D dA A) {v : Value} (hd : decode cL_law pc = .ok (.pop, 1)) (hv : v.category = 1)
    (k : hs_Wn p l e room_1 s m #[Value.ref b] below meth c D A 7 Q (pc + 1) lv st ws cells slots) : hs_Wn p l e room_1 s m #[Value.ref b] below meth c D A 7 Q pc lv (v :: st) ws cells slots := by
  intro H locs ls hP hD hS hl
  exact lv_pop C.1 C.2.1 hd hv (k H locs ls hP hD hS hl)
theorem l_pop2 (C : hs_Cl p s m b L xs meth c D dA A) {v : Value} (hd : decode cL_law pc = .ok (.pop2, 1)) (hv : v.category = 2)
    (k : hs_Wn p l e room_1 s m #[Value.ref b] below meth c D A 7 Q (pc + 1) lv st ws cells slots) : hs_Wn p l e room_1 s m #[Value.ref b] below meth c D A 7 Q pc lv (v :: st) ws cells slots := by
  intro H locs ls hP hD hS hl
  exact lv_pop2_2 C.1 C.2.1 hd hv (k H locs ls hP hD hS hl)
theorem l_sub (C : hs_Cl p s m b L xs meth c D dA A) (ks : List Nat) (lv2 : List (Nat × Value)) (h : lv_pick lv ks = lv2) (k : hs_Wn p l e room_1 s m #[Value.ref b] below meth c D A 7 Q pc lv2 st ws cells slots) : hs_Wn p l e room_1 s m #[Value.ref b] below meth c D A 7 Q pc lv st ws cells slots := fun H locs ls hP hD hS hl => k H locs ls hP hD hS (lv_sub hl ks h)
theorem l_widen (C : hs_Cl p s m b L xs meth c D dA A) {c2 s2 : Nat} (h1 : cells ≤ c2) (h2 : slots ≤ s2) (k : hs_Wn p l e room_1 s m #[Value.ref b] below meth c D A 7 Q pc lv st ws c2 s2) : hs_Wn p l e room_1 s m #[Value.ref b] below meth c D A 7 Q pc lv st ws cells slots := fun H locs ls hP hD hS hl => W.widen (k := c2) (n := s2) h1 h2 (k H locs ls hP hD hS hl)
theorem l_swap (C : hs_Cl p s m b L xs meth c D dA A) {w1 w2 w3 : va_W} (h : ws = w1 ++ (w2 ++ w3)) (k : hs_Wn p l e room_1 s m #[Value.ref b] below meth c D A 7 Q pc lv st (w2 ++ (w3 ++ w1)) cells slots) : hs_Wn p l e room_1 s m #[Value.ref b] below meth c D A 7 Q pc lv st ws cells slots := by
  subst h
  intro H locs ls hP hD hS hl
  have hP2 := va_P.swap (a := []) (b := w1) (c := w2 ++ w3) (by simpa using hP)
  have hD2 := va_D.swap (a := []) (b := w1) (c := w2 ++ w3) (by simpa using hD)
  exact k H locs ls (by simpa using hP2) (by simpa using hD2) hS hl
theorem l_callI (C : hs_Cl p s m b L xs meth c D dA A) {y : MethodName} {cy : ByteArray} {nY frY mcY msY ciY i q : Nat} {fsY : List Value} {WSY : (Nat → ClassId) → Nat → (Nat → Nat) → va_W} (hM : hs_Ctor l y cy nY frY mcY msY ciY fsY [] WSY) (wr : va_W) (rest : List Value) (hst : st = .ref q :: rest) (hws : ws = wr ++ [(q, .inr (ciY, fsY))]) (hd : decode cL_law pc = .ok (.invokespecial i, 3)) (hw : Cond.methodLink RL i y ∈ WS) (hins : Cond.instanceMethod y ∈ WS) (hcode : Cond.code y cy nY none ∈ WS) (hini : Cond.initialized y.cls ∈ WS) (hname : y.name = "<init>")
    (hno : y.cls ≠ "java/lang/invoke/MethodHandle" ∧ y.cls ≠ "java/lang/invoke/VarHandle" ∧ (parseMethodDescriptor y.desc).map (fun d => d.parameters.length) = some 0) (hfr : frY + 1 ≤ 2048) (hlo : 8 + (nY + 11) + 40 * frY ≤ 84000) (hsum : (rest.map fun v => v.category).sum ≤ 8) (hcells : cells + mcY ≤ 601024) (hslots : slots + msY ≤ 7293034)
    (k : ∀ r : Nat → Nat, hs_Wn p l e room_1 s m #[Value.ref b] below meth c D A 7 Q (pc + 3) lv rest (wr ++ WSY dA q r) (cells + mcY) (slots + msY)) : hs_Wn p l e room_1 s m #[Value.ref b] below meth c D A 7 Q pc lv st ws cells slots := by
  intro H locs ls hP hD hS hl
  subst hst
  subst hws
  have hC : [wr.length].map (fun i => (wr ++ [(q, (.inr (ciY, fsY) : va_E))])[i]?) = [(q, (.inr (ciY, fsY) : va_E))].map some := by simp
  have hPc : va_P D vwCl [(q, .inr (ciY, fsY))] H := fun k x hk => by
    have h1 : k < 1 := (List.getElem?_eq_some_iff.mp hk).1
    have h2 : k = 0 := by omega
    subst h2
    cases hk
    exact hP wr.length _ (by simp)
  have hF := va_free (wc := [(q, .inr (ciY, fsY))]) hD hS C.2.2.2.2.2.2.1 [wr.length] hC
  have hKC : hs_KC D dA s := C.2.2.2.2.2.1
  have hG : GoodIn WS (Cond.code y cy nY none :: WS) := fun w h => by
    rcases List.mem_cons.mp h with rfl | h
    · exact ws_good _ hcode
    · exact ws_good _ h
  have hr := va_runI (As := []) (rest := rest) (Ts := WS) (ws := Cond.code y cy nY none :: WS) (g := F0 m pc ls (.ref q :: rest)) (cells := cells) (slots := slots) (locs := locs) (H := H) (below := below) (meth := meth) (e := e) (p := p) (R := room_1) ⟨C.1, C.2.1, C.2.2.1, C.2.2.2.1, C.2.2.2.2.1⟩ (hM D dA q H.size) ⟨callB_of 0 C.2.2.2.2.1 hG rfl rfl rfl (C.2.2.2.2.1 _ hini) (C.2.2.2.2.1 _ hw) hno ⟨hfr, hlo⟩, hname, C.2.2.2.2.1 _ hins⟩
    ⟨fun a U g mk z => ⟨z.1, z.2.1, z.2.2.1, hs_KC_same z.2.2.2⟩, fun U hU hW => ⟨rfl, by rw [hU], by rw [hU]; exact hPc, hs_KC_warm hW hKC⟩⟩ rfl rfl hl.1 rfl (lv_room hsum) hd ⟨hcells, hslots⟩
  intro T hT X
  obtain ⟨v, st₀, t, T', Lc, e0, X', hL, e1, e2, ⟨⟨hv, r, hb, hdd⟩, hz, hk⟩, stp⟩ := hr T hT X
  cases hv
  rw [e0] at hz hk
  have hRn : va_nd (List.range wr.length) = true := by
    have key : ∀ l : List Nat, l.Nodup → va_nd l = true := by
      intro l hl
      induction l with
      | nil => rfl
      | cons a l ih =>
        rw [List.nodup_cons] at hl
        simp [va_nd, hl.1, ih hl.2]
    exact key _ List.nodup_range
  have hRr : (List.range wr.length).map (fun i => (wr ++ [(q, (.inr (ciY, fsY) : va_E))])[i]?) = wr.map some := by
    apply List.ext_getElem?
    intro j
    by_cases hj : j < wr.length
    · simp [hj, List.getElem?_append_left]
    · simp [hj]
  obtain ⟨hP2, hD2⟩ := va_join (wr := wr) (w1 := WSY dA q r) hP hD [wr.length] (List.range wr.length) hC hRr hRn (by intro i hi; simp at hi ⊢; omega) hk hF hb hdd
  obtain ⟨t2, a1, b1⟩ := k r T'.heap (locs ++ Lc) ls (by rw [e1]; exact hP2) hD2
    ⟨Nat.le_trans hS.1 (by rw [e1]; exact hz), fun x h1 h2 => by rw [e1, hk x (Nat.lt_of_lt_of_le h1 hS.1) (fun z => h2 (hF x z))]; exact hS.2.1 x h1 h2, fun x hx => by
      rcases List.mem_append.mp hx with h | h
      · exact hS.2.2 x h
      · exact hF _ (hL x h)⟩ hl T' rfl X'
  exact ⟨t2, stp t2 a1, b1⟩
theorem l_callP (C : hs_Cl p s m b L xs meth c D dA A) {SH : List hs_Sh} {ad : Nat → Nat} {σ : hs_S} {wr : va_W} {y : MethodName} {cy : ByteArray} {nY : Nat} {rY : Option FieldType} {frY i ci N : Nat} {T : u_T} {fl : List (Nat × Nat)} {av : (Nat → Nat) → List Value} {Pre : hs_S → Prop} {PostY : hs_S → Option Value → hs_S → Prop} (hM : hs_Met l y cy nY rY frY SH av Pre PostY) (As rest : List Value) (hws : ws = hs_W SH dA ad σ ++ wr) (hst : st = As.reverse ++ .ref (ad 0) :: rest) (hav : av ad = .ref (ad 0) :: As) (hd : decode cL_law pc = .ok (.invokevirtual i, 3)) (hw : Cond.methodLink RL i y ∈ WS) (hins : Cond.instanceMethod y ∈ WS) (hsel : Cond.selects y.cls y y ∈ WS) (hcode : Cond.code y cy nY rY ∈ WS) (hini : Cond.initialized y.cls ∈ WS) (hno : y.cls ≠ "java/lang/invoke/MethodHandle" ∧ y.cls ≠ "java/lang/invoke/VarHandle" ∧ (parseMethodDescriptor y.desc).map (fun d => d.parameters.length) = some As.length) (hfr : frY + 1 ≤ 2048) (hlo : 8 + (nY + 11) + 40 * frY ≤ 84000) (hsum : (rest.map fun v => v.category).sum ≤ 8) (hcells : cells ≤ 601024) (hslots : slots ≤ 7293034) (hsh : SH[0]? = some (0, ci, fl)) (hc : vwCl[ci]? = some (y.cls, T, N)) (hSt : hs_St ad A s) (hpre : Pre σ)
    (k : ∀ (v : Option Value) (σ1 : hs_S), PostY σ v σ1 → hs_Wn p l e room_1 s m #[Value.ref b] below meth c D A 7 Q (pc + 3) lv (v.toList ++ rest) (hs_W SH dA ad σ1 ++ wr) cells slots) : hs_Wn p l e room_1 s m #[Value.ref b] below meth c D A 7 Q pc lv st ws cells slots := by
  intro H locs ls hP hD hS hl
  subst hst
  subst hws
  have hPl : va_P D vwCl (hs_W SH dA ad σ) H := fun k x hk => hP k x (by rw [List.getElem?_append_left (List.getElem?_eq_some_iff.mp hk).1]; exact hk)
  have hinj : hs_inj SH ad := fun i j hi hj hij => by
    have h2 : SH[i]? = some SH[i] := List.getElem?_eq_getElem hi
    have h3 : SH[j]? = some SH[j] := List.getElem?_eq_getElem hj
    exact hD.1 i j _ _ (by rw [List.getElem?_append_left (by rw [hs_W_len]; exact hi)]; exact hs_W_get h2) (by rw [List.getElem?_append_left (by rw [hs_W_len]; exact hj)]; exact hs_W_get h3) hij
  have hF : ∀ q, hs_A SH ad H.size q → A q := by
    intro q h
    rcases h with ⟨c0, h1, rfl⟩ | h
    · have h2 : SH[c0]? = some SH[c0] := List.getElem?_eq_getElem h1
      exact hD.2 c0 _ (by rw [List.getElem?_append_left (by rw [hs_W_len]; exact h1)]; exact hs_W_get h2)
    · exact C.2.2.2.2.2.2.1 q (Nat.le_trans hS.1 h)
  have hPU : ∀ U : State, U.heap = H → s.WarmedH U.vm → (U.heap.size = H.size ∧ va_P D vwCl (hs_W SH dA ad σ) U.heap ∧ hs_K D dA U ∧ hs_St ad (hs_A SH ad H.size) U) := fun U hU hW => ⟨by rw [hU], by rw [hU]; exact hPl, ⟨va_K.moved hW.alike C.2.2.2.2.2.1.1.1, hs_nw_warm hW C.2.2.2.2.2.1.1.2⟩, hs_St_at hSt hS hU hW hF⟩
  have hbl : FrameBlind (va_Pc (av ad) (fun U => U.heap.size = H.size ∧ va_P D vwCl (hs_W SH dA ad σ) U.heap ∧ hs_K D dA U ∧ hs_St ad (hs_A SH ad H.size) U)) := fun a U g mk q => ⟨q.1, q.2.1, q.2.2.1, ⟨va_K.moved (u := U) (U := U.calling g mk a) (Vm.Alike.refl U.vm) q.2.2.2.1.1, hs_nw_same (u := U) (U := U.calling g mk a) rfl q.2.2.2.1.2⟩, hs_St_same (u := U) (U := U.calling g mk a) rfl rfl q.2.2.2.2⟩
  have hG : GoodIn WS (Cond.code y cy nY rY :: WS) := fun w h => by
    rcases List.mem_cons.mp h with rfl | h
    · exact ws_good _ hcode
    · exact ws_good _ h
  have hr := va_runV (As := As) (rest := rest) (Ts := WS) (ws := Cond.code y cy nY rY :: WS) (g := F0 m pc ls (As.reverse ++ .ref (ad 0) :: rest)) (cells := cells) (slots := slots) (locs := locs) (H := H) (below := below) (meth := meth) (e := e) (p := p) (R := room_1) ⟨C.1, C.2.1, C.2.2.1, C.2.2.2.1, C.2.2.2.2.1⟩ (hM D dA ad H.size σ hinj hpre) (cwV (C := y.cls) As.length C.2.2.2.2.1 (fun w h => by
      rcases List.mem_append.mp h with h | h
      · simp only [List.mem_cons, List.not_mem_nil, or_false] at h
        rcases h with rfl | rfl | rfl | rfl
        · exact ws_good _ hw
        · exact ws_good _ hins
        · exact ws_good _ hsel
        · exact ws_good _ hini
      · exact hG w h) rfl rfl rfl ⟨rfl, hno⟩ ⟨hfr, hlo⟩) ⟨hbl, va_recv C.2.2.2.2.2.1.1.1 hPl hc (hs_W_get hsh), fun U hU hW => ⟨by rw [hav], hPU U hU hW⟩⟩ rfl rfl hl.1 rfl (lv_room hsum) hd ⟨hcells, hslots⟩
  intro T hT X
  obtain ⟨v, st₀, t, T', Lc, e0, X', hL, e1, e2, ⟨⟨v2, σ1, hv, hp, hb⟩, hz, hk⟩, stp⟩ := hr T hT X
  cases hv
  rw [e0] at hz hk
  have hapart : ∀ (j : Nat) (q : Nat × va_E), wr[j]? = some q → q.1 < H.size ∧ ¬ hs_A SH ad H.size q.1 := by
    intro j q hq
    have hw2 : (hs_W SH dA ad σ ++ wr)[SH.length + j]? = some q := by rw [List.getElem?_append_right (by rw [hs_W_len]; omega), hs_W_len, Nat.add_sub_cancel_left]; exact hq
    refine ⟨(hP _ q hw2).lt, fun h => ?_⟩
    rcases h with ⟨c0, h1, h2⟩ | h
    · have h3 : SH[c0]? = some SH[c0] := List.getElem?_eq_getElem h1
      have := hD.1 (SH.length + j) c0 q _ hw2 (by rw [List.getElem?_append_left (by rw [hs_W_len]; exact h1)]; exact hs_W_get h3) h2
      omega
    · have := (hP _ q hw2).lt
      omega
  have hP2 : va_P D vwCl (hs_W SH dA ad σ1 ++ wr) T'.heap := by
    rw [e1]
    refine va_P.app hb (fun j q hq => ?_)
    obtain ⟨a1, a2⟩ := hapart j q hq
    have hw2 : (hs_W SH dA ad σ ++ wr)[SH.length + j]? = some q := by rw [List.getElem?_append_right (by rw [hs_W_len]; omega), hs_W_len, Nat.add_sub_cancel_left]; exact hq
    exact (hP _ q hw2).kept (hk q.1 a1 a2)
  obtain ⟨t2, a1, b1⟩ := k v σ1 hp T'.heap (locs ++ Lc) ls hP2 (hs_PD (D := D) hD)
    ⟨Nat.le_trans hS.1 (by rw [e1]; exact hz), fun x h1 h2 => by rw [e1, hk x (Nat.lt_of_lt_of_le h1 hS.1) (fun z => h2 (hF x z))]; exact hS.2.1 x h1 h2, fun x hx => by
      rcases List.mem_append.mp hx with h | h
      · exact hS.2.2 x h
      · exact hF _ (hL x h)⟩ hl T' rfl X'
  exact ⟨t2, stp t2 a1, b1⟩
end LW
