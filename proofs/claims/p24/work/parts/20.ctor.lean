def hs_Wn (p : Program) (l : Launch) (e : Env) (R : Room) (s : State) (m : MethodId) (args : Array Value) (below : List Frame) (meth : Method) (c : Code) (D : va_G) (A : Nat → Prop) (nL : Nat) (Q : State → Prop) (pc : Nat) (lv : List (Nat × Value)) (st : List Value) (ws : va_W) (cells slots : Nat) : Prop :=
  ∀ (H : Heap) (locs : List Loc) (ls : Array Slot), va_P D vwCl ws H → va_D A ws → va_S A s.heap H locs → lv_has ls nL lv → W p l e R s m args below meth c H locs cells slots Q (F0 m pc ls st)
def hs_Cn (p : Program) (s : State) (m : MethodId) (args : Array Value) (meth : Method) (c : Code) (D : va_G) (dA : Nat → ClassId) (A : Nat → Prop) (nL : Nat) (cc : ByteArray) (own : String) : Prop :=
  p.tables.exec = Jvm.exec ∧ c.code = cc ∧ c.maxLocals = nL ∧ s.vm.findClass own = some m.cls ∧ (∀ w ∈ WS, w.before args s = true) ∧ hs_K D dA s ∧ (∀ q : Nat, s.heap.size ≤ q → A q) ∧ meth.locks = false ∧ meth.sig.returnType = none ∧ meth.name = "<init>" ∧ va_AO "DialSafes$Wheel" s ∧ va_AOA .int s
def hs_rmC (fr mc ms : Nat) : Room := { frames := fr, cells := mc, slots := ms, locals := 40 * fr }
def hs_KC (D : va_G) (dA : Nat → ClassId) (U : State) : Prop := hs_K D dA U ∧ va_AO "DialSafes$Wheel" U ∧ va_AOA .int U
def hs_Qn (D : va_G) (A : Nat → Prop) (WS1 : (Nat → Nat) → va_W) : Array Value → State → Outcome → State → Prop := fun _ st oc t =>
  (oc = .returned none ∧ ∃ r : Nat → Nat, va_P D vwCl (WS1 r) t.heap ∧ va_D A (WS1 r)) ∧ va_F A st t
def hs_Ctor (l : Launch) (y : MethodName) (cc : ByteArray) (nL fr mc ms ci : Nat) (fs0 As : List Value) (WS1 : (Nat → ClassId) → Nat → (Nat → Nat) → va_W) : Prop :=
  ∀ (D : va_G) (dA : Nat → ClassId) (h0 sz : Nat), Met l y (Cond.code y cc nL none :: WS) (hs_rmC fr mc ms) (va_Pc (.ref h0 :: As) (fun U => U.heap.size = sz ∧ va_P D vwCl [(h0, .inr (ci, fs0))] U.heap ∧ hs_KC D dA U)) (hs_Qn D (va_A [(h0, .inr (ci, fs0))] sz) (WS1 dA h0)) mc ms (va_A [(h0, .inr (ci, fs0))] sz)
theorem hs_KC_warm {D : va_G} {dA : Nat → ClassId} {s U : State} (hW : s.WarmedH U.vm) (h : hs_KC D dA s) : hs_KC D dA U := ⟨⟨va_K.moved hW.alike h.1.1, hs_nw_warm hW h.1.2⟩, va_AO.moved hW.alike h.2.1, hs_AOA_moved hW.alike h.2.2⟩
theorem hs_KC_same {D : va_G} {dA : Nat → ClassId} {U : State} {g : JFrame} {mk : MethodId} {a : Array Value} (h : hs_KC D dA U) : hs_KC D dA (U.calling g mk a) := ⟨⟨va_K.moved (u := U) (U := U.calling g mk a) (Vm.Alike.refl U.vm) h.1.1, hs_nw_same (u := U) (U := U.calling g mk a) rfl h.1.2⟩, va_AO.moved (u := U) (U := U.calling g mk a) (Vm.Alike.refl U.vm) h.2.1, hs_AOA_moved (u := U) (U := U.calling g mk a) (Vm.Alike.refl U.vm) h.2.2⟩
theorem hs_RA_inj {U : State} {a b : ClassId} {ty : FieldType} (h1 : va_RA U a ty) (h2 : va_RA U b ty) : a = b := by
  cases ty <;> first
    | exact Option.some.inj (Eq.trans (Eq.symm h1) h2)
    | (obtain ⟨_, _, _, _, _, e1⟩ := h1
       obtain ⟨_, _, _, _, _, e2⟩ := h2
       exact Option.some.inj (e1.symm.trans e2))
section WN
variable {p : Program} {l : Launch} {e : Env} {R : Room} {s : State} {m : MethodId} {args : Array Value} {below : List Frame} {meth : Method} {c : Code} {D : va_G} {dA : Nat → ClassId} {A : Nat → Prop} {nL : Nat} {Q : State → Prop} {cc : ByteArray} {own : String} {pc : Nat} {lv : List (Nat × Value)} {st : List Value} {ws : va_W} {cells slots : Nat}
theorem hs_fromC {fr mc ms ci : Nat} {fs0 As : List Value} {WS1 : (Nat → ClassId) → Nat → (Nat → Nat) → va_W} {y : MethodName} (hy : plainFor y = true) (hlen : ∀ h0, (lg_sl (.ref h0 :: As)).length ≤ nL) (hnm : y.name = "<init>")
    (body : ∀ (p : Program) (e : Env) (s : State) (m : MethodId) (args : Array Value) (below : List Frame) (meth : Method) (c : Code) (D : va_G) (dA : Nat → ClassId) (A : Nat → Prop) (h0 : Nat), hs_Cn p s m args meth c D dA A nL cc y.cls → hs_Wn p l e (hs_rmC fr mc ms) s m args below meth c D A nL (MQ below (hs_Qn D A (WS1 dA h0)) args s mc ms A) 0 (lv_args 0 (.ref h0 :: As)) [] [(h0, .inr (ci, fs0))] 0 0) :
    hs_Ctor l y cc nL fr mc ms ci fs0 As WS1 := by
  intro D dA h0 sz
  refine hs_ofW (cc := cc) (maxL := nL) (ret := none) hy rfl ?_
  intro p e s m args below meth c s₁ B hml hv
  obtain ⟨rfl, hsz, hP, hK, hO, hOA⟩ := hv
  subst hsz
  have hts := atoms_spec (ws := Cond.code y cc nL none :: WS) B.pre
  have hown : s.vm.findClass y.cls = some m.cls := findClass_of_methodNamed B.named
  have hC : hs_Cn p s m (Value.ref h0 :: As).toArray meth c D dA (va_A [(h0, .inr (ci, fs0))] s.heap.size) nL cc y.cls :=
    ⟨B.exec, B.bytes, hml, hown, fun w hw => hts w (List.mem_cons_of_mem _ hw), hK, fun q hq => Or.inr hq, B.notSynchronized, B.returns, by rw [← hnm]; exact (name_of_methodNamed B.named B.method).1, hO, hOA⟩
  have hl := lv_entry (.ref h0 :: As) (n := nL) (hlen h0)
  rw [lg_entry_eq]
  have hD0 : va_D (fun _ => True) [(h0, (.inr (ci, fs0) : va_E))] := by
    refine ⟨fun i j x y hi hj _ => ?_, fun _ _ _ => trivial⟩
    have h1 := (List.getElem?_eq_some_iff.mp hi).1
    have h2 := (List.getElem?_eq_some_iff.mp hj).1
    simp at h1 h2
    omega
  exact body p e s m _ below meth c D dA _ h0 hC s.heap [] _ hP hD0.self va_S.rf hl
theorem n_iconst (C : hs_Cn p s m args meth c D dA A nL cc own) {z : Int} (hd : decode cc pc = .ok (.iconst z, 1))
    (k : hs_Wn p l e R s m args below meth c D A nL Q (pc + 1) lv (vI z :: st) ws cells slots) : hs_Wn p l e R s m args below meth c D A nL Q pc lv st ws cells slots := by
  intro H locs ls hP hD hS hl
  exact lv_iconst C.1 C.2.1 hd rfl (k H locs ls hP hD hS hl)
theorem n_bipush (C : hs_Cn p s m args meth c D dA A nL cc own) {z : Int} (hd : decode cc pc = .ok (.bipush z, 2)) (hz : (Int8.ofInt z).toInt32 = Int32.ofInt z)
    (k : hs_Wn p l e R s m args below meth c D A nL Q (pc + 2) lv (vI z :: st) ws cells slots) : hs_Wn p l e R s m args below meth c D A nL Q pc lv st ws cells slots := by
  intro H locs ls hP hD hS hl
  exact lv_bipush C.1 C.2.1 hd hz (k H locs ls hP hD hS hl)
theorem n_sipush (C : hs_Cn p s m args meth c D dA A nL cc own) {z : Int} (hd : decode cc pc = .ok (.sipush z, 3)) (hz : (Int16.ofInt z).toInt32 = Int32.ofInt z)
    (k : hs_Wn p l e R s m args below meth c D A nL Q (pc + 3) lv (vI z :: st) ws cells slots) : hs_Wn p l e R s m args below meth c D A nL Q pc lv st ws cells slots := by
  intro H locs ls hP hD hS hl
  exact lv_sipush C.1 C.2.1 hd hz (k H locs ls hP hD hS hl)
theorem n_aload_n (C : hs_Cn p s m args meth c D dA A nL cc own) {a : Nat} {i : Fin 4} (hd : decode cc pc = .ok (.aload_n i, 1)) (j : Nat) (hj : lv[j]? = some ((i : Nat), .ref a))
    (k : hs_Wn p l e R s m args below meth c D A nL Q (pc + 1) lv (.ref a :: st) ws cells slots) : hs_Wn p l e R s m args below meth c D A nL Q pc lv st ws cells slots := by
  intro H locs ls hP hD hS hl
  exact lv_aload_n C.1 C.2.1 hd rfl (lv_at hl j hj) (k H locs ls hP hD hS hl)
theorem n_iload_n (C : hs_Cn p s m args meth c D dA A nL cc own) {z : Int} {i : Fin 4} (hd : decode cc pc = .ok (.iload_n i, 1)) (j : Nat) (hj : lv[j]? = some ((i : Nat), vI z))
    (k : hs_Wn p l e R s m args below meth c D A nL Q (pc + 1) lv (vI z :: st) ws cells slots) : hs_Wn p l e R s m args below meth c D A nL Q pc lv st ws cells slots := by
  intro H locs ls hP hD hS hl
  exact lv_iload_n C.1 C.2.1 hd rfl (lv_at hl j hj) (k H locs ls hP hD hS hl)
theorem n_istore_n (C : hs_Cn p s m args meth c D dA A nL cc own) {z : Int} {i : Fin 4} (lv2 : List (Nat × Value)) (hd : decode cc pc = .ok (.istore_n i, 1)) (hn : (i : Nat) < nL) (h2 : ((i : Nat), Value.int (Int32.ofInt z)) :: lv.filter (fun q => !(q.1 == (i : Nat)) && !(q.1 + 1 == (i : Nat) && q.2.category == 2)) = lv2)
    (k : hs_Wn p l e R s m args below meth c D A nL Q (pc + 1) lv2 st ws cells slots) : hs_Wn p l e R s m args below meth c D A nL Q pc lv (vI z :: st) ws cells slots := by
  intro H locs ls hP hD hS hl
  exact lv_istore_n C.1 C.2.1 hd rfl hl hn h2 (fun ls hl => k H locs ls hP hD hS hl)
theorem n_iinc (C : hs_Cn p s m args meth c D dA A nL cc own) {z n : Int} {i : Nat} (lv2 : List (Nat × Value)) (hd : decode cc pc = .ok (.iinc i n, 3)) (j : Nat) (hj : lv[j]? = some (i, vI z)) (hn : i < nL) (h2 : (i, Value.int (Int32.ofInt (z + n))) :: lv.filter (fun q => !(q.1 == i) && !(q.1 + 1 == i && q.2.category == 2)) = lv2)
    (k : hs_Wn p l e R s m args below meth c D A nL Q (pc + 3) lv2 st ws cells slots) : hs_Wn p l e R s m args below meth c D A nL Q pc lv st ws cells slots := by
  intro H locs ls hP hD hS hl
  exact lv_iinc C.1 C.2.1 hd hl (k := j) hj (Int32.ofInt_add z n).symm hn h2 (fun ls hl => k H locs ls hP hD hS hl)
theorem n_icmp_ge (C : hs_Cn p s m args meth c D dA A nL cc own) {a b off : Int} {tgt : Nat} (hd : decode cc pc = .ok (.if_icmp .ge off, 3)) (ht : (pc : Int) + off = (tgt : Int)) (ha : hs_R a) (hb : hs_R b)
    (kt : b ≤ a → hs_Wn p l e R s m args below meth c D A nL Q tgt lv st ws cells slots) (kf : ¬ b ≤ a → hs_Wn p l e R s m args below meth c D A nL Q (pc + 3) lv st ws cells slots) : hs_Wn p l e R s m args below meth c D A nL Q pc lv (vI b :: vI a :: st) ws cells slots := by
  intro H locs ls hP hD hS hl
  exact lv_icmp_ge C.1 C.2.1 hd ht (fun h => kt ((hs_le hb ha).mp h) H locs ls hP hD hS hl) (fun h => kf (fun q => h ((hs_le hb ha).mpr q)) H locs ls hP hD hS hl)
theorem n_goto (C : hs_Cn p s m args meth c D dA A nL cc own) {off : Int} {tgt : Nat} (hd : decode cc pc = .ok (.goto off, 3)) (ht : (pc : Int) + off = (tgt : Int))
    (k : hs_Wn p l e R s m args below meth c D A nL Q tgt lv st ws cells slots) : hs_Wn p l e R s m args below meth c D A nL Q pc lv st ws cells slots := by
  intro H locs ls hP hD hS hl
  exact lv_goto C.1 C.2.1 hd ht (k H locs ls hP hD hS hl)
theorem n_dup (C : hs_Cn p s m args meth c D dA A nL cc own) {v : Value} (hd : decode cc pc = .ok (.dup, 1)) (hv : v.category = 1)
    (k : hs_Wn p l e R s m args below meth c D A nL Q (pc + 1) lv (v :: v :: st) ws cells slots) : hs_Wn p l e R s m args below meth c D A nL Q pc lv (v :: st) ws cells slots := by
  intro H locs ls hP hD hS hl
  exact lv_dup C.1 C.2.1 hd hv (k H locs ls hP hD hS hl)
theorem n_objInit (C : hs_Cn p s m args meth c D dA A nL cc own) {a i : Nat} (hd : decode cc pc = .ok (.invokespecial i, 3)) (hw : Cond.methodLink own i Lib.objectInit ∈ WS) (hins : Cond.instanceMethod Lib.objectInit ∈ WS) (hcode : Cond.code Lib.objectInit ⟨#[0xb1]⟩ 1 none ∈ WS) (hfr : 1 ≤ R.frames) (hlo : 20 ≤ R.locals) (hsum : (st.map fun v => v.category).sum ≤ 8)
    (k : hs_Wn p l e R s m args below meth c D A nL Q (pc + 3) lv st ws cells slots) : hs_Wn p l e R s m args below meth c D A nL Q pc lv (.ref a :: st) ws cells slots := by
  intro H locs ls hP hD hS hl
  exact W.objInit C.1 C.2.1 C.2.2.2.1 (C.2.2.2.2.1 _ hw) (C.2.2.2.2.1 _ hins) (C.2.2.2.2.1 _ hcode) rfl (hl.1.trans C.2.2.1.symm) rfl hd hfr (by show 2 * 0 + _ + 12 ≤ _; omega) (k H locs ls hP hD hS hl)
theorem n_newa (C : hs_Cn p s m args meth c D dA A nL cc own) {atype : ArrayType} {ty : FieldType} {t N : Nat} {z : Int} (ws2 : Nat → va_W) (hd : decode cc pc = .ok (.newarray atype, 2)) (harr : Cond.arrayClass (newarray.typeOf atype) ∈ WS) (hty : newarray.typeOf atype = ty) (ht : (hs_tys dA)[t]? = some (dA t, ty)) (hdf : defaultValue ty = .int 0) (hcb : componentBytes ty ≤ 8) (hz : 0 ≤ z) (hzN : z.toNat = N) (hN : N ≤ 10000) (hcells : cells + 1 ≤ R.cells) (hslots : slots + N ≤ R.slots) (h2 : ∀ q, ws ++ [(q, (.inl (dA t, N, .inl (fun _ => Int32.ofInt 0)) : va_E))] = ws2 q)
    (k : ∀ q : Nat, hs_Wn p l e R s m args below meth c D A nL Q (pc + 2) lv (.ref q :: st) (ws2 q) (cells + 1) (slots + N)) : hs_Wn p l e R s m args below meth c D A nL Q pc lv (vI z :: st) ws cells slots := by
  intro H locs ls hP hD hS hl
  have hR : hs_R z := ⟨by omega, by omega⟩
  refine va_newa C.1 C.2.1 (C.2.2.2.2.1 _ harr) hty C.2.2.2.2.2.1.1 hP hD hS C.2.2.2.2.2.2.1 (a0 := (N, .inl (fun _ => Int32.ofInt 0))) (fun cA => ?_) (fun q => by have := (hs_lt0 hR).mp q; omega) (by rw [hs_cl hR]; exact hzN) (Nat.le_trans (Nat.mul_le_mul hN hcb) (by decide)) hcells hslots hd (fun q cA H1 hK1 hP1 hD1 hS1 => ?_)
  · rw [hdf]; rfl
  · have e : cA = dA t := hs_RA_inj (hK1.2 5 (cA, ty) rfl).2 (C.2.2.2.2.2.1.1.2 t (dA t, ty) ht).2
    subst e
    exact k q H1 locs ls (h2 q ▸ hP1) (h2 q ▸ hD1) hS1 hl
theorem n_newq (C : hs_Cn p s m args meth c D dA A nL cc own) {i : Nat} {z : Int} {N : Nat} (ws2 : Nat → va_W) (hd : decode cc pc = .ok (.anewarray i, 3)) (hw : Cond.classLink own i "DialSafes$Wheel" ∈ WS) (hz : 0 ≤ z) (hzN : z.toNat = N) (hN : N ≤ 10000) (hcells : cells + 1 ≤ R.cells) (hslots : slots + N ≤ R.slots) (h2 : ∀ q, ws ++ [(q, (.inl (dA 3, N, .inr (.inr (.inr (.inr (fun _ => none))))) : va_E))] = ws2 q)
    (k : ∀ q : Nat, hs_Wn p l e R s m args below meth c D A nL Q (pc + 3) lv (.ref q :: st) (ws2 q) (cells + 1) (slots + N)) : hs_Wn p l e R s m args below meth c D A nL Q pc lv (vI z :: st) ws cells slots := by
  intro H locs ls hP hD hS hl
  have hR : hs_R z := ⟨by omega, by omega⟩
  refine va_newq C.1 C.2.1 C.2.2.2.1 (C.2.2.2.2.1 _ hw) C.2.2.2.2.2.2.2.2.2.2.1 C.2.2.2.2.2.1.1 hP hD hS C.2.2.2.2.2.2.1 (fun q => by have := (hs_lt0 hR).mp q; omega) (by rw [hs_cl hR]; exact hzN) (by omega) hcells hslots hd (fun q cA H1 hK1 hP1 hD1 hS1 => ?_)
  have e : cA = dA 3 := hs_RA_inj (hK1.2 5 (cA, .object "DialSafes$Wheel") rfl).2 (C.2.2.2.2.2.1.1.2 3 (dA 3, .object "DialSafes$Wheel") rfl).2
  subst e
  exact k q H1 locs ls (h2 q ▸ hP1) (h2 q ▸ hD1) hS1 hl
theorem n_new (C : hs_Cn p s m args meth c D dA A nL cc own) {i ci N : Nat} {CN : String} {T : u_T} {ty : Nat → FieldType} (fs : List Value) (ws2 : Nat → va_W) (hd : decode cc pc = .ok (.new i, 3)) (hw : Cond.classLink own i CN ∈ WS) (hin : ∀ w ∈ u_ws CN T N, w ∈ WS) (hty : ∀ k, k < N → parseFieldDescriptor (T k).2.2.1 = some (ty k)) (hinst : Cond.instantiable CN N ∈ WS) (hini : Cond.initialized CN ∈ WS) (hc : vwCl[ci]? = some (CN, T, N)) (hfs : ∀ j, j < N → defaultValue (ty j) = vp_V fs j) (hcells : cells + 1 ≤ R.cells) (hslots : slots + N ≤ R.slots) (h2 : ∀ q, ws ++ [(q, (.inr (ci, fs) : va_E))] = ws2 q)
    (k : ∀ q : Nat, hs_Wn p l e R s m args below meth c D A nL Q (pc + 3) lv (.ref q :: st) (ws2 q) (cells + 1) (slots + N)) : hs_Wn p l e R s m args below meth c D A nL Q pc lv st ws cells slots := by
  intro H locs ls hP hD hS hl
  exact va_new C.1 C.2.1 (Ts := WS) C.2.2.2.2.1 hin ty hty C.2.2.2.1 (C.2.2.2.2.1 _ hw) (C.2.2.2.2.1 _ hinst) (C.2.2.2.2.1 _ hini) C.2.2.2.2.2.1.1 hP hD hS C.2.2.2.2.2.2.1 hc hfs hcells hslots hd (fun q H1 hP1 hD1 hS1 => k q H1 locs ls (h2 q ▸ hP1) (h2 q ▸ hD1) hS1 hl)
theorem n_getr (C : hs_Cn p s m args meth c D dA A nL cc own) {ci N i a : Nat} {fs : List Value} {v : Value} {CN ref : String} {T : u_T} (q0 f : Nat) (hd : decode cc pc = .ok (.getfield i, 3)) (hw : Cond.fieldLink own i ref (T f).2.1 (T f).2.2.1 ∈ WS) (he : ws[q0]? = some (a, .inr (ci, fs))) (hf : fs[f]? = some v) (hc : vwCl[ci]? = some (CN, T, N)) (hin : ∀ w ∈ u_ws CN T N, w ∈ WS) (hk : f < N) (hr : ref = (T f).1)
    (k : hs_Wn p l e R s m args below meth c D A nL Q (pc + 3) lv (v :: st) ws cells slots) : hs_Wn p l e R s m args below meth c D A nL Q pc lv (.ref a :: st) ws cells slots := by
  intro H locs ls hP hD hS hl
  subst hr
  exact va_get C.1 C.2.1 (Ts := WS) C.2.2.2.2.1 hin C.2.2.2.1 C.2.2.2.2.2.1.1 hP q0 he hc f hk (C.2.2.2.2.1 _ hw) (fun _ h => h) hf hd (k H locs ls hP hD hS hl)
theorem n_putF (C : hs_Cn p s m args meth c D dA A nL cc own) {ci N i a : Nat} {fs : List Value} {v : Value} {CN ref : String} {T : u_T} {ty0 : Nat → FieldType} {ty : FieldType} (q0 f : Nat) (ws2 : va_W) (hd : decode cc pc = .ok (.putfield i, 3)) (hw : Cond.fieldLink own i ref (T f).2.1 (T f).2.2.1 ∈ WS) (he : ws[q0]? = some (a, .inr (ci, fs))) (hc : vwCl[ci]? = some (CN, T, N)) (hin : ∀ w ∈ u_ws CN T N, w ∈ WS) (hty : ∀ k, k < N → parseFieldDescriptor (T k).2.2.1 = some (ty0 k)) (hnm : ∀ a, a < N → ∀ b, b < N → a ≠ b → (T a).2.1 ≠ (T b).2.1) (hk : f < N) (hr : ref = (T f).1) (hfin : (T f).2.2.2 = true) (hdecl : (T f).1 = own) (ht : ty0 f = ty) (hn : narrow ty v = v) (hfit : fits ty v = true) (hl0 : f < fs.length) (h2 : ws.set q0 (a, .inr (ci, fs.set f v)) = ws2)
    (k : hs_Wn p l e R s m args below meth c D A nL Q (pc + 3) lv st ws2 cells slots) : hs_Wn p l e R s m args below meth c D A nL Q pc lv (v :: .ref a :: st) ws cells slots := by
  intro H locs ls hP hD hS hl
  subst hr
  exact va_putF C.1 C.2.1 (Ts := WS) C.2.2.2.2.1 hin ty0 hty hnm C.2.2.2.1 C.2.2.2.2.2.1.1 hP hD hS q0 he hc f hk (C.2.2.2.2.1 _ hw) (fun _ h => h) hfin C.2.2.2.2.2.2.2.2.2.1 hdecl (ty := ty) (by rw [hty f hk, ht]) hn hfit hl0 hd (fun H1 locs1 hP1 hD1 hS1 => k H1 locs1 ls (h2 ▸ hP1) (h2 ▸ hD1) hS1 hl)
theorem n_put (C : hs_Cn p s m args meth c D dA A nL cc own) {ci N i a : Nat} {fs : List Value} {v : Value} {CN ref : String} {T : u_T} {ty0 : Nat → FieldType} {ty : FieldType} (q0 f : Nat) (ws2 : va_W) (hd : decode cc pc = .ok (.putfield i, 3)) (hw : Cond.fieldLink own i ref (T f).2.1 (T f).2.2.1 ∈ WS) (he : ws[q0]? = some (a, .inr (ci, fs))) (hc : vwCl[ci]? = some (CN, T, N)) (hin : ∀ w ∈ u_ws CN T N, w ∈ WS) (hty : ∀ k, k < N → parseFieldDescriptor (T k).2.2.1 = some (ty0 k)) (hnm : ∀ a, a < N → ∀ b, b < N → a ≠ b → (T a).2.1 ≠ (T b).2.1) (hk : f < N) (hr : ref = (T f).1) (hfin : (T f).2.2.2 = false) (ht : ty0 f = ty) (hn : narrow ty v = v) (hfit : fits ty v = true) (hl0 : f < fs.length) (h2 : ws.set q0 (a, .inr (ci, fs.set f v)) = ws2)
    (k : hs_Wn p l e R s m args below meth c D A nL Q (pc + 3) lv st ws2 cells slots) : hs_Wn p l e R s m args below meth c D A nL Q pc lv (v :: .ref a :: st) ws cells slots := by
  intro H locs ls hP hD hS hl
  subst hr
  exact va_put C.1 C.2.1 (Ts := WS) C.2.2.2.2.1 hin ty0 hty hnm C.2.2.2.1 C.2.2.2.2.2.1.1 hP hD hS q0 he hc f hk (C.2.2.2.2.1 _ hw) (fun _ h => h) hfin (ty := ty) (by rw [hty f hk, ht]) hn hfit hl0 hd (fun H1 locs1 hP1 hD1 hS1 => k H1 locs1 ls (h2 ▸ hP1) (h2 ▸ hD1) hS1 hl)
theorem n_cong (C : hs_Cn p s m args meth c D dA A nL cc own) {a : Nat} {cA : ClassId} {x y : vp_A} (q0 : Nat) (ws2 : va_W) (he : ws[q0]? = some (a, .inl (cA, x))) (hx : ∀ c : ClassId, vp_cell c x = vp_cell c y) (h2 : ws.set q0 (a, .inl (cA, y)) = ws2) (k : hs_Wn p l e R s m args below meth c D A nL Q pc lv st ws2 cells slots) : hs_Wn p l e R s m args below meth c D A nL Q pc lv st ws cells slots := by
  intro H locs ls hP hD hS hl
  have h1 : H[a]? = some (vp_cell cA x) := hP q0 _ he
  exact k H locs ls (h2 ▸ va_P.set hP hD he (by show H[a]? = some (vp_cell cA y); rw [← hx]; exact h1) (fun _ _ => rfl)) (h2 ▸ hD.set he) hS hl
theorem hs_rcong {N : Nat} {f g : Nat → Option Nat} (h : ∀ j, j < N → f j = g j) (c : ClassId) : vp_cell c (N, .inr (.inr (.inr (.inr f)))) = vp_cell c (N, .inr (.inr (.inr (.inr g)))) := by
  show arrV c N (fun j => va_rf (f j)) = arrV c N (fun j => va_rf (g j))
  unfold arrV
  congr 2
  funext j
  show va_rf (f j.val) = va_rf (g j.val)
  rw [h j.val j.isLt]
theorem n_mna (C : hs_Cn p s m args meth c D dA A nL cc own) {i : Nat} {z y : Int} {N K0 : Nat} (ws2 : Nat → (Nat → Nat) → va_W) (hd : decode cc pc = .ok (.multianewarray i 2, 4)) (hw : Cond.classLink own i ("[" ++ (FieldType.array .int).toString) ∈ WS) (harr : Cond.arrayClass .int ∈ WS) (hz : 0 ≤ z) (hzN : z.toNat = N) (hN : N ≤ 10000) (hy : 0 ≤ y) (hyN : y.toNat = K0) (hK0 : K0 ≤ 10000) (hcells : cells + (1 + N) ≤ R.cells) (hslots : slots + (N + N * K0) ≤ R.slots) (h2 : ∀ q r, (ws ++ [(q, (.inl (dA 4, N, .inr (.inr (.inr (.inr (fun i => if i < N then some (r i) else none))))) : va_E))]) ++ ((List.range N).map r).map (fun a => (a, (.inl (dA 1, K0, .inl (fun _ => Int32.ofInt 0)) : va_E))) = ws2 q r)
    (k : ∀ (q : Nat) (r : Nat → Nat), hs_Wn p l e R s m args below meth c D A nL Q (pc + 4) lv (.ref q :: st) (ws2 q r) (cells + 1 + N) (slots + N + N * K0)) : hs_Wn p l e R s m args below meth c D A nL Q pc lv (vI y :: vI z :: st) ws cells slots := by
  intro H locs ls hP hD hS hl
  have hR : hs_R z := ⟨by omega, by omega⟩
  have hR2 : hs_R y := ⟨by omega, by omega⟩
  have hci : s.vm.findClass (FieldType.array .int).toString = some (dA 1) := (C.2.2.2.2.2.1.1.2 1 (dA 1, .int) rfl).2
  have hP0 : va_P D vwCl (ws ++ va_pl [] (fun _ => (.inr (0, []) : va_E))) H := by simpa [va_pl] using hP
  have hD0 : va_D A (ws ++ va_pl [] (fun _ => (.inr (0, []) : va_E))) := by simpa [va_pl] using hD
  refine va_mna C.1 C.2.1 C.2.2.2.1 (C.2.2.2.2.1 _ hw) C.2.2.2.2.2.2.2.2.2.2.2 (C.2.2.2.2.1 _ harr) hci C.2.2.2.2.2.1.1 hP0 hD0 hS C.2.2.2.2.2.2.1 (z := (K0, .inl (fun _ => Int32.ofInt 0))) (fun q => by have := (hs_lt0 hR).mp q; omega) (fun q => by have := (hs_lt0 hR2).mp q; omega) (by rw [hs_cl hR]; exact hzN) (by rw [hs_cl hR2]; exact hyN) (by omega) (by show K0 * 4 ≤ _; omega) (by omega) rfl rfl hcells hslots (fun c => (arrV_new c K0 (.int 0))) hd (fun q r cA H1 hinj hnl hK1 hP1 hD1 hS1 => ?_)
  have e : cA = dA 4 := hs_RA_inj (hK1.2 5 (cA, .array .int) rfl).2 (C.2.2.2.2.2.1.1.2 4 (dA 4, .array .int) rfl).2
  subst e
  have ev : va_pl ([] ++ (List.range N).map r) (vr_up (fun _ => (.inr (0, []) : va_E)) ((List.range N).map r) (.inl (dA 1, (K0, .inl (fun _ => Int32.ofInt 0))))) = ((List.range N).map r).map (fun a => (a, (.inl (dA 1, K0, .inl (fun _ => Int32.ofInt 0)) : va_E))) := by
    unfold va_pl
    rw [List.nil_append]
    apply List.map_congr_left
    intro a ha
    rw [vr_up_in ha]
  rw [ev, h2] at hP1 hD1
  exact k q r H1 locs ls hP1 hD1 hS1 hl
theorem n_iast (C : hs_Cn p s m args meth c D dA A nL cc own) {a n : Nat} {i z : Int} {row : Nat → Int} (q0 : Nat) (ws2 : va_W) (hd : decode cc pc = .ok (.iastore, 1)) (ha : ws[q0]? = some (a, .inl (dA 1, n, .inl (fun j => Int32.ofInt (row j))))) (h0 : 0 ≤ i) (h1 : i < n) (hn : n ≤ 2147483647) (h2 : ws.set q0 (a, .inl (dA 1, n, .inl (fun j => Int32.ofInt (hs_up row i.toNat z j)))) = ws2)
    (k : hs_Wn p l e R s m args below meth c D A nL Q (pc + 1) lv st ws2 cells slots) : hs_Wn p l e R s m args below meth c D A nL Q pc lv (vI z :: vI i :: .ref a :: st) ws cells slots := by
  intro H locs ls hP hD hS hl
  have hR : hs_R i := ⟨by omega, by omega⟩
  refine va_iast C.1 C.2.1 C.2.2.2.2.2.1.1 hP hD hS q0 1 (cA := dA 1) (n := n) (f := fun j => Int32.ofInt (row j)) ha rfl (hs_in h0 h1 hn) hd (fun H1 locs1 hP1 hD1 hS1 => k H1 locs1 ls ?_ ?_ hS1 hl)
  · rw [hs_cl hR, hs_upd (z := z) rfl, h2] at hP1
    exact hP1
  · rw [hs_cl hR, hs_upd (z := z) rfl, h2] at hD1
    exact hD1
theorem n_aast (C : hs_Cn p s m args meth c D dA A nL cc own) {a n v : Nat} {i : Int} {f : Nat → Option Nat} {vs : List Value} (q0 qk : Nat) (ws2 : va_W) (hd : decode cc pc = .ok (.aastore, 1)) (ha : ws[q0]? = some (a, .inl (dA 3, n, .inr (.inr (.inr (.inr f)))))) (hv : ws[qk]? = some (v, .inr (9, vs))) (h0 : 0 ≤ i) (h1 : i < n) (hn : n ≤ 2147483647) (h2 : ws.set q0 (a, .inl (dA 3, n, .inr (.inr (.inr (.inr (va_up f i.toNat (some v))))))) = ws2)
    (k : hs_Wn p l e R s m args below meth c D A nL Q (pc + 1) lv st ws2 cells slots) : hs_Wn p l e R s m args below meth c D A nL Q pc lv (.ref v :: vI i :: .ref a :: st) ws cells slots := by
  intro H locs ls hP hD hS hl
  have hR : hs_R i := ⟨by omega, by omega⟩
  refine va_astq C.1 C.2.1 C.2.2.2.2.2.1.1 hP hD hS q0 3 qk 9 (cA := dA 3) (r := (RX9, TX9, 9)) (n := n) ha rfl hv rfl (hs_in h0 h1 hn) hd (fun H1 locs1 hP1 hD1 hS1 => k H1 locs1 ls ?_ ?_ hS1 hl)
  · rw [hs_cl hR, h2] at hP1
    exact hP1
  · rw [hs_cl hR, h2] at hD1
    exact hD1
theorem n_callI (C : hs_Cn p s m args meth c D dA A nL cc own) {y : MethodName} {cy : ByteArray} {nY frY mcY msY ciY i q : Nat} {fsY As : List Value} {WSY : (Nat → ClassId) → Nat → (Nat → Nat) → va_W} {host : String} (hM : hs_Ctor l y cy nY frY mcY msY ciY fsY As WSY) (wr : va_W) (rest : List Value) (hst : st = As.reverse ++ .ref q :: rest) (hws : ws = wr ++ [(q, .inr (ciY, fsY))]) (hd : decode cc pc = .ok (.invokespecial i, 3)) (hw : Cond.methodLinkNest own i y host ∈ NWS) (hins : Cond.instanceMethod y ∈ WS) (hcode : Cond.code y cy nY none ∈ WS) (hini : Cond.initialized y.cls ∈ WS) (hname : y.name = "<init>")
    (hno : y.cls ≠ "java/lang/invoke/MethodHandle" ∧ y.cls ≠ "java/lang/invoke/VarHandle" ∧ (parseMethodDescriptor y.desc).map (fun d => d.parameters.length) = some As.length) (hfr : frY + 1 ≤ R.frames) (hlo : 8 + (nY + 11) + 40 * frY ≤ R.locals) (hsum : (rest.map fun v => v.category).sum ≤ 8) (hcells : cells + mcY ≤ R.cells) (hslots : slots + msY ≤ R.slots)
    (k : ∀ r : Nat → Nat, hs_Wn p l e R s m args below meth c D A nL Q (pc + 3) lv rest (wr ++ WSY dA q r) (cells + mcY) (slots + msY)) : hs_Wn p l e R s m args below meth c D A nL Q pc lv st ws cells slots := by
  intro H locs ls hP hD hS hl
  subst hst
  subst hws
  have hC : [wr.length].map (fun i => (wr ++ [(q, (.inr (ciY, fsY) : va_E))])[i]?) = [(q, (.inr (ciY, fsY) : va_E))].map some := by simp
  have hPc : va_P D vwCl [(q, .inr (ciY, fsY))] H := fun k x hk => by
    have h1 : k < 1 := (List.getElem?_eq_some_iff.mp hk).1
    have h2 : k = 0 := by omega
    subst h2
    cases hk
    exact hP wr.length _ (by simp)
  have hF := va_free (wc := [(q, .inr (ciY, fsY))]) hD hS C.2.2.2.2.2.2.1 [wr.length] hC
  have hKC : hs_KC D dA s := ⟨C.2.2.2.2.2.1, C.2.2.2.2.2.2.2.2.2.2.1, C.2.2.2.2.2.2.2.2.2.2.2⟩
  have hG : GoodIn WS (Cond.code y cy nY none :: WS) := fun w h => by
    rcases List.mem_cons.mp h with rfl | h
    · exact ws_good _ hcode
    · exact ws_good _ h
  have hr := va_runIN (As := As) (rest := rest) (Ts := WS) (ws := Cond.code y cy nY none :: WS) (g := F0 m pc ls (As.reverse ++ .ref q :: rest)) (cells := cells) (slots := slots) (locs := locs) (H := H) (below := below) (meth := meth) (e := e) (p := p) (R := R) ⟨C.1, C.2.1, C.2.2.1, C.2.2.2.1, C.2.2.2.2.1⟩ (hM D dA q H.size) ⟨va_cnB As.length C.2.2.2.2.1 hG rfl rfl rfl (C.2.2.2.2.2.1.2 _ hw) (C.2.2.2.2.1 _ hini) hno ⟨hfr, hlo⟩, hname, C.2.2.2.2.1 _ hins⟩
    ⟨fun a U g mk z => ⟨z.1, z.2.1, z.2.2.1, hs_KC_same z.2.2.2⟩, fun U hU hW => ⟨rfl, by rw [hU], by rw [hU]; exact hPc, hs_KC_warm hW hKC⟩⟩ rfl rfl hl.1 rfl (lv_room hsum) hd ⟨hcells, hslots⟩
  intro T hT X
  obtain ⟨v, st₀, t, T', L, e0, X', hL, e1, e2, ⟨⟨hv, r, hb, hdd⟩, hz, hk⟩, stp⟩ := hr T hT X
  cases hv
  rw [e0] at hz hk
  have hRn : va_nd (List.range wr.length) = true := by
    have key : ∀ l : List Nat, l.Nodup → va_nd l = true := by
      intro l hl
      induction l with
      | nil => rfl
      | cons a l ih =>
        rw [List.nodup_cons] at hl
        simp [va_nd, hl.1, ih hl.2]
    exact key _ List.nodup_range
  have hRr : (List.range wr.length).map (fun i => (wr ++ [(q, (.inr (ciY, fsY) : va_E))])[i]?) = wr.map some := by
    apply List.ext_getElem?
    intro j
    by_cases hj : j < wr.length
    · simp [hj, List.getElem?_append_left]
    · simp [hj]
  obtain ⟨hP2, hD2⟩ := va_join (wr := wr) (w1 := WSY dA q r) hP hD [wr.length] (List.range wr.length) hC hRr hRn (by intro i hi; simp at hi ⊢; omega) hk hF hb hdd
  obtain ⟨t2, a1, b1⟩ := k r T'.heap (locs ++ L) ls (by rw [e1]; exact hP2) hD2
    ⟨Nat.le_trans hS.1 (by rw [e1]; exact hz), fun x h1 h2 => by rw [e1, hk x (Nat.lt_of_lt_of_le h1 hS.1) (fun z => h2 (hF x z))]; exact hS.2.1 x h1 h2, fun x hx => by
      rcases List.mem_append.mp hx with h | h
      · exact hS.2.2 x h
      · exact hF _ (hL x h)⟩ hl T' rfl X'
  exact ⟨t2, stp t2 a1, b1⟩
theorem n_ret (C : hs_Cn p s m args meth c D dA A nL cc own) {WS1 : (Nat → Nat) → va_W} {mc ms : Nat} (hd : decode cc pc = .ok (.return_, 1)) (r : Nat → Nat) (hr : ws = WS1 r) (hmc : cells = mc) (hms : slots = ms) : hs_Wn p l e R s m args below meth c D A nL (MQ below (hs_Qn D A WS1) args s mc ms A) pc lv [] ws cells slots := by
  intro H locs ls hP hD hS hl
  subst hmc; subst hms; subst hr
  refine W.vret C.1 C.2.1 C.2.2.2.2.2.2.2.2.1 ?_ ?_ hd C.2.2.2.2.2.2.2.1
  · intro t ht hW
    exact ⟨⟨rfl, r, by rw [ht]; exact hP, hD⟩, hS.F ht⟩
  · exact hS.2.2
end WN
