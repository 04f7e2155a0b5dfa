def hs_rm (fr : Nat) : Room := { frames := fr, cells := 0, slots := 0, locals := 40 * fr }
def hs_nw (U : State) : Prop := ∀ w ∈ NWS, va_Nw w U
theorem hs_nw_warm {s U : State} (hW : s.WarmedH U.vm) (h : hs_nw s) : hs_nw U := by
  intro w hw
  have hn := (List.mem_filter.mp hw).2
  have h1 := h w hw
  cases w <;> first | (cases hn; done) | exact va_Nw.warmF hW h1 | exact va_Nw.warmM hW h1
theorem hs_nw_same {u U : State} (hv : u.vm = U.vm) (h : hs_nw u) : hs_nw U := by
  intro w hw
  have hn := (List.mem_filter.mp hw).2
  have h1 := h w hw
  cases w <;> first | (cases hn; done) | exact va_Nw.same rfl hv h1
/-! the words of a text, as the class's own constants: the literal i lies at ad (1000 + i), its bytes at ad (2000 + i) -/
abbrev hs_SL : List Nat := [4, 5, 4, 4, 3, 5, 4]
def hs_sl (j : Nat) : Int := ((hs_SL.getD j 0 : Nat) : Int)
abbrev hs_SK : List Nat := [55, 61, 63, 65, 67, 69, 71]
abbrev hs_SX : List String := ["left", "right", "back", "feel", "try", "again", "each"]
abbrev hs_SB : List (List Int32) := [[108, 101, 102, 116], [114, 105, 103, 104, 116], [98, 97, 99, 107], [102, 101, 101, 108], [116, 114, 121], [97, 103, 97, 105, 110], [101, 97, 99, 104]]
def hs_St (ad : Nat → Nat) (A : Nat → Prop) (U : State) : Prop :=
  vk_S 7 hs_SL hs_SB (fun i => ad (1000 + i)) (fun i => ad (2000 + i)) A U U.heap ∧ (∀ i : Nat, i < 7 → vk_R RX7 (hs_SK.getD i 0) (hs_SX.getD i "") (ad (1000 + i)) U) ∧ va_Z "java/lang/String" "COMPACT_STRINGS" "Z" (.int 1) A U U.heap ∧ va_Zq "jdk/internal/util/Preconditions" "SIOOBE_FORMATTER" "Ljava/util/function/BiFunction;" A U U.heap
theorem hs_St_at {ad : Nat → Nat} {A B : Nat → Prop} {s U : State} {H : Heap} {locs : List Loc} (h : hs_St ad A s) (hS : va_S A s.heap H locs) (hU : U.heap = H) (hW : s.WarmedH U.vm) (hB : ∀ q, B q → A q) : hs_St ad B U := by
  obtain ⟨h1, h2, h3, h4⟩ := h
  refine ⟨?_, fun i hi => vk_R.warm hW (h2 i hi), ?_, ?_⟩
  · rw [hU]; exact (vk_S.moved hW.alike (h1.kept hS.2.1)).narrow hB
  · rw [hU]; exact (va_Z.moved hW.alike (h3.kept hS.2.1)).narrow hB
  · rw [hU]; exact (va_Zq.moved hW.alike (h4.kept hS.2.1)).narrow hB
theorem hs_St_same {ad : Nat → Nat} {A : Nat → Prop} {u U : State} (hv : U.vm = u.vm) (hh : U.heap = u.heap) (h : hs_St ad A u) : hs_St ad A U := by
  obtain ⟨h1, h2, h3, h4⟩ := h
  have ha : u.vm.Alike U.vm := by rw [hv]; exact Vm.Alike.refl _
  refine ⟨?_, fun i hi => vk_R.same hv (h2 i hi), ?_, ?_⟩
  · rw [hh]; exact vk_S.moved ha h1
  · rw [hh]; exact va_Z.moved ha h3
  · rw [hh]; exact va_Zq.moved ha h4
/-- what a method needs of the tables in a state -/
def hs_K (D : va_G) (dA : Nat → ClassId) (U : State) : Prop := va_K D vwCl (hs_tys dA) U ∧ hs_nw U
/-- the end of a method: what it answers, and its cells -/
def hs_Q (D : va_G) (dA : Nat → ClassId) (SH : List hs_Sh) (ad : Nat → Nat) (A : Nat → Prop) (Post : Option Value → hs_S → Prop) : Array Value → State → Outcome → State → Prop := fun _ st oc t =>
  (∃ (v : Option Value) (σ : hs_S), oc = .returned v ∧ Post v σ ∧ va_P D vwCl (hs_W SH dA ad σ) t.heap) ∧ va_F A st t
/-- the machine in method m's frame at pc with these locals and stack, the cells at σ, comes to an end with Post -/
def hs_Wd (p : Program) (l : Launch) (e : Env) (fr : Nat) (s : State) (m : MethodId) (args : Array Value) (below : List Frame) (meth : Method) (c : Code) (D : va_G) (dA : Nat → ClassId) (SH : List hs_Sh) (ad : Nat → Nat) (A : Nat → Prop) (nL : Nat) (Post : Option Value → hs_S → Prop) (pc : Nat) (lv : List (Nat × Value)) (st : List Value) (σ : hs_S) : Prop :=
  ∀ (H : Heap) (locs : List Loc) (ls : Array Slot), va_P D vwCl (hs_W SH dA ad σ) H → va_S A s.heap H locs → lv_has ls nL lv → W p l e (hs_rm fr) s m args below meth c H locs 0 0 (MQ below (hs_Q D dA SH ad A Post) args s 0 0 A) (F0 m pc ls st)
def hs_C (p : Program) (s : State) (m : MethodId) (args : Array Value) (meth : Method) (c : Code) (D : va_G) (dA : Nat → ClassId) (SH : List hs_Sh) (ad : Nat → Nat) (A : Nat → Prop) (nL : Nat) (cc : ByteArray) (own : String) (ret : Option FieldType) : Prop :=
  p.tables.exec = Jvm.exec ∧ c.code = cc ∧ c.maxLocals = nL ∧ s.vm.findClass own = some m.cls ∧ (∀ w ∈ WS, w.before args s = true) ∧ (hs_K D dA s ∧ hs_St ad A s) ∧ (∀ σ, va_D A (hs_W SH dA ad σ)) ∧ (∀ q : Nat, s.heap.size ≤ q → A q) ∧ meth.locks = false ∧ meth.sig.returnType = ret ∧ hs_inj SH ad
/-- a contract: the method's code, its room in frames, its cells, its arguments, what must hold before, what holds behind -/
def hs_Met (l : Launch) (y : MethodName) (cc : ByteArray) (nL : Nat) (ret : Option FieldType) (fr : Nat) (SH : List hs_Sh) (av : (Nat → Nat) → List Value) (Pre : hs_S → Prop) (Post : hs_S → Option Value → hs_S → Prop) : Prop :=
  ∀ (D : va_G) (dA : Nat → ClassId) (ad : Nat → Nat) (sz : Nat) (σ : hs_S), hs_inj SH ad → Pre σ → Met l y (Cond.code y cc nL ret :: WS) (hs_rm fr) (va_Pc (av ad) (fun U => U.heap.size = sz ∧ va_P D vwCl (hs_W SH dA ad σ) U.heap ∧ hs_K D dA U ∧ hs_St ad (hs_A SH ad sz) U)) (hs_Q D dA SH ad (hs_A SH ad sz) (Post σ)) 0 0 (hs_A SH ad sz)
def hs_RL (z : Int) : Prop := -9223372036854775808 ≤ z ∧ z ≤ 9223372036854775807
theorem hs_tl {z : Int} (h : hs_RL z) : (Int64.ofInt z).toInt = z := Int64.toInt_ofInt_of_le (by have := h.1; omega) (by have := h.2; omega)
theorem hs_lcmp {a b : Int} (ha : hs_RL a) (hb : hs_RL b) : hs_R (lg_cmp (Int64.ofInt a) (Int64.ofInt b)).toInt ∧ ((lg_cmp (Int64.ofInt a) (Int64.ofInt b)).toInt < 0 ↔ a < b) ∧ ((lg_cmp (Int64.ofInt a) (Int64.ofInt b)).toInt = 0 ↔ a = b) ∧ (0 < (lg_cmp (Int64.ofInt a) (Int64.ofInt b)).toInt ↔ b < a) := by
  refine ⟨hs_oR _, ?_⟩
  have e1 : (Int64.ofInt a > Int64.ofInt b) ↔ b < a := by
    show Int64.ofInt b < Int64.ofInt a ↔ _
    rw [Int64.lt_iff_toInt_lt, hs_tl ha, hs_tl hb]
  have e2 : (Int64.ofInt a = Int64.ofInt b) ↔ a = b := by rw [← Int64.toInt_inj, hs_tl ha, hs_tl hb]
  have m1 : ((-1 : Int32)).toInt = -1 := by decide
  have m2 : ((1 : Int32)).toInt = 1 := by decide
  have m3 : ((0 : Int32)).toInt = 0 := by decide
  unfold lg_cmp
  by_cases h1 : b < a
  · rw [if_pos (e1.mpr h1), m2]; omega
  · rw [if_neg (fun q => h1 (e1.mp q))]
    by_cases h2 : a = b
    · rw [if_pos (e2.mpr h2), m3]; omega
    · rw [if_neg (fun q => h2 (e2.mp q)), m1]; omega
section WD
variable {p : Program} {l : Launch} {e : Env} {fr : Nat} {s : State} {m : MethodId} {args : Array Value} {below : List Frame} {meth : Method} {c : Code} {D : va_G} {dA : Nat → ClassId} {SH : List hs_Sh} {ad : Nat → Nat} {A : Nat → Prop} {nL : Nat} {Post : Option Value → hs_S → Prop} {cc : ByteArray} {own : String} {ret : Option FieldType} {pc : Nat} {lv : List (Nat × Value)} {st : List Value} {σ : hs_S}
/-- from the entry -/
theorem hs_start {y : MethodName} {av : (Nat → Nat) → List Value} {Pre : hs_S → Prop} {PostC : hs_S → Option Value → hs_S → Prop} (hy : plainName y.cls = true) (hlen : ∀ ad, (lg_sl (av ad)).length ≤ nL)
    (body : ∀ (p : Program) (e : Env) (s : State) (m : MethodId) (args : Array Value) (below : List Frame) (meth : Method) (c : Code) (D : va_G) (dA : Nat → ClassId) (ad : Nat → Nat) (A : Nat → Prop) (σ : hs_S), hs_C p s m args meth c D dA SH ad A nL cc y.cls ret → Pre σ → hs_Wd p l e fr s m args below meth c D dA SH ad A nL (PostC σ) 0 (lv_args 0 (av ad)) [] σ) :
    hs_Met l y cc nL ret fr SH av Pre PostC := by
  intro D dA ad sz σ hinj hpre
  refine Met.ofW (cc := cc) (maxL := nL) (ret := ret) hy rfl ?_
  intro p e s m args below meth c s₁ B hml hv
  obtain ⟨rfl, hsz, hP, hK⟩ := hv
  subst hsz
  have hts := atoms_spec (ws := Cond.code y cc nL ret :: WS) B.pre
  have hown : s.vm.findClass y.cls = some m.cls := findClass_of_methodNamed B.named
  have hC : hs_C p s m (av ad).toArray meth c D dA SH ad (hs_A SH ad s.heap.size) nL cc y.cls ret :=
    ⟨B.exec, B.bytes, hml, hown, fun w hw => hts w (List.mem_cons_of_mem _ hw), hK, fun σ => hs_D hinj (fun c hc => Or.inl ⟨c, hc, rfl⟩) σ, fun q hq => Or.inr hq, B.notSynchronized, B.returns, hinj⟩
  have hl := lv_entry (av ad) (n := nL) (hlen ad)
  rw [lg_entry_eq]
  exact body p e s m _ below meth c D dA ad _ σ hC hpre s.heap [] _ hP va_S.rf hl
theorem s_iconst (C : hs_C p s m args meth c D dA SH ad A nL cc own ret) {z : Int} (hd : decode cc pc = .ok (.iconst z, 1))
    (k : hs_Wd p l e fr s m args below meth c D dA SH ad A nL Post (pc + 1) lv (vI z :: st) σ) : hs_Wd p l e fr s m args below meth c D dA SH ad A nL Post pc lv st σ := by
  intro H locs ls hP hS hl
  exact lv_iconst C.1 C.2.1 hd rfl (k H locs ls hP hS hl)
theorem s_bipush (C : hs_C p s m args meth c D dA SH ad A nL cc own ret) {z : Int} (hd : decode cc pc = .ok (.bipush z, 2)) (hz : (Int8.ofInt z).toInt32 = Int32.ofInt z)
    (k : hs_Wd p l e fr s m args below meth c D dA SH ad A nL Post (pc + 2) lv (vI z :: st) σ) : hs_Wd p l e fr s m args below meth c D dA SH ad A nL Post pc lv st σ := by
  intro H locs ls hP hS hl
  exact lv_bipush C.1 C.2.1 hd hz (k H locs ls hP hS hl)
theorem s_sipush (C : hs_C p s m args meth c D dA SH ad A nL cc own ret) {z : Int} (hd : decode cc pc = .ok (.sipush z, 3)) (hz : (Int16.ofInt z).toInt32 = Int32.ofInt z)
    (k : hs_Wd p l e fr s m args below meth c D dA SH ad A nL Post (pc + 3) lv (vI z :: st) σ) : hs_Wd p l e fr s m args below meth c D dA SH ad A nL Post pc lv st σ := by
  intro H locs ls hP hS hl
  exact lv_sipush C.1 C.2.1 hd hz (k H locs ls hP hS hl)
theorem s_ldc (C : hs_C p s m args meth c D dA SH ad A nL cc own ret) {z : Int} {x : Int32} {i : Nat} (hd : decode cc pc = .ok (.ldc i, 2)) (hw : Cond.constant own i x ∈ WS) (hx : x = Int32.ofInt z)
    (k : hs_Wd p l e fr s m args below meth c D dA SH ad A nL Post (pc + 2) lv (vI z :: st) σ) : hs_Wd p l e fr s m args below meth c D dA SH ad A nL Post pc lv st σ := by
  intro H locs ls hP hS hl
  subst hx
  exact lv_ldc C.1 C.2.1 C.2.2.2.1 (C.2.2.2.2.1 _ hw) hd (k H locs ls hP hS hl)
theorem s_ldcw (C : hs_C p s m args meth c D dA SH ad A nL cc own ret) {z : Int} {x : Int32} {i : Nat} (hd : decode cc pc = .ok (.ldc_w i, 3)) (hw : Cond.constant own i x ∈ WS) (hx : x = Int32.ofInt z)
    (k : hs_Wd p l e fr s m args below meth c D dA SH ad A nL Post (pc + 3) lv (vI z :: st) σ) : hs_Wd p l e fr s m args below meth c D dA SH ad A nL Post pc lv st σ := by
  intro H locs ls hP hS hl
  subst hx
  exact lv_ldcw C.1 C.2.1 C.2.2.2.1 (C.2.2.2.2.1 _ hw) hd (k H locs ls hP hS hl)
theorem s_ldc2 (C : hs_C p s m args meth c D dA SH ad A nL cc own ret) {z : Int} {x : Int64} {i : Nat} (hd : decode cc pc = .ok (.ldc2_w i, 3)) (hw : Cond.constantLong own i x ∈ WS) (hx : x = Int64.ofInt z)
    (k : hs_Wd p l e fr s m args below meth c D dA SH ad A nL Post (pc + 3) lv (vL z :: st) σ) : hs_Wd p l e fr s m args below meth c D dA SH ad A nL Post pc lv st σ := by
  intro H locs ls hP hS hl
  subst hx
  exact lv_ldc2 C.1 C.2.1 C.2.2.2.1 (C.2.2.2.2.1 _ hw) hd (k H locs ls hP hS hl)
theorem s_lconst (C : hs_C p s m args meth c D dA SH ad A nL cc own ret) {n : Fin 2} {z : Int} (hd : decode cc pc = .ok (.lconst n, 1)) (hz : Int64.ofNat (n : Nat) = Int64.ofInt z)
    (k : hs_Wd p l e fr s m args below meth c D dA SH ad A nL Post (pc + 1) lv (vL z :: st) σ) : hs_Wd p l e fr s m args below meth c D dA SH ad A nL Post pc lv st σ := by
  intro H locs ls hP hS hl
  exact lv_lconst C.1 C.2.1 hd hz (k H locs ls hP hS hl)
theorem s_iload_n (C : hs_C p s m args meth c D dA SH ad A nL cc own ret) {z : Int} {i : Fin 4} (hd : decode cc pc = .ok (.iload_n i, 1)) (j : Nat) (hj : lv[j]? = some ((i : Nat), vI z))
    (k : hs_Wd p l e fr s m args below meth c D dA SH ad A nL Post (pc + 1) lv (vI z :: st) σ) : hs_Wd p l e fr s m args below meth c D dA SH ad A nL Post pc lv st σ := by
  intro H locs ls hP hS hl
  exact lv_iload_n C.1 C.2.1 hd rfl (lv_at hl j hj) (k H locs ls hP hS hl)
theorem s_iload (C : hs_C p s m args meth c D dA SH ad A nL cc own ret) {z : Int} {i : Nat} (hd : decode cc pc = .ok (.iload i, 2)) (j : Nat) (hj : lv[j]? = some (i, vI z))
    (k : hs_Wd p l e fr s m args below meth c D dA SH ad A nL Post (pc + 2) lv (vI z :: st) σ) : hs_Wd p l e fr s m args below meth c D dA SH ad A nL Post pc lv st σ := by
  intro H locs ls hP hS hl
  exact lv_iload C.1 C.2.1 hd (lv_at hl j hj) (k H locs ls hP hS hl)
theorem s_istore_n (C : hs_C p s m args meth c D dA SH ad A nL cc own ret) {z : Int} {i : Fin 4} (lv2 : List (Nat × Value)) (hd : decode cc pc = .ok (.istore_n i, 1)) (hn : (i : Nat) < nL) (h2 : ((i : Nat), Value.int (Int32.ofInt z)) :: lv.filter (fun q => !(q.1 == (i : Nat)) && !(q.1 + 1 == (i : Nat) && q.2.category == 2)) = lv2)
    (k : hs_Wd p l e fr s m args below meth c D dA SH ad A nL Post (pc + 1) lv2 st σ) : hs_Wd p l e fr s m args below meth c D dA SH ad A nL Post pc lv (vI z :: st) σ := by
  intro H locs ls hP hS hl
  exact lv_istore_n C.1 C.2.1 hd rfl hl hn h2 (fun ls hl => k H locs ls hP hS hl)
theorem s_istore (C : hs_C p s m args meth c D dA SH ad A nL cc own ret) {z : Int} {i : Nat} (lv2 : List (Nat × Value)) (hd : decode cc pc = .ok (.istore i, 2)) (hn : i < nL) (h2 : (i, Value.int (Int32.ofInt z)) :: lv.filter (fun q => !(q.1 == i) && !(q.1 + 1 == i && q.2.category == 2)) = lv2)
    (k : hs_Wd p l e fr s m args below meth c D dA SH ad A nL Post (pc + 2) lv2 st σ) : hs_Wd p l e fr s m args below meth c D dA SH ad A nL Post pc lv (vI z :: st) σ := by
  intro H locs ls hP hS hl
  exact lv_istore C.1 C.2.1 hd hl hn h2 (fun ls hl => k H locs ls hP hS hl)
theorem s_lload_n (C : hs_C p s m args meth c D dA SH ad A nL cc own ret) {z : Int} {i : Fin 4} (hd : decode cc pc = .ok (.lload_n i, 1)) (j : Nat) (hj : lv[j]? = some ((i : Nat), vL z))
    (k : hs_Wd p l e fr s m args below meth c D dA SH ad A nL Post (pc + 1) lv (vL z :: st) σ) : hs_Wd p l e fr s m args below meth c D dA SH ad A nL Post pc lv st σ := by
  intro H locs ls hP hS hl
  exact lv_lload_n C.1 C.2.1 hd rfl (lv_at hl j hj) (k H locs ls hP hS hl)
theorem s_lload (C : hs_C p s m args meth c D dA SH ad A nL cc own ret) {z : Int} {i : Nat} (hd : decode cc pc = .ok (.lload i, 2)) (j : Nat) (hj : lv[j]? = some (i, vL z))
    (k : hs_Wd p l e fr s m args below meth c D dA SH ad A nL Post (pc + 2) lv (vL z :: st) σ) : hs_Wd p l e fr s m args below meth c D dA SH ad A nL Post pc lv st σ := by
  intro H locs ls hP hS hl
  exact lv_lload C.1 C.2.1 hd (lv_at hl j hj) (k H locs ls hP hS hl)
theorem s_lstore_n (C : hs_C p s m args meth c D dA SH ad A nL cc own ret) {z : Int} {i : Fin 4} (lv2 : List (Nat × Value)) (hd : decode cc pc = .ok (.lstore_n i, 1)) (hn : (i : Nat) + 1 < nL) (h2 : ((i : Nat), Value.long (Int64.ofInt z)) :: lv.filter (fun q => !(q.1 == (i : Nat)) && (!(q.1 == (i : Nat) + 1) && !(q.1 + 1 == (i : Nat) && q.2.category == 2))) = lv2)
    (k : hs_Wd p l e fr s m args below meth c D dA SH ad A nL Post (pc + 1) lv2 st σ) : hs_Wd p l e fr s m args below meth c D dA SH ad A nL Post pc lv (vL z :: st) σ := by
  intro H locs ls hP hS hl
  exact lv_lstore_n C.1 C.2.1 hd rfl hl hn h2 (fun ls hl => k H locs ls hP hS hl)
theorem s_lstore (C : hs_C p s m args meth c D dA SH ad A nL cc own ret) {z : Int} {i : Nat} (lv2 : List (Nat × Value)) (hd : decode cc pc = .ok (.lstore i, 2)) (hn : i + 1 < nL) (h2 : (i, Value.long (Int64.ofInt z)) :: lv.filter (fun q => !(q.1 == i) && (!(q.1 == i + 1) && !(q.1 + 1 == i && q.2.category == 2))) = lv2)
    (k : hs_Wd p l e fr s m args below meth c D dA SH ad A nL Post (pc + 2) lv2 st σ) : hs_Wd p l e fr s m args below meth c D dA SH ad A nL Post pc lv (vL z :: st) σ := by
  intro H locs ls hP hS hl
  exact lv_lstore C.1 C.2.1 hd hl hn h2 (fun ls hl => k H locs ls hP hS hl)
theorem s_aload_n (C : hs_C p s m args meth c D dA SH ad A nL cc own ret) {a : Nat} {i : Fin 4} (hd : decode cc pc = .ok (.aload_n i, 1)) (j : Nat) (hj : lv[j]? = some ((i : Nat), .ref a))
    (k : hs_Wd p l e fr s m args below meth c D dA SH ad A nL Post (pc + 1) lv (.ref a :: st) σ) : hs_Wd p l e fr s m args below meth c D dA SH ad A nL Post pc lv st σ := by
  intro H locs ls hP hS hl
  exact lv_aload_n C.1 C.2.1 hd rfl (lv_at hl j hj) (k H locs ls hP hS hl)
theorem s_aload (C : hs_C p s m args meth c D dA SH ad A nL cc own ret) {a : Nat} {i : Nat} (hd : decode cc pc = .ok (.aload i, 2)) (j : Nat) (hj : lv[j]? = some (i, .ref a))
    (k : hs_Wd p l e fr s m args below meth c D dA SH ad A nL Post (pc + 2) lv (.ref a :: st) σ) : hs_Wd p l e fr s m args below meth c D dA SH ad A nL Post pc lv st σ := by
  intro H locs ls hP hS hl
  exact lv_aload C.1 C.2.1 hd (lv_at hl j hj) (k H locs ls hP hS hl)
theorem s_astore_n (C : hs_C p s m args meth c D dA SH ad A nL cc own ret) {a : Nat} {i : Fin 4} (lv2 : List (Nat × Value)) (hd : decode cc pc = .ok (.astore_n i, 1)) (hn : (i : Nat) < nL) (h2 : ((i : Nat), Value.ref a) :: lv.filter (fun q => !(q.1 == (i : Nat)) && !(q.1 + 1 == (i : Nat) && q.2.category == 2)) = lv2)
    (k : hs_Wd p l e fr s m args below meth c D dA SH ad A nL Post (pc + 1) lv2 st σ) : hs_Wd p l e fr s m args below meth c D dA SH ad A nL Post pc lv (.ref a :: st) σ := by
  intro H locs ls hP hS hl
  exact lv_astore_n C.1 C.2.1 hd rfl hl hn h2 (fun ls hl => k H locs ls hP hS hl)
theorem s_astore (C : hs_C p s m args meth c D dA SH ad A nL cc own ret) {a : Nat} {i : Nat} (lv2 : List (Nat × Value)) (hd : decode cc pc = .ok (.astore i, 2)) (hn : i < nL) (h2 : (i, Value.ref a) :: lv.filter (fun q => !(q.1 == i) && !(q.1 + 1 == i && q.2.category == 2)) = lv2)
    (k : hs_Wd p l e fr s m args below meth c D dA SH ad A nL Post (pc + 2) lv2 st σ) : hs_Wd p l e fr s m args below meth c D dA SH ad A nL Post pc lv (.ref a :: st) σ := by
  intro H locs ls hP hS hl
  exact lv_astore C.1 C.2.1 hd hl hn h2 (fun ls hl => k H locs ls hP hS hl)
theorem s_iinc (C : hs_C p s m args meth c D dA SH ad A nL cc own ret) {z n : Int} {i : Nat} (lv2 : List (Nat × Value)) (hd : decode cc pc = .ok (.iinc i n, 3)) (j : Nat) (hj : lv[j]? = some (i, vI z)) (hn : i < nL) (h2 : (i, Value.int (Int32.ofInt (z + n))) :: lv.filter (fun q => !(q.1 == i) && !(q.1 + 1 == i && q.2.category == 2)) = lv2)
    (k : hs_Wd p l e fr s m args below meth c D dA SH ad A nL Post (pc + 3) lv2 st σ) : hs_Wd p l e fr s m args below meth c D dA SH ad A nL Post pc lv st σ := by
  intro H locs ls hP hS hl
  exact lv_iinc C.1 C.2.1 hd hl (k := j) hj (Int32.ofInt_add z n).symm hn h2 (fun ls hl => k H locs ls hP hS hl)
theorem s_iadd (C : hs_C p s m args meth c D dA SH ad A nL cc own ret) {a b : Int} (hd : decode cc pc = .ok (.iadd, 1))
    (k : hs_Wd p l e fr s m args below meth c D dA SH ad A nL Post (pc + 1) lv (vI (a + b) :: st) σ) : hs_Wd p l e fr s m args below meth c D dA SH ad A nL Post pc lv (vI b :: vI a :: st) σ := by
  intro H locs ls hP hS hl
  exact lv_iadd C.1 C.2.1 hd (by rw [← Int32.ofInt_add]; exact k H locs ls hP hS hl)
theorem s_isub (C : hs_C p s m args meth c D dA SH ad A nL cc own ret) {a b : Int} (hd : decode cc pc = .ok (.isub, 1))
    (k : hs_Wd p l e fr s m args below meth c D dA SH ad A nL Post (pc + 1) lv (vI (a - b) :: st) σ) : hs_Wd p l e fr s m args below meth c D dA SH ad A nL Post pc lv (vI b :: vI a :: st) σ := by
  intro H locs ls hP hS hl
  exact lv_isub C.1 C.2.1 hd (by rw [← Int32.ofInt_sub]; exact k H locs ls hP hS hl)
theorem s_imul (C : hs_C p s m args meth c D dA SH ad A nL cc own ret) {a b : Int} (hd : decode cc pc = .ok (.imul, 1))
    (k : hs_Wd p l e fr s m args below meth c D dA SH ad A nL Post (pc + 1) lv (vI (a * b) :: st) σ) : hs_Wd p l e fr s m args below meth c D dA SH ad A nL Post pc lv (vI b :: vI a :: st) σ := by
  intro H locs ls hP hS hl
  exact lv_imul C.1 C.2.1 hd (by rw [← Int32.ofInt_mul]; exact k H locs ls hP hS hl)
theorem s_ladd (C : hs_C p s m args meth c D dA SH ad A nL cc own ret) {a b : Int} (hd : decode cc pc = .ok (.ladd, 1))
    (k : hs_Wd p l e fr s m args below meth c D dA SH ad A nL Post (pc + 1) lv (vL (a + b) :: st) σ) : hs_Wd p l e fr s m args below meth c D dA SH ad A nL Post pc lv (vL b :: vL a :: st) σ := by
  intro H locs ls hP hS hl
  exact lv_ladd C.1 C.2.1 hd (by rw [← Int64.ofInt_add]; exact k H locs ls hP hS hl)
theorem s_lsub (C : hs_C p s m args meth c D dA SH ad A nL cc own ret) {a b : Int} (hd : decode cc pc = .ok (.lsub, 1))
    (k : hs_Wd p l e fr s m args below meth c D dA SH ad A nL Post (pc + 1) lv (vL (a - b) :: st) σ) : hs_Wd p l e fr s m args below meth c D dA SH ad A nL Post pc lv (vL b :: vL a :: st) σ := by
  intro H locs ls hP hS hl
  exact lv_lsub C.1 C.2.1 hd (by rw [← Int64.ofInt_sub]; exact k H locs ls hP hS hl)
theorem s_lmul (C : hs_C p s m args meth c D dA SH ad A nL cc own ret) {a b : Int} (hd : decode cc pc = .ok (.lmul, 1))
    (k : hs_Wd p l e fr s m args below meth c D dA SH ad A nL Post (pc + 1) lv (vL (a * b) :: st) σ) : hs_Wd p l e fr s m args below meth c D dA SH ad A nL Post pc lv (vL b :: vL a :: st) σ := by
  intro H locs ls hP hS hl
  exact lv_lmul C.1 C.2.1 hd (by rw [← Int64.ofInt_mul]; exact k H locs ls hP hS hl)
theorem s_ineg (C : hs_C p s m args meth c D dA SH ad A nL cc own ret) {a : Int} (hd : decode cc pc = .ok (.ineg, 1))
    (k : hs_Wd p l e fr s m args below meth c D dA SH ad A nL Post (pc + 1) lv (vI (-a) :: st) σ) : hs_Wd p l e fr s m args below meth c D dA SH ad A nL Post pc lv (vI a :: st) σ := by
  intro H locs ls hP hS hl
  exact lv_ineg C.1 C.2.1 hd (by rw [← Int32.ofInt_neg]; exact k H locs ls hP hS hl)
theorem s_idiv (C : hs_C p s m args meth c D dA SH ad A nL cc own ret) {a b : Int} (hd : decode cc pc = .ok (.idiv, 1)) (ha : hs_R a) (hb : hs_R b) (h0 : ¬ b = 0)
    (k : hs_Wd p l e fr s m args below meth c D dA SH ad A nL Post (pc + 1) lv (vI (a.tdiv b) :: st) σ) : hs_Wd p l e fr s m args below meth c D dA SH ad A nL Post pc lv (vI b :: vI a :: st) σ := by
  intro H locs ls hP hS hl
  exact lv_idiv C.1 C.2.1 hd (fun q => h0 ((hs_eq0 hb).mp q)) (by rw [hs_div ha hb]; exact k H locs ls hP hS hl)
theorem s_irem (C : hs_C p s m args meth c D dA SH ad A nL cc own ret) {a b : Int} (hd : decode cc pc = .ok (.irem, 1)) (ha : hs_R a) (hb : hs_R b) (h0 : ¬ b = 0)
    (k : hs_Wd p l e fr s m args below meth c D dA SH ad A nL Post (pc + 1) lv (vI (a.tmod b) :: st) σ) : hs_Wd p l e fr s m args below meth c D dA SH ad A nL Post pc lv (vI b :: vI a :: st) σ := by
  intro H locs ls hP hS hl
  exact lv_irem C.1 C.2.1 hd (fun q => h0 ((hs_eq0 hb).mp q)) (by rw [hs_rem ha hb]; exact k H locs ls hP hS hl)
theorem s_iand (C : hs_C p s m args meth c D dA SH ad A nL cc own ret) {a b : Int} (hd : decode cc pc = .ok (.iand, 1))
    (k : ∀ z : Int, hs_R z → z = (Int32.ofInt a &&& Int32.ofInt b).toInt → hs_Wd p l e fr s m args below meth c D dA SH ad A nL Post (pc + 1) lv (vI z :: st) σ) : hs_Wd p l e fr s m args below meth c D dA SH ad A nL Post pc lv (vI b :: vI a :: st) σ := by
  intro H locs ls hP hS hl
  exact lv_iand C.1 C.2.1 hd (by rw [← Int32.ofInt_toInt (Int32.ofInt a &&& Int32.ofInt b)]; exact k (Int32.ofInt a &&& Int32.ofInt b).toInt (hs_oR _) rfl H locs ls hP hS hl)
theorem s_ior (C : hs_C p s m args meth c D dA SH ad A nL cc own ret) {a b : Int} (hd : decode cc pc = .ok (.ior, 1))
    (k : ∀ z : Int, hs_R z → z = (Int32.ofInt a ||| Int32.ofInt b).toInt → hs_Wd p l e fr s m args below meth c D dA SH ad A nL Post (pc + 1) lv (vI z :: st) σ) : hs_Wd p l e fr s m args below meth c D dA SH ad A nL Post pc lv (vI b :: vI a :: st) σ := by
  intro H locs ls hP hS hl
  exact lv_ior C.1 C.2.1 hd (by rw [← Int32.ofInt_toInt (Int32.ofInt a ||| Int32.ofInt b)]; exact k (Int32.ofInt a ||| Int32.ofInt b).toInt (hs_oR _) rfl H locs ls hP hS hl)
theorem s_ixor (C : hs_C p s m args meth c D dA SH ad A nL cc own ret) {a b : Int} (hd : decode cc pc = .ok (.ixor, 1))
    (k : ∀ z : Int, hs_R z → z = (Int32.ofInt a ^^^ Int32.ofInt b).toInt → hs_Wd p l e fr s m args below meth c D dA SH ad A nL Post (pc + 1) lv (vI z :: st) σ) : hs_Wd p l e fr s m args below meth c D dA SH ad A nL Post pc lv (vI b :: vI a :: st) σ := by
  intro H locs ls hP hS hl
  exact lv_ixor C.1 C.2.1 hd (by rw [← Int32.ofInt_toInt (Int32.ofInt a ^^^ Int32.ofInt b)]; exact k (Int32.ofInt a ^^^ Int32.ofInt b).toInt (hs_oR _) rfl H locs ls hP hS hl)
theorem s_ishl (C : hs_C p s m args meth c D dA SH ad A nL cc own ret) {a b : Int} (hd : decode cc pc = .ok (.ishl, 1))
    (k : ∀ z : Int, hs_R z → z = (Int32.ofInt a <<< (Int32.ofInt b &&& 31)).toInt → hs_Wd p l e fr s m args below meth c D dA SH ad A nL Post (pc + 1) lv (vI z :: st) σ) : hs_Wd p l e fr s m args below meth c D dA SH ad A nL Post pc lv (vI b :: vI a :: st) σ := by
  intro H locs ls hP hS hl
  exact lv_ishl C.1 C.2.1 hd (by rw [← Int32.ofInt_toInt (Int32.ofInt a <<< (Int32.ofInt b &&& 31))]; exact k (Int32.ofInt a <<< (Int32.ofInt b &&& 31)).toInt (hs_oR _) rfl H locs ls hP hS hl)
theorem s_ishr (C : hs_C p s m args meth c D dA SH ad A nL cc own ret) {a b : Int} (hd : decode cc pc = .ok (.ishr, 1))
    (k : ∀ z : Int, hs_R z → z = (Int32.ofInt a >>> (Int32.ofInt b &&& 31)).toInt → hs_Wd p l e fr s m args below meth c D dA SH ad A nL Post (pc + 1) lv (vI z :: st) σ) : hs_Wd p l e fr s m args below meth c D dA SH ad A nL Post pc lv (vI b :: vI a :: st) σ := by
  intro H locs ls hP hS hl
  exact lv_ishr C.1 C.2.1 hd (by rw [← Int32.ofInt_toInt (Int32.ofInt a >>> (Int32.ofInt b &&& 31))]; exact k (Int32.ofInt a >>> (Int32.ofInt b &&& 31)).toInt (hs_oR _) rfl H locs ls hP hS hl)
theorem s_i2l (C : hs_C p s m args meth c D dA SH ad A nL cc own ret) {a : Int} (hd : decode cc pc = .ok (.i2l, 1)) (ha : hs_R a)
    (k : hs_Wd p l e fr s m args below meth c D dA SH ad A nL Post (pc + 1) lv (vL a :: st) σ) : hs_Wd p l e fr s m args below meth c D dA SH ad A nL Post pc lv (vI a :: st) σ := by
  intro H locs ls hP hS hl
  exact lv_i2l C.1 C.2.1 hd (Int32.toInt64_ofInt (by have := ha.1; have e : Int32.minValue.toInt = -2147483648 := (by decide); omega) (by have := ha.2; have e : Int32.maxValue.toInt = 2147483647 := (by decide); omega)) (k H locs ls hP hS hl)
theorem s_l2i (C : hs_C p s m args meth c D dA SH ad A nL cc own ret) {a : Int} (hd : decode cc pc = .ok (.l2i, 1))
    (k : hs_Wd p l e fr s m args below meth c D dA SH ad A nL Post (pc + 1) lv (vI a :: st) σ) : hs_Wd p l e fr s m args below meth c D dA SH ad A nL Post pc lv (vL a :: st) σ := by
  intro H locs ls hP hS hl
  exact lv_l2i C.1 C.2.1 hd Int64.toInt32_ofInt (k H locs ls hP hS hl)
theorem s_i2b (C : hs_C p s m args meth c D dA SH ad A nL cc own ret) {a : Int} (hd : decode cc pc = .ok (.i2b, 1))
    (k : hs_Wd p l e fr s m args below meth c D dA SH ad A nL Post (pc + 1) lv (vI (Int8.ofInt a).toInt :: st) σ) : hs_Wd p l e fr s m args below meth c D dA SH ad A nL Post pc lv (vI a :: st) σ := by
  intro H locs ls hP hS hl
  exact lv_i2b C.1 C.2.1 hd (by rw [Int32.toInt8_ofInt, Int32.ofInt_int8ToInt]) (k H locs ls hP hS hl)
theorem s_dup (C : hs_C p s m args meth c D dA SH ad A nL cc own ret) {v : Value} (hd : decode cc pc = .ok (.dup, 1)) (hv : v.category = 1)
    (k : hs_Wd p l e fr s m args below meth c D dA SH ad A nL Post (pc + 1) lv (v :: v :: st) σ) : hs_Wd p l e fr s m args below meth c D dA SH ad A nL Post pc lv (v :: st) σ := by
  intro H locs ls hP hS hl
  exact lv_dup C.1 C.2.1 hd hv (k H locs ls hP hS hl)
theorem s_pop (C : hs_C p s m args meth c D dA SH ad A nL cc own ret) {v : Value} (hd : decode cc pc = .ok (.pop, 1)) (hv : v.category = 1)
    (k : hs_Wd p l e fr s m args below meth c D dA SH ad A nL Post (pc + 1) lv st σ) : hs_Wd p l e fr s m args below meth c D dA SH ad A nL Post pc lv (v :: st) σ := by
  intro H locs ls hP hS hl
  exact lv_pop C.1 C.2.1 hd hv (k H locs ls hP hS hl)
theorem s_dup2 (C : hs_C p s m args meth c D dA SH ad A nL cc own ret) {v w : Value} (hd : decode cc pc = .ok (.dup2, 1)) (hv : v.category = 1) (hw : w.category = 1)
    (k : hs_Wd p l e fr s m args below meth c D dA SH ad A nL Post (pc + 1) lv (v :: w :: v :: w :: st) σ) : hs_Wd p l e fr s m args below meth c D dA SH ad A nL Post pc lv (v :: w :: st) σ := by
  intro H locs ls hP hS hl
  exact lv_dup2_11 C.1 C.2.1 hd hv hw (k H locs ls hP hS hl)
theorem s_goto (C : hs_C p s m args meth c D dA SH ad A nL cc own ret) {off : Int} {tgt : Nat} (hd : decode cc pc = .ok (.goto off, 3)) (ht : (pc : Int) + off = (tgt : Int))
    (k : hs_Wd p l e fr s m args below meth c D dA SH ad A nL Post tgt lv st σ) : hs_Wd p l e fr s m args below meth c D dA SH ad A nL Post pc lv st σ := by
  intro H locs ls hP hS hl
  exact lv_goto C.1 C.2.1 hd ht (k H locs ls hP hS hl)
theorem s_icmp_eq (C : hs_C p s m args meth c D dA SH ad A nL cc own ret) {a b off : Int} {tgt : Nat} (hd : decode cc pc = .ok (.if_icmp .eq off, 3)) (ht : (pc : Int) + off = (tgt : Int)) (ha : hs_R a) (hb : hs_R b)
    (kt : a = b → hs_Wd p l e fr s m args below meth c D dA SH ad A nL Post tgt lv st σ) (kf : ¬ (a = b) → hs_Wd p l e fr s m args below meth c D dA SH ad A nL Post (pc + 3) lv st σ) : hs_Wd p l e fr s m args below meth c D dA SH ad A nL Post pc lv (vI b :: vI a :: st) σ := by
  intro H locs ls hP hS hl
  exact lv_icmp_eq C.1 C.2.1 hd ht (fun h => kt ((hs_eq ha hb).mp h) H locs ls hP hS hl) (fun h => kf (fun q => h ((hs_eq ha hb).mpr q)) H locs ls hP hS hl)
theorem s_icmp_ne (C : hs_C p s m args meth c D dA SH ad A nL cc own ret) {a b off : Int} {tgt : Nat} (hd : decode cc pc = .ok (.if_icmp .ne off, 3)) (ht : (pc : Int) + off = (tgt : Int)) (ha : hs_R a) (hb : hs_R b)
    (kt : ¬ a = b → hs_Wd p l e fr s m args below meth c D dA SH ad A nL Post tgt lv st σ) (kf : a = b → hs_Wd p l e fr s m args below meth c D dA SH ad A nL Post (pc + 3) lv st σ) : hs_Wd p l e fr s m args below meth c D dA SH ad A nL Post pc lv (vI b :: vI a :: st) σ := by
  intro H locs ls hP hS hl
  exact lv_icmp_ne C.1 C.2.1 hd ht (fun h => kt (fun q => h ((hs_eq ha hb).mpr q)) H locs ls hP hS hl) (fun h => kf ((hs_eq ha hb).mp h) H locs ls hP hS hl)
theorem s_icmp_lt (C : hs_C p s m args meth c D dA SH ad A nL cc own ret) {a b off : Int} {tgt : Nat} (hd : decode cc pc = .ok (.if_icmp .lt off, 3)) (ht : (pc : Int) + off = (tgt : Int)) (ha : hs_R a) (hb : hs_R b)
    (kt : a < b → hs_Wd p l e fr s m args below meth c D dA SH ad A nL Post tgt lv st σ) (kf : ¬ (a < b) → hs_Wd p l e fr s m args below meth c D dA SH ad A nL Post (pc + 3) lv st σ) : hs_Wd p l e fr s m args below meth c D dA SH ad A nL Post pc lv (vI b :: vI a :: st) σ := by
  intro H locs ls hP hS hl
  exact lv_icmp_lt C.1 C.2.1 hd ht (fun h => kt ((hs_lt ha hb).mp h) H locs ls hP hS hl) (fun h => kf (fun q => h ((hs_lt ha hb).mpr q)) H locs ls hP hS hl)
theorem s_icmp_ge (C : hs_C p s m args meth c D dA SH ad A nL cc own ret) {a b off : Int} {tgt : Nat} (hd : decode cc pc = .ok (.if_icmp .ge off, 3)) (ht : (pc : Int) + off = (tgt : Int)) (ha : hs_R a) (hb : hs_R b)
    (kt : b ≤ a → hs_Wd p l e fr s m args below meth c D dA SH ad A nL Post tgt lv st σ) (kf : ¬ (b ≤ a) → hs_Wd p l e fr s m args below meth c D dA SH ad A nL Post (pc + 3) lv st σ) : hs_Wd p l e fr s m args below meth c D dA SH ad A nL Post pc lv (vI b :: vI a :: st) σ := by
  intro H locs ls hP hS hl
  exact lv_icmp_ge C.1 C.2.1 hd ht (fun h => kt ((hs_le hb ha).mp h) H locs ls hP hS hl) (fun h => kf (fun q => h ((hs_le hb ha).mpr q)) H locs ls hP hS hl)
theorem s_icmp_gt (C : hs_C p s m args meth c D dA SH ad A nL cc own ret) {a b off : Int} {tgt : Nat} (hd : decode cc pc = .ok (.if_icmp .gt off, 3)) (ht : (pc : Int) + off = (tgt : Int)) (ha : hs_R a) (hb : hs_R b)
    (kt : b < a → hs_Wd p l e fr s m args below meth c D dA SH ad A nL Post tgt lv st σ) (kf : ¬ (b < a) → hs_Wd p l e fr s m args below meth c D dA SH ad A nL Post (pc + 3) lv st σ) : hs_Wd p l e fr s m args below meth c D dA SH ad A nL Post pc lv (vI b :: vI a :: st) σ := by
  intro H locs ls hP hS hl
  exact lv_icmp_gt C.1 C.2.1 hd ht (fun h => kt ((hs_lt hb ha).mp h) H locs ls hP hS hl) (fun h => kf (fun q => h ((hs_lt hb ha).mpr q)) H locs ls hP hS hl)
theorem s_icmp_le (C : hs_C p s m args meth c D dA SH ad A nL cc own ret) {a b off : Int} {tgt : Nat} (hd : decode cc pc = .ok (.if_icmp .le off, 3)) (ht : (pc : Int) + off = (tgt : Int)) (ha : hs_R a) (hb : hs_R b)
    (kt : a ≤ b → hs_Wd p l e fr s m args below meth c D dA SH ad A nL Post tgt lv st σ) (kf : ¬ (a ≤ b) → hs_Wd p l e fr s m args below meth c D dA SH ad A nL Post (pc + 3) lv st σ) : hs_Wd p l e fr s m args below meth c D dA SH ad A nL Post pc lv (vI b :: vI a :: st) σ := by
  intro H locs ls hP hS hl
  exact lv_icmp_le C.1 C.2.1 hd ht (fun h => kt ((hs_le ha hb).mp h) H locs ls hP hS hl) (fun h => kf (fun q => h ((hs_le ha hb).mpr q)) H locs ls hP hS hl)
theorem s_if_eq (C : hs_C p s m args meth c D dA SH ad A nL cc own ret) {a off : Int} {tgt : Nat} (hd : decode cc pc = .ok (.ifCond .eq off, 3)) (ht : (pc : Int) + off = (tgt : Int)) (ha : hs_R a)
    (kt : a = 0 → hs_Wd p l e fr s m args below meth c D dA SH ad A nL Post tgt lv st σ) (kf : ¬ (a = 0) → hs_Wd p l e fr s m args below meth c D dA SH ad A nL Post (pc + 3) lv st σ) : hs_Wd p l e fr s m args below meth c D dA SH ad A nL Post pc lv (vI a :: st) σ := by
  intro H locs ls hP hS hl
  exact lv_if_eq C.1 C.2.1 hd ht (fun h => kt ((hs_eq0 ha).mp h) H locs ls hP hS hl) (fun h => kf (fun q => h ((hs_eq0 ha).mpr q)) H locs ls hP hS hl)
theorem s_if_ne (C : hs_C p s m args meth c D dA SH ad A nL cc own ret) {a off : Int} {tgt : Nat} (hd : decode cc pc = .ok (.ifCond .ne off, 3)) (ht : (pc : Int) + off = (tgt : Int)) (ha : hs_R a)
    (kt : ¬ a = 0 → hs_Wd p l e fr s m args below meth c D dA SH ad A nL Post tgt lv st σ) (kf : a = 0 → hs_Wd p l e fr s m args below meth c D dA SH ad A nL Post (pc + 3) lv st σ) : hs_Wd p l e fr s m args below meth c D dA SH ad A nL Post pc lv (vI a :: st) σ := by
  intro H locs ls hP hS hl
  exact lv_if_ne C.1 C.2.1 hd ht (fun h => kt (fun q => h ((hs_eq0 ha).mpr q)) H locs ls hP hS hl) (fun h => kf ((hs_eq0 ha).mp h) H locs ls hP hS hl)
theorem s_if_lt (C : hs_C p s m args meth c D dA SH ad A nL cc own ret) {a off : Int} {tgt : Nat} (hd : decode cc pc = .ok (.ifCond .lt off, 3)) (ht : (pc : Int) + off = (tgt : Int)) (ha : hs_R a)
    (kt : a < 0 → hs_Wd p l e fr s m args below meth c D dA SH ad A nL Post tgt lv st σ) (kf : ¬ (a < 0) → hs_Wd p l e fr s m args below meth c D dA SH ad A nL Post (pc + 3) lv st σ) : hs_Wd p l e fr s m args below meth c D dA SH ad A nL Post pc lv (vI a :: st) σ := by
  intro H locs ls hP hS hl
  exact lv_if_lt C.1 C.2.1 hd ht (fun h => kt ((hs_lt0 ha).mp h) H locs ls hP hS hl) (fun h => kf (fun q => h ((hs_lt0 ha).mpr q)) H locs ls hP hS hl)
theorem s_if_ge (C : hs_C p s m args meth c D dA SH ad A nL cc own ret) {a off : Int} {tgt : Nat} (hd : decode cc pc = .ok (.ifCond .ge off, 3)) (ht : (pc : Int) + off = (tgt : Int)) (ha : hs_R a)
    (kt : 0 ≤ a → hs_Wd p l e fr s m args below meth c D dA SH ad A nL Post tgt lv st σ) (kf : ¬ (0 ≤ a) → hs_Wd p l e fr s m args below meth c D dA SH ad A nL Post (pc + 3) lv st σ) : hs_Wd p l e fr s m args below meth c D dA SH ad A nL Post pc lv (vI a :: st) σ := by
  intro H locs ls hP hS hl
  exact lv_if_ge C.1 C.2.1 hd ht (fun h => kt ((hs_0le ha).mp h) H locs ls hP hS hl) (fun h => kf (fun q => h ((hs_0le ha).mpr q)) H locs ls hP hS hl)
theorem s_if_gt (C : hs_C p s m args meth c D dA SH ad A nL cc own ret) {a off : Int} {tgt : Nat} (hd : decode cc pc = .ok (.ifCond .gt off, 3)) (ht : (pc : Int) + off = (tgt : Int)) (ha : hs_R a)
    (kt : 0 < a → hs_Wd p l e fr s m args below meth c D dA SH ad A nL Post tgt lv st σ) (kf : ¬ (0 < a) → hs_Wd p l e fr s m args below meth c D dA SH ad A nL Post (pc + 3) lv st σ) : hs_Wd p l e fr s m args below meth c D dA SH ad A nL Post pc lv (vI a :: st) σ := by
  intro H locs ls hP hS hl
  exact lv_if_gt C.1 C.2.1 hd ht (fun h => kt ((hs_0lt ha).mp h) H locs ls hP hS hl) (fun h => kf (fun q => h ((hs_0lt ha).mpr q)) H locs ls hP hS hl)
theorem s_if_le (C : hs_C p s m args meth c D dA SH ad A nL cc own ret) {a off : Int} {tgt : Nat} (hd : decode cc pc = .ok (.ifCond .le off, 3)) (ht : (pc : Int) + off = (tgt : Int)) (ha : hs_R a)
    (kt : a ≤ 0 → hs_Wd p l e fr s m args below meth c D dA SH ad A nL Post tgt lv st σ) (kf : ¬ (a ≤ 0) → hs_Wd p l e fr s m args below meth c D dA SH ad A nL Post (pc + 3) lv st σ) : hs_Wd p l e fr s m args below meth c D dA SH ad A nL Post pc lv (vI a :: st) σ := by
  intro H locs ls hP hS hl
  exact lv_if_le C.1 C.2.1 hd ht (fun h => kt ((hs_le0 ha).mp h) H locs ls hP hS hl) (fun h => kf (fun q => h ((hs_le0 ha).mpr q)) H locs ls hP hS hl)
theorem s_swOut (C : hs_C p s m args meth c D dA SH ad A nL cc own ret) {a dflt lo hi : Int} {offs : Array Int} {len tgt : Nat} (hd : decode cc pc = .ok (.tableswitch dflt lo hi offs, len)) (ha : hs_R a) (h : a < lo ∨ hi < a) (ht : (pc : Int) + dflt = (tgt : Int))
    (k : hs_Wd p l e fr s m args below meth c D dA SH ad A nL Post tgt lv st σ) : hs_Wd p l e fr s m args below meth c D dA SH ad A nL Post pc lv (vI a :: st) σ := by
  intro H locs ls hP hS hl
  exact lv_tableOut C.1 C.2.1 hd (by rw [hs_ti ha]; exact h) ht (k H locs ls hP hS hl)
theorem s_swIn (C : hs_C p s m args meth c D dA SH ad A nL cc own ret) {a dflt lo hi : Int} {offs : Array Int} {len tgt : Nat} {off : Int} (hd : decode cc pc = .ok (.tableswitch dflt lo hi offs, len)) (ha : hs_R a) (h1 : ¬ a < lo) (h2 : ¬ hi < a) (ho : offs[(a - lo).toNat]? = some off) (ht : (pc : Int) + off = (tgt : Int))
    (k : hs_Wd p l e fr s m args below meth c D dA SH ad A nL Post tgt lv st σ) : hs_Wd p l e fr s m args below meth c D dA SH ad A nL Post pc lv (vI a :: st) σ := by
  intro H locs ls hP hS hl
  exact lv_tableIn C.1 C.2.1 hd (by rw [hs_ti ha]; exact h1) (by rw [hs_ti ha]; exact h2) (by rw [hs_ti ha]; exact ho) ht (k H locs ls hP hS hl)
theorem s_lcmp (C : hs_C p s m args meth c D dA SH ad A nL cc own ret) {a b : Int} (hd : decode cc pc = .ok (.lcmp, 1)) (ha : hs_RL a) (hb : hs_RL b)
    (k : ∀ z : Int, hs_R z → (z < 0 ↔ a < b) → (z = 0 ↔ a = b) → (0 < z ↔ b < a) → hs_Wd p l e fr s m args below meth c D dA SH ad A nL Post (pc + 1) lv (vI z :: st) σ) : hs_Wd p l e fr s m args below meth c D dA SH ad A nL Post pc lv (vL b :: vL a :: st) σ := by
  intro H locs ls hP hS hl
  obtain ⟨h1, h2, h3, h4⟩ := hs_lcmp ha hb
  exact W.lcmp C.1 C.2.1 hd (by rw [← Int32.ofInt_toInt (lg_cmp (Int64.ofInt a) (Int64.ofInt b))]; exact k _ h1 h2 h3 h4 H locs ls hP hS hl)
theorem s_geti (C : hs_C p s m args meth c D dA SH ad A nL cc own ret) {q ci N i x : Nat} {fl : List (Nat × Nat)} {CN ref : String} {T : u_T} (f : Nat) (hd : decode cc pc = .ok (.getfield i, 3)) (hw : Cond.fieldLink own i ref (T f).2.1 (T f).2.2.1 ∈ WS) (hsh : SH[q]? = some (0, ci, fl)) (hf : fl[f]? = some (0, x)) (hc : vwCl[ci]? = some (CN, T, N)) (hin : ∀ w ∈ u_ws CN T N, w ∈ WS) (hk : f < N) (hr : ref = (T f).1) (z : Int) (hz : σ q f = z)
    (k : hs_Wd p l e fr s m args below meth c D dA SH ad A nL Post (pc + 3) lv (vI z :: st) σ) : hs_Wd p l e fr s m args below meth c D dA SH ad A nL Post pc lv (.ref (ad q) :: st) σ := by
  intro H locs ls hP hS hl
  subst hr
  subst hz
  exact va_get C.1 C.2.1 (Ts := WS) C.2.2.2.2.1 hin C.2.2.2.1 C.2.2.2.2.2.1.1.1 hP q (hs_W_get hsh) hc f hk (C.2.2.2.2.1 _ hw) (fun _ h => h) (by simp [hs_E, List.getElem?_mapIdx, hf, hs_fv]) hd (k H locs ls hP hS hl)
theorem s_getl (C : hs_C p s m args meth c D dA SH ad A nL cc own ret) {q ci N i x : Nat} {fl : List (Nat × Nat)} {CN ref : String} {T : u_T} (f : Nat) (hd : decode cc pc = .ok (.getfield i, 3)) (hw : Cond.fieldLink own i ref (T f).2.1 (T f).2.2.1 ∈ WS) (hsh : SH[q]? = some (0, ci, fl)) (hf : fl[f]? = some (1, x)) (hc : vwCl[ci]? = some (CN, T, N)) (hin : ∀ w ∈ u_ws CN T N, w ∈ WS) (hk : f < N) (hr : ref = (T f).1) (z : Int) (hz : σ q f = z)
    (k : hs_Wd p l e fr s m args below meth c D dA SH ad A nL Post (pc + 3) lv (vL z :: st) σ) : hs_Wd p l e fr s m args below meth c D dA SH ad A nL Post pc lv (.ref (ad q) :: st) σ := by
  intro H locs ls hP hS hl
  subst hr
  subst hz
  exact va_get C.1 C.2.1 (Ts := WS) C.2.2.2.2.1 hin C.2.2.2.1 C.2.2.2.2.2.1.1.1 hP q (hs_W_get hsh) hc f hk (C.2.2.2.2.1 _ hw) (fun _ h => h) (by simp [hs_E, List.getElem?_mapIdx, hf, hs_fv]) hd (k H locs ls hP hS hl)
theorem s_getr (C : hs_C p s m args meth c D dA SH ad A nL cc own ret) {q ci N i x : Nat} {fl : List (Nat × Nat)} {CN ref : String} {T : u_T} (f : Nat) (hd : decode cc pc = .ok (.getfield i, 3)) (hw : Cond.fieldLink own i ref (T f).2.1 (T f).2.2.1 ∈ WS) (hsh : SH[q]? = some (0, ci, fl)) (hf : fl[f]? = some (2, x)) (hc : vwCl[ci]? = some (CN, T, N)) (hin : ∀ w ∈ u_ws CN T N, w ∈ WS) (hk : f < N) (hr : ref = (T f).1)
    (k : hs_Wd p l e fr s m args below meth c D dA SH ad A nL Post (pc + 3) lv (.ref (ad x) :: st) σ) : hs_Wd p l e fr s m args below meth c D dA SH ad A nL Post pc lv (.ref (ad q) :: st) σ := by
  intro H locs ls hP hS hl
  subst hr
  exact va_get C.1 C.2.1 (Ts := WS) C.2.2.2.2.1 hin C.2.2.2.1 C.2.2.2.2.2.1.1.1 hP q (hs_W_get hsh) hc f hk (C.2.2.2.2.1 _ hw) (fun _ h => h) (by simp [hs_E, List.getElem?_mapIdx, hf, hs_fv]) hd (k H locs ls hP hS hl)
theorem s_puti (C : hs_C p s m args meth c D dA SH ad A nL cc own ret) {q ci N i x : Nat} {z : Int} {fl : List (Nat × Nat)} {CN ref : String} {T : u_T} {ty0 : Nat → FieldType} {ty : FieldType} (f : Nat) (hd : decode cc pc = .ok (.putfield i, 3)) (hw : Cond.fieldLink own i ref (T f).2.1 (T f).2.2.1 ∈ WS) (hsh : SH[q]? = some (0, ci, fl)) (hf : fl[f]? = some (0, x)) (hc : vwCl[ci]? = some (CN, T, N)) (hin : ∀ w ∈ u_ws CN T N, w ∈ WS) (hty : ∀ k, k < N → parseFieldDescriptor (T k).2.2.1 = some (ty0 k)) (hnm : ∀ a, a < N → ∀ b, b < N → a ≠ b → (T a).2.1 ≠ (T b).2.1) (hk : f < N) (hr : ref = (T f).1) (hfin : (T f).2.2.2 = false) (ht : ty0 f = ty) (hn : narrow ty (vI z) = vI z) (hfit : fits ty (vI z) = true)
    (k : hs_Wd p l e fr s m args below meth c D dA SH ad A nL Post (pc + 3) lv st (hs_ss σ q f z)) : hs_Wd p l e fr s m args below meth c D dA SH ad A nL Post pc lv (vI z :: .ref (ad q) :: st) σ := by
  intro H locs ls hP hS hl
  subst hr
  refine va_put C.1 C.2.1 (Ts := WS) C.2.2.2.2.1 hin ty0 hty hnm C.2.2.2.1 C.2.2.2.2.2.1.1.1 hP (C.2.2.2.2.2.2.1 σ) hS q (hs_W_get hsh) hc f hk (C.2.2.2.2.1 _ hw) (fun _ h => h) hfin (ty := ty) (by rw [hty f hk, ht]) hn hfit (by rw [List.length_mapIdx]; exact (List.getElem?_eq_some_iff.mp hf).1) hd (fun H1 locs1 hP1 _ hS1 => k H1 locs1 ls ?_ hS1 hl)
  rw [hs_W_set (z := z) (k := f) hsh (by simp only [hs_E, if_pos]; rw [hs_fl_set hf])] at hP1
  exact hP1
theorem s_putl (C : hs_C p s m args meth c D dA SH ad A nL cc own ret) {q ci N i x : Nat} {z : Int} {fl : List (Nat × Nat)} {CN ref : String} {T : u_T} {ty0 : Nat → FieldType} {ty : FieldType} (f : Nat) (hd : decode cc pc = .ok (.putfield i, 3)) (hw : Cond.fieldLink own i ref (T f).2.1 (T f).2.2.1 ∈ WS) (hsh : SH[q]? = some (0, ci, fl)) (hf : fl[f]? = some (1, x)) (hc : vwCl[ci]? = some (CN, T, N)) (hin : ∀ w ∈ u_ws CN T N, w ∈ WS) (hty : ∀ k, k < N → parseFieldDescriptor (T k).2.2.1 = some (ty0 k)) (hnm : ∀ a, a < N → ∀ b, b < N → a ≠ b → (T a).2.1 ≠ (T b).2.1) (hk : f < N) (hr : ref = (T f).1) (hfin : (T f).2.2.2 = false) (ht : ty0 f = ty) (hn : narrow ty (vL z) = vL z) (hfit : fits ty (vL z) = true)
    (k : hs_Wd p l e fr s m args below meth c D dA SH ad A nL Post (pc + 3) lv st (hs_ss σ q f z)) : hs_Wd p l e fr s m args below meth c D dA SH ad A nL Post pc lv (vL z :: .ref (ad q) :: st) σ := by
  intro H locs ls hP hS hl
  subst hr
  refine va_put C.1 C.2.1 (Ts := WS) C.2.2.2.2.1 hin ty0 hty hnm C.2.2.2.1 C.2.2.2.2.2.1.1.1 hP (C.2.2.2.2.2.2.1 σ) hS q (hs_W_get hsh) hc f hk (C.2.2.2.2.1 _ hw) (fun _ h => h) hfin (ty := ty) (by rw [hty f hk, ht]) hn hfit (by rw [List.length_mapIdx]; exact (List.getElem?_eq_some_iff.mp hf).1) hd (fun H1 locs1 hP1 _ hS1 => k H1 locs1 ls ?_ hS1 hl)
  rw [hs_W_set (z := z) (k := f) hsh (by simp only [hs_E, if_pos]; rw [hs_fl_setL hf])] at hP1
  exact hP1
theorem s_getiN (C : hs_C p s m args meth c D dA SH ad A nL cc own ret) {host : String} {q ci N i x : Nat} {fl : List (Nat × Nat)} {CN ref : String} {T : u_T} (f : Nat) (hd : decode cc pc = .ok (.getfield i, 3)) (hw : Cond.fieldLinkNest own i ref (T f).2.1 (T f).2.2.1 host ∈ NWS) (hsh : SH[q]? = some (0, ci, fl)) (hf : fl[f]? = some (0, x)) (hc : vwCl[ci]? = some (CN, T, N)) (hin : ∀ w ∈ u_ws CN T N, w ∈ WS) (hk : f < N) (hr : ref = (T f).1) (z : Int) (hz : σ q f = z)
    (k : hs_Wd p l e fr s m args below meth c D dA SH ad A nL Post (pc + 3) lv (vI z :: st) σ) : hs_Wd p l e fr s m args below meth c D dA SH ad A nL Post pc lv (.ref (ad q) :: st) σ := by
  intro H locs ls hP hS hl
  subst hr
  subst hz
  exact va_getN C.1 C.2.1 (Ts := WS) C.2.2.2.2.1 hin C.2.2.2.1 C.2.2.2.2.2.1.1.1 hP q (hs_W_get hsh) hc f hk (va_Nw.use rfl (C.2.2.2.2.2.1.1.2 _ hw)) (fun _ h => h) (by simp [hs_E, List.getElem?_mapIdx, hf, hs_fv]) hd (k H locs ls hP hS hl)
theorem s_getlN (C : hs_C p s m args meth c D dA SH ad A nL cc own ret) {host : String} {q ci N i x : Nat} {fl : List (Nat × Nat)} {CN ref : String} {T : u_T} (f : Nat) (hd : decode cc pc = .ok (.getfield i, 3)) (hw : Cond.fieldLinkNest own i ref (T f).2.1 (T f).2.2.1 host ∈ NWS) (hsh : SH[q]? = some (0, ci, fl)) (hf : fl[f]? = some (1, x)) (hc : vwCl[ci]? = some (CN, T, N)) (hin : ∀ w ∈ u_ws CN T N, w ∈ WS) (hk : f < N) (hr : ref = (T f).1) (z : Int) (hz : σ q f = z)
    (k : hs_Wd p l e fr s m args below meth c D dA SH ad A nL Post (pc + 3) lv (vL z :: st) σ) : hs_Wd p l e fr s m args below meth c D dA SH ad A nL Post pc lv (.ref (ad q) :: st) σ := by
  intro H locs ls hP hS hl
  subst hr
  subst hz
  exact va_getN C.1 C.2.1 (Ts := WS) C.2.2.2.2.1 hin C.2.2.2.1 C.2.2.2.2.2.1.1.1 hP q (hs_W_get hsh) hc f hk (va_Nw.use rfl (C.2.2.2.2.2.1.1.2 _ hw)) (fun _ h => h) (by simp [hs_E, List.getElem?_mapIdx, hf, hs_fv]) hd (k H locs ls hP hS hl)
theorem s_getrN (C : hs_C p s m args meth c D dA SH ad A nL cc own ret) {host : String} {q ci N i x : Nat} {fl : List (Nat × Nat)} {CN ref : String} {T : u_T} (f : Nat) (hd : decode cc pc = .ok (.getfield i, 3)) (hw : Cond.fieldLinkNest own i ref (T f).2.1 (T f).2.2.1 host ∈ NWS) (hsh : SH[q]? = some (0, ci, fl)) (hf : fl[f]? = some (2, x)) (hc : vwCl[ci]? = some (CN, T, N)) (hin : ∀ w ∈ u_ws CN T N, w ∈ WS) (hk : f < N) (hr : ref = (T f).1)
    (k : hs_Wd p l e fr s m args below meth c D dA SH ad A nL Post (pc + 3) lv (.ref (ad x) :: st) σ) : hs_Wd p l e fr s m args below meth c D dA SH ad A nL Post pc lv (.ref (ad q) :: st) σ := by
  intro H locs ls hP hS hl
  subst hr
  exact va_getN C.1 C.2.1 (Ts := WS) C.2.2.2.2.1 hin C.2.2.2.1 C.2.2.2.2.2.1.1.1 hP q (hs_W_get hsh) hc f hk (va_Nw.use rfl (C.2.2.2.2.2.1.1.2 _ hw)) (fun _ h => h) (by simp [hs_E, List.getElem?_mapIdx, hf, hs_fv]) hd (k H locs ls hP hS hl)
theorem s_putiN (C : hs_C p s m args meth c D dA SH ad A nL cc own ret) {host : String} {q ci N i x : Nat} {z : Int} {fl : List (Nat × Nat)} {CN ref : String} {T : u_T} {ty0 : Nat → FieldType} {ty : FieldType} (f : Nat) (hd : decode cc pc = .ok (.putfield i, 3)) (hw : Cond.fieldLinkNest own i ref (T f).2.1 (T f).2.2.1 host ∈ NWS) (hsh : SH[q]? = some (0, ci, fl)) (hf : fl[f]? = some (0, x)) (hc : vwCl[ci]? = some (CN, T, N)) (hin : ∀ w ∈ u_ws CN T N, w ∈ WS) (hty : ∀ k, k < N → parseFieldDescriptor (T k).2.2.1 = some (ty0 k)) (hnm : ∀ a, a < N → ∀ b, b < N → a ≠ b → (T a).2.1 ≠ (T b).2.1) (hk : f < N) (hr : ref = (T f).1) (hfin : (T f).2.2.2 = false) (ht : ty0 f = ty) (hn : narrow ty (vI z) = vI z) (hfit : fits ty (vI z) = true)
    (k : hs_Wd p l e fr s m args below meth c D dA SH ad A nL Post (pc + 3) lv st (hs_ss σ q f z)) : hs_Wd p l e fr s m args below meth c D dA SH ad A nL Post pc lv (vI z :: .ref (ad q) :: st) σ := by
  intro H locs ls hP hS hl
  subst hr
  refine va_putN C.1 C.2.1 (Ts := WS) C.2.2.2.2.1 hin ty0 hty hnm C.2.2.2.1 C.2.2.2.2.2.1.1.1 hP (C.2.2.2.2.2.2.1 σ) hS q (hs_W_get hsh) hc f hk (va_Nw.use rfl (C.2.2.2.2.2.1.1.2 _ hw)) (fun _ h => h) hfin (ty := ty) (by rw [hty f hk, ht]) hn hfit (by rw [List.length_mapIdx]; exact (List.getElem?_eq_some_iff.mp hf).1) hd (fun H1 locs1 hP1 _ hS1 => k H1 locs1 ls ?_ hS1 hl)
  rw [hs_W_set (z := z) (k := f) hsh (by simp only [hs_E, if_pos]; rw [hs_fl_set hf])] at hP1
  exact hP1
theorem s_putlN (C : hs_C p s m args meth c D dA SH ad A nL cc own ret) {host : String} {q ci N i x : Nat} {z : Int} {fl : List (Nat × Nat)} {CN ref : String} {T : u_T} {ty0 : Nat → FieldType} {ty : FieldType} (f : Nat) (hd : decode cc pc = .ok (.putfield i, 3)) (hw : Cond.fieldLinkNest own i ref (T f).2.1 (T f).2.2.1 host ∈ NWS) (hsh : SH[q]? = some (0, ci, fl)) (hf : fl[f]? = some (1, x)) (hc : vwCl[ci]? = some (CN, T, N)) (hin : ∀ w ∈ u_ws CN T N, w ∈ WS) (hty : ∀ k, k < N → parseFieldDescriptor (T k).2.2.1 = some (ty0 k)) (hnm : ∀ a, a < N → ∀ b, b < N → a ≠ b → (T a).2.1 ≠ (T b).2.1) (hk : f < N) (hr : ref = (T f).1) (hfin : (T f).2.2.2 = false) (ht : ty0 f = ty) (hn : narrow ty (vL z) = vL z) (hfit : fits ty (vL z) = true)
    (k : hs_Wd p l e fr s m args below meth c D dA SH ad A nL Post (pc + 3) lv st (hs_ss σ q f z)) : hs_Wd p l e fr s m args below meth c D dA SH ad A nL Post pc lv (vL z :: .ref (ad q) :: st) σ := by
  intro H locs ls hP hS hl
  subst hr
  refine va_putN C.1 C.2.1 (Ts := WS) C.2.2.2.2.1 hin ty0 hty hnm C.2.2.2.1 C.2.2.2.2.2.1.1.1 hP (C.2.2.2.2.2.2.1 σ) hS q (hs_W_get hsh) hc f hk (va_Nw.use rfl (C.2.2.2.2.2.1.1.2 _ hw)) (fun _ h => h) hfin (ty := ty) (by rw [hty f hk, ht]) hn hfit (by rw [List.length_mapIdx]; exact (List.getElem?_eq_some_iff.mp hf).1) hd (fun H1 locs1 hP1 _ hS1 => k H1 locs1 ls ?_ hS1 hl)
  rw [hs_W_set (z := z) (k := f) hsh (by simp only [hs_E, if_pos]; rw [hs_fl_setL hf])] at hP1
  exact hP1
theorem s_iald (C : hs_C p s m args meth c D dA SH ad A nL cc own ret) {q n : Nat} {i : Int} (z : Int) (hz : σ q i.toNat = z) (hd : decode cc pc = .ok (.iaload, 1)) (hsh : SH[q]? = some (1, 1, [(n, 0)])) (h0 : 0 ≤ i) (h1 : i < n) (hn : n ≤ 2147483647)
    (k : hs_Wd p l e fr s m args below meth c D dA SH ad A nL Post (pc + 1) lv (vI z :: st) σ) : hs_Wd p l e fr s m args below meth c D dA SH ad A nL Post pc lv (vI i :: .ref (ad q) :: st) σ := by
  intro H locs ls hP hS hl
  subst hz
  have h := k H locs ls hP hS hl
  have hR : hs_R i := ⟨by omega, by omega⟩
  refine va_iald C.1 C.2.1 C.2.2.2.2.2.1.1.1 hP q 1 (cA := dA 1) (n := n) (f := fun j => Int32.ofInt (σ q j)) (by rw [hs_W_get hsh]; rfl) rfl (hs_in h0 h1 hn) hd ?_
  rw [hs_cl hR]
  exact h
theorem s_bald (C : hs_C p s m args meth c D dA SH ad A nL cc own ret) {q n : Nat} {i : Int} (z : Int) (hz : σ q i.toNat = z) (hd : decode cc pc = .ok (.baload, 1)) (hsh : SH[q]? = some (1, 0, [(n, 0)])) (h0 : 0 ≤ i) (h1 : i < n) (hn : n ≤ 2147483647)
    (k : hs_Wd p l e fr s m args below meth c D dA SH ad A nL Post (pc + 1) lv (vI z :: st) σ) : hs_Wd p l e fr s m args below meth c D dA SH ad A nL Post pc lv (vI i :: .ref (ad q) :: st) σ := by
  intro H locs ls hP hS hl
  subst hz
  have h := k H locs ls hP hS hl
  have hR : hs_R i := ⟨by omega, by omega⟩
  refine va_bald C.1 C.2.1 C.2.2.2.2.2.1.1.1 hP q 0 (cA := dA 0) (n := n) (f := fun j => Int32.ofInt (σ q j)) (by rw [hs_W_get hsh]; rfl) rfl (hs_in h0 h1 hn) hd ?_
  rw [hs_cl hR]
  exact h
theorem s_zald (C : hs_C p s m args meth c D dA SH ad A nL cc own ret) {q n : Nat} {i : Int} (z : Int) (hz : σ q i.toNat = z) (hd : decode cc pc = .ok (.baload, 1)) (hsh : SH[q]? = some (1, 2, [(n, 0)])) (h0 : 0 ≤ i) (h1 : i < n) (hn : n ≤ 2147483647)
    (k : hs_Wd p l e fr s m args below meth c D dA SH ad A nL Post (pc + 1) lv (vI z :: st) σ) : hs_Wd p l e fr s m args below meth c D dA SH ad A nL Post pc lv (vI i :: .ref (ad q) :: st) σ := by
  intro H locs ls hP hS hl
  subst hz
  have h := k H locs ls hP hS hl
  have hR : hs_R i := ⟨by omega, by omega⟩
  refine va_zald C.1 C.2.1 C.2.2.2.2.2.1.1.1 hP q 2 (cA := dA 2) (n := n) (f := fun j => Int32.ofInt (σ q j)) (by rw [hs_W_get hsh]; rfl) rfl (hs_in h0 h1 hn) hd ?_
  rw [hs_cl hR]
  exact h
theorem s_iast (C : hs_C p s m args meth c D dA SH ad A nL cc own ret) {q n : Nat} {i z : Int} (hd : decode cc pc = .ok (.iastore, 1)) (hsh : SH[q]? = some (1, 1, [(n, 0)])) (h0 : 0 ≤ i) (h1 : i < n) (hn : n ≤ 2147483647) 
    (k : hs_Wd p l e fr s m args below meth c D dA SH ad A nL Post (pc + 1) lv st (hs_ss σ q i.toNat z)) : hs_Wd p l e fr s m args below meth c D dA SH ad A nL Post pc lv (vI z :: vI i :: .ref (ad q) :: st) σ := by
  intro H locs ls hP hS hl
  have hR : hs_R i := ⟨by omega, by omega⟩
  refine va_iast C.1 C.2.1 C.2.2.2.2.2.1.1.1 hP (C.2.2.2.2.2.2.1 σ) hS q 1 (cA := dA 1) (n := n) (f := fun j => Int32.ofInt (σ q j)) (by rw [hs_W_get hsh]; rfl) rfl (hs_in h0 h1 hn) hd (fun H1 locs1 hP1 _ hS1 => k H1 locs1 ls ?_ hS1 hl)
  rw [hs_cl hR, hs_W_set (z := z) (k := i.toNat) hsh (by rw [hs_upd (z := z) rfl]; rfl)] at hP1
  exact hP1
theorem s_bast (C : hs_C p s m args meth c D dA SH ad A nL cc own ret) {q n : Nat} {i z : Int} (hd : decode cc pc = .ok (.bastore, 1)) (hsh : SH[q]? = some (1, 0, [(n, 0)])) (h0 : 0 ≤ i) (h1 : i < n) (hn : n ≤ 2147483647) 
    (k : hs_Wd p l e fr s m args below meth c D dA SH ad A nL Post (pc + 1) lv st (hs_ss σ q i.toNat (Int8.ofInt z).toInt)) : hs_Wd p l e fr s m args below meth c D dA SH ad A nL Post pc lv (vI z :: vI i :: .ref (ad q) :: st) σ := by
  intro H locs ls hP hS hl
  have hR : hs_R i := ⟨by omega, by omega⟩
  refine va_bast C.1 C.2.1 C.2.2.2.2.2.1.1.1 hP (C.2.2.2.2.2.2.1 σ) hS q 0 (cA := dA 0) (n := n) (f := fun j => Int32.ofInt (σ q j)) (by rw [hs_W_get hsh]; rfl) rfl (hs_in h0 h1 hn) hd (fun H1 locs1 hP1 _ hS1 => k H1 locs1 ls ?_ hS1 hl)
  rw [hs_cl hR, hs_W_set (z := (Int8.ofInt z).toInt) (k := i.toNat) hsh (by rw [hs_upd (z := (Int8.ofInt z).toInt) (by rw [vp_nar_byte, Int32.toInt8_ofInt, Int32.ofInt_int8ToInt])]; rfl)] at hP1
  exact hP1
theorem s_zast (C : hs_C p s m args meth c D dA SH ad A nL cc own ret) {q n : Nat} {i z : Int} (hd : decode cc pc = .ok (.bastore, 1)) (hsh : SH[q]? = some (1, 2, [(n, 0)])) (h0 : 0 ≤ i) (h1 : i < n) (hn : n ≤ 2147483647) (hz : z = 0 ∨ z = 1)
    (k : hs_Wd p l e fr s m args below meth c D dA SH ad A nL Post (pc + 1) lv st (hs_ss σ q i.toNat z)) : hs_Wd p l e fr s m args below meth c D dA SH ad A nL Post pc lv (vI z :: vI i :: .ref (ad q) :: st) σ := by
  intro H locs ls hP hS hl
  have hR : hs_R i := ⟨by omega, by omega⟩
  refine va_zast C.1 C.2.1 C.2.2.2.2.2.1.1.1 hP (C.2.2.2.2.2.2.1 σ) hS q 2 (cA := dA 2) (n := n) (f := fun j => Int32.ofInt (σ q j)) (by rw [hs_W_get hsh]; rfl) rfl (hs_in h0 h1 hn) hd (fun H1 locs1 hP1 _ hS1 => k H1 locs1 ls ?_ hS1 hl)
  rw [hs_cl hR, hs_W_set (z := z) (k := i.toNat) hsh (by rw [hs_upd (z := z) (by rcases hz with rfl | rfl <;> decide)]; rfl)] at hP1
  exact hP1
theorem s_aldq (C : hs_C p s m args meth c D dA SH ad A nL cc own ret) {q : Nat} {i : Int} {rl : List (Nat × Nat)} (hd : decode cc pc = .ok (.aaload, 1)) (hsh : SH[q]? = some (2, 3, rl)) (h0 : 0 ≤ i) (h1 : i < rl.length) (hn : rl.length ≤ 2147483647)
    (k : hs_Wd p l e fr s m args below meth c D dA SH ad A nL Post (pc + 1) lv (.ref (ad (rl.getD i.toNat (0, 0)).2) :: st) σ) : hs_Wd p l e fr s m args below meth c D dA SH ad A nL Post pc lv (vI i :: .ref (ad q) :: st) σ := by
  intro H locs ls hP hS hl
  have h := k H locs ls hP hS hl
  have hR : hs_R i := ⟨by omega, by omega⟩
  refine va_aldq C.1 C.2.1 C.2.2.2.2.2.1.1.1 hP q 3 (cA := dA 3) (n := rl.length) (f := fun j => some (ad (rl.getD j (0, 0)).2)) (by rw [hs_W_get hsh]; rfl) rfl (hs_in h0 h1 hn) hd ?_
  rw [hs_cl hR]
  exact h
theorem s_alda (C : hs_C p s m args meth c D dA SH ad A nL cc own ret) {q : Nat} {i : Int} {rl : List (Nat × Nat)} (hd : decode cc pc = .ok (.aaload, 1)) (hsh : SH[q]? = some (2, 4, rl)) (h0 : 0 ≤ i) (h1 : i < rl.length) (hn : rl.length ≤ 2147483647)
    (k : hs_Wd p l e fr s m args below meth c D dA SH ad A nL Post (pc + 1) lv (.ref (ad (rl.getD i.toNat (0, 0)).2) :: st) σ) : hs_Wd p l e fr s m args below meth c D dA SH ad A nL Post pc lv (vI i :: .ref (ad q) :: st) σ := by
  intro H locs ls hP hS hl
  have h := k H locs ls hP hS hl
  have hR : hs_R i := ⟨by omega, by omega⟩
  have hin := hs_in (n := rl.length) h0 h1 hn
  have hlt : (Int32.ofInt i).toNatClampNeg < rl.length := Nat.not_le.mp fun q => hin (Or.inr q)
  refine W.aald (v := va_rf (some (ad (rl.getD (Int32.ofInt i).toNatClampNeg (0, 0)).2))) (ty := .array .int) C.1 C.2.1 (cell := vp_cell (dA 4) (rl.length, .inr (.inr (.inr (.inr (fun j => some (ad (rl.getD j (0, 0)).2))))))) (hP q _ (hs_W_get hsh)) ((C.2.2.2.2.2.1.1.1.2 4 _ rfl).1 rl.length (fun j => va_rf (some (ad (rl.getD j (0, 0)).2)))) rfl (fun q => by cases q) (by show ¬ (_ ∨ (arrV _ _ _).slots.size ≤ _); rw [arrV_size]; exact hin) (by show (arrV _ _ _).slots[_]? = _; rw [arrV_read _ _ hlt]) rfl rfl hd ?_
  rw [hs_cl hR]
  exact h
theorem s_alen (C : hs_C p s m args meth c D dA SH ad A nL cc own ret) {q n t : Nat} {ty : FieldType} (hd : decode cc pc = .ok (.arraylength, 1)) (hsh : SH[q]? = some (1, t, [(n, 0)])) (ht : (hs_tys dA)[t]? = some (dA t, ty))
    (k : hs_Wd p l e fr s m args below meth c D dA SH ad A nL Post (pc + 1) lv (vI (n : Int) :: st) σ) : hs_Wd p l e fr s m args below meth c D dA SH ad A nL Post pc lv (.ref (ad q) :: st) σ := by
  intro H locs ls hP hS hl
  exact va_alen C.1 C.2.1 C.2.2.2.2.2.1.1.1 hP q t (cA := dA t) (x := (n, .inl (fun j => Int32.ofInt (σ q j)))) (by rw [hs_W_get hsh]; rfl) ht (Int32.ofInt_eq_ofNat).symm hd (k H locs ls hP hS hl)
theorem s_sub (C : hs_C p s m args meth c D dA SH ad A nL cc own ret) (ks : List Nat) (lv2 : List (Nat × Value)) (h : lv_pick lv ks = lv2) (k : hs_Wd p l e fr s m args below meth c D dA SH ad A nL Post pc lv2 st σ) : hs_Wd p l e fr s m args below meth c D dA SH ad A nL Post pc lv st σ := fun H locs ls hP hS hl => k H locs ls hP hS (lv_sub hl ks h)
theorem s_iret (C : hs_C p s m args meth c D dA SH ad A nL cc own (some .int)) {z : Int} (hd : decode cc pc = .ok (.ireturn, 1)) (hq : Post (some (vI z)) σ) : hs_Wd p l e fr s m args below meth c D dA SH ad A nL Post pc lv [vI z] σ := by
  intro H locs ls hP hS hl
  refine W.iret C.1 C.2.1 C.2.2.2.2.2.2.2.2.2.1 ?_ ?_ hd C.2.2.2.2.2.2.2.2.1
  · intro t ht hW
    exact ⟨⟨_, σ, rfl, hq, by rw [ht]; exact hP⟩, hS.F ht⟩
  · exact hS.2.2
theorem s_zret (C : hs_C p s m args meth c D dA SH ad A nL cc own (some .boolean)) {z : Int} (hz : z = 0 ∨ z = 1) (hd : decode cc pc = .ok (.ireturn, 1)) (hq : Post (some (vI z)) σ) : hs_Wd p l e fr s m args below meth c D dA SH ad A nL Post pc lv [vI z] σ := by
  intro H locs ls hP hS hl
  refine W.zret C.1 C.2.1 C.2.2.2.2.2.2.2.2.2.1 (by rcases hz with rfl | rfl <;> decide) ?_ ?_ hd C.2.2.2.2.2.2.2.2.1
  · intro t ht hW
    exact ⟨⟨_, σ, rfl, hq, by rw [ht]; exact hP⟩, hS.F ht⟩
  · exact hS.2.2
theorem s_cret (C : hs_C p s m args meth c D dA SH ad A nL cc own (some .char)) {z : Int} (hz : narrow .char (vI z) = vI z) (hd : decode cc pc = .ok (.ireturn, 1)) (hq : Post (some (vI z)) σ) : hs_Wd p l e fr s m args below meth c D dA SH ad A nL Post pc lv [vI z] σ := by
  intro H locs ls hP hS hl
  refine W.zret C.1 C.2.1 C.2.2.2.2.2.2.2.2.2.1 hz ?_ ?_ hd C.2.2.2.2.2.2.2.2.1
  · intro t ht hW
    exact ⟨⟨_, σ, rfl, hq, by rw [ht]; exact hP⟩, hS.F ht⟩
  · exact hS.2.2
theorem s_lret (C : hs_C p s m args meth c D dA SH ad A nL cc own (some .long)) {z : Int} (hd : decode cc pc = .ok (.lreturn, 1)) (hq : Post (some (vL z)) σ) : hs_Wd p l e fr s m args below meth c D dA SH ad A nL Post pc lv [vL z] σ := by
  intro H locs ls hP hS hl
  refine W.lret C.1 C.2.1 C.2.2.2.2.2.2.2.2.2.1 ?_ ?_ hd C.2.2.2.2.2.2.2.2.1
  · intro t ht hW
    exact ⟨⟨_, σ, rfl, hq, by rw [ht]; exact hP⟩, hS.F ht⟩
  · exact hS.2.2
theorem s_vret (C : hs_C p s m args meth c D dA SH ad A nL cc own none)  (hd : decode cc pc = .ok (.return_, 1)) (hq : Post none σ) : hs_Wd p l e fr s m args below meth c D dA SH ad A nL Post pc lv [] σ := by
  intro H locs ls hP hS hl
  refine W.vret C.1 C.2.1 C.2.2.2.2.2.2.2.2.2.1 ?_ ?_ hd C.2.2.2.2.2.2.2.2.1
  · intro t ht hW
    exact ⟨⟨_, σ, rfl, hq, by rw [ht]; exact hP⟩, hS.F ht⟩
  · exact hS.2.2
theorem hs_AF (C : hs_C p s m args meth c D dA SH ad A nL cc own ret) {H : Heap} {locs : List Loc} (hS : va_S A s.heap H locs) : ∀ q, hs_A SH ad H.size q → A q := by
  intro q h
  rcases h with ⟨c0, h1, rfl⟩ | h
  · have hd := C.2.2.2.2.2.2.1 (fun _ _ => 0)
    have h2 : SH[c0]? = some SH[c0] := List.getElem?_eq_getElem h1
    exact hd.2 c0 _ (hs_W_get h2)
  · exact C.2.2.2.2.2.2.2.1 q (Nat.le_trans hS.1 h)
theorem hs_call (C : hs_C p s m args meth c D dA SH ad A nL cc own ret) {y : MethodName} {i frY : Nat} {st rest : List Value} {Qp : Option Value → hs_S → Prop} {a : Array Value} {H : Heap} {locs : List Loc} {ls : Array Slot} (hS : va_S A s.heap H locs) (hl : lv_has ls nL lv)
    (hr : va_Run p l e (hs_rm fr) s m args below meth c H locs 0 0 0 0 (F0 m pc ls st) rest (hs_Q D dA SH ad (hs_A SH ad H.size) Qp a) (hs_A SH ad H.size))
    (k : ∀ (v : Option Value) (σ1 : hs_S), Qp v σ1 → hs_Wd p l e fr s m args below meth c D dA SH ad A nL Post (pc + 3) lv (v.toList ++ rest) σ1) : W p l e (hs_rm fr) s m args below meth c H locs 0 0 (MQ below (hs_Q D dA SH ad A Post) args s 0 0 A) (F0 m pc ls st) := by
  have hF : ∀ q, hs_A SH ad H.size q → A q := by
    intro q h
    rcases h with ⟨c0, h1, rfl⟩ | h
    · have hd := C.2.2.2.2.2.2.1 (fun _ _ => 0)
      have h2 : SH[c0]? = some SH[c0] := List.getElem?_eq_getElem h1
      exact hd.2 c0 _ (hs_W_get h2)
    · exact C.2.2.2.2.2.2.2.1 q (Nat.le_trans hS.1 h)
  intro T hT X
  obtain ⟨v, st₀, t, T', L, h0, X', hL, e1, e2, ⟨⟨v2, σ1, hv, hp, hb⟩, hz, hk⟩, stp⟩ := hr T hT X
  cases hv
  rw [h0] at hz hk
  obtain ⟨t2, a1, b1⟩ := k v σ1 hp T'.heap (locs ++ L) ls (by rw [e1]; exact hb)
    ⟨Nat.le_trans hS.1 (by rw [e1]; exact hz), fun q h1 h2 => by rw [e1, hk q (Nat.lt_of_lt_of_le h1 hS.1) (fun z => h2 (hF q z))]; exact hS.2.1 q h1 h2, fun q hq => by
      rcases List.mem_append.mp hq with h | h
      · exact hS.2.2 q h
      · exact hF _ (hL q h)⟩ hl T' rfl X'
  exact ⟨t2, stp t2 a1, b1⟩
theorem s_callV (C : hs_C p s m args meth c D dA SH ad A nL cc own ret) {y : MethodName} {cy : ByteArray} {nY : Nat} {rY : Option FieldType} {frY i : Nat} {av : (Nat → Nat) → List Value} {Pre : hs_S → Prop} {PostY : hs_S → Option Value → hs_S → Prop} (hM : hs_Met l y cy nY rY frY SH av Pre PostY) (As rest : List Value) {q ci N : Nat} {T : u_T} {fl : List (Nat × Nat)} (hst : st = As.reverse ++ .ref (ad q) :: rest) (hav : av ad = .ref (ad q) :: As) (hd : decode cc pc = .ok (.invokevirtual i, 3)) (hw : Cond.methodLink own i y ∈ WS) (hins : Cond.instanceMethod y ∈ WS) (hsel : Cond.selects y.cls y y ∈ WS) (hcode : Cond.code y cy nY rY ∈ WS) (hini : Cond.initialized y.cls ∈ WS) (hno : y.cls ≠ "java/lang/invoke/MethodHandle" ∧ y.cls ≠ "java/lang/invoke/VarHandle" ∧ (parseMethodDescriptor y.desc).map (fun d => d.parameters.length) = some As.length) (hfr : frY + 1 ≤ fr) (hnY : nY ≤ 21) (hsum : (rest.map fun v => v.category).sum ≤ 8) (hpre : Pre σ) (hsh : SH[q]? = some (0, ci, fl)) (hc : vwCl[ci]? = some (y.cls, T, N))
    (k : ∀ (v : Option Value) (σ1 : hs_S), PostY σ v σ1 → hs_Wd p l e fr s m args below meth c D dA SH ad A nL Post (pc + 3) lv (v.toList ++ rest) σ1) : hs_Wd p l e fr s m args below meth c D dA SH ad A nL Post pc lv st σ := by
  intro H locs ls hP hS hl
  subst hst
  have hPU : ∀ U : State, U.heap = H → s.WarmedH U.vm → (U.heap.size = H.size ∧ va_P D vwCl (hs_W SH dA ad σ) U.heap ∧ hs_K D dA U ∧ hs_St ad (hs_A SH ad H.size) U) := fun U hU hW => ⟨by rw [hU], by rw [hU]; exact hP, ⟨va_K.moved hW.alike C.2.2.2.2.2.1.1.1, hs_nw_warm hW C.2.2.2.2.2.1.1.2⟩, hs_St_at C.2.2.2.2.2.1.2 hS hU hW (hs_AF C hS)⟩
  have hbl : FrameBlind (va_Pc (av ad) (fun U => U.heap.size = H.size ∧ va_P D vwCl (hs_W SH dA ad σ) U.heap ∧ hs_K D dA U ∧ hs_St ad (hs_A SH ad H.size) U)) := fun a U g mk q => ⟨q.1, q.2.1, q.2.2.1, ⟨va_K.moved (u := U) (U := U.calling g mk a) (Vm.Alike.refl U.vm) q.2.2.2.1.1, hs_nw_same (u := U) (U := U.calling g mk a) rfl q.2.2.2.1.2⟩, hs_St_same (u := U) (U := U.calling g mk a) rfl rfl q.2.2.2.2⟩
  have hG : GoodIn WS (Cond.code y cy nY rY :: WS) := fun w h => by
    rcases List.mem_cons.mp h with rfl | h
    · exact ws_good _ hcode
    · exact ws_good _ h
  have hroom : (hs_rm frY).frames + 1 ≤ (hs_rm fr).frames ∧ 8 + (nY + 11) + (hs_rm frY).locals ≤ (hs_rm fr).locals := ⟨hfr, by show 8 + (nY + 11) + 40 * frY ≤ 40 * fr; omega⟩
  exact hs_call C (y := y) (i := i) (frY := frY) hS hl (va_runV (As := As) (rest := rest) (Ts := WS) (ws := Cond.code y cy nY rY :: WS) ⟨C.1, C.2.1, C.2.2.1, C.2.2.2.1, C.2.2.2.2.1⟩ (hM D dA ad H.size σ C.2.2.2.2.2.2.2.2.2.2 hpre) (cwV (C := y.cls) As.length C.2.2.2.2.1 (fun w h => by
      rcases List.mem_append.mp h with h | h
      · simp only [List.mem_cons, List.not_mem_nil, or_false] at h
        rcases h with rfl | rfl | rfl | rfl
        · exact ws_good _ hw
        · exact ws_good _ hins
        · exact ws_good _ hsel
        · exact ws_good _ hini
      · exact hG w h) rfl rfl rfl ⟨rfl, hno⟩ hroom) ⟨hbl, va_recv C.2.2.2.2.2.1.1.1 hP hc (hs_W_get hsh), fun U hU hW => ⟨by rw [hav], hPU U hU hW⟩⟩ rfl rfl hl.1 rfl (lv_room hsum) hd ⟨Nat.le_refl _, Nat.le_refl _⟩) k
theorem s_callVN (C : hs_C p s m args meth c D dA SH ad A nL cc own ret) {y : MethodName} {cy : ByteArray} {nY : Nat} {rY : Option FieldType} {frY i : Nat} {av : (Nat → Nat) → List Value} {Pre : hs_S → Prop} {PostY : hs_S → Option Value → hs_S → Prop} (hM : hs_Met l y cy nY rY frY SH av Pre PostY) (As rest : List Value) {q ci N : Nat} {T : u_T} {fl : List (Nat × Nat)} {host : String} (hst : st = As.reverse ++ .ref (ad q) :: rest) (hav : av ad = .ref (ad q) :: As) (hd : decode cc pc = .ok (.invokevirtual i, 3)) (hw : Cond.methodLinkNest own i y host ∈ NWS) (hins : Cond.instanceMethod y ∈ WS) (hsel : Cond.selects y.cls y y ∈ WS) (hcode : Cond.code y cy nY rY ∈ WS) (hini : Cond.initialized y.cls ∈ WS) (hno : y.cls ≠ "java/lang/invoke/MethodHandle" ∧ y.cls ≠ "java/lang/invoke/VarHandle" ∧ (parseMethodDescriptor y.desc).map (fun d => d.parameters.length) = some As.length) (hfr : frY + 1 ≤ fr) (hnY : nY ≤ 21) (hsum : (rest.map fun v => v.category).sum ≤ 8) (hpre : Pre σ) (hsh : SH[q]? = some (0, ci, fl)) (hc : vwCl[ci]? = some (y.cls, T, N))
    (k : ∀ (v : Option Value) (σ1 : hs_S), PostY σ v σ1 → hs_Wd p l e fr s m args below meth c D dA SH ad A nL Post (pc + 3) lv (v.toList ++ rest) σ1) : hs_Wd p l e fr s m args below meth c D dA SH ad A nL Post pc lv st σ := by
  intro H locs ls hP hS hl
  subst hst
  have hPU : ∀ U : State, U.heap = H → s.WarmedH U.vm → (U.heap.size = H.size ∧ va_P D vwCl (hs_W SH dA ad σ) U.heap ∧ hs_K D dA U ∧ hs_St ad (hs_A SH ad H.size) U) := fun U hU hW => ⟨by rw [hU], by rw [hU]; exact hP, ⟨va_K.moved hW.alike C.2.2.2.2.2.1.1.1, hs_nw_warm hW C.2.2.2.2.2.1.1.2⟩, hs_St_at C.2.2.2.2.2.1.2 hS hU hW (hs_AF C hS)⟩
  have hbl : FrameBlind (va_Pc (av ad) (fun U => U.heap.size = H.size ∧ va_P D vwCl (hs_W SH dA ad σ) U.heap ∧ hs_K D dA U ∧ hs_St ad (hs_A SH ad H.size) U)) := fun a U g mk q => ⟨q.1, q.2.1, q.2.2.1, ⟨va_K.moved (u := U) (U := U.calling g mk a) (Vm.Alike.refl U.vm) q.2.2.2.1.1, hs_nw_same (u := U) (U := U.calling g mk a) rfl q.2.2.2.1.2⟩, hs_St_same (u := U) (U := U.calling g mk a) rfl rfl q.2.2.2.2⟩
  have hG : GoodIn WS (Cond.code y cy nY rY :: WS) := fun w h => by
    rcases List.mem_cons.mp h with rfl | h
    · exact ws_good _ hcode
    · exact ws_good _ h
  have hroom : (hs_rm frY).frames + 1 ≤ (hs_rm fr).frames ∧ 8 + (nY + 11) + (hs_rm frY).locals ≤ (hs_rm fr).locals := ⟨hfr, by show 8 + (nY + 11) + 40 * frY ≤ 40 * fr; omega⟩
  exact hs_call C (y := y) (i := i) (frY := frY) hS hl (va_runVN (As := As) (rest := rest) (Ts := WS) (C := y.cls) (ws := Cond.code y cy nY rY :: WS) ⟨C.1, C.2.1, C.2.2.1, C.2.2.2.1, C.2.2.2.2.1⟩ (hM D dA ad H.size σ C.2.2.2.2.2.2.2.2.2.2 hpre) ⟨va_cnB As.length C.2.2.2.2.1 hG rfl rfl rfl (C.2.2.2.2.2.1.1.2 _ hw) (C.2.2.2.2.1 _ hini) hno hroom, C.2.2.2.2.1 _ hins, C.2.2.2.2.1 _ hsel⟩ ⟨hbl, va_recv C.2.2.2.2.2.1.1.1 hP hc (hs_W_get hsh), fun U hU hW => ⟨by rw [hav], hPU U hU hW⟩⟩ rfl rfl hl.1 rfl (lv_room hsum) hd ⟨Nat.le_refl _, Nat.le_refl _⟩) k
theorem s_callS (C : hs_C p s m args meth c D dA SH ad A nL cc own ret) {y : MethodName} {cy : ByteArray} {nY : Nat} {rY : Option FieldType} {frY i : Nat} {av : (Nat → Nat) → List Value} {Pre : hs_S → Prop} {PostY : hs_S → Option Value → hs_S → Prop} (hM : hs_Met l y cy nY rY frY SH av Pre PostY) (As rest : List Value) (hst : st = As.reverse ++ rest) (hav : av ad = As) (hd : decode cc pc = .ok (.invokestatic i, 3)) (hw : Cond.methodLink own i y ∈ WS) (hsta : Cond.static y ∈ WS) (hcode : Cond.code y cy nY rY ∈ WS) (hini : Cond.initialized y.cls ∈ WS) (hno : y.cls ≠ "java/lang/invoke/MethodHandle" ∧ y.cls ≠ "java/lang/invoke/VarHandle" ∧ (parseMethodDescriptor y.desc).map (fun d => d.parameters.length) = some As.length) (hfr : frY + 1 ≤ fr) (hnY : nY ≤ 21) (hsum : (rest.map fun v => v.category).sum ≤ 8) (hpre : Pre σ)
    (k : ∀ (v : Option Value) (σ1 : hs_S), PostY σ v σ1 → hs_Wd p l e fr s m args below meth c D dA SH ad A nL Post (pc + 3) lv (v.toList ++ rest) σ1) : hs_Wd p l e fr s m args below meth c D dA SH ad A nL Post pc lv st σ := by
  intro H locs ls hP hS hl
  subst hst
  have hPU : ∀ U : State, U.heap = H → s.WarmedH U.vm → (U.heap.size = H.size ∧ va_P D vwCl (hs_W SH dA ad σ) U.heap ∧ hs_K D dA U ∧ hs_St ad (hs_A SH ad H.size) U) := fun U hU hW => ⟨by rw [hU], by rw [hU]; exact hP, ⟨va_K.moved hW.alike C.2.2.2.2.2.1.1.1, hs_nw_warm hW C.2.2.2.2.2.1.1.2⟩, hs_St_at C.2.2.2.2.2.1.2 hS hU hW (hs_AF C hS)⟩
  have hbl : FrameBlind (va_Pc (av ad) (fun U => U.heap.size = H.size ∧ va_P D vwCl (hs_W SH dA ad σ) U.heap ∧ hs_K D dA U ∧ hs_St ad (hs_A SH ad H.size) U)) := fun a U g mk q => ⟨q.1, q.2.1, q.2.2.1, ⟨va_K.moved (u := U) (U := U.calling g mk a) (Vm.Alike.refl U.vm) q.2.2.2.1.1, hs_nw_same (u := U) (U := U.calling g mk a) rfl q.2.2.2.1.2⟩, hs_St_same (u := U) (U := U.calling g mk a) rfl rfl q.2.2.2.2⟩
  have hG : GoodIn WS (Cond.code y cy nY rY :: WS) := fun w h => by
    rcases List.mem_cons.mp h with rfl | h
    · exact ws_good _ hcode
    · exact ws_good _ h
  have hroom : (hs_rm frY).frames + 1 ≤ (hs_rm fr).frames ∧ 8 + (nY + 11) + (hs_rm frY).locals ≤ (hs_rm fr).locals := ⟨hfr, by show 8 + (nY + 11) + 40 * frY ≤ 40 * fr; omega⟩
  exact hs_call C (y := y) (i := i) (frY := frY) hS hl (va_runS (As := As) (rest := rest) (Ts := WS) (ws := Cond.code y cy nY rY :: WS) ⟨C.1, C.2.1, C.2.2.1, C.2.2.2.1, C.2.2.2.2.1⟩ (hM D dA ad H.size σ C.2.2.2.2.2.2.2.2.2.2 hpre) ⟨callB_of As.length C.2.2.2.2.1 hG rfl rfl rfl (C.2.2.2.2.1 _ hini) (C.2.2.2.2.1 _ hw) hno hroom, C.2.2.2.2.1 _ hsta⟩ ⟨hbl, fun U hU hW => ⟨by rw [hav], hPU U hU hW⟩⟩ rfl rfl hl.1 rfl (lv_room hsum) hd ⟨Nat.le_refl _, Nat.le_refl _⟩) k
theorem s_callVS (C : hs_C p s m args meth c D dA SH ad A nL cc own ret) {y : MethodName} {cy : ByteArray} {nY : Nat} {rY : Option FieldType} {frY i : Nat} {av : (Nat → Nat) → List Value} {Pre : hs_S → Prop} {PostY : hs_S → Option Value → hs_S → Prop} (hM : hs_Met l y cy nY rY frY SH av Pre PostY) (As rest : List Value) {j : Nat} (hj : j < 7) (hcl : y.cls = "java/lang/String") (hst : st = As.reverse ++ .ref (ad (1000 + j)) :: rest) (hav : av ad = .ref (ad (1000 + j)) :: As) (hd : decode cc pc = .ok (.invokevirtual i, 3)) (hw : Cond.methodLink own i y ∈ WS) (hins : Cond.instanceMethod y ∈ WS) (hsel : Cond.selects y.cls y y ∈ WS) (hcode : Cond.code y cy nY rY ∈ WS) (hini : Cond.initialized y.cls ∈ WS) (hno : y.cls ≠ "java/lang/invoke/MethodHandle" ∧ y.cls ≠ "java/lang/invoke/VarHandle" ∧ (parseMethodDescriptor y.desc).map (fun d => d.parameters.length) = some As.length) (hfr : frY + 1 ≤ fr) (hnY : nY ≤ 21) (hsum : (rest.map fun v => v.category).sum ≤ 8) (hpre : Pre σ)
    (k : ∀ (v : Option Value) (σ1 : hs_S), PostY σ v σ1 → hs_Wd p l e fr s m args below meth c D dA SH ad A nL Post (pc + 3) lv (v.toList ++ rest) σ1) : hs_Wd p l e fr s m args below meth c D dA SH ad A nL Post pc lv st σ := by
  intro H locs ls hP hS hl
  subst hst
  have hPU : ∀ U : State, U.heap = H → s.WarmedH U.vm → (U.heap.size = H.size ∧ va_P D vwCl (hs_W SH dA ad σ) U.heap ∧ hs_K D dA U ∧ hs_St ad (hs_A SH ad H.size) U) := fun U hU hW => ⟨by rw [hU], by rw [hU]; exact hP, ⟨va_K.moved hW.alike C.2.2.2.2.2.1.1.1, hs_nw_warm hW C.2.2.2.2.2.1.1.2⟩, hs_St_at C.2.2.2.2.2.1.2 hS hU hW (hs_AF C hS)⟩
  have hbl : FrameBlind (va_Pc (av ad) (fun U => U.heap.size = H.size ∧ va_P D vwCl (hs_W SH dA ad σ) U.heap ∧ hs_K D dA U ∧ hs_St ad (hs_A SH ad H.size) U)) := fun a U g mk q => ⟨q.1, q.2.1, q.2.2.1, ⟨va_K.moved (u := U) (U := U.calling g mk a) (Vm.Alike.refl U.vm) q.2.2.2.1.1, hs_nw_same (u := U) (U := U.calling g mk a) rfl q.2.2.2.1.2⟩, hs_St_same (u := U) (U := U.calling g mk a) rfl rfl q.2.2.2.2⟩
  have hG : GoodIn WS (Cond.code y cy nY rY :: WS) := fun w h => by
    rcases List.mem_cons.mp h with rfl | h
    · exact ws_good _ hcode
    · exact ws_good _ h
  have hroom : (hs_rm frY).frames + 1 ≤ (hs_rm fr).frames ∧ 8 + (nY + 11) + (hs_rm frY).locals ≤ (hs_rm fr).locals := ⟨hfr, by show 8 + (nY + 11) + 40 * frY ≤ 40 * fr; omega⟩
  exact hs_call C (y := y) (i := i) (frY := frY) hS hl (va_runV (As := As) (rest := rest) (Ts := WS) (ws := Cond.code y cy nY rY :: WS) ⟨C.1, C.2.1, C.2.2.1, C.2.2.2.1, C.2.2.2.2.1⟩ (hM D dA ad H.size σ C.2.2.2.2.2.2.2.2.2.2 hpre) (cwV (C := y.cls) As.length C.2.2.2.2.1 (fun w h => by
      rcases List.mem_append.mp h with h | h
      · simp only [List.mem_cons, List.not_mem_nil, or_false] at h
        rcases h with rfl | rfl | rfl | rfl
        · exact ws_good _ hw
        · exact ws_good _ hins
        · exact ws_good _ hsel
        · exact ws_good _ hini
      · exact hG w h) rfl rfl rfl ⟨rfl, hno⟩ hroom) ⟨hbl, by rw [hcl]; exact vk_recv (adK := fun i => ad (1000 + i)) (i := j) C.2.2.2.2.2.1.2.1 hj hS, fun U hU hW => ⟨by rw [hav], hPU U hU hW⟩⟩ rfl rfl hl.1 rfl (lv_room hsum) hd ⟨Nat.le_refl _, Nat.le_refl _⟩) k
theorem s_ldcS (C : hs_C p s m args meth c D dA SH ad A nL cc own ret) {x : Nat} (j : Nat) (hj : j < 7) (hx : hs_SK.getD j 0 = x) (ho : own = RX7) (hd : decode cc pc = .ok (.ldc x, 2))
    (k : hs_Wd p l e fr s m args below meth c D dA SH ad A nL Post (pc + 2) lv (.ref (ad (1000 + j)) :: st) σ) : hs_Wd p l e fr s m args below meth c D dA SH ad A nL Post pc lv st σ := by
  intro H locs ls hP hS hl
  subst hx
  subst ho
  exact va_ldcS C.1 C.2.1 C.2.2.2.1 (C.2.2.2.2.2.1.2.2.1 j hj) hd (k H locs ls hP hS hl)
theorem s_strv (C : hs_C p s m args meth c D dA SH ad A nL cc own ret) {x j : Nat} {ref : String} (hj : j < 7) (hd : decode cc pc = .ok (.getfield x, 3)) (hw : Cond.fieldLink own x ref "value" "[B" ∈ WS) (hr : ref = "java/lang/String")
    (k : hs_Wd p l e fr s m args below meth c D dA SH ad A nL Post (pc + 3) lv (.ref (ad (2000 + j)) :: st) σ) : hs_Wd p l e fr s m args below meth c D dA SH ad A nL Post pc lv (.ref (ad (1000 + j)) :: st) σ := by
  intro H locs ls hP hS hl
  subst hr
  exact vk_getf C.1 C.2.1 (C.2.2.2.2.2.1.2.1.1 j hj).2.2.1 hS C.2.2.2.1 (C.2.2.2.2.1 _ hw) (fun _ h => h) hd (k H locs ls hP hS hl)
theorem s_strc (C : hs_C p s m args meth c D dA SH ad A nL cc own ret) {x j : Nat} {ref : String} (hj : j < 7) (hd : decode cc pc = .ok (.getfield x, 3)) (hw : Cond.fieldLink own x ref "coder" "B" ∈ WS) (hr : ref = "java/lang/String")
    (k : hs_Wd p l e fr s m args below meth c D dA SH ad A nL Post (pc + 3) lv (vI 0 :: st) σ) : hs_Wd p l e fr s m args below meth c D dA SH ad A nL Post pc lv (.ref (ad (1000 + j)) :: st) σ := by
  intro H locs ls hP hS hl
  subst hr
  exact vk_getf C.1 C.2.1 (C.2.2.2.2.2.1.2.1.1 j hj).2.1 hS C.2.2.2.1 (C.2.2.2.2.1 _ hw) (fun _ h => h) hd (k H locs ls hP hS hl)
theorem s_strn (C : hs_C p s m args meth c D dA SH ad A nL cc own ret) {j : Nat} (hj : j < 7) (hd : decode cc pc = .ok (.arraylength, 1))
    (k : hs_Wd p l e fr s m args below meth c D dA SH ad A nL Post (pc + 1) lv (vI (hs_sl j) :: st) σ) : hs_Wd p l e fr s m args below meth c D dA SH ad A nL Post pc lv (.ref (ad (2000 + j)) :: st) σ := by
  intro H locs ls hP hS hl
  exact va_tlen C.1 C.2.1 (C.2.2.2.2.2.1.2.1.1 j hj).2.2.2 hS (Int32.ofInt_eq_ofNat).symm hd (k H locs ls hP hS hl)
theorem s_strb (C : hs_C p s m args meth c D dA SH ad A nL cc own ret) {j : Nat} {z : Int} (hj : j < 7) (hd : decode cc pc = .ok (.baload, 1)) (h0 : 0 ≤ z) (h1 : z < hs_sl j)
    (k : ∀ z : Int, hs_R z → hs_Wd p l e fr s m args below meth c D dA SH ad A nL Post (pc + 1) lv (vI z :: st) σ) : hs_Wd p l e fr s m args below meth c D dA SH ad A nL Post pc lv (vI z :: .ref (ad (2000 + j)) :: st) σ := by
  intro H locs ls hP hS hl
  have hn : hs_SL.getD j 0 ≤ 2147483647 := by rcases (show j = 0 ∨ j = 1 ∨ j = 2 ∨ j = 3 ∨ j = 4 ∨ j = 5 ∨ j = 6 by omega) with rfl | rfl | rfl | rfl | rfl | rfl | rfl <;> decide
  refine va_tb C.1 C.2.1 (C.2.2.2.2.2.1.2.1.1 j hj).2.2.2 hS (hs_in h0 h1 hn) rfl hd ?_
  rw [hs_of ((hs_SB.getD j []).getD (Int32.ofInt z).toNatClampNeg 0)]
  exact k _ (hs_oR _) H locs ls hP hS hl
theorem s_gsc (C : hs_C p s m args meth c D dA SH ad A nL cc own ret) {x : Nat} {ref : String} (hd : decode cc pc = .ok (.getstatic x, 3)) (hw : Cond.fieldLink own x ref "COMPACT_STRINGS" "Z" ∈ WS) (hr : ref = "java/lang/String")
    (k : hs_Wd p l e fr s m args below meth c D dA SH ad A nL Post (pc + 3) lv (vI 1 :: st) σ) : hs_Wd p l e fr s m args below meth c D dA SH ad A nL Post pc lv st σ := by
  intro H locs ls hP hS hl
  subst hr
  exact va_gets C.1 C.2.1 C.2.2.2.2.2.1.2.2.2.1 hS C.2.2.2.1 (C.2.2.2.2.1 _ hw) (fun _ h => h) hd (k H locs ls hP hS hl)
theorem s_gsf (C : hs_C p s m args meth c D dA SH ad A nL cc own ret) {x : Nat} {ref : String} (hd : decode cc pc = .ok (.getstatic x, 3)) (hw : Cond.fieldLink own x ref "SIOOBE_FORMATTER" "Ljava/util/function/BiFunction;" ∈ WS) (hr : ref = "jdk/internal/util/Preconditions")
    (k1 : hs_Wd p l e fr s m args below meth c D dA SH ad A nL Post (pc + 3) lv (.null :: st) σ) (k2 : ∀ t0 : Nat, hs_Wd p l e fr s m args below meth c D dA SH ad A nL Post (pc + 3) lv (.ref t0 :: st) σ) : hs_Wd p l e fr s m args below meth c D dA SH ad A nL Post pc lv st σ := by
  subst hr
  intro H locs ls hP hS hl
  rcases C.2.2.2.2.2.1.2.2.2.2 with h | ⟨t0, h⟩
  · exact va_gets C.1 C.2.1 h hS C.2.2.2.1 (C.2.2.2.2.1 _ hw) (fun _ h => h) hd (k1 H locs ls hP hS hl)
  · exact va_gets C.1 C.2.1 h hS C.2.2.2.1 (C.2.2.2.2.1 _ hw) (fun _ h => h) hd (k2 t0 H locs ls hP hS hl)
theorem hs_c256 : ∀ n : Nat, n < 256 → ((Int32.ofInt n).toUInt32 % 65536).toInt32 = Int32.ofInt n ∧ (Int32.ofInt n).toUInt32.toUInt16.toUInt32.toInt32 = Int32.ofInt n := by decide +kernel
theorem hs_nch {a : Int} (h0 : 0 ≤ a) (h1 : a ≤ 255) : narrow .char (vI a) = vI a := by
  obtain ⟨n, rfl⟩ := Int.eq_ofNat_of_zero_le h0
  exact congrArg Value.int (hs_c256 n (by omega)).2
theorem s_i2c (C : hs_C p s m args meth c D dA SH ad A nL cc own ret) {a : Int} (hd : decode cc pc = .ok (.i2c, 1)) (h0 : 0 ≤ a) (h1 : a ≤ 255)
    (k : hs_Wd p l e fr s m args below meth c D dA SH ad A nL Post (pc + 1) lv (vI a :: st) σ) : hs_Wd p l e fr s m args below meth c D dA SH ad A nL Post pc lv (vI a :: st) σ := by
  intro H locs ls hP hS hl
  exact lv_i2c C.1 C.2.1 hd (by obtain ⟨n, rfl⟩ := Int.eq_ofNat_of_zero_le h0; exact (hs_c256 n (by omega)).1) (k H locs ls hP hS hl)
theorem s_bret (C : hs_C p s m args meth c D dA SH ad A nL cc own (some .byte)) {z : Int} (hz : narrow .byte (vI z) = vI z) (hd : decode cc pc = .ok (.ireturn, 1)) (hq : Post (some (vI z)) σ) : hs_Wd p l e fr s m args below meth c D dA SH ad A nL Post pc lv [vI z] σ := by
  intro H locs ls hP hS hl
  refine W.zret C.1 C.2.1 C.2.2.2.2.2.2.2.2.2.1 hz ?_ ?_ hd C.2.2.2.2.2.2.2.2.1
  · intro t ht hW
    exact ⟨⟨_, σ, rfl, hq, by rw [ht]; exact hP⟩, hS.F ht⟩
  · exact hS.2.2
end WD
