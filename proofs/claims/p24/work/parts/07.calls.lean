abbrev hs_PI (P : hs_S → Int → hs_S → Prop) : hs_S → Option Value → hs_S → Prop := fun σ v σ1 => ∃ z, v = some (vI z) ∧ P σ z σ1
abbrev hs_PL (P : hs_S → Int → hs_S → Prop) : hs_S → Option Value → hs_S → Prop := fun σ v σ1 => ∃ z, v = some (vL z) ∧ P σ z σ1
abbrev hs_PV (P : hs_S → hs_S → Prop) : hs_S → Option Value → hs_S → Prop := fun σ v σ1 => v = none ∧ P σ σ1
section WC
variable {p : Program} {l : Launch} {e : Env} {fr : Nat} {s : State} {m : MethodId} {args : Array Value} {below : List Frame} {meth : Method} {c : Code} {D : va_G} {dA : Nat → ClassId} {SH : List hs_Sh} {ad : Nat → Nat} {A : Nat → Prop} {nL : Nat} {Post : Option Value → hs_S → Prop} {cc : ByteArray} {own : String} {ret : Option FieldType} {pc : Nat} {lv : List (Nat × Value)} {st : List Value} {σ : hs_S}
theorem s_callVi (C : hs_C p s m args meth c D dA SH ad A nL cc own ret) {y : MethodName} {cy : ByteArray} {nY : Nat} {rY : Option FieldType} {frY i : Nat} {av : (Nat → Nat) → List Value} {Pre : hs_S → Prop} {P : hs_S → Int → hs_S → Prop} (hM : hs_Met l y cy nY rY frY SH av Pre (hs_PI P)) (As rest : List Value) {q ci N : Nat} {T : u_T} {fl : List (Nat × Nat)} (hst : st = As.reverse ++ .ref (ad q) :: rest) (hav : av ad = .ref (ad q) :: As) (hd : decode cc pc = .ok (.invokevirtual i, 3)) (hw : Cond.methodLink own i y ∈ WS) (hins : Cond.instanceMethod y ∈ WS) (hsel : Cond.selects y.cls y y ∈ WS) (hcode : Cond.code y cy nY rY ∈ WS) (hini : Cond.initialized y.cls ∈ WS) (hno : y.cls ≠ "java/lang/invoke/MethodHandle" ∧ y.cls ≠ "java/lang/invoke/VarHandle" ∧ (parseMethodDescriptor y.desc).map (fun d => d.parameters.length) = some As.length) (hfr : frY + 1 ≤ fr) (hnY : nY ≤ 21) (hsum : (rest.map fun v => v.category).sum ≤ 8) (hpre : Pre σ) (hsh : SH[q]? = some (0, ci, fl)) (hc : vwCl[ci]? = some (y.cls, T, N))
    (k : ∀ (z : Int) (σ1 : hs_S), P σ z σ1 → hs_Wd p l e fr s m args below meth c D dA SH ad A nL Post (pc + 3) lv (vI z :: rest) σ1) : hs_Wd p l e fr s m args below meth c D dA SH ad A nL Post pc lv st σ :=
  s_callV C hM As rest hst hav hd hw hins hsel hcode hini hno hfr hnY hsum hpre hsh hc (fun v σ1 h => by obtain ⟨z, rfl, h⟩ := h; exact k z σ1 h)
theorem s_callVNi (C : hs_C p s m args meth c D dA SH ad A nL cc own ret) {y : MethodName} {cy : ByteArray} {nY : Nat} {rY : Option FieldType} {frY i : Nat} {av : (Nat → Nat) → List Value} {Pre : hs_S → Prop} {P : hs_S → Int → hs_S → Prop} (hM : hs_Met l y cy nY rY frY SH av Pre (hs_PI P)) (As rest : List Value) {q ci N : Nat} {T : u_T} {fl : List (Nat × Nat)} {host : String} (hst : st = As.reverse ++ .ref (ad q) :: rest) (hav : av ad = .ref (ad q) :: As) (hd : decode cc pc = .ok (.invokevirtual i, 3)) (hw : Cond.methodLinkNest own i y host ∈ NWS) (hins : Cond.instanceMethod y ∈ WS) (hsel : Cond.selects y.cls y y ∈ WS) (hcode : Cond.code y cy nY rY ∈ WS) (hini : Cond.initialized y.cls ∈ WS) (hno : y.cls ≠ "java/lang/invoke/MethodHandle" ∧ y.cls ≠ "java/lang/invoke/VarHandle" ∧ (parseMethodDescriptor y.desc).map (fun d => d.parameters.length) = some As.length) (hfr : frY + 1 ≤ fr) (hnY : nY ≤ 21) (hsum : (rest.map fun v => v.category).sum ≤ 8) (hpre : Pre σ) (hsh : SH[q]? = some (0, ci, fl)) (hc : vwCl[ci]? = some (y.cls, T, N))
    (k : ∀ (z : Int) (σ1 : hs_S), P σ z σ1 → hs_Wd p l e fr s m args below meth c D dA SH ad A nL Post (pc + 3) lv (vI z :: rest) σ1) : hs_Wd p l e fr s m args below meth c D dA SH ad A nL Post pc lv st σ :=
  s_callVN C hM As rest hst hav hd hw hins hsel hcode hini hno hfr hnY hsum hpre hsh hc (fun v σ1 h => by obtain ⟨z, rfl, h⟩ := h; exact k z σ1 h)
theorem s_callVSi (C : hs_C p s m args meth c D dA SH ad A nL cc own ret) {y : MethodName} {cy : ByteArray} {nY : Nat} {rY : Option FieldType} {frY i : Nat} {av : (Nat → Nat) → List Value} {Pre : hs_S → Prop} {P : hs_S → Int → hs_S → Prop} (hM : hs_Met l y cy nY rY frY SH av Pre (hs_PI P)) {j : Nat} (hj : j < 7) (hcl : y.cls = "java/lang/String") (As rest : List Value) (hst : st = As.reverse ++ .ref (ad (1000 + j)) :: rest) (hav : av ad = .ref (ad (1000 + j)) :: As) (hd : decode cc pc = .ok (.invokevirtual i, 3)) (hw : Cond.methodLink own i y ∈ WS) (hins : Cond.instanceMethod y ∈ WS) (hsel : Cond.selects y.cls y y ∈ WS) (hcode : Cond.code y cy nY rY ∈ WS) (hini : Cond.initialized y.cls ∈ WS) (hno : y.cls ≠ "java/lang/invoke/MethodHandle" ∧ y.cls ≠ "java/lang/invoke/VarHandle" ∧ (parseMethodDescriptor y.desc).map (fun d => d.parameters.length) = some As.length) (hfr : frY + 1 ≤ fr) (hnY : nY ≤ 21) (hsum : (rest.map fun v => v.category).sum ≤ 8) (hpre : Pre σ)
    (k : ∀ (z : Int) (σ1 : hs_S), P σ z σ1 → hs_Wd p l e fr s m args below meth c D dA SH ad A nL Post (pc + 3) lv (vI z :: rest) σ1) : hs_Wd p l e fr s m args below meth c D dA SH ad A nL Post pc lv st σ :=
  s_callVS C hM As rest hj hcl hst hav hd hw hins hsel hcode hini hno hfr hnY hsum hpre (fun v σ1 h => by obtain ⟨z, rfl, h⟩ := h; exact k z σ1 h)
theorem s_callSi (C : hs_C p s m args meth c D dA SH ad A nL cc own ret) {y : MethodName} {cy : ByteArray} {nY : Nat} {rY : Option FieldType} {frY i : Nat} {av : (Nat → Nat) → List Value} {Pre : hs_S → Prop} {P : hs_S → Int → hs_S → Prop} (hM : hs_Met l y cy nY rY frY SH av Pre (hs_PI P)) (As rest : List Value) (hst : st = As.reverse ++ rest) (hav : av ad = As) (hd : decode cc pc = .ok (.invokestatic i, 3)) (hw : Cond.methodLink own i y ∈ WS) (hsta : Cond.static y ∈ WS) (hcode : Cond.code y cy nY rY ∈ WS) (hini : Cond.initialized y.cls ∈ WS) (hno : y.cls ≠ "java/lang/invoke/MethodHandle" ∧ y.cls ≠ "java/lang/invoke/VarHandle" ∧ (parseMethodDescriptor y.desc).map (fun d => d.parameters.length) = some As.length) (hfr : frY + 1 ≤ fr) (hnY : nY ≤ 21) (hsum : (rest.map fun v => v.category).sum ≤ 8) (hpre : Pre σ) 
    (k : ∀ (z : Int) (σ1 : hs_S), P σ z σ1 → hs_Wd p l e fr s m args below meth c D dA SH ad A nL Post (pc + 3) lv (vI z :: rest) σ1) : hs_Wd p l e fr s m args below meth c D dA SH ad A nL Post pc lv st σ :=
  s_callS C hM As rest hst hav hd hw hsta hcode hini hno hfr hnY hsum hpre (fun v σ1 h => by obtain ⟨z, rfl, h⟩ := h; exact k z σ1 h)
theorem s_callVl (C : hs_C p s m args meth c D dA SH ad A nL cc own ret) {y : MethodName} {cy : ByteArray} {nY : Nat} {rY : Option FieldType} {frY i : Nat} {av : (Nat → Nat) → List Value} {Pre : hs_S → Prop} {P : hs_S → Int → hs_S → Prop} (hM : hs_Met l y cy nY rY frY SH av Pre (hs_PL P)) (As rest : List Value) {q ci N : Nat} {T : u_T} {fl : List (Nat × Nat)} (hst : st = As.reverse ++ .ref (ad q) :: rest) (hav : av ad = .ref (ad q) :: As) (hd : decode cc pc = .ok (.invokevirtual i, 3)) (hw : Cond.methodLink own i y ∈ WS) (hins : Cond.instanceMethod y ∈ WS) (hsel : Cond.selects y.cls y y ∈ WS) (hcode : Cond.code y cy nY rY ∈ WS) (hini : Cond.initialized y.cls ∈ WS) (hno : y.cls ≠ "java/lang/invoke/MethodHandle" ∧ y.cls ≠ "java/lang/invoke/VarHandle" ∧ (parseMethodDescriptor y.desc).map (fun d => d.parameters.length) = some As.length) (hfr : frY + 1 ≤ fr) (hnY : nY ≤ 21) (hsum : (rest.map fun v => v.category).sum ≤ 8) (hpre : Pre σ) (hsh : SH[q]? = some (0, ci, fl)) (hc : vwCl[ci]? = some (y.cls, T, N))
    (k : ∀ (z : Int) (σ1 : hs_S), P σ z σ1 → hs_Wd p l e fr s m args below meth c D dA SH ad A nL Post (pc + 3) lv (vL z :: rest) σ1) : hs_Wd p l e fr s m args below meth c D dA SH ad A nL Post pc lv st σ :=
  s_callV C hM As rest hst hav hd hw hins hsel hcode hini hno hfr hnY hsum hpre hsh hc (fun v σ1 h => by obtain ⟨z, rfl, h⟩ := h; exact k z σ1 h)
theorem s_callVNl (C : hs_C p s m args meth c D dA SH ad A nL cc own ret) {y : MethodName} {cy : ByteArray} {nY : Nat} {rY : Option FieldType} {frY i : Nat} {av : (Nat → Nat) → List Value} {Pre : hs_S → Prop} {P : hs_S → Int → hs_S → Prop} (hM : hs_Met l y cy nY rY frY SH av Pre (hs_PL P)) (As rest : List Value) {q ci N : Nat} {T : u_T} {fl : List (Nat × Nat)} {host : String} (hst : st = As.reverse ++ .ref (ad q) :: rest) (hav : av ad = .ref (ad q) :: As) (hd : decode cc pc = .ok (.invokevirtual i, 3)) (hw : Cond.methodLinkNest own i y host ∈ NWS) (hins : Cond.instanceMethod y ∈ WS) (hsel : Cond.selects y.cls y y ∈ WS) (hcode : Cond.code y cy nY rY ∈ WS) (hini : Cond.initialized y.cls ∈ WS) (hno : y.cls ≠ "java/lang/invoke/MethodHandle" ∧ y.cls ≠ "java/lang/invoke/VarHandle" ∧ (parseMethodDescriptor y.desc).map (fun d => d.parameters.length) = some As.length) (hfr : frY + 1 ≤ fr) (hnY : nY ≤ 21) (hsum : (rest.map fun v => v.category).sum ≤ 8) (hpre : Pre σ) (hsh : SH[q]? = some (0, ci, fl)) (hc : vwCl[ci]? = some (y.cls, T, N))
    (k : ∀ (z : Int) (σ1 : hs_S), P σ z σ1 → hs_Wd p l e fr s m args below meth c D dA SH ad A nL Post (pc + 3) lv (vL z :: rest) σ1) : hs_Wd p l e fr s m args below meth c D dA SH ad A nL Post pc lv st σ :=
  s_callVN C hM As rest hst hav hd hw hins hsel hcode hini hno hfr hnY hsum hpre hsh hc (fun v σ1 h => by obtain ⟨z, rfl, h⟩ := h; exact k z σ1 h)
theorem s_callVSl (C : hs_C p s m args meth c D dA SH ad A nL cc own ret) {y : MethodName} {cy : ByteArray} {nY : Nat} {rY : Option FieldType} {frY i : Nat} {av : (Nat → Nat) → List Value} {Pre : hs_S → Prop} {P : hs_S → Int → hs_S → Prop} (hM : hs_Met l y cy nY rY frY SH av Pre (hs_PL P)) {j : Nat} (hj : j < 7) (hcl : y.cls = "java/lang/String") (As rest : List Value) (hst : st = As.reverse ++ .ref (ad (1000 + j)) :: rest) (hav : av ad = .ref (ad (1000 + j)) :: As) (hd : decode cc pc = .ok (.invokevirtual i, 3)) (hw : Cond.methodLink own i y ∈ WS) (hins : Cond.instanceMethod y ∈ WS) (hsel : Cond.selects y.cls y y ∈ WS) (hcode : Cond.code y cy nY rY ∈ WS) (hini : Cond.initialized y.cls ∈ WS) (hno : y.cls ≠ "java/lang/invoke/MethodHandle" ∧ y.cls ≠ "java/lang/invoke/VarHandle" ∧ (parseMethodDescriptor y.desc).map (fun d => d.parameters.length) = some As.length) (hfr : frY + 1 ≤ fr) (hnY : nY ≤ 21) (hsum : (rest.map fun v => v.category).sum ≤ 8) (hpre : Pre σ)
    (k : ∀ (z : Int) (σ1 : hs_S), P σ z σ1 → hs_Wd p l e fr s m args below meth c D dA SH ad A nL Post (pc + 3) lv (vL z :: rest) σ1) : hs_Wd p l e fr s m args below meth c D dA SH ad A nL Post pc lv st σ :=
  s_callVS C hM As rest hj hcl hst hav hd hw hins hsel hcode hini hno hfr hnY hsum hpre (fun v σ1 h => by obtain ⟨z, rfl, h⟩ := h; exact k z σ1 h)
theorem s_callSl (C : hs_C p s m args meth c D dA SH ad A nL cc own ret) {y : MethodName} {cy : ByteArray} {nY : Nat} {rY : Option FieldType} {frY i : Nat} {av : (Nat → Nat) → List Value} {Pre : hs_S → Prop} {P : hs_S → Int → hs_S → Prop} (hM : hs_Met l y cy nY rY frY SH av Pre (hs_PL P)) (As rest : List Value) (hst : st = As.reverse ++ rest) (hav : av ad = As) (hd : decode cc pc = .ok (.invokestatic i, 3)) (hw : Cond.methodLink own i y ∈ WS) (hsta : Cond.static y ∈ WS) (hcode : Cond.code y cy nY rY ∈ WS) (hini : Cond.initialized y.cls ∈ WS) (hno : y.cls ≠ "java/lang/invoke/MethodHandle" ∧ y.cls ≠ "java/lang/invoke/VarHandle" ∧ (parseMethodDescriptor y.desc).map (fun d => d.parameters.length) = some As.length) (hfr : frY + 1 ≤ fr) (hnY : nY ≤ 21) (hsum : (rest.map fun v => v.category).sum ≤ 8) (hpre : Pre σ) 
    (k : ∀ (z : Int) (σ1 : hs_S), P σ z σ1 → hs_Wd p l e fr s m args below meth c D dA SH ad A nL Post (pc + 3) lv (vL z :: rest) σ1) : hs_Wd p l e fr s m args below meth c D dA SH ad A nL Post pc lv st σ :=
  s_callS C hM As rest hst hav hd hw hsta hcode hini hno hfr hnY hsum hpre (fun v σ1 h => by obtain ⟨z, rfl, h⟩ := h; exact k z σ1 h)
theorem s_callVv (C : hs_C p s m args meth c D dA SH ad A nL cc own ret) {y : MethodName} {cy : ByteArray} {nY : Nat} {rY : Option FieldType} {frY i : Nat} {av : (Nat → Nat) → List Value} {Pre : hs_S → Prop} {P : hs_S → hs_S → Prop} (hM : hs_Met l y cy nY rY frY SH av Pre (hs_PV P)) (As rest : List Value) {q ci N : Nat} {T : u_T} {fl : List (Nat × Nat)} (hst : st = As.reverse ++ .ref (ad q) :: rest) (hav : av ad = .ref (ad q) :: As) (hd : decode cc pc = .ok (.invokevirtual i, 3)) (hw : Cond.methodLink own i y ∈ WS) (hins : Cond.instanceMethod y ∈ WS) (hsel : Cond.selects y.cls y y ∈ WS) (hcode : Cond.code y cy nY rY ∈ WS) (hini : Cond.initialized y.cls ∈ WS) (hno : y.cls ≠ "java/lang/invoke/MethodHandle" ∧ y.cls ≠ "java/lang/invoke/VarHandle" ∧ (parseMethodDescriptor y.desc).map (fun d => d.parameters.length) = some As.length) (hfr : frY + 1 ≤ fr) (hnY : nY ≤ 21) (hsum : (rest.map fun v => v.category).sum ≤ 8) (hpre : Pre σ) (hsh : SH[q]? = some (0, ci, fl)) (hc : vwCl[ci]? = some (y.cls, T, N))
    (k : ∀ (σ1 : hs_S), P σ σ1 → hs_Wd p l e fr s m args below meth c D dA SH ad A nL Post (pc + 3) lv rest σ1) : hs_Wd p l e fr s m args below meth c D dA SH ad A nL Post pc lv st σ :=
  s_callV C hM As rest hst hav hd hw hins hsel hcode hini hno hfr hnY hsum hpre hsh hc (fun v σ1 h => by obtain ⟨rfl, h⟩ := h; exact k σ1 h)
theorem s_callVNv (C : hs_C p s m args meth c D dA SH ad A nL cc own ret) {y : MethodName} {cy : ByteArray} {nY : Nat} {rY : Option FieldType} {frY i : Nat} {av : (Nat → Nat) → List Value} {Pre : hs_S → Prop} {P : hs_S → hs_S → Prop} (hM : hs_Met l y cy nY rY frY SH av Pre (hs_PV P)) (As rest : List Value) {q ci N : Nat} {T : u_T} {fl : List (Nat × Nat)} {host : String} (hst : st = As.reverse ++ .ref (ad q) :: rest) (hav : av ad = .ref (ad q) :: As) (hd : decode cc pc = .ok (.invokevirtual i, 3)) (hw : Cond.methodLinkNest own i y host ∈ NWS) (hins : Cond.instanceMethod y ∈ WS) (hsel : Cond.selects y.cls y y ∈ WS) (hcode : Cond.code y cy nY rY ∈ WS) (hini : Cond.initialized y.cls ∈ WS) (hno : y.cls ≠ "java/lang/invoke/MethodHandle" ∧ y.cls ≠ "java/lang/invoke/VarHandle" ∧ (parseMethodDescriptor y.desc).map (fun d => d.parameters.length) = some As.length) (hfr : frY + 1 ≤ fr) (hnY : nY ≤ 21) (hsum : (rest.map fun v => v.category).sum ≤ 8) (hpre : Pre σ) (hsh : SH[q]? = some (0, ci, fl)) (hc : vwCl[ci]? = some (y.cls, T, N))
    (k : ∀ (σ1 : hs_S), P σ σ1 → hs_Wd p l e fr s m args below meth c D dA SH ad A nL Post (pc + 3) lv rest σ1) : hs_Wd p l e fr s m args below meth c D dA SH ad A nL Post pc lv st σ :=
  s_callVN C hM As rest hst hav hd hw hins hsel hcode hini hno hfr hnY hsum hpre hsh hc (fun v σ1 h => by obtain ⟨rfl, h⟩ := h; exact k σ1 h)
theorem s_callVSv (C : hs_C p s m args meth c D dA SH ad A nL cc own ret) {y : MethodName} {cy : ByteArray} {nY : Nat} {rY : Option FieldType} {frY i : Nat} {av : (Nat → Nat) → List Value} {Pre : hs_S → Prop} {P : hs_S → hs_S → Prop} (hM : hs_Met l y cy nY rY frY SH av Pre (hs_PV P)) {j : Nat} (hj : j < 7) (hcl : y.cls = "java/lang/String") (As rest : List Value) (hst : st = As.reverse ++ .ref (ad (1000 + j)) :: rest) (hav : av ad = .ref (ad (1000 + j)) :: As) (hd : decode cc pc = .ok (.invokevirtual i, 3)) (hw : Cond.methodLink own i y ∈ WS) (hins : Cond.instanceMethod y ∈ WS) (hsel : Cond.selects y.cls y y ∈ WS) (hcode : Cond.code y cy nY rY ∈ WS) (hini : Cond.initialized y.cls ∈ WS) (hno : y.cls ≠ "java/lang/invoke/MethodHandle" ∧ y.cls ≠ "java/lang/invoke/VarHandle" ∧ (parseMethodDescriptor y.desc).map (fun d => d.parameters.length) = some As.length) (hfr : frY + 1 ≤ fr) (hnY : nY ≤ 21) (hsum : (rest.map fun v => v.category).sum ≤ 8) (hpre : Pre σ)
    (k : ∀ (σ1 : hs_S), P σ σ1 → hs_Wd p l e fr s m args below meth c D dA SH ad A nL Post (pc + 3) lv rest σ1) : hs_Wd p l e fr s m args below meth c D dA SH ad A nL Post pc lv st σ :=
  s_callVS C hM As rest hj hcl hst hav hd hw hins hsel hcode hini hno hfr hnY hsum hpre (fun v σ1 h => by obtain ⟨rfl, h⟩ := h; exact k σ1 h)
theorem s_callSv (C : hs_C p s m args meth c D dA SH ad A nL cc own ret) {y : MethodName} {cy : ByteArray} {nY : Nat} {rY : Option FieldType} {frY i : Nat} {av : (Nat → Nat) → List Value} {Pre : hs_S → Prop} {P : hs_S → hs_S → Prop} (hM : hs_Met l y cy nY rY frY SH av Pre (hs_PV P)) (As rest : List Value) (hst : st = As.reverse ++ rest) (hav : av ad = As) (hd : decode cc pc = .ok (.invokestatic i, 3)) (hw : Cond.methodLink own i y ∈ WS) (hsta : Cond.static y ∈ WS) (hcode : Cond.code y cy nY rY ∈ WS) (hini : Cond.initialized y.cls ∈ WS) (hno : y.cls ≠ "java/lang/invoke/MethodHandle" ∧ y.cls ≠ "java/lang/invoke/VarHandle" ∧ (parseMethodDescriptor y.desc).map (fun d => d.parameters.length) = some As.length) (hfr : frY + 1 ≤ fr) (hnY : nY ≤ 21) (hsum : (rest.map fun v => v.category).sum ≤ 8) (hpre : Pre σ) 
    (k : ∀ (σ1 : hs_S), P σ σ1 → hs_Wd p l e fr s m args below meth c D dA SH ad A nL Post (pc + 3) lv rest σ1) : hs_Wd p l e fr s m args below meth c D dA SH ad A nL Post pc lv st σ :=
  s_callS C hM As rest hst hav hd hw hsta hcode hini hno hfr hnY hsum hpre (fun v σ1 h => by obtain ⟨rfl, h⟩ := h; exact k σ1 h)
theorem s_nrmI (C : hs_C p s m args meth c D dA SH ad A nL cc own ret) {a : Int} (k : ∀ z : Int, hs_R z → z = (Int32.ofInt a).toInt → hs_Wd p l e fr s m args below meth c D dA SH ad A nL Post pc lv (vI z :: st) σ) : hs_Wd p l e fr s m args below meth c D dA SH ad A nL Post pc lv (vI a :: st) σ := by
  intro H locs ls hP hS hl
  rw [show vI a = vI (Int32.ofInt a).toInt from congrArg Value.int (Int32.ofInt_toInt (Int32.ofInt a)).symm]
  exact k _ (hs_oR _) rfl H locs ls hP hS hl
theorem s_nrmL (C : hs_C p s m args meth c D dA SH ad A nL cc own ret) {a : Int} (k : ∀ z : Int, hs_RL z → hs_Wd p l e fr s m args below meth c D dA SH ad A nL Post pc lv (vL z :: st) σ) : hs_Wd p l e fr s m args below meth c D dA SH ad A nL Post pc lv (vL a :: st) σ := by
  intro H locs ls hP hS hl
  rw [show vL a = vL (Int64.ofInt a).toInt from congrArg Value.long (Int64.ofInt_toInt (Int64.ofInt a)).symm]
  exact k _ ⟨by have := (Int64.ofInt a).le_toInt; omega, by have := (Int64.ofInt a).toInt_lt; omega⟩ H locs ls hP hS hl
theorem s_iushr (C : hs_C p s m args meth c D dA SH ad A nL cc own ret) {a b : Int} (hd : decode cc pc = .ok (.iushr, 1))
    (k : ∀ z : Int, hs_R z → hs_Wd p l e fr s m args below meth c D dA SH ad A nL Post (pc + 1) lv (vI z :: st) σ) : hs_Wd p l e fr s m args below meth c D dA SH ad A nL Post pc lv (vI b :: vI a :: st) σ := by
  intro H locs ls hP hS hl
  refine lv_iushr C.1 C.2.1 hd rfl ?_
  rw [← Int32.ofInt_toInt ((Int32.ofInt a).toUInt32 >>> ((Int32.ofInt b).toUInt32 &&& Int32.toUInt32 31)).toInt32]
  exact k _ (hs_oR _) H locs ls hP hS hl
end WC
theorem hs_ofW {l : Launch} {y : MethodName} {ws ws' : List Cond} {rm : Room} {Pc : Array Value → State → Prop} {Qc : Array Value → State → Outcome → State → Prop} {mc ms : Nat} {free : Addr → Prop} {cc : ByteArray} {maxL : Nat} {ret : Option FieldType}
    (hy : plainFor y = true) (hw : ws = Cond.code y cc maxL ret :: ws')
    (body : ∀ p e s m args below meth c s₁, BodyLoose p l y (headSpec ws rm) cc maxL ret e s m args below meth c s₁ → c.maxLocals = maxL → Pc args s →
      W p l e (headSpec ws rm).room s m args below meth c s.heap [] 0 0 (MQ below Qc args s mc ms free) (entryFrame m args maxL)) : Met l y ws rm Pc Qc mc ms free := by
  refine MetFree.of_bodySF (code := cc) (maxLocals := maxL) (ret := ret) hy ?_ ?_
  · intro args s m h hn
    obtain ⟨meth, c, h1, h2, h3, h4, h5, h6, -, -⟩ := Cond.code_spec hn (atoms_spec (ws := ws) h _ (by rw [hw]; exact List.mem_cons_self))
    exact ⟨meth, c, h1, h2, h3, h4, h5, h6⟩
  · intro p e s m args below meth c s₁ B hml hP _
    have hh0 : s₁.heap = s.heap := by rw [B.state]; rfl
    obtain ⟨t, a1, o, b1, b2, b3⟩ := body p e s m args below meth c s₁ B hml hP s₁ hh0 (Stand.of_body B)
    exact ⟨t, o, a1, b1, b2, ⟨b3.1, b3.2⟩⟩
theorem hs_from {l : Launch} {fr : Nat} {SH : List hs_Sh} {nL : Nat} {cc : ByteArray} {ret : Option FieldType} {y : MethodName} {av : (Nat → Nat) → List Value} {Pre : hs_S → Prop} {PostC : hs_S → Option Value → hs_S → Prop} (hy : plainFor y = true) (hlen : ∀ ad, (lg_sl (av ad)).length ≤ nL)
    (body : ∀ (p : Program) (e : Env) (s : State) (m : MethodId) (args : Array Value) (below : List Frame) (meth : Method) (c : Code) (D : va_G) (dA : Nat → ClassId) (ad : Nat → Nat) (A : Nat → Prop) (σ : hs_S), hs_C p s m args meth c D dA SH ad A nL cc y.cls ret → Pre σ → hs_Wd p l e fr s m args below meth c D dA SH ad A nL (PostC σ) 0 (lv_args 0 (av ad)) [] σ) :
    hs_Met l y cc nL ret fr SH av Pre PostC := by
  intro D dA ad sz σ hinj hpre
  refine hs_ofW (cc := cc) (maxL := nL) (ret := ret) hy rfl ?_
  intro p e s m args below meth c s₁ B hml hv
  obtain ⟨rfl, hsz, hP, hK⟩ := hv
  subst hsz
  have hts := atoms_spec (ws := Cond.code y cc nL ret :: WS) B.pre
  have hown : s.vm.findClass y.cls = some m.cls := findClass_of_methodNamed B.named
  have hC : hs_C p s m (av ad).toArray meth c D dA SH ad (hs_A SH ad s.heap.size) nL cc y.cls ret :=
    ⟨B.exec, B.bytes, hml, hown, fun w hw => hts w (List.mem_cons_of_mem _ hw), hK, fun σ => hs_D hinj (fun c hc => Or.inl ⟨c, hc, rfl⟩) σ, fun q hq => Or.inr hq, B.notSynchronized, B.returns, hinj⟩
  have hl := lv_entry (av ad) (n := nL) (hlen ad)
  rw [lg_entry_eq]
  exact body p e s m _ below meth c D dA ad _ σ hC hpre s.heap [] _ hP va_S.rf hl
/-- the wheels, and the rows of places: the array's k-th reference -/
theorem hs_ref4 {a : Nat} {i : Int} (h0 : 0 ≤ i) (h1 : i < 4) : (([(0, a), (0, a + 1), (0, a + 2), (0, a + 3)] : List (Nat × Nat)).getD i.toNat (0, 0)).2 = a + i.toNat := by
  obtain ⟨n, rfl⟩ := Int.eq_ofNat_of_zero_le h0
  rcases (show n = 0 ∨ n = 1 ∨ n = 2 ∨ n = 3 by omega) with rfl | rfl | rfl | rfl <;> rfl
abbrev hs_T (t : Nat) : Prop := t = 3 ∨ t = 33
theorem sh_T {t : Nat} (h : hs_T t) : SHX[t]? = some (0, 8, [(2, t + 1), (2, t + 2), (2, t + 3), (0, 0), (0, 0), (0, 0), (0, 0)]) := by rcases h with rfl | rfl <;> rfl
theorem sh_T1 {t : Nat} (h : hs_T t) : SHX[t + 1]? = some (1, 1, [(4, 0)]) := by rcases h with rfl | rfl <;> rfl
theorem sh_T2 {t : Nat} (h : hs_T t) : SHX[t + 2]? = some (1, 1, [(4, 0)]) := by rcases h with rfl | rfl <;> rfl
theorem sh_T3 {t : Nat} (h : hs_T t) : SHX[t + 3]? = some (1, 1, [(4, 0)]) := by rcases h with rfl | rfl <;> rfl
theorem sh_Wh {w : Nat} (h : w < 4) : SHX[8 + w]? = some (0, 9, [(0, 0), (0, 0), (0, 0), (0, 0), (0, 0), (0, 0), (0, 0), (0, 0), (0, 0)]) := by rcases (show w = 0 ∨ w = 1 ∨ w = 2 ∨ w = 3 by omega) with rfl | rfl | rfl | rfl <;> rfl
theorem sh_Pl {w : Nat} (h : w < 4) : SHX[38 + w]? = some (1, 1, [(100, 0)]) := by rcases (show w = 0 ∨ w = 1 ∨ w = 2 ∨ w = 3 by omega) with rfl | rfl | rfl | rfl <;> rfl
theorem pfX0_init : plainFor yX0_init = true := by decide +kernel
theorem noX0_init : yX0_init.cls ≠ "java/lang/invoke/MethodHandle" ∧ yX0_init.cls ≠ "java/lang/invoke/VarHandle" ∧ (parseMethodDescriptor yX0_init.desc).map (fun d => d.parameters.length) = some 0 := by decide +kernel
theorem pfX0_note : plainFor yX0_note = true := by decide +kernel
theorem noX0_note : yX0_note.cls ≠ "java/lang/invoke/MethodHandle" ∧ yX0_note.cls ≠ "java/lang/invoke/VarHandle" ∧ (parseMethodDescriptor yX0_note.desc).map (fun d => d.parameters.length) = some 3 := by decide +kernel
theorem pfX0_gateAtEndOf : plainFor yX0_gateAtEndOf = true := by decide +kernel
theorem noX0_gateAtEndOf : yX0_gateAtEndOf.cls ≠ "java/lang/invoke/MethodHandle" ∧ yX0_gateAtEndOf.cls ≠ "java/lang/invoke/VarHandle" ∧ (parseMethodDescriptor yX0_gateAtEndOf.desc).map (fun d => d.parameters.length) = some 3 := by decide +kernel
theorem pfX1_init : plainFor yX1_init = true := by decide +kernel
theorem noX1_init : yX1_init.cls ≠ "java/lang/invoke/MethodHandle" ∧ yX1_init.cls ≠ "java/lang/invoke/VarHandle" ∧ (parseMethodDescriptor yX1_init.desc).map (fun d => d.parameters.length) = some 0 := by decide +kernel
theorem pfX1_note : plainFor yX1_note = true := by decide +kernel
theorem noX1_note : yX1_note.cls ≠ "java/lang/invoke/MethodHandle" ∧ yX1_note.cls ≠ "java/lang/invoke/VarHandle" ∧ (parseMethodDescriptor yX1_note.desc).map (fun d => d.parameters.length) = some 1 := by decide +kernel
theorem pfX1_placeOf : plainFor yX1_placeOf = true := by decide +kernel
theorem noX1_placeOf : yX1_placeOf.cls ≠ "java/lang/invoke/MethodHandle" ∧ yX1_placeOf.cls ≠ "java/lang/invoke/VarHandle" ∧ (parseMethodDescriptor yX1_placeOf.desc).map (fun d => d.parameters.length) = some 2 := by decide +kernel
theorem pfX2_init : plainFor yX2_init = true := by decide +kernel
theorem noX2_init : yX2_init.cls ≠ "java/lang/invoke/MethodHandle" ∧ yX2_init.cls ≠ "java/lang/invoke/VarHandle" ∧ (parseMethodDescriptor yX2_init.desc).map (fun d => d.parameters.length) = some 2 := by decide +kernel
theorem pfX2_weighGates : plainFor yX2_weighGates = true := by decide +kernel
theorem noX2_weighGates : yX2_weighGates.cls ≠ "java/lang/invoke/MethodHandle" ∧ yX2_weighGates.cls ≠ "java/lang/invoke/VarHandle" ∧ (parseMethodDescriptor yX2_weighGates.desc).map (fun d => d.parameters.length) = some 1 := by decide +kernel
theorem pfX2_isPossible : plainFor yX2_isPossible = true := by decide +kernel
theorem noX2_isPossible : yX2_isPossible.cls ≠ "java/lang/invoke/MethodHandle" ∧ yX2_isPossible.cls ≠ "java/lang/invoke/VarHandle" ∧ (parseMethodDescriptor yX2_isPossible.desc).map (fun d => d.parameters.length) = some 2 := by decide +kernel
theorem pfX2_countPossible : plainFor yX2_countPossible = true := by decide +kernel
theorem noX2_countPossible : yX2_countPossible.cls ≠ "java/lang/invoke/MethodHandle" ∧ yX2_countPossible.cls ≠ "java/lang/invoke/VarHandle" ∧ (parseMethodDescriptor yX2_countPossible.desc).map (fun d => d.parameters.length) = some 0 := by decide +kernel
theorem pfX2_possibleAt : plainFor yX2_possibleAt = true := by decide +kernel
theorem noX2_possibleAt : yX2_possibleAt.cls ≠ "java/lang/invoke/MethodHandle" ∧ yX2_possibleAt.cls ≠ "java/lang/invoke/VarHandle" ∧ (parseMethodDescriptor yX2_possibleAt.desc).map (fun d => d.parameters.length) = some 1 := by decide +kernel
theorem pfX2_layOut : plainFor yX2_layOut = true := by decide +kernel
theorem noX2_layOut : yX2_layOut.cls ≠ "java/lang/invoke/MethodHandle" ∧ yX2_layOut.cls ≠ "java/lang/invoke/VarHandle" ∧ (parseMethodDescriptor yX2_layOut.desc).map (fun d => d.parameters.length) = some 1 := by decide +kernel
theorem pfX2_lastFrom : plainFor yX2_lastFrom = true := by decide +kernel
theorem noX2_lastFrom : yX2_lastFrom.cls ≠ "java/lang/invoke/MethodHandle" ∧ yX2_lastFrom.cls ≠ "java/lang/invoke/VarHandle" ∧ (parseMethodDescriptor yX2_lastFrom.desc).map (fun d => d.parameters.length) = some 1 := by decide +kernel
theorem pfX2_firstOpenBehind : plainFor yX2_firstOpenBehind = true := by decide +kernel
theorem noX2_firstOpenBehind : yX2_firstOpenBehind.cls ≠ "java/lang/invoke/MethodHandle" ∧ yX2_firstOpenBehind.cls ≠ "java/lang/invoke/VarHandle" ∧ (parseMethodDescriptor yX2_firstOpenBehind.desc).map (fun d => d.parameters.length) = some 2 := by decide +kernel
theorem pfX2_fewestBehind : plainFor yX2_fewestBehind = true := by decide +kernel
theorem noX2_fewestBehind : yX2_fewestBehind.cls ≠ "java/lang/invoke/MethodHandle" ∧ yX2_fewestBehind.cls ≠ "java/lang/invoke/VarHandle" ∧ (parseMethodDescriptor yX2_fewestBehind.desc).map (fun d => d.parameters.length) = some 2 := by decide +kernel
theorem pfX2_farthestFor : plainFor yX2_farthestFor = true := by decide +kernel
theorem noX2_farthestFor : yX2_farthestFor.cls ≠ "java/lang/invoke/MethodHandle" ∧ yX2_farthestFor.cls ≠ "java/lang/invoke/VarHandle" ∧ (parseMethodDescriptor yX2_farthestFor.desc).map (fun d => d.parameters.length) = some 1 := by decide +kernel
theorem pfX2_nextPlace : plainFor yX2_nextPlace = true := by decide +kernel
theorem noX2_nextPlace : yX2_nextPlace.cls ≠ "java/lang/invoke/MethodHandle" ∧ yX2_nextPlace.cls ≠ "java/lang/invoke/VarHandle" ∧ (parseMethodDescriptor yX2_nextPlace.desc).map (fun d => d.parameters.length) = some 3 := by decide +kernel
theorem pfX3_init : plainFor yX3_init = true := by decide +kernel
theorem noX3_init : yX3_init.cls ≠ "java/lang/invoke/MethodHandle" ∧ yX3_init.cls ≠ "java/lang/invoke/VarHandle" ∧ (parseMethodDescriptor yX3_init.desc).map (fun d => d.parameters.length) = some 0 := by decide +kernel
theorem pfX3_readText : plainFor yX3_readText = true := by decide +kernel
theorem noX3_readText : yX3_readText.cls ≠ "java/lang/invoke/MethodHandle" ∧ yX3_readText.cls ≠ "java/lang/invoke/VarHandle" ∧ (parseMethodDescriptor yX3_readText.desc).map (fun d => d.parameters.length) = some 2 := by decide +kernel
theorem pfX3_refuse : plainFor yX3_refuse = true := by decide +kernel
theorem noX3_refuse : yX3_refuse.cls ≠ "java/lang/invoke/MethodHandle" ∧ yX3_refuse.cls ≠ "java/lang/invoke/VarHandle" ∧ (parseMethodDescriptor yX3_refuse.desc).map (fun d => d.parameters.length) = some 1 := by decide +kernel
theorem pfX3_goOn : plainFor yX3_goOn = true := by decide +kernel
theorem noX3_goOn : yX3_goOn.cls ≠ "java/lang/invoke/MethodHandle" ∧ yX3_goOn.cls ≠ "java/lang/invoke/VarHandle" ∧ (parseMethodDescriptor yX3_goOn.desc).map (fun d => d.parameters.length) = some 0 := by decide +kernel
theorem pfX3_readStatement : plainFor yX3_readStatement = true := by decide +kernel
theorem noX3_readStatement : yX3_readStatement.cls ≠ "java/lang/invoke/MethodHandle" ∧ yX3_readStatement.cls ≠ "java/lang/invoke/VarHandle" ∧ (parseMethodDescriptor yX3_readStatement.desc).map (fun d => d.parameters.length) = some 0 := by decide +kernel
theorem pfX3_readRest : plainFor yX3_readRest = true := by decide +kernel
theorem noX3_readRest : yX3_readRest.cls ≠ "java/lang/invoke/MethodHandle" ∧ yX3_readRest.cls ≠ "java/lang/invoke/VarHandle" ∧ (parseMethodDescriptor yX3_readRest.desc).map (fun d => d.parameters.length) = some 1 := by decide +kernel
theorem pfX3_readOpening : plainFor yX3_readOpening = true := by decide +kernel
theorem noX3_readOpening : yX3_readOpening.cls ≠ "java/lang/invoke/MethodHandle" ∧ yX3_readOpening.cls ≠ "java/lang/invoke/VarHandle" ∧ (parseMethodDescriptor yX3_readOpening.desc).map (fun d => d.parameters.length) = some 1 := by decide +kernel
theorem pfX3_readClosing : plainFor yX3_readClosing = true := by decide +kernel
theorem noX3_readClosing : yX3_readClosing.cls ≠ "java/lang/invoke/MethodHandle" ∧ yX3_readClosing.cls ≠ "java/lang/invoke/VarHandle" ∧ (parseMethodDescriptor yX3_readClosing.desc).map (fun d => d.parameters.length) = some 0 := by decide +kernel
theorem pfX3_readSign : plainFor yX3_readSign = true := by decide +kernel
theorem noX3_readSign : yX3_readSign.cls ≠ "java/lang/invoke/MethodHandle" ∧ yX3_readSign.cls ≠ "java/lang/invoke/VarHandle" ∧ (parseMethodDescriptor yX3_readSign.desc).map (fun d => d.parameters.length) = some 1 := by decide +kernel
theorem pfX3_readNumber : plainFor yX3_readNumber = true := by decide +kernel
theorem noX3_readNumber : yX3_readNumber.cls ≠ "java/lang/invoke/MethodHandle" ∧ yX3_readNumber.cls ≠ "java/lang/invoke/VarHandle" ∧ (parseMethodDescriptor yX3_readNumber.desc).map (fun d => d.parameters.length) = some 2 := by decide +kernel
theorem pfX3_readNewLetter : plainFor yX3_readNewLetter = true := by decide +kernel
theorem noX3_readNewLetter : yX3_readNewLetter.cls ≠ "java/lang/invoke/MethodHandle" ∧ yX3_readNewLetter.cls ≠ "java/lang/invoke/VarHandle" ∧ (parseMethodDescriptor yX3_readNewLetter.desc).map (fun d => d.parameters.length) = some 0 := by decide +kernel
theorem pfX3_readPlace : plainFor yX3_readPlace = true := by decide +kernel
theorem noX3_readPlace : yX3_readPlace.cls ≠ "java/lang/invoke/MethodHandle" ∧ yX3_readPlace.cls ≠ "java/lang/invoke/VarHandle" ∧ (parseMethodDescriptor yX3_readPlace.desc).map (fun d => d.parameters.length) = some 1 := by decide +kernel
theorem pfX3_isLetterAround : plainFor yX3_isLetterAround = true := by decide +kernel
theorem noX3_isLetterAround : yX3_isLetterAround.cls ≠ "java/lang/invoke/MethodHandle" ∧ yX3_isLetterAround.cls ≠ "java/lang/invoke/VarHandle" ∧ (parseMethodDescriptor yX3_isLetterAround.desc).map (fun d => d.parameters.length) = some 1 := by decide +kernel
theorem pfX4_init : plainFor yX4_init = true := by decide +kernel
theorem noX4_init : yX4_init.cls ≠ "java/lang/invoke/MethodHandle" ∧ yX4_init.cls ≠ "java/lang/invoke/VarHandle" ∧ (parseMethodDescriptor yX4_init.desc).map (fun d => d.parameters.length) = some 3 := by decide +kernel
theorem pfX4_forget : plainFor yX4_forget = true := by decide +kernel
theorem noX4_forget : yX4_forget.cls ≠ "java/lang/invoke/MethodHandle" ∧ yX4_forget.cls ≠ "java/lang/invoke/VarHandle" ∧ (parseMethodDescriptor yX4_forget.desc).map (fun d => d.parameters.length) = some 0 := by decide +kernel
theorem pfX4_runRow : plainFor yX4_runRow = true := by decide +kernel
theorem noX4_runRow : yX4_runRow.cls ≠ "java/lang/invoke/MethodHandle" ∧ yX4_runRow.cls ≠ "java/lang/invoke/VarHandle" ∧ (parseMethodDescriptor yX4_runRow.desc).map (fun d => d.parameters.length) = some 3 := by decide +kernel
theorem pfX4_runStatement : plainFor yX4_runStatement = true := by decide +kernel
theorem noX4_runStatement : yX4_runStatement.cls ≠ "java/lang/invoke/MethodHandle" ∧ yX4_runStatement.cls ≠ "java/lang/invoke/VarHandle" ∧ (parseMethodDescriptor yX4_runStatement.desc).map (fun d => d.parameters.length) = some 2 := by decide +kernel
theorem pfX4_goesLeft : plainFor yX4_goesLeft = true := by decide +kernel
theorem noX4_goesLeft : yX4_goesLeft.cls ≠ "java/lang/invoke/MethodHandle" ∧ yX4_goesLeft.cls ≠ "java/lang/invoke/VarHandle" ∧ (parseMethodDescriptor yX4_goesLeft.desc).map (fun d => d.parameters.length) = some 1 := by decide +kernel
theorem pfX4_stepsOf : plainFor yX4_stepsOf = true := by decide +kernel
theorem noX4_stepsOf : yX4_stepsOf.cls ≠ "java/lang/invoke/MethodHandle" ∧ yX4_stepsOf.cls ≠ "java/lang/invoke/VarHandle" ∧ (parseMethodDescriptor yX4_stepsOf.desc).map (fun d => d.parameters.length) = some 2 := by decide +kernel
theorem pfX4_outcomeOfTry : plainFor yX4_outcomeOfTry = true := by decide +kernel
theorem noX4_outcomeOfTry : yX4_outcomeOfTry.cls ≠ "java/lang/invoke/MethodHandle" ∧ yX4_outcomeOfTry.cls ≠ "java/lang/invoke/VarHandle" ∧ (parseMethodDescriptor yX4_outcomeOfTry.desc).map (fun d => d.parameters.length) = some 1 := by decide +kernel
theorem pfX4_runAgain : plainFor yX4_runAgain = true := by decide +kernel
theorem noX4_runAgain : yX4_runAgain.cls ≠ "java/lang/invoke/MethodHandle" ∧ yX4_runAgain.cls ≠ "java/lang/invoke/VarHandle" ∧ (parseMethodDescriptor yX4_runAgain.desc).map (fun d => d.parameters.length) = some 2 := by decide +kernel
theorem pfX4_runEach : plainFor yX4_runEach = true := by decide +kernel
theorem noX4_runEach : yX4_runEach.cls ≠ "java/lang/invoke/MethodHandle" ∧ yX4_runEach.cls ≠ "java/lang/invoke/VarHandle" ∧ (parseMethodDescriptor yX4_runEach.desc).map (fun d => d.parameters.length) = some 2 := by decide +kernel
theorem pfX4_valueOf : plainFor yX4_valueOf = true := by decide +kernel
theorem noX4_valueOf : yX4_valueOf.cls ≠ "java/lang/invoke/MethodHandle" ∧ yX4_valueOf.cls ≠ "java/lang/invoke/VarHandle" ∧ (parseMethodDescriptor yX4_valueOf.desc).map (fun d => d.parameters.length) = some 1 := by decide +kernel
theorem pfX5_init : plainFor yX5_init = true := by decide +kernel
theorem noX5_init : yX5_init.cls ≠ "java/lang/invoke/MethodHandle" ∧ yX5_init.cls ≠ "java/lang/invoke/VarHandle" ∧ (parseMethodDescriptor yX5_init.desc).map (fun d => d.parameters.length) = some 0 := by decide +kernel
theorem pfX5_renew : plainFor yX5_renew = true := by decide +kernel
theorem noX5_renew : yX5_renew.cls ≠ "java/lang/invoke/MethodHandle" ∧ yX5_renew.cls ≠ "java/lang/invoke/VarHandle" ∧ (parseMethodDescriptor yX5_renew.desc).map (fun d => d.parameters.length) = some 1 := by decide +kernel
theorem pfX5_hasWheel : plainFor yX5_hasWheel = true := by decide +kernel
theorem noX5_hasWheel : yX5_hasWheel.cls ≠ "java/lang/invoke/MethodHandle" ∧ yX5_hasWheel.cls ≠ "java/lang/invoke/VarHandle" ∧ (parseMethodDescriptor yX5_hasWheel.desc).map (fun d => d.parameters.length) = some 1 := by decide +kernel
theorem pfX5_hasNumber : plainFor yX5_hasNumber = true := by decide +kernel
theorem noX5_hasNumber : yX5_hasNumber.cls ≠ "java/lang/invoke/MethodHandle" ∧ yX5_hasNumber.cls ≠ "java/lang/invoke/VarHandle" ∧ (parseMethodDescriptor yX5_hasNumber.desc).map (fun d => d.parameters.length) = some 1 := by decide +kernel
theorem pfX5_radiusWithoutGates : plainFor yX5_radiusWithoutGates = true := by decide +kernel
theorem noX5_radiusWithoutGates : yX5_radiusWithoutGates.cls ≠ "java/lang/invoke/MethodHandle" ∧ yX5_radiusWithoutGates.cls ≠ "java/lang/invoke/VarHandle" ∧ (parseMethodDescriptor yX5_radiusWithoutGates.desc).map (fun d => d.parameters.length) = some 2 := by decide +kernel
theorem pfX5_radius : plainFor yX5_radius = true := by decide +kernel
theorem noX5_radius : yX5_radius.cls ≠ "java/lang/invoke/MethodHandle" ∧ yX5_radius.cls ≠ "java/lang/invoke/VarHandle" ∧ (parseMethodDescriptor yX5_radius.desc).map (fun d => d.parameters.length) = some 1 := by decide +kernel
theorem pfX5_isIn : plainFor yX5_isIn = true := by decide +kernel
theorem noX5_isIn : yX5_isIn.cls ≠ "java/lang/invoke/MethodHandle" ∧ yX5_isIn.cls ≠ "java/lang/invoke/VarHandle" ∧ (parseMethodDescriptor yX5_isIn.desc).map (fun d => d.parameters.length) = some 1 := by decide +kernel
theorem pfX5_isInByGate : plainFor yX5_isInByGate = true := by decide +kernel
theorem noX5_isInByGate : yX5_isInByGate.cls ≠ "java/lang/invoke/MethodHandle" ∧ yX5_isInByGate.cls ≠ "java/lang/invoke/VarHandle" ∧ (parseMethodDescriptor yX5_isInByGate.desc).map (fun d => d.parameters.length) = some 1 := by decide +kernel
theorem pfX5_leverHeight : plainFor yX5_leverHeight = true := by decide +kernel
theorem noX5_leverHeight : yX5_leverHeight.cls ≠ "java/lang/invoke/MethodHandle" ∧ yX5_leverHeight.cls ≠ "java/lang/invoke/VarHandle" ∧ (parseMethodDescriptor yX5_leverHeight.desc).map (fun d => d.parameters.length) = some 0 := by decide +kernel
theorem pfX5_tryLever : plainFor yX5_tryLever = true := by decide +kernel
theorem noX5_tryLever : yX5_tryLever.cls ≠ "java/lang/invoke/MethodHandle" ∧ yX5_tryLever.cls ≠ "java/lang/invoke/VarHandle" ∧ (parseMethodDescriptor yX5_tryLever.desc).map (fun d => d.parameters.length) = some 0 := by decide +kernel
theorem pfX5_greatestHighBut : plainFor yX5_greatestHighBut = true := by decide +kernel
theorem noX5_greatestHighBut : yX5_greatestHighBut.cls ≠ "java/lang/invoke/MethodHandle" ∧ yX5_greatestHighBut.cls ≠ "java/lang/invoke/VarHandle" ∧ (parseMethodDescriptor yX5_greatestHighBut.desc).map (fun d => d.parameters.length) = some 1 := by decide +kernel
theorem pfX6_init : plainFor yX6_init = true := by decide +kernel
theorem noX6_init : yX6_init.cls ≠ "java/lang/invoke/MethodHandle" ∧ yX6_init.cls ≠ "java/lang/invoke/VarHandle" ∧ (parseMethodDescriptor yX6_init.desc).map (fun d => d.parameters.length) = some 2 := by decide +kernel
theorem pfX6_gatherCovers : plainFor yX6_gatherCovers = true := by decide +kernel
theorem noX6_gatherCovers : yX6_gatherCovers.cls ≠ "java/lang/invoke/MethodHandle" ∧ yX6_gatherCovers.cls ≠ "java/lang/invoke/VarHandle" ∧ (parseMethodDescriptor yX6_gatherCovers.desc).map (fun d => d.parameters.length) = some 0 := by decide +kernel
theorem pfX6_goThroughRows : plainFor yX6_goThroughRows = true := by decide +kernel
theorem noX6_goThroughRows : yX6_goThroughRows.cls ≠ "java/lang/invoke/MethodHandle" ∧ yX6_goThroughRows.cls ≠ "java/lang/invoke/VarHandle" ∧ (parseMethodDescriptor yX6_goThroughRows.desc).map (fun d => d.parameters.length) = some 1 := by decide +kernel
theorem pfX6_setWheelsFrom : plainFor yX6_setWheelsFrom = true := by decide +kernel
theorem noX6_setWheelsFrom : yX6_setWheelsFrom.cls ≠ "java/lang/invoke/MethodHandle" ∧ yX6_setWheelsFrom.cls ≠ "java/lang/invoke/VarHandle" ∧ (parseMethodDescriptor yX6_setWheelsFrom.desc).map (fun d => d.parameters.length) = some 1 := by decide +kernel
theorem pfX6_placeOf : plainFor yX6_placeOf = true := by decide +kernel
theorem noX6_placeOf : yX6_placeOf.cls ≠ "java/lang/invoke/MethodHandle" ∧ yX6_placeOf.cls ≠ "java/lang/invoke/VarHandle" ∧ (parseMethodDescriptor yX6_placeOf.desc).map (fun d => d.parameters.length) = some 1 := by decide +kernel
theorem pfX6_isRight : plainFor yX6_isRight = true := by decide +kernel
theorem noX6_isRight : yX6_isRight.cls ≠ "java/lang/invoke/MethodHandle" ∧ yX6_isRight.cls ≠ "java/lang/invoke/VarHandle" ∧ (parseMethodDescriptor yX6_isRight.desc).map (fun d => d.parameters.length) = some 0 := by decide +kernel
theorem pfX6_chooseNextRow : plainFor yX6_chooseNextRow = true := by decide +kernel
theorem noX6_chooseNextRow : yX6_chooseNextRow.cls ≠ "java/lang/invoke/MethodHandle" ∧ yX6_chooseNextRow.cls ≠ "java/lang/invoke/VarHandle" ∧ (parseMethodDescriptor yX6_chooseNextRow.desc).map (fun d => d.parameters.length) = some 0 := by decide +kernel
theorem pfX6_chooseOrder : plainFor yX6_chooseOrder = true := by decide +kernel
theorem noX6_chooseOrder : yX6_chooseOrder.cls ≠ "java/lang/invoke/MethodHandle" ∧ yX6_chooseOrder.cls ≠ "java/lang/invoke/VarHandle" ∧ (parseMethodDescriptor yX6_chooseOrder.desc).map (fun d => d.parameters.length) = some 0 := by decide +kernel
theorem pfX7_init : plainFor yX7_init = true := by decide +kernel
theorem noX7_init : yX7_init.cls ≠ "java/lang/invoke/MethodHandle" ∧ yX7_init.cls ≠ "java/lang/invoke/VarHandle" ∧ (parseMethodDescriptor yX7_init.desc).map (fun d => d.parameters.length) = some 0 := by decide +kernel
theorem pfX7_split : plainFor yX7_split = true := by decide +kernel
theorem noX7_split : yX7_split.cls ≠ "java/lang/invoke/MethodHandle" ∧ yX7_split.cls ≠ "java/lang/invoke/VarHandle" ∧ (parseMethodDescriptor yX7_split.desc).map (fun d => d.parameters.length) = some 2 := by decide +kernel
theorem pfX7_takeToken : plainFor yX7_takeToken = true := by decide +kernel
theorem noX7_takeToken : yX7_takeToken.cls ≠ "java/lang/invoke/MethodHandle" ∧ yX7_takeToken.cls ≠ "java/lang/invoke/VarHandle" ∧ (parseMethodDescriptor yX7_takeToken.desc).map (fun d => d.parameters.length) = some 2 := by decide +kernel
theorem pfX7_takeNumber : plainFor yX7_takeNumber = true := by decide +kernel
theorem noX7_takeNumber : yX7_takeNumber.cls ≠ "java/lang/invoke/MethodHandle" ∧ yX7_takeNumber.cls ≠ "java/lang/invoke/VarHandle" ∧ (parseMethodDescriptor yX7_takeNumber.desc).map (fun d => d.parameters.length) = some 2 := by decide +kernel
theorem pfX7_takeWord : plainFor yX7_takeWord = true := by decide +kernel
theorem noX7_takeWord : yX7_takeWord.cls ≠ "java/lang/invoke/MethodHandle" ∧ yX7_takeWord.cls ≠ "java/lang/invoke/VarHandle" ∧ (parseMethodDescriptor yX7_takeWord.desc).map (fun d => d.parameters.length) = some 2 := by decide +kernel
theorem pfX7_kindOfWord : plainFor yX7_kindOfWord = true := by decide +kernel
theorem noX7_kindOfWord : yX7_kindOfWord.cls ≠ "java/lang/invoke/MethodHandle" ∧ yX7_kindOfWord.cls ≠ "java/lang/invoke/VarHandle" ∧ (parseMethodDescriptor yX7_kindOfWord.desc).map (fun d => d.parameters.length) = some 2 := by decide +kernel
theorem pfX7_isWord : plainFor yX7_isWord = true := by decide +kernel
theorem noX7_isWord : yX7_isWord.cls ≠ "java/lang/invoke/MethodHandle" ∧ yX7_isWord.cls ≠ "java/lang/invoke/VarHandle" ∧ (parseMethodDescriptor yX7_isWord.desc).map (fun d => d.parameters.length) = some 3 := by decide +kernel
theorem pfX7_isSmallLetter : plainFor yX7_isSmallLetter = true := by decide +kernel
theorem noX7_isSmallLetter : yX7_isSmallLetter.cls ≠ "java/lang/invoke/MethodHandle" ∧ yX7_isSmallLetter.cls ≠ "java/lang/invoke/VarHandle" ∧ (parseMethodDescriptor yX7_isSmallLetter.desc).map (fun d => d.parameters.length) = some 1 := by decide +kernel
theorem pfX7_isDigit : plainFor yX7_isDigit = true := by decide +kernel
theorem noX7_isDigit : yX7_isDigit.cls ≠ "java/lang/invoke/MethodHandle" ∧ yX7_isDigit.cls ≠ "java/lang/invoke/VarHandle" ∧ (parseMethodDescriptor yX7_isDigit.desc).map (fun d => d.parameters.length) = some 1 := by decide +kernel
theorem pfX8_init : plainFor yX8_init = true := by decide +kernel
theorem noX8_init : yX8_init.cls ≠ "java/lang/invoke/MethodHandle" ∧ yX8_init.cls ≠ "java/lang/invoke/VarHandle" ∧ (parseMethodDescriptor yX8_init.desc).map (fun d => d.parameters.length) = some 0 := by decide +kernel
theorem pfX8_addWheel : plainFor yX8_addWheel = true := by decide +kernel
theorem noX8_addWheel : yX8_addWheel.cls ≠ "java/lang/invoke/MethodHandle" ∧ yX8_addWheel.cls ≠ "java/lang/invoke/VarHandle" ∧ (parseMethodDescriptor yX8_addWheel.desc).map (fun d => d.parameters.length) = some 1 := by decide +kernel
theorem pfX8_goHome : plainFor yX8_goHome = true := by decide +kernel
theorem noX8_goHome : yX8_goHome.cls ≠ "java/lang/invoke/MethodHandle" ∧ yX8_goHome.cls ≠ "java/lang/invoke/VarHandle" ∧ (parseMethodDescriptor yX8_goHome.desc).map (fun d => d.parameters.length) = some 0 := by decide +kernel
theorem pfX8_becomeLike : plainFor yX8_becomeLike = true := by decide +kernel
theorem noX8_becomeLike : yX8_becomeLike.cls ≠ "java/lang/invoke/MethodHandle" ∧ yX8_becomeLike.cls ≠ "java/lang/invoke/VarHandle" ∧ (parseMethodDescriptor yX8_becomeLike.desc).map (fun d => d.parameters.length) = some 1 := by decide +kernel
theorem pfX8_wrap : plainFor yX8_wrap = true := by decide +kernel
theorem noX8_wrap : yX8_wrap.cls ≠ "java/lang/invoke/MethodHandle" ∧ yX8_wrap.cls ≠ "java/lang/invoke/VarHandle" ∧ (parseMethodDescriptor yX8_wrap.desc).map (fun d => d.parameters.length) = some 1 := by decide +kernel
theorem pfX8_far : plainFor yX8_far = true := by decide +kernel
theorem noX8_far : yX8_far.cls ≠ "java/lang/invoke/MethodHandle" ∧ yX8_far.cls ≠ "java/lang/invoke/VarHandle" ∧ (parseMethodDescriptor yX8_far.desc).map (fun d => d.parameters.length) = some 2 := by decide +kernel
theorem pfX8_spin : plainFor yX8_spin = true := by decide +kernel
theorem noX8_spin : yX8_spin.cls ≠ "java/lang/invoke/MethodHandle" ∧ yX8_spin.cls ≠ "java/lang/invoke/VarHandle" ∧ (parseMethodDescriptor yX8_spin.desc).map (fun d => d.parameters.length) = some 2 := by decide +kernel
theorem pfX8_play : plainFor yX8_play = true := by decide +kernel
theorem noX8_play : yX8_play.cls ≠ "java/lang/invoke/MethodHandle" ∧ yX8_play.cls ≠ "java/lang/invoke/VarHandle" ∧ (parseMethodDescriptor yX8_play.desc).map (fun d => d.parameters.length) = some 2 := by decide +kernel
theorem pfX8_stepsTo : plainFor yX8_stepsTo = true := by decide +kernel
theorem noX8_stepsTo : yX8_stepsTo.cls ≠ "java/lang/invoke/MethodHandle" ∧ yX8_stepsTo.cls ≠ "java/lang/invoke/VarHandle" ∧ (parseMethodDescriptor yX8_stepsTo.desc).map (fun d => d.parameters.length) = some 3 := by decide +kernel
theorem pfX8_stepsToSet : plainFor yX8_stepsToSet = true := by decide +kernel
theorem noX8_stepsToSet : yX8_stepsToSet.cls ≠ "java/lang/invoke/MethodHandle" ∧ yX8_stepsToSet.cls ≠ "java/lang/invoke/VarHandle" ∧ (parseMethodDescriptor yX8_stepsToSet.desc).map (fun d => d.parameters.length) = some 3 := by decide +kernel
theorem pfX8_numberFor : plainFor yX8_numberFor = true := by decide +kernel
theorem noX8_numberFor : yX8_numberFor.cls ≠ "java/lang/invoke/MethodHandle" ∧ yX8_numberFor.cls ≠ "java/lang/invoke/VarHandle" ∧ (parseMethodDescriptor yX8_numberFor.desc).map (fun d => d.parameters.length) = some 3 := by decide +kernel
theorem pfX9_init : plainFor yX9_init = true := by decide +kernel
theorem noX9_init : yX9_init.cls ≠ "java/lang/invoke/MethodHandle" ∧ yX9_init.cls ≠ "java/lang/invoke/VarHandle" ∧ (parseMethodDescriptor yX9_init.desc).map (fun d => d.parameters.length) = some 0 := by decide +kernel
theorem pfX9_form : plainFor yX9_form = true := by decide +kernel
theorem noX9_form : yX9_form.cls ≠ "java/lang/invoke/MethodHandle" ∧ yX9_form.cls ≠ "java/lang/invoke/VarHandle" ∧ (parseMethodDescriptor yX9_form.desc).map (fun d => d.parameters.length) = some 7 := by decide +kernel
theorem pfX10_init : plainFor yX10_init = true := by decide +kernel
theorem noX10_init : yX10_init.cls ≠ "java/lang/invoke/MethodHandle" ∧ yX10_init.cls ≠ "java/lang/invoke/VarHandle" ∧ (parseMethodDescriptor yX10_init.desc).map (fun d => d.parameters.length) = some 2 := by decide +kernel
theorem pfX10_note : plainFor yX10_note = true := by decide +kernel
theorem noX10_note : yX10_note.cls ≠ "java/lang/invoke/MethodHandle" ∧ yX10_note.cls ≠ "java/lang/invoke/VarHandle" ∧ (parseMethodDescriptor yX10_note.desc).map (fun d => d.parameters.length) = some 4 := by decide +kernel
theorem pfX10_markStruck : plainFor yX10_markStruck = true := by decide +kernel
theorem noX10_markStruck : yX10_markStruck.cls ≠ "java/lang/invoke/MethodHandle" ∧ yX10_markStruck.cls ≠ "java/lang/invoke/VarHandle" ∧ (parseMethodDescriptor yX10_markStruck.desc).map (fun d => d.parameters.length) = some 1 := by decide +kernel
theorem pfX10_wheelsKnownTo : plainFor yX10_wheelsKnownTo = true := by decide +kernel
theorem noX10_wheelsKnownTo : yX10_wheelsKnownTo.cls ≠ "java/lang/invoke/MethodHandle" ∧ yX10_wheelsKnownTo.cls ≠ "java/lang/invoke/VarHandle" ∧ (parseMethodDescriptor yX10_wheelsKnownTo.desc).map (fun d => d.parameters.length) = some 2 := by decide +kernel
theorem pfX10_isKnownTo : plainFor yX10_isKnownTo = true := by decide +kernel
theorem noX10_isKnownTo : yX10_isKnownTo.cls ≠ "java/lang/invoke/MethodHandle" ∧ yX10_isKnownTo.cls ≠ "java/lang/invoke/VarHandle" ∧ (parseMethodDescriptor yX10_isKnownTo.desc).map (fun d => d.parameters.length) = some 3 := by decide +kernel
theorem pfX10_isNearGate : plainFor yX10_isNearGate = true := by decide +kernel
theorem noX10_isNearGate : yX10_isNearGate.cls ≠ "java/lang/invoke/MethodHandle" ∧ yX10_isNearGate.cls ≠ "java/lang/invoke/VarHandle" ∧ (parseMethodDescriptor yX10_isNearGate.desc).map (fun d => d.parameters.length) = some 3 := by decide +kernel
theorem pfX10_fewestWhoCan : plainFor yX10_fewestWhoCan = true := by decide +kernel
theorem noX10_fewestWhoCan : yX10_fewestWhoCan.cls ≠ "java/lang/invoke/MethodHandle" ∧ yX10_fewestWhoCan.cls ≠ "java/lang/invoke/VarHandle" ∧ (parseMethodDescriptor yX10_fewestWhoCan.desc).map (fun d => d.parameters.length) = some 1 := by decide +kernel
theorem pfX10_wheelsKnownToAll : plainFor yX10_wheelsKnownToAll = true := by decide +kernel
theorem noX10_wheelsKnownToAll : yX10_wheelsKnownToAll.cls ≠ "java/lang/invoke/MethodHandle" ∧ yX10_wheelsKnownToAll.cls ≠ "java/lang/invoke/VarHandle" ∧ (parseMethodDescriptor yX10_wheelsKnownToAll.desc).map (fun d => d.parameters.length) = some 1 := by decide +kernel
theorem pfX11_init : plainFor yX11_init = true := by decide +kernel
theorem noX11_init : yX11_init.cls ≠ "java/lang/invoke/MethodHandle" ∧ yX11_init.cls ≠ "java/lang/invoke/VarHandle" ∧ (parseMethodDescriptor yX11_init.desc).map (fun d => d.parameters.length) = some 0 := by decide +kernel
theorem pfX11_feed : plainFor yX11_feed = true := by decide +kernel
theorem noX11_feed : yX11_feed.cls ≠ "java/lang/invoke/MethodHandle" ∧ yX11_feed.cls ≠ "java/lang/invoke/VarHandle" ∧ (parseMethodDescriptor yX11_feed.desc).map (fun d => d.parameters.length) = some 5 := by decide +kernel
theorem pfX11_turn : plainFor yX11_turn = true := by decide +kernel
theorem noX11_turn : yX11_turn.cls ≠ "java/lang/invoke/MethodHandle" ∧ yX11_turn.cls ≠ "java/lang/invoke/VarHandle" ∧ (parseMethodDescriptor yX11_turn.desc).map (fun d => d.parameters.length) = some 1 := by decide +kernel
theorem pfX11_turned : plainFor yX11_turned = true := by decide +kernel
theorem noX11_turned : yX11_turned.cls ≠ "java/lang/invoke/MethodHandle" ∧ yX11_turned.cls ≠ "java/lang/invoke/VarHandle" ∧ (parseMethodDescriptor yX11_turned.desc).map (fun d => d.parameters.length) = some 1 := by decide +kernel
theorem pfX11_dial : plainFor yX11_dial = true := by decide +kernel
theorem noX11_dial : yX11_dial.cls ≠ "java/lang/invoke/MethodHandle" ∧ yX11_dial.cls ≠ "java/lang/invoke/VarHandle" ∧ (parseMethodDescriptor yX11_dial.desc).map (fun d => d.parameters.length) = some 1 := by decide +kernel
theorem pfX11_wheel : plainFor yX11_wheel = true := by decide +kernel
theorem noX11_wheel : yX11_wheel.cls ≠ "java/lang/invoke/MethodHandle" ∧ yX11_wheel.cls ≠ "java/lang/invoke/VarHandle" ∧ (parseMethodDescriptor yX11_wheel.desc).map (fun d => d.parameters.length) = some 7 := by decide +kernel
theorem pfX11_second : plainFor yX11_second = true := by decide +kernel
theorem noX11_second : yX11_second.cls ≠ "java/lang/invoke/MethodHandle" ∧ yX11_second.cls ≠ "java/lang/invoke/VarHandle" ∧ (parseMethodDescriptor yX11_second.desc).map (fun d => d.parameters.length) = some 2 := by decide +kernel
theorem pfX11_step : plainFor yX11_step = true := by decide +kernel
theorem noX11_step : yX11_step.cls ≠ "java/lang/invoke/MethodHandle" ∧ yX11_step.cls ≠ "java/lang/invoke/VarHandle" ∧ (parseMethodDescriptor yX11_step.desc).map (fun d => d.parameters.length) = some 1 := by decide +kernel
theorem pfX11_look : plainFor yX11_look = true := by decide +kernel
theorem noX11_look : yX11_look.cls ≠ "java/lang/invoke/MethodHandle" ∧ yX11_look.cls ≠ "java/lang/invoke/VarHandle" ∧ (parseMethodDescriptor yX11_look.desc).map (fun d => d.parameters.length) = some 2 := by decide +kernel
theorem pfX11_rides : plainFor yX11_rides = true := by decide +kernel
theorem noX11_rides : yX11_rides.cls ≠ "java/lang/invoke/MethodHandle" ∧ yX11_rides.cls ≠ "java/lang/invoke/VarHandle" ∧ (parseMethodDescriptor yX11_rides.desc).map (fun d => d.parameters.length) = some 0 := by decide +kernel
theorem pfX11_open : plainFor yX11_open = true := by decide +kernel
theorem noX11_open : yX11_open.cls ≠ "java/lang/invoke/MethodHandle" ∧ yX11_open.cls ≠ "java/lang/invoke/VarHandle" ∧ (parseMethodDescriptor yX11_open.desc).map (fun d => d.parameters.length) = some 0 := by decide +kernel
theorem pfX11_clock : plainFor yX11_clock = true := by decide +kernel
theorem noX11_clock : yX11_clock.cls ≠ "java/lang/invoke/MethodHandle" ∧ yX11_clock.cls ≠ "java/lang/invoke/VarHandle" ∧ (parseMethodDescriptor yX11_clock.desc).map (fun d => d.parameters.length) = some 1 := by decide +kernel
theorem pfX11_hours : plainFor yX11_hours = true := by decide +kernel
theorem noX11_hours : yX11_hours.cls ≠ "java/lang/invoke/MethodHandle" ∧ yX11_hours.cls ≠ "java/lang/invoke/VarHandle" ∧ (parseMethodDescriptor yX11_hours.desc).map (fun d => d.parameters.length) = some 1 := by decide +kernel
theorem pfX11_comes : plainFor yX11_comes = true := by decide +kernel
theorem noX11_comes : yX11_comes.cls ≠ "java/lang/invoke/MethodHandle" ∧ yX11_comes.cls ≠ "java/lang/invoke/VarHandle" ∧ (parseMethodDescriptor yX11_comes.desc).map (fun d => d.parameters.length) = some 2 := by decide +kernel
theorem pfX11_change : plainFor yX11_change = true := by decide +kernel
theorem noX11_change : yX11_change.cls ≠ "java/lang/invoke/MethodHandle" ∧ yX11_change.cls ≠ "java/lang/invoke/VarHandle" ∧ (parseMethodDescriptor yX11_change.desc).map (fun d => d.parameters.length) = some 2 := by decide +kernel
theorem pfX11_feel : plainFor yX11_feel = true := by decide +kernel
theorem noX11_feel : yX11_feel.cls ≠ "java/lang/invoke/MethodHandle" ∧ yX11_feel.cls ≠ "java/lang/invoke/VarHandle" ∧ (parseMethodDescriptor yX11_feel.desc).map (fun d => d.parameters.length) = some 2 := by decide +kernel
theorem pfX11_doubt : plainFor yX11_doubt = true := by decide +kernel
theorem noX11_doubt : yX11_doubt.cls ≠ "java/lang/invoke/MethodHandle" ∧ yX11_doubt.cls ≠ "java/lang/invoke/VarHandle" ∧ (parseMethodDescriptor yX11_doubt.desc).map (fun d => d.parameters.length) = some 1 := by decide +kernel
theorem pfX11_may : plainFor yX11_may = true := by decide +kernel
theorem noX11_may : yX11_may.cls ≠ "java/lang/invoke/MethodHandle" ∧ yX11_may.cls ≠ "java/lang/invoke/VarHandle" ∧ (parseMethodDescriptor yX11_may.desc).map (fun d => d.parameters.length) = some 2 := by decide +kernel
theorem pfX11_cover : plainFor yX11_cover = true := by decide +kernel
theorem noX11_cover : yX11_cover.cls ≠ "java/lang/invoke/MethodHandle" ∧ yX11_cover.cls ≠ "java/lang/invoke/VarHandle" ∧ (parseMethodDescriptor yX11_cover.desc).map (fun d => d.parameters.length) = some 2 := by decide +kernel
theorem pfX11_seek : plainFor yX11_seek = true := by decide +kernel
theorem noX11_seek : yX11_seek.cls ≠ "java/lang/invoke/MethodHandle" ∧ yX11_seek.cls ≠ "java/lang/invoke/VarHandle" ∧ (parseMethodDescriptor yX11_seek.desc).map (fun d => d.parameters.length) = some 1 := by decide +kernel
theorem pfX11_best : plainFor yX11_best = true := by decide +kernel
theorem noX11_best : yX11_best.cls ≠ "java/lang/invoke/MethodHandle" ∧ yX11_best.cls ≠ "java/lang/invoke/VarHandle" ∧ (parseMethodDescriptor yX11_best.desc).map (fun d => d.parameters.length) = some 1 := by decide +kernel
theorem pfX11_days : plainFor yX11_days = true := by decide +kernel
theorem noX11_days : yX11_days.cls ≠ "java/lang/invoke/MethodHandle" ∧ yX11_days.cls ≠ "java/lang/invoke/VarHandle" ∧ (parseMethodDescriptor yX11_days.desc).map (fun d => d.parameters.length) = some 1 := by decide +kernel
theorem pfX11_tell : plainFor yX11_tell = true := by decide +kernel
theorem noX11_tell : yX11_tell.cls ≠ "java/lang/invoke/MethodHandle" ∧ yX11_tell.cls ≠ "java/lang/invoke/VarHandle" ∧ (parseMethodDescriptor yX11_tell.desc).map (fun d => d.parameters.length) = some 3 := by decide +kernel
theorem pfX11_strike : plainFor yX11_strike = true := by decide +kernel
theorem noX11_strike : yX11_strike.cls ≠ "java/lang/invoke/MethodHandle" ∧ yX11_strike.cls ≠ "java/lang/invoke/VarHandle" ∧ (parseMethodDescriptor yX11_strike.desc).map (fun d => d.parameters.length) = some 1 := by decide +kernel
theorem pfX11_gate : plainFor yX11_gate = true := by decide +kernel
theorem noX11_gate : yX11_gate.cls ≠ "java/lang/invoke/MethodHandle" ∧ yX11_gate.cls ≠ "java/lang/invoke/VarHandle" ∧ (parseMethodDescriptor yX11_gate.desc).map (fun d => d.parameters.length) = some 2 := by decide +kernel
theorem pfX11_knows : plainFor yX11_knows = true := by decide +kernel
theorem noX11_knows : yX11_knows.cls ≠ "java/lang/invoke/MethodHandle" ∧ yX11_knows.cls ≠ "java/lang/invoke/VarHandle" ∧ (parseMethodDescriptor yX11_knows.desc).map (fun d => d.parameters.length) = some 3 := by decide +kernel
theorem pfX11_can : plainFor yX11_can = true := by decide +kernel
theorem noX11_can : yX11_can.cls ≠ "java/lang/invoke/MethodHandle" ∧ yX11_can.cls ≠ "java/lang/invoke/VarHandle" ∧ (parseMethodDescriptor yX11_can.desc).map (fun d => d.parameters.length) = some 2 := by decide +kernel
theorem pfX11_count : plainFor yX11_count = true := by decide +kernel
theorem noX11_count : yX11_count.cls ≠ "java/lang/invoke/MethodHandle" ∧ yX11_count.cls ≠ "java/lang/invoke/VarHandle" ∧ (parseMethodDescriptor yX11_count.desc).map (fun d => d.parameters.length) = some 1 := by decide +kernel
theorem pfX11_putFour : plainFor yX11_putFour = true := by decide +kernel
theorem noX11_putFour : yX11_putFour.cls ≠ "java/lang/invoke/MethodHandle" ∧ yX11_putFour.cls ≠ "java/lang/invoke/VarHandle" ∧ (parseMethodDescriptor yX11_putFour.desc).map (fun d => d.parameters.length) = some 1 := by decide +kernel
theorem pfX11_isWithin : plainFor yX11_isWithin = true := by decide +kernel
theorem noX11_isWithin : yX11_isWithin.cls ≠ "java/lang/invoke/MethodHandle" ∧ yX11_isWithin.cls ≠ "java/lang/invoke/VarHandle" ∧ (parseMethodDescriptor yX11_isWithin.desc).map (fun d => d.parameters.length) = some 3 := by decide +kernel
theorem pfX11_isPerson : plainFor yX11_isPerson = true := by decide +kernel
theorem noX11_isPerson : yX11_isPerson.cls ≠ "java/lang/invoke/MethodHandle" ∧ yX11_isPerson.cls ≠ "java/lang/invoke/VarHandle" ∧ (parseMethodDescriptor yX11_isPerson.desc).map (fun d => d.parameters.length) = some 1 := by decide +kernel
theorem pfX11_isDay : plainFor yX11_isDay = true := by decide +kernel
theorem noX11_isDay : yX11_isDay.cls ≠ "java/lang/invoke/MethodHandle" ∧ yX11_isDay.cls ≠ "java/lang/invoke/VarHandle" ∧ (parseMethodDescriptor yX11_isDay.desc).map (fun d => d.parameters.length) = some 1 := by decide +kernel
theorem pfX12_init : plainFor yX12_init = true := by decide +kernel
theorem noX12_init : yX12_init.cls ≠ "java/lang/invoke/MethodHandle" ∧ yX12_init.cls ≠ "java/lang/invoke/VarHandle" ∧ (parseMethodDescriptor yX12_init.desc).map (fun d => d.parameters.length) = some 0 := by decide +kernel
theorem pfX12_feed : plainFor yX12_feed = true := by decide +kernel
theorem noX12_feed : yX12_feed.cls ≠ "java/lang/invoke/MethodHandle" ∧ yX12_feed.cls ≠ "java/lang/invoke/VarHandle" ∧ (parseMethodDescriptor yX12_feed.desc).map (fun d => d.parameters.length) = some 5 := by decide +kernel
theorem pfX12_isIn : plainFor yX12_isIn = true := by decide +kernel
theorem noX12_isIn : yX12_isIn.cls ≠ "java/lang/invoke/MethodHandle" ∧ yX12_isIn.cls ≠ "java/lang/invoke/VarHandle" ∧ (parseMethodDescriptor yX12_isIn.desc).map (fun d => d.parameters.length) = some 3 := by decide +kernel
theorem pfX12_isNumber : plainFor yX12_isNumber = true := by decide +kernel
theorem noX12_isNumber : yX12_isNumber.cls ≠ "java/lang/invoke/MethodHandle" ∧ yX12_isNumber.cls ≠ "java/lang/invoke/VarHandle" ∧ (parseMethodDescriptor yX12_isNumber.desc).map (fun d => d.parameters.length) = some 1 := by decide +kernel
theorem pfX12_isWheel : plainFor yX12_isWheel = true := by decide +kernel
theorem noX12_isWheel : yX12_isWheel.cls ≠ "java/lang/invoke/MethodHandle" ∧ yX12_isWheel.cls ≠ "java/lang/invoke/VarHandle" ∧ (parseMethodDescriptor yX12_isWheel.desc).map (fun d => d.parameters.length) = some 1 := by decide +kernel
theorem pfX12_round : plainFor yX12_round = true := by decide +kernel
theorem noX12_round : yX12_round.cls ≠ "java/lang/invoke/MethodHandle" ∧ yX12_round.cls ≠ "java/lang/invoke/VarHandle" ∧ (parseMethodDescriptor yX12_round.desc).map (fun d => d.parameters.length) = some 1 := by decide +kernel
theorem pfX12_far : plainFor yX12_far = true := by decide +kernel
theorem noX12_far : yX12_far.cls ≠ "java/lang/invoke/MethodHandle" ∧ yX12_far.cls ≠ "java/lang/invoke/VarHandle" ∧ (parseMethodDescriptor yX12_far.desc).map (fun d => d.parameters.length) = some 2 := by decide +kernel
theorem pfX12_goes : plainFor yX12_goes = true := by decide +kernel
theorem noX12_goes : yX12_goes.cls ≠ "java/lang/invoke/MethodHandle" ∧ yX12_goes.cls ≠ "java/lang/invoke/VarHandle" ∧ (parseMethodDescriptor yX12_goes.desc).map (fun d => d.parameters.length) = some 2 := by decide +kernel
theorem pfX12_plain : plainFor yX12_plain = true := by decide +kernel
theorem noX12_plain : yX12_plain.cls ≠ "java/lang/invoke/MethodHandle" ∧ yX12_plain.cls ≠ "java/lang/invoke/VarHandle" ∧ (parseMethodDescriptor yX12_plain.desc).map (fun d => d.parameters.length) = some 2 := by decide +kernel
theorem pfX12_isAt : plainFor yX12_isAt = true := by decide +kernel
theorem noX12_isAt : yX12_isAt.cls ≠ "java/lang/invoke/MethodHandle" ∧ yX12_isAt.cls ≠ "java/lang/invoke/VarHandle" ∧ (parseMethodDescriptor yX12_isAt.desc).map (fun d => d.parameters.length) = some 2 := by decide +kernel
theorem pfX12_isBeside : plainFor yX12_isBeside = true := by decide +kernel
theorem noX12_isBeside : yX12_isBeside.cls ≠ "java/lang/invoke/MethodHandle" ∧ yX12_isBeside.cls ≠ "java/lang/invoke/VarHandle" ∧ (parseMethodDescriptor yX12_isBeside.desc).map (fun d => d.parameters.length) = some 2 := by decide +kernel
theorem pfX12_isInside : plainFor yX12_isInside = true := by decide +kernel
theorem noX12_isInside : yX12_isInside.cls ≠ "java/lang/invoke/MethodHandle" ∧ yX12_isInside.cls ≠ "java/lang/invoke/VarHandle" ∧ (parseMethodDescriptor yX12_isInside.desc).map (fun d => d.parameters.length) = some 1 := by decide +kernel
theorem pfX12_radius : plainFor yX12_radius = true := by decide +kernel
theorem noX12_radius : yX12_radius.cls ≠ "java/lang/invoke/MethodHandle" ∧ yX12_radius.cls ≠ "java/lang/invoke/VarHandle" ∧ (parseMethodDescriptor yX12_radius.desc).map (fun d => d.parameters.length) = some 1 := by decide +kernel
theorem pfX12_ridesNow : plainFor yX12_ridesNow = true := by decide +kernel
theorem noX12_ridesNow : yX12_ridesNow.cls ≠ "java/lang/invoke/MethodHandle" ∧ yX12_ridesNow.cls ≠ "java/lang/invoke/VarHandle" ∧ (parseMethodDescriptor yX12_ridesNow.desc).map (fun d => d.parameters.length) = some 0 := by decide +kernel
theorem pfX12_rides : plainFor yX12_rides = true := by decide +kernel
theorem noX12_rides : yX12_rides.cls ≠ "java/lang/invoke/MethodHandle" ∧ yX12_rides.cls ≠ "java/lang/invoke/VarHandle" ∧ (parseMethodDescriptor yX12_rides.desc).map (fun d => d.parameters.length) = some 0 := by decide +kernel
theorem pfX12_tried : plainFor yX12_tried = true := by decide +kernel
theorem noX12_tried : yX12_tried.cls ≠ "java/lang/invoke/MethodHandle" ∧ yX12_tried.cls ≠ "java/lang/invoke/VarHandle" ∧ (parseMethodDescriptor yX12_tried.desc).map (fun d => d.parameters.length) = some 0 := by decide +kernel
theorem pfX12_open : plainFor yX12_open = true := by decide +kernel
theorem noX12_open : yX12_open.cls ≠ "java/lang/invoke/MethodHandle" ∧ yX12_open.cls ≠ "java/lang/invoke/VarHandle" ∧ (parseMethodDescriptor yX12_open.desc).map (fun d => d.parameters.length) = some 0 := by decide +kernel
theorem pfX12_dial : plainFor yX12_dial = true := by decide +kernel
theorem noX12_dial : yX12_dial.cls ≠ "java/lang/invoke/MethodHandle" ∧ yX12_dial.cls ≠ "java/lang/invoke/VarHandle" ∧ (parseMethodDescriptor yX12_dial.desc).map (fun d => d.parameters.length) = some 1 := by decide +kernel
theorem pfX12_begins : plainFor yX12_begins = true := by decide +kernel
theorem noX12_begins : yX12_begins.cls ≠ "java/lang/invoke/MethodHandle" ∧ yX12_begins.cls ≠ "java/lang/invoke/VarHandle" ∧ (parseMethodDescriptor yX12_begins.desc).map (fun d => d.parameters.length) = some 0 := by decide +kernel
theorem pfX12_wheel : plainFor yX12_wheel = true := by decide +kernel
theorem noX12_wheel : yX12_wheel.cls ≠ "java/lang/invoke/MethodHandle" ∧ yX12_wheel.cls ≠ "java/lang/invoke/VarHandle" ∧ (parseMethodDescriptor yX12_wheel.desc).map (fun d => d.parameters.length) = some 7 := by decide +kernel
theorem pfX12_second : plainFor yX12_second = true := by decide +kernel
theorem noX12_second : yX12_second.cls ≠ "java/lang/invoke/MethodHandle" ∧ yX12_second.cls ≠ "java/lang/invoke/VarHandle" ∧ (parseMethodDescriptor yX12_second.desc).map (fun d => d.parameters.length) = some 2 := by decide +kernel
theorem pfX12_step : plainFor yX12_step = true := by decide +kernel
theorem noX12_step : yX12_step.cls ≠ "java/lang/invoke/MethodHandle" ∧ yX12_step.cls ≠ "java/lang/invoke/VarHandle" ∧ (parseMethodDescriptor yX12_step.desc).map (fun d => d.parameters.length) = some 1 := by decide +kernel
theorem pfX12_fails : plainFor yX12_fails = true := by decide +kernel
theorem noX12_fails : yX12_fails.cls ≠ "java/lang/invoke/MethodHandle" ∧ yX12_fails.cls ≠ "java/lang/invoke/VarHandle" ∧ (parseMethodDescriptor yX12_fails.desc).map (fun d => d.parameters.length) = some 1 := by decide +kernel
theorem pfX12_look : plainFor yX12_look = true := by decide +kernel
theorem noX12_look : yX12_look.cls ≠ "java/lang/invoke/MethodHandle" ∧ yX12_look.cls ≠ "java/lang/invoke/VarHandle" ∧ (parseMethodDescriptor yX12_look.desc).map (fun d => d.parameters.length) = some 2 := by decide +kernel
theorem pfX12_clock : plainFor yX12_clock = true := by decide +kernel
theorem noX12_clock : yX12_clock.cls ≠ "java/lang/invoke/MethodHandle" ∧ yX12_clock.cls ≠ "java/lang/invoke/VarHandle" ∧ (parseMethodDescriptor yX12_clock.desc).map (fun d => d.parameters.length) = some 1 := by decide +kernel
theorem pfX12_hours : plainFor yX12_hours = true := by decide +kernel
theorem noX12_hours : yX12_hours.cls ≠ "java/lang/invoke/MethodHandle" ∧ yX12_hours.cls ≠ "java/lang/invoke/VarHandle" ∧ (parseMethodDescriptor yX12_hours.desc).map (fun d => d.parameters.length) = some 1 := by decide +kernel
theorem pfX12_comesAt : plainFor yX12_comesAt = true := by decide +kernel
theorem noX12_comesAt : yX12_comesAt.cls ≠ "java/lang/invoke/MethodHandle" ∧ yX12_comesAt.cls ≠ "java/lang/invoke/VarHandle" ∧ (parseMethodDescriptor yX12_comesAt.desc).map (fun d => d.parameters.length) = some 3 := by decide +kernel
theorem pfX12_comes : plainFor yX12_comes = true := by decide +kernel
theorem noX12_comes : yX12_comes.cls ≠ "java/lang/invoke/MethodHandle" ∧ yX12_comes.cls ≠ "java/lang/invoke/VarHandle" ∧ (parseMethodDescriptor yX12_comes.desc).map (fun d => d.parameters.length) = some 2 := by decide +kernel
theorem pfX12_change : plainFor yX12_change = true := by decide +kernel
theorem noX12_change : yX12_change.cls ≠ "java/lang/invoke/MethodHandle" ∧ yX12_change.cls ≠ "java/lang/invoke/VarHandle" ∧ (parseMethodDescriptor yX12_change.desc).map (fun d => d.parameters.length) = some 2 := by decide +kernel
theorem pfX12_wrong : plainFor yX12_wrong = true := by decide +kernel
theorem noX12_wrong : yX12_wrong.cls ≠ "java/lang/invoke/MethodHandle" ∧ yX12_wrong.cls ≠ "java/lang/invoke/VarHandle" ∧ (parseMethodDescriptor yX12_wrong.desc).map (fun d => d.parameters.length) = some 1 := by decide +kernel
theorem pfX12_wordAt : plainFor yX12_wordAt = true := by decide +kernel
theorem noX12_wordAt : yX12_wordAt.cls ≠ "java/lang/invoke/MethodHandle" ∧ yX12_wordAt.cls ≠ "java/lang/invoke/VarHandle" ∧ (parseMethodDescriptor yX12_wordAt.desc).map (fun d => d.parameters.length) = some 2 := by decide +kernel
theorem pfX12_isSmall : plainFor yX12_isSmall = true := by decide +kernel
theorem noX12_isSmall : yX12_isSmall.cls ≠ "java/lang/invoke/MethodHandle" ∧ yX12_isSmall.cls ≠ "java/lang/invoke/VarHandle" ∧ (parseMethodDescriptor yX12_isSmall.desc).map (fun d => d.parameters.length) = some 1 := by decide +kernel
theorem pfX12_isDigit : plainFor yX12_isDigit = true := by decide +kernel
theorem noX12_isDigit : yX12_isDigit.cls ≠ "java/lang/invoke/MethodHandle" ∧ yX12_isDigit.cls ≠ "java/lang/invoke/VarHandle" ∧ (parseMethodDescriptor yX12_isDigit.desc).map (fun d => d.parameters.length) = some 1 := by decide +kernel
theorem pfX12_take : plainFor yX12_take = true := by decide +kernel
theorem noX12_take : yX12_take.cls ≠ "java/lang/invoke/MethodHandle" ∧ yX12_take.cls ≠ "java/lang/invoke/VarHandle" ∧ (parseMethodDescriptor yX12_take.desc).map (fun d => d.parameters.length) = some 0 := by decide +kernel
theorem pfX12_isSign : plainFor yX12_isSign = true := by decide +kernel
theorem noX12_isSign : yX12_isSign.cls ≠ "java/lang/invoke/MethodHandle" ∧ yX12_isSign.cls ≠ "java/lang/invoke/VarHandle" ∧ (parseMethodDescriptor yX12_isSign.desc).map (fun d => d.parameters.length) = some 1 := by decide +kernel
theorem pfX12_comesSign : plainFor yX12_comesSign = true := by decide +kernel
theorem noX12_comesSign : yX12_comesSign.cls ≠ "java/lang/invoke/MethodHandle" ∧ yX12_comesSign.cls ≠ "java/lang/invoke/VarHandle" ∧ (parseMethodDescriptor yX12_comesSign.desc).map (fun d => d.parameters.length) = some 1 := by decide +kernel
theorem pfX12_isAround : plainFor yX12_isAround = true := by decide +kernel
theorem noX12_isAround : yX12_isAround.cls ≠ "java/lang/invoke/MethodHandle" ∧ yX12_isAround.cls ≠ "java/lang/invoke/VarHandle" ∧ (parseMethodDescriptor yX12_isAround.desc).map (fun d => d.parameters.length) = some 1 := by decide +kernel
theorem pfX12_numberRead : plainFor yX12_numberRead = true := by decide +kernel
theorem noX12_numberRead : yX12_numberRead.cls ≠ "java/lang/invoke/MethodHandle" ∧ yX12_numberRead.cls ≠ "java/lang/invoke/VarHandle" ∧ (parseMethodDescriptor yX12_numberRead.desc).map (fun d => d.parameters.length) = some 2 := by decide +kernel
theorem pfX12_placeRead : plainFor yX12_placeRead = true := by decide +kernel
theorem noX12_placeRead : yX12_placeRead.cls ≠ "java/lang/invoke/MethodHandle" ∧ yX12_placeRead.cls ≠ "java/lang/invoke/VarHandle" ∧ (parseMethodDescriptor yX12_placeRead.desc).map (fun d => d.parameters.length) = some 0 := by decide +kernel
theorem pfX12_turnRead : plainFor yX12_turnRead = true := by decide +kernel
theorem noX12_turnRead : yX12_turnRead.cls ≠ "java/lang/invoke/MethodHandle" ∧ yX12_turnRead.cls ≠ "java/lang/invoke/VarHandle" ∧ (parseMethodDescriptor yX12_turnRead.desc).map (fun d => d.parameters.length) = some 2 := by decide +kernel
theorem pfX12_loopRead : plainFor yX12_loopRead = true := by decide +kernel
theorem noX12_loopRead : yX12_loopRead.cls ≠ "java/lang/invoke/MethodHandle" ∧ yX12_loopRead.cls ≠ "java/lang/invoke/VarHandle" ∧ (parseMethodDescriptor yX12_loopRead.desc).map (fun d => d.parameters.length) = some 2 := by decide +kernel
theorem pfX12_actRead : plainFor yX12_actRead = true := by decide +kernel
theorem noX12_actRead : yX12_actRead.cls ≠ "java/lang/invoke/MethodHandle" ∧ yX12_actRead.cls ≠ "java/lang/invoke/VarHandle" ∧ (parseMethodDescriptor yX12_actRead.desc).map (fun d => d.parameters.length) = some 0 := by decide +kernel
theorem pfX12_textRead : plainFor yX12_textRead = true := by decide +kernel
theorem noX12_textRead : yX12_textRead.cls ≠ "java/lang/invoke/MethodHandle" ∧ yX12_textRead.cls ≠ "java/lang/invoke/VarHandle" ∧ (parseMethodDescriptor yX12_textRead.desc).map (fun d => d.parameters.length) = some 0 := by decide +kernel
theorem pfX12_placeOf : plainFor yX12_placeOf = true := by decide +kernel
theorem noX12_placeOf : yX12_placeOf.cls ≠ "java/lang/invoke/MethodHandle" ∧ yX12_placeOf.cls ≠ "java/lang/invoke/VarHandle" ∧ (parseMethodDescriptor yX12_placeOf.desc).map (fun d => d.parameters.length) = some 2 := by decide +kernel
theorem pfX12_stepsOf : plainFor yX12_stepsOf = true := by decide +kernel
theorem noX12_stepsOf : yX12_stepsOf.cls ≠ "java/lang/invoke/MethodHandle" ∧ yX12_stepsOf.cls ≠ "java/lang/invoke/VarHandle" ∧ (parseMethodDescriptor yX12_stepsOf.desc).map (fun d => d.parameters.length) = some 1 := by decide +kernel
theorem pfX12_isLeft : plainFor yX12_isLeft = true := by decide +kernel
theorem noX12_isLeft : yX12_isLeft.cls ≠ "java/lang/invoke/MethodHandle" ∧ yX12_isLeft.cls ≠ "java/lang/invoke/VarHandle" ∧ (parseMethodDescriptor yX12_isLeft.desc).map (fun d => d.parameters.length) = some 1 := by decide +kernel
theorem pfX12_notes : plainFor yX12_notes = true := by decide +kernel
theorem noX12_notes : yX12_notes.cls ≠ "java/lang/invoke/MethodHandle" ∧ yX12_notes.cls ≠ "java/lang/invoke/VarHandle" ∧ (parseMethodDescriptor yX12_notes.desc).map (fun d => d.parameters.length) = some 0 := by decide +kernel
theorem pfX12_timesOf : plainFor yX12_timesOf = true := by decide +kernel
theorem noX12_timesOf : yX12_timesOf.cls ≠ "java/lang/invoke/MethodHandle" ∧ yX12_timesOf.cls ≠ "java/lang/invoke/VarHandle" ∧ (parseMethodDescriptor yX12_timesOf.desc).map (fun d => d.parameters.length) = some 1 := by decide +kernel
theorem pfX12_does : plainFor yX12_does = true := by decide +kernel
theorem noX12_does : yX12_does.cls ≠ "java/lang/invoke/MethodHandle" ∧ yX12_does.cls ≠ "java/lang/invoke/VarHandle" ∧ (parseMethodDescriptor yX12_does.desc).map (fun d => d.parameters.length) = some 0 := by decide +kernel
theorem pfX12_turn : plainFor yX12_turn = true := by decide +kernel
theorem noX12_turn : yX12_turn.cls ≠ "java/lang/invoke/MethodHandle" ∧ yX12_turn.cls ≠ "java/lang/invoke/VarHandle" ∧ (parseMethodDescriptor yX12_turn.desc).map (fun d => d.parameters.length) = some 1 := by decide +kernel
theorem pfX12_turned : plainFor yX12_turned = true := by decide +kernel
theorem noX12_turned : yX12_turned.cls ≠ "java/lang/invoke/MethodHandle" ∧ yX12_turned.cls ≠ "java/lang/invoke/VarHandle" ∧ (parseMethodDescriptor yX12_turned.desc).map (fun d => d.parameters.length) = some 1 := by decide +kernel
theorem pfX12_feel : plainFor yX12_feel = true := by decide +kernel
theorem noX12_feel : yX12_feel.cls ≠ "java/lang/invoke/MethodHandle" ∧ yX12_feel.cls ≠ "java/lang/invoke/VarHandle" ∧ (parseMethodDescriptor yX12_feel.desc).map (fun d => d.parameters.length) = some 2 := by decide +kernel
theorem pfX12_doubt : plainFor yX12_doubt = true := by decide +kernel
theorem noX12_doubt : yX12_doubt.cls ≠ "java/lang/invoke/MethodHandle" ∧ yX12_doubt.cls ≠ "java/lang/invoke/VarHandle" ∧ (parseMethodDescriptor yX12_doubt.desc).map (fun d => d.parameters.length) = some 1 := by decide +kernel
theorem pfX12_mayBe : plainFor yX12_mayBe = true := by decide +kernel
theorem noX12_mayBe : yX12_mayBe.cls ≠ "java/lang/invoke/MethodHandle" ∧ yX12_mayBe.cls ≠ "java/lang/invoke/VarHandle" ∧ (parseMethodDescriptor yX12_mayBe.desc).map (fun d => d.parameters.length) = some 2 := by decide +kernel
theorem pfX12_layMay : plainFor yX12_layMay = true := by decide +kernel
theorem noX12_layMay : yX12_layMay.cls ≠ "java/lang/invoke/MethodHandle" ∧ yX12_layMay.cls ≠ "java/lang/invoke/VarHandle" ∧ (parseMethodDescriptor yX12_layMay.desc).map (fun d => d.parameters.length) = some 1 := by decide +kernel
theorem pfX12_may : plainFor yX12_may = true := by decide +kernel
theorem noX12_may : yX12_may.cls ≠ "java/lang/invoke/MethodHandle" ∧ yX12_may.cls ≠ "java/lang/invoke/VarHandle" ∧ (parseMethodDescriptor yX12_may.desc).map (fun d => d.parameters.length) = some 2 := by decide +kernel
theorem pfX12_isCovered : plainFor yX12_isCovered = true := by decide +kernel
theorem noX12_isCovered : yX12_isCovered.cls ≠ "java/lang/invoke/MethodHandle" ∧ yX12_isCovered.cls ≠ "java/lang/invoke/VarHandle" ∧ (parseMethodDescriptor yX12_isCovered.desc).map (fun d => d.parameters.length) = some 3 := by decide +kernel
theorem pfX12_needed : plainFor yX12_needed = true := by decide +kernel
theorem noX12_needed : yX12_needed.cls ≠ "java/lang/invoke/MethodHandle" ∧ yX12_needed.cls ≠ "java/lang/invoke/VarHandle" ∧ (parseMethodDescriptor yX12_needed.desc).map (fun d => d.parameters.length) = some 2 := by decide +kernel
theorem pfX12_layCover : plainFor yX12_layCover = true := by decide +kernel
theorem noX12_layCover : yX12_layCover.cls ≠ "java/lang/invoke/MethodHandle" ∧ yX12_layCover.cls ≠ "java/lang/invoke/VarHandle" ∧ (parseMethodDescriptor yX12_layCover.desc).map (fun d => d.parameters.length) = some 1 := by decide +kernel
theorem pfX12_cover : plainFor yX12_cover = true := by decide +kernel
theorem noX12_cover : yX12_cover.cls ≠ "java/lang/invoke/MethodHandle" ∧ yX12_cover.cls ≠ "java/lang/invoke/VarHandle" ∧ (parseMethodDescriptor yX12_cover.desc).map (fun d => d.parameters.length) = some 2 := by decide +kernel
theorem pfX12_layRows : plainFor yX12_layRows = true := by decide +kernel
theorem noX12_layRows : yX12_layRows.cls ≠ "java/lang/invoke/MethodHandle" ∧ yX12_layRows.cls ≠ "java/lang/invoke/VarHandle" ∧ (parseMethodDescriptor yX12_layRows.desc).map (fun d => d.parameters.length) = some 0 := by decide +kernel
theorem pfX12_soughtIn : plainFor yX12_soughtIn = true := by decide +kernel
theorem noX12_soughtIn : yX12_soughtIn.cls ≠ "java/lang/invoke/MethodHandle" ∧ yX12_soughtIn.cls ≠ "java/lang/invoke/VarHandle" ∧ (parseMethodDescriptor yX12_soughtIn.desc).map (fun d => d.parameters.length) = some 3 := by decide +kernel
theorem pfX12_stepsOver : plainFor yX12_stepsOver = true := by decide +kernel
theorem noX12_stepsOver : yX12_stepsOver.cls ≠ "java/lang/invoke/MethodHandle" ∧ yX12_stepsOver.cls ≠ "java/lang/invoke/VarHandle" ∧ (parseMethodDescriptor yX12_stepsOver.desc).map (fun d => d.parameters.length) = some 2 := by decide +kernel
theorem pfX12_sets : plainFor yX12_sets = true := by decide +kernel
theorem noX12_sets : yX12_sets.cls ≠ "java/lang/invoke/MethodHandle" ∧ yX12_sets.cls ≠ "java/lang/invoke/VarHandle" ∧ (parseMethodDescriptor yX12_sets.desc).map (fun d => d.parameters.length) = some 2 := by decide +kernel
theorem pfX12_triesNow : plainFor yX12_triesNow = true := by decide +kernel
theorem noX12_triesNow : yX12_triesNow.cls ≠ "java/lang/invoke/MethodHandle" ∧ yX12_triesNow.cls ≠ "java/lang/invoke/VarHandle" ∧ (parseMethodDescriptor yX12_triesNow.desc).map (fun d => d.parameters.length) = some 0 := by decide +kernel
theorem pfX12_seek : plainFor yX12_seek = true := by decide +kernel
theorem noX12_seek : yX12_seek.cls ≠ "java/lang/invoke/MethodHandle" ∧ yX12_seek.cls ≠ "java/lang/invoke/VarHandle" ∧ (parseMethodDescriptor yX12_seek.desc).map (fun d => d.parameters.length) = some 1 := by decide +kernel
theorem pfX12_best : plainFor yX12_best = true := by decide +kernel
theorem noX12_best : yX12_best.cls ≠ "java/lang/invoke/MethodHandle" ∧ yX12_best.cls ≠ "java/lang/invoke/VarHandle" ∧ (parseMethodDescriptor yX12_best.desc).map (fun d => d.parameters.length) = some 1 := by decide +kernel
theorem pfX12_days : plainFor yX12_days = true := by decide +kernel
theorem noX12_days : yX12_days.cls ≠ "java/lang/invoke/MethodHandle" ∧ yX12_days.cls ≠ "java/lang/invoke/VarHandle" ∧ (parseMethodDescriptor yX12_days.desc).map (fun d => d.parameters.length) = some 1 := by decide +kernel
theorem pfX12_says : plainFor yX12_says = true := by decide +kernel
theorem noX12_says : yX12_says.cls ≠ "java/lang/invoke/MethodHandle" ∧ yX12_says.cls ≠ "java/lang/invoke/VarHandle" ∧ (parseMethodDescriptor yX12_says.desc).map (fun d => d.parameters.length) = some 4 := by decide +kernel
theorem pfX12_tell : plainFor yX12_tell = true := by decide +kernel
theorem noX12_tell : yX12_tell.cls ≠ "java/lang/invoke/MethodHandle" ∧ yX12_tell.cls ≠ "java/lang/invoke/VarHandle" ∧ (parseMethodDescriptor yX12_tell.desc).map (fun d => d.parameters.length) = some 3 := by decide +kernel
theorem pfX12_strike : plainFor yX12_strike = true := by decide +kernel
theorem noX12_strike : yX12_strike.cls ≠ "java/lang/invoke/MethodHandle" ∧ yX12_strike.cls ≠ "java/lang/invoke/VarHandle" ∧ (parseMethodDescriptor yX12_strike.desc).map (fun d => d.parameters.length) = some 1 := by decide +kernel
theorem pfX12_gate : plainFor yX12_gate = true := by decide +kernel
theorem noX12_gate : yX12_gate.cls ≠ "java/lang/invoke/MethodHandle" ∧ yX12_gate.cls ≠ "java/lang/invoke/VarHandle" ∧ (parseMethodDescriptor yX12_gate.desc).map (fun d => d.parameters.length) = some 2 := by decide +kernel
theorem pfX12_know : plainFor yX12_know = true := by decide +kernel
theorem noX12_know : yX12_know.cls ≠ "java/lang/invoke/MethodHandle" ∧ yX12_know.cls ≠ "java/lang/invoke/VarHandle" ∧ (parseMethodDescriptor yX12_know.desc).map (fun d => d.parameters.length) = some 1 := by decide +kernel
theorem pfX12_knownBy : plainFor yX12_knownBy = true := by decide +kernel
theorem noX12_knownBy : yX12_knownBy.cls ≠ "java/lang/invoke/MethodHandle" ∧ yX12_knownBy.cls ≠ "java/lang/invoke/VarHandle" ∧ (parseMethodDescriptor yX12_knownBy.desc).map (fun d => d.parameters.length) = some 2 := by decide +kernel
theorem pfX12_areDays : plainFor yX12_areDays = true := by decide +kernel
theorem noX12_areDays : yX12_areDays.cls ≠ "java/lang/invoke/MethodHandle" ∧ yX12_areDays.cls ≠ "java/lang/invoke/VarHandle" ∧ (parseMethodDescriptor yX12_areDays.desc).map (fun d => d.parameters.length) = some 2 := by decide +kernel
theorem pfX12_knows : plainFor yX12_knows = true := by decide +kernel
theorem noX12_knows : yX12_knows.cls ≠ "java/lang/invoke/MethodHandle" ∧ yX12_knows.cls ≠ "java/lang/invoke/VarHandle" ∧ (parseMethodDescriptor yX12_knows.desc).map (fun d => d.parameters.length) = some 3 := by decide +kernel
theorem pfX12_can : plainFor yX12_can = true := by decide +kernel
theorem noX12_can : yX12_can.cls ≠ "java/lang/invoke/MethodHandle" ∧ yX12_can.cls ≠ "java/lang/invoke/VarHandle" ∧ (parseMethodDescriptor yX12_can.desc).map (fun d => d.parameters.length) = some 2 := by decide +kernel
theorem pfX12_count : plainFor yX12_count = true := by decide +kernel
theorem noX12_count : yX12_count.cls ≠ "java/lang/invoke/MethodHandle" ∧ yX12_count.cls ≠ "java/lang/invoke/VarHandle" ∧ (parseMethodDescriptor yX12_count.desc).map (fun d => d.parameters.length) = some 1 := by decide +kernel
theorem pfJ6_bitCount_0f7a4 : plainFor yJ6_bitCount_0f7a4 = true := by decide +kernel
theorem noJ6_bitCount_0f7a4 : yJ6_bitCount_0f7a4.cls ≠ "java/lang/invoke/MethodHandle" ∧ yJ6_bitCount_0f7a4.cls ≠ "java/lang/invoke/VarHandle" ∧ (parseMethodDescriptor yJ6_bitCount_0f7a4.desc).map (fun d => d.parameters.length) = some 1 := by decide +kernel
theorem pfJ9_floorMod_7cf53 : plainFor yJ9_floorMod_7cf53 = true := by decide +kernel
theorem noJ9_floorMod_7cf53 : yJ9_floorMod_7cf53.cls ≠ "java/lang/invoke/MethodHandle" ∧ yJ9_floorMod_7cf53.cls ≠ "java/lang/invoke/VarHandle" ∧ (parseMethodDescriptor yJ9_floorMod_7cf53.desc).map (fun d => d.parameters.length) = some 2 := by decide +kernel
theorem pfJ9_abs_0f7a4 : plainFor yJ9_abs_0f7a4 = true := by decide +kernel
theorem noJ9_abs_0f7a4 : yJ9_abs_0f7a4.cls ≠ "java/lang/invoke/MethodHandle" ∧ yJ9_abs_0f7a4.cls ≠ "java/lang/invoke/VarHandle" ∧ (parseMethodDescriptor yJ9_abs_0f7a4.desc).map (fun d => d.parameters.length) = some 1 := by decide +kernel
theorem pfJ9_max_7cf53 : plainFor yJ9_max_7cf53 = true := by decide +kernel
theorem noJ9_max_7cf53 : yJ9_max_7cf53.cls ≠ "java/lang/invoke/MethodHandle" ∧ yJ9_max_7cf53.cls ≠ "java/lang/invoke/VarHandle" ∧ (parseMethodDescriptor yJ9_max_7cf53.desc).map (fun d => d.parameters.length) = some 2 := by decide +kernel
theorem pfJ9_min_7cf53 : plainFor yJ9_min_7cf53 = true := by decide +kernel
theorem noJ9_min_7cf53 : yJ9_min_7cf53.cls ≠ "java/lang/invoke/MethodHandle" ∧ yJ9_min_7cf53.cls ≠ "java/lang/invoke/VarHandle" ∧ (parseMethodDescriptor yJ9_min_7cf53.desc).map (fun d => d.parameters.length) = some 2 := by decide +kernel
theorem pfJ0_length_8abf5 : plainFor yJ0_length_8abf5 = true := by decide +kernel
theorem noJ0_length_8abf5 : yJ0_length_8abf5.cls ≠ "java/lang/invoke/MethodHandle" ∧ yJ0_length_8abf5.cls ≠ "java/lang/invoke/VarHandle" ∧ (parseMethodDescriptor yJ0_length_8abf5.desc).map (fun d => d.parameters.length) = some 0 := by decide +kernel
theorem pfJ0_charAt_5068e : plainFor yJ0_charAt_5068e = true := by decide +kernel
theorem noJ0_charAt_5068e : yJ0_charAt_5068e.cls ≠ "java/lang/invoke/MethodHandle" ∧ yJ0_charAt_5068e.cls ≠ "java/lang/invoke/VarHandle" ∧ (parseMethodDescriptor yJ0_charAt_5068e.desc).map (fun d => d.parameters.length) = some 1 := by decide +kernel
theorem pfJ0_coder_7d493 : plainFor yJ0_coder_7d493 = true := by decide +kernel
theorem noJ0_coder_7d493 : yJ0_coder_7d493.cls ≠ "java/lang/invoke/MethodHandle" ∧ yJ0_coder_7d493.cls ≠ "java/lang/invoke/VarHandle" ∧ (parseMethodDescriptor yJ0_coder_7d493.desc).map (fun d => d.parameters.length) = some 0 := by decide +kernel
theorem pfJ0_isLatin1_aae02 : plainFor yJ0_isLatin1_aae02 = true := by decide +kernel
theorem noJ0_isLatin1_aae02 : yJ0_isLatin1_aae02.cls ≠ "java/lang/invoke/MethodHandle" ∧ yJ0_isLatin1_aae02.cls ≠ "java/lang/invoke/VarHandle" ∧ (parseMethodDescriptor yJ0_isLatin1_aae02.desc).map (fun d => d.parameters.length) = some 0 := by decide +kernel
theorem pfJ0_checkIndex_df160 : plainFor yJ0_checkIndex_df160 = true := by decide +kernel
theorem noJ0_checkIndex_df160 : yJ0_checkIndex_df160.cls ≠ "java/lang/invoke/MethodHandle" ∧ yJ0_checkIndex_df160.cls ≠ "java/lang/invoke/VarHandle" ∧ (parseMethodDescriptor yJ0_checkIndex_df160.desc).map (fun d => d.parameters.length) = some 2 := by decide +kernel
theorem pfJ1_charAt_3b067 : plainFor yJ1_charAt_3b067 = true := by decide +kernel
theorem noJ1_charAt_3b067 : yJ1_charAt_3b067.cls ≠ "java/lang/invoke/MethodHandle" ∧ yJ1_charAt_3b067.cls ≠ "java/lang/invoke/VarHandle" ∧ (parseMethodDescriptor yJ1_charAt_3b067.desc).map (fun d => d.parameters.length) = some 2 := by decide +kernel
theorem pfJ2_getChar_3b067 : plainFor yJ2_getChar_3b067 = true := by decide +kernel
theorem noJ2_getChar_3b067 : yJ2_getChar_3b067.cls ≠ "java/lang/invoke/MethodHandle" ∧ yJ2_getChar_3b067.cls ≠ "java/lang/invoke/VarHandle" ∧ (parseMethodDescriptor yJ2_getChar_3b067.desc).map (fun d => d.parameters.length) = some 2 := by decide +kernel
theorem pfJ2_length_9d52b : plainFor yJ2_length_9d52b = true := by decide +kernel
theorem noJ2_length_9d52b : yJ2_length_9d52b.cls ≠ "java/lang/invoke/MethodHandle" ∧ yJ2_length_9d52b.cls ≠ "java/lang/invoke/VarHandle" ∧ (parseMethodDescriptor yJ2_length_9d52b.desc).map (fun d => d.parameters.length) = some 1 := by decide +kernel
theorem pfJ2_charAt_3b067 : plainFor yJ2_charAt_3b067 = true := by decide +kernel
theorem noJ2_charAt_3b067 : yJ2_charAt_3b067.cls ≠ "java/lang/invoke/MethodHandle" ∧ yJ2_charAt_3b067.cls ≠ "java/lang/invoke/VarHandle" ∧ (parseMethodDescriptor yJ2_charAt_3b067.desc).map (fun d => d.parameters.length) = some 2 := by decide +kernel
theorem pfJ2_checkIndex_2214a : plainFor yJ2_checkIndex_2214a = true := by decide +kernel
theorem noJ2_checkIndex_2214a : yJ2_checkIndex_2214a.cls ≠ "java/lang/invoke/MethodHandle" ∧ yJ2_checkIndex_2214a.cls ≠ "java/lang/invoke/VarHandle" ∧ (parseMethodDescriptor yJ2_checkIndex_2214a.desc).map (fun d => d.parameters.length) = some 2 := by decide +kernel
theorem pfJ3_checkIndex_8e157 : plainFor yJ3_checkIndex_8e157 = true := by decide +kernel
theorem noJ3_checkIndex_8e157 : yJ3_checkIndex_8e157.cls ≠ "java/lang/invoke/MethodHandle" ∧ yJ3_checkIndex_8e157.cls ≠ "java/lang/invoke/VarHandle" ∧ (parseMethodDescriptor yJ3_checkIndex_8e157.desc).map (fun d => d.parameters.length) = some 3 := by decide +kernel
theorem pfL_look : plainFor yL_look = true := by decide +kernel
theorem noL_look : yL_look.cls ≠ "java/lang/invoke/MethodHandle" ∧ yL_look.cls ≠ "java/lang/invoke/VarHandle" ∧ (parseMethodDescriptor yL_look.desc).map (fun d => d.parameters.length) = some 4 := by decide +kernel
theorem pfL_law : plainFor yL_law = true := by decide +kernel
theorem noL_law : yL_law.cls ≠ "java/lang/invoke/MethodHandle" ∧ yL_law.cls ≠ "java/lang/invoke/VarHandle" ∧ (parseMethodDescriptor yL_law.desc).map (fun d => d.parameters.length) = some 1 := by decide +kernel
