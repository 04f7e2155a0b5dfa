/-! the layer hs_: a method over a fixed set of cells; a cell is a row of Ints (ints and longs by ofInt) and of fixed references -/
abbrev hs_R (z : Int) : Prop := -2147483648 ≤ z ∧ z ≤ 2147483647
abbrev vI (z : Int) : Value := .int (Int32.ofInt z)
abbrev vL (z : Int) : Value := .long (Int64.ofInt z)
abbrev hs_S : Type := Nat → Nat → Int
abbrev hs_Sh : Type := Nat × Nat × List (Nat × Nat)
def hs_up (r : Nat → Int) (k : Nat) (z : Int) : Nat → Int := fun j => if j = k then z else r j
def hs_ss (σ : hs_S) (c k : Nat) (z : Int) : hs_S := fun i => if i = c then hs_up (σ c) k z else σ i
theorem hs_up_same {r : Nat → Int} {k : Nat} {z : Int} : hs_up r k z k = z := by simp [hs_up]
theorem hs_up_ne {r : Nat → Int} {k j : Nat} {z : Int} (h : j ≠ k) : hs_up r k z j = r j := by simp [hs_up, h]
theorem hs_ss_row {σ : hs_S} {c k : Nat} {z : Int} : hs_ss σ c k z c = hs_up (σ c) k z := by simp [hs_ss]
theorem hs_ss_ne {σ : hs_S} {c k i : Nat} {z : Int} (h : i ≠ c) : hs_ss σ c k z i = σ i := by simp [hs_ss, h]
theorem hs_ss_at {σ : hs_S} {c k : Nat} {z : Int} : hs_ss σ c k z c k = z := by simp [hs_ss, hs_up]
theorem hs_ss_j {σ : hs_S} {c k j : Nat} {z : Int} (h : j ≠ k) : hs_ss σ c k z c j = σ c j := by simp [hs_ss, hs_up, h]
def hs_fv (ad : Nat → Nat) (row : Nat → Int) (k : Nat) (f : Nat × Nat) : Value :=
  if f.1 = 0 then vI (row k) else if f.1 = 1 then vL (row k) else .ref (ad f.2)
/-- a cell: tag 0 an object of class sh.2.1 with fields, 1 an array of ints (bytes, booleans) of array class sh.2.1, 2 an array of references -/
def hs_E (dA : Nat → ClassId) (ad : Nat → Nat) (row : Nat → Int) (sh : hs_Sh) : va_E :=
  if sh.1 = 0 then .inr (sh.2.1, sh.2.2.mapIdx (hs_fv ad row))
  else if sh.1 = 1 then .inl (dA sh.2.1, (sh.2.2.headD (0, 0)).1, .inl (fun j => Int32.ofInt (row j)))
  else .inl (dA sh.2.1, sh.2.2.length, .inr (.inr (.inr (.inr (fun j => some (ad (sh.2.2.getD j (0, 0)).2))))))
def hs_W (SH : List hs_Sh) (dA : Nat → ClassId) (ad : Nat → Nat) (σ : hs_S) : va_W := SH.mapIdx (fun c sh => (ad c, hs_E dA ad (σ c) sh))
abbrev hs_tys (dA : Nat → ClassId) : List (ClassId × FieldType) := [(dA 0, .byte), (dA 1, .int), (dA 2, .boolean), (dA 3, .object "DialSafes$Wheel"), (dA 4, .array .int)]
def hs_A (SH : List hs_Sh) (ad : Nat → Nat) (sz : Nat) : Nat → Prop := fun q => (∃ c, c < SH.length ∧ q = ad c) ∨ sz ≤ q
def hs_inj (SH : List hs_Sh) (ad : Nat → Nat) : Prop := ∀ i j, i < SH.length → j < SH.length → ad i = ad j → i = j
theorem hs_W_get {SH : List hs_Sh} {dA : Nat → ClassId} {ad : Nat → Nat} {σ : hs_S} {c : Nat} {sh : hs_Sh} (h : SH[c]? = some sh) : (hs_W SH dA ad σ)[c]? = some (ad c, hs_E dA ad (σ c) sh) := by
  simp [hs_W, List.getElem?_mapIdx, h]
theorem hs_W_len {SH : List hs_Sh} {dA : Nat → ClassId} {ad : Nat → Nat} {σ : hs_S} : (hs_W SH dA ad σ).length = SH.length := by simp [hs_W]
theorem hs_W_inv {SH : List hs_Sh} {dA : Nat → ClassId} {ad : Nat → Nat} {σ : hs_S} {c : Nat} {q : Nat × va_E} (h : (hs_W SH dA ad σ)[c]? = some q) : c < SH.length ∧ q.1 = ad c := by
  have hl : c < SH.length := by
    have := (List.getElem?_eq_some_iff.mp h).1
    rwa [hs_W_len] at this
  have h2 : SH[c]? = some SH[c] := List.getElem?_eq_getElem hl
  rw [hs_W_get h2] at h
  cases h
  exact ⟨hl, rfl⟩
theorem hs_D {SH : List hs_Sh} {dA : Nat → ClassId} {ad : Nat → Nat} {A : Nat → Prop} (hi : hs_inj SH ad) (hA : ∀ c, c < SH.length → A (ad c)) (σ : hs_S) : va_D A (hs_W SH dA ad σ) := by
  refine ⟨fun i j x y hx hy hxy => ?_, fun k q hk => ?_⟩
  · obtain ⟨h1, h2⟩ := hs_W_inv hx
    obtain ⟨h3, h4⟩ := hs_W_inv hy
    exact hi i j h1 h3 (by rw [← h2, ← h4]; exact hxy)
  · obtain ⟨h1, h2⟩ := hs_W_inv hk
    rw [h2]
    exact hA k h1
theorem hs_W_set {SH : List hs_Sh} {dA : Nat → ClassId} {ad : Nat → Nat} {σ : hs_S} {c k : Nat} {z : Int} {sh : hs_Sh} {e : va_E} (h : SH[c]? = some sh) (he : e = hs_E dA ad (hs_up (σ c) k z) sh) : (hs_W SH dA ad σ).set c (ad c, e) = hs_W SH dA ad (hs_ss σ c k z) := by
  apply List.ext_getElem?
  intro i
  by_cases hi : i = c
  · subst hi
    have hl : i < (hs_W SH dA ad σ).length := by rw [hs_W_len]; exact (List.getElem?_eq_some_iff.mp h).1
    rw [List.getElem?_set_self hl, hs_W_get h, hs_ss_row, he]
  · rw [List.getElem?_set_ne (Ne.symm hi)]
    simp only [hs_W, List.getElem?_mapIdx, hs_ss_ne hi]
theorem hs_fl_set {ad : Nat → Nat} {row : Nat → Int} {fl : List (Nat × Nat)} {k x : Nat} {z : Int} (h : fl[k]? = some (0, x)) : (fl.mapIdx (hs_fv ad row)).set k (vI z) = fl.mapIdx (hs_fv ad (hs_up row k z)) := by
  apply List.ext_getElem?
  intro i
  by_cases hi : i = k
  · subst hi
    rw [List.getElem?_set_self (by rw [List.length_mapIdx]; exact (List.getElem?_eq_some_iff.mp h).1)]
    simp [List.getElem?_mapIdx, h, hs_fv, hs_up_same]
  · rw [List.getElem?_set_ne (Ne.symm hi)]
    simp only [List.getElem?_mapIdx]
    congr 1
    funext f
    simp only [hs_fv, hs_up_ne hi]
theorem hs_fl_setL {ad : Nat → Nat} {row : Nat → Int} {fl : List (Nat × Nat)} {k x : Nat} {z : Int} (h : fl[k]? = some (1, x)) : (fl.mapIdx (hs_fv ad row)).set k (vL z) = fl.mapIdx (hs_fv ad (hs_up row k z)) := by
  apply List.ext_getElem?
  intro i
  by_cases hi : i = k
  · subst hi
    rw [List.getElem?_set_self (by rw [List.length_mapIdx]; exact (List.getElem?_eq_some_iff.mp h).1)]
    simp [List.getElem?_mapIdx, h, hs_fv, hs_up_same]
  · rw [List.getElem?_set_ne (Ne.symm hi)]
    simp only [List.getElem?_mapIdx]
    congr 1
    funext f
    simp only [hs_fv, hs_up_ne hi]
theorem hs_upd {row : Nat → Int} {k : Nat} {z : Int} {v : Int32} (hv : v = Int32.ofInt z) : upd (fun j => Int32.ofInt (row j)) k v = fun j => Int32.ofInt (hs_up row k z j) := by
  funext j
  by_cases h : j = k
  · subst h; simp [upd, hs_up, hv]
  · simp [upd, hs_up, h]
/-! Int32 and Int64 by their Ints -/
theorem hs_ti {z : Int} (h : hs_R z) : (Int32.ofInt z).toInt = z := Int32.toInt_ofInt_of_le (by have := h.1; omega) (by have := h.2; omega)
theorem hs_of (x : Int32) : x = Int32.ofInt x.toInt := (Int32.ofInt_toInt x).symm
theorem hs_oR (x : Int32) : hs_R x.toInt := ⟨by have := x.le_toInt; omega, by have := x.toInt_lt; omega⟩
theorem hs_lt {a b : Int} (ha : hs_R a) (hb : hs_R b) : Int32.ofInt a < Int32.ofInt b ↔ a < b := by rw [Int32.lt_iff_toInt_lt, hs_ti ha, hs_ti hb]
theorem hs_le {a b : Int} (ha : hs_R a) (hb : hs_R b) : Int32.ofInt a ≤ Int32.ofInt b ↔ a ≤ b := by rw [Int32.le_iff_toInt_le, hs_ti ha, hs_ti hb]
theorem hs_eq {a b : Int} (ha : hs_R a) (hb : hs_R b) : Int32.ofInt a = Int32.ofInt b ↔ a = b := by rw [← Int32.toInt_inj, hs_ti ha, hs_ti hb]
theorem hs_0 : (0 : Int32) = Int32.ofInt 0 := by decide
theorem hs_R0 : hs_R 0 := ⟨by decide, by decide⟩
theorem hs_lt0 {a : Int} (ha : hs_R a) : Int32.ofInt a < 0 ↔ a < 0 := by rw [hs_0, hs_lt ha hs_R0]
theorem hs_le0 {a : Int} (ha : hs_R a) : Int32.ofInt a ≤ 0 ↔ a ≤ 0 := by rw [hs_0, hs_le ha hs_R0]
theorem hs_0lt {a : Int} (ha : hs_R a) : 0 < Int32.ofInt a ↔ 0 < a := by rw [hs_0, hs_lt hs_R0 ha]
theorem hs_0le {a : Int} (ha : hs_R a) : 0 ≤ Int32.ofInt a ↔ 0 ≤ a := by rw [hs_0, hs_le hs_R0 ha]
theorem hs_eq0 {a : Int} (ha : hs_R a) : Int32.ofInt a = 0 ↔ a = 0 := by rw [hs_0, hs_eq ha hs_R0]
theorem hs_cl {a : Int} (ha : hs_R a) : (Int32.ofInt a).toNatClampNeg = a.toNat := by rw [← Int32.toNat_toInt, hs_ti ha]
theorem hs_in {a : Int} {n : Nat} (h0 : 0 ≤ a) (h1 : a < n) (hn : n ≤ 2147483647) : vp_in (Int32.ofInt a) n := by
  have hR : hs_R a := ⟨by omega, by omega⟩
  rw [vp_in_iff, hs_ti hR]
  exact ⟨h0, h1⟩
theorem hs_div {a b : Int} (ha : hs_R a) (hb : hs_R b) : Int32.ofInt a / Int32.ofInt b = Int32.ofInt (a.tdiv b) := by
  rw [hs_of (Int32.ofInt a / Int32.ofInt b), Int32.toInt_div, hs_ti ha, hs_ti hb]
  exact Int32.toInt_inj.mp (by simp)
theorem hs_rem {a b : Int} (ha : hs_R a) (hb : hs_R b) : Int32.ofInt a - Int32.ofInt a / Int32.ofInt b * Int32.ofInt b = Int32.ofInt (a.tmod b) := by
  rw [hs_of (Int32.ofInt a - _), rem_toInt, hs_ti ha, hs_ti hb]
theorem hs_loop {α : Type} (P : α → Prop) (μ : α → Nat) (h : ∀ a, (∀ b, μ b < μ a → P b) → P a) (a : α) : P a := by
  have key : ∀ (n : Nat) (a : α), μ a < n → P a := by
    intro n
    induction n with
    | zero => intro a h0; omega
    | succ n ih => intro a h0; exact h a (fun b hb => ih b (by omega))
  exact key (μ a + 1) a (by omega)
