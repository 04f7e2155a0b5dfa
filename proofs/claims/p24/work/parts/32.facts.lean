theorem lw_WS {s : State} {b : Nat} (hts : ∀ w ∈ lw_tbl, w.before #[Value.ref b] s = true) : ∀ w ∈ WS, w.before #[Value.ref b] s = true := fun w hw => hts w (List.mem_filter.mp hw).1
theorem lw_NW {s : State} {b : Nat} (hts : ∀ w ∈ lw_tbl, w.before #[Value.ref b] s = true) : hs_nw s := by
  intro w hw
  obtain ⟨h1, h2⟩ := List.mem_filter.mp hw
  have h3 := hts w h1
  cases w <;> first | (cases h2; done) | exact va_Nw.of rfl h3
theorem lw_ao1 : Cond.arrayOver (.object "DialSafes$Wheel") ∈ lw_tbl := by decide +kernel
theorem lw_ao2 : Cond.arrayOver (.array .int) ∈ lw_tbl := by decide +kernel
theorem lw_ac1 : Cond.arrayClass .byte ∈ lw_tbl := by decide +kernel
theorem lw_ac2 : Cond.arrayClass .int ∈ lw_tbl := by decide +kernel
theorem lw_ac3 : Cond.arrayClass .boolean ∈ lw_tbl := by decide +kernel
theorem lw_t1 : Cond.laysStatic Jvm.Bundle.tN "UNASSIGNED_STACK" Jvm.Bundle.steD ∈ lw_tbl := by decide +kernel
theorem lw_t2 : Cond.laysStatic Jvm.Bundle.tN "SUPPRESSED_SENTINEL" Jvm.Bundle.listD ∈ lw_tbl := by decide +kernel
theorem lw_t3 : Cond.initialized Jvm.Bundle.tN ∈ lw_tbl := by decide +kernel
theorem lw_s1 : Cond.laysStatic "java/lang/String" "COMPACT_STRINGS" "Z" ∈ lw_tbl := by decide +kernel
theorem lw_s2 : Cond.initialized "java/lang/String" ∈ lw_tbl := by decide +kernel
theorem lw_s3 : Cond.laysStatic "jdk/internal/util/Preconditions" "SIOOBE_FORMATTER" "Ljava/util/function/BiFunction;" ∈ lw_tbl := by decide +kernel
theorem lw_s4 : Cond.initialized "jdk/internal/util/Preconditions" ∈ lw_tbl := by decide +kernel
theorem lw_k1 : Cond.stringRef RX11 177 "no such wheel" ∈ lw_tbl := by decide +kernel
theorem lw_k2 : Cond.stringRef RX11 206 "no such what" ∈ lw_tbl := by decide +kernel
theorem lw_s5 : ∀ i : Nat, i < 7 → Cond.stringRef RX7 (hs_SK.getD i 0) (hs_SX.getD i "") ∈ lw_tbl := by decide +kernel
theorem lw_lkm : LKN.all (fun w => decide (w ∈ lw_tbl)) = true := by decide +kernel
theorem lw_KC {s : State} {b : Nat} (hts : ∀ w ∈ lw_tbl, w.before #[Value.ref b] s = true) : ∃ (D : va_G) (dA : Nat → ClassId), hs_KC D dA s := by
  have hW := lw_WS hts
  obtain ⟨c0, i0, k0⟩ := u_known (C := RX0) (T := TX0) (N := 4) (n := 4) hW wfX0 (hW _ wbX0)
  obtain ⟨c1, i1, k1⟩ := u_known (C := RX1) (T := TX1) (N := 4) (n := 4) hW wfX1 (hW _ wbX1)
  obtain ⟨c2, i2, k2⟩ := u_known (C := RX2) (T := TX2) (N := 6) (n := 6) hW wfX2 (hW _ wbX2)
  obtain ⟨c3, i3, k3⟩ := u_known (C := RX3) (T := TX3) (N := 15) (n := 15) hW wfX3 (hW _ wbX3)
  obtain ⟨c4, i4, k4⟩ := u_known (C := RX4) (T := TX4) (N := 7) (n := 7) hW wfX4 (hW _ wbX4)
  obtain ⟨c5, i5, k5⟩ := u_known (C := RX5) (T := TX5) (N := 3) (n := 3) hW wfX5 (hW _ wbX5)
  obtain ⟨c6, i6, k6⟩ := u_known (C := RX6) (T := TX6) (N := 13) (n := 13) hW wfX6 (hW _ wbX6)
  obtain ⟨c7, i7, k7⟩ := u_known (C := RX7) (T := TX7) (N := 5) (n := 5) hW wfX7 (hW _ wbX7)
  obtain ⟨c8, i8, k8⟩ := u_known (C := RX8) (T := TX8) (N := 7) (n := 7) hW wfX8 (hW _ wbX8)
  obtain ⟨c9, i9, k9⟩ := u_known (C := RX9) (T := TX9) (N := 9) (n := 9) hW wfX9 (hW _ wbX9)
  obtain ⟨c10, i10, k10⟩ := u_known (C := RX10) (T := TX10) (N := 9) (n := 9) hW wfX10 (hW _ wbX10)
  obtain ⟨c11, i11, k11⟩ := u_known (C := RX11) (T := TX11) (N := 11) (n := 11) hW wfX11 (hW _ wbX11)
  obtain ⟨c12, i12, k12⟩ := u_known (C := RX12) (T := TX12) (N := 68) (n := 68) hW wfX12 (hW _ wbX12)
  obtain ⟨a0, ka0, p0, f01, f02, f03⟩ := Cond.arrayClass_spec (hts _ lw_ac1)
  obtain ⟨a1, ka1, p1, f11, f12, f13⟩ := Cond.arrayClass_spec (hts _ lw_ac2)
  obtain ⟨a2, ka2, p2, f21, f22, f23⟩ := Cond.arrayClass_spec (hts _ lw_ac3)
  obtain ⟨p3, a3, ka3, f31, f32, f33, f34, f35⟩ := Cond.arrayOver_spec (hts _ lw_ao1)
  obtain ⟨p4, a4, ka4, f41, f42, f43, f44⟩ := Cond.arrayOver_specA (hts _ lw_ao2)
  refine ⟨(fun k => [c0, c1, c2, c3, c4, c5, c6, c7, c8, c9, c10, c11, c12].getD k c0, fun k => [i0, i1, i2, i3, i4, i5, i6, i7, i8, i9, i10, i11, i12].getD k i0), fun k => [a0, a1, a2, a3, a4].getD k a0, ⟨⟨?_, ?_⟩, lw_NW hts⟩, va_AO.of (hts _ lw_ao1), hts _ lw_ao2⟩
  · intro k q hq
    match k, hq with
    | 0, hq => cases hq; exact k0
    | 1, hq => cases hq; exact k1
    | 2, hq => cases hq; exact k2
    | 3, hq => cases hq; exact k3
    | 4, hq => cases hq; exact k4
    | 5, hq => cases hq; exact k5
    | 6, hq => cases hq; exact k6
    | 7, hq => cases hq; exact k7
    | 8, hq => cases hq; exact k8
    | 9, hq => cases hq; exact k9
    | 10, hq => cases hq; exact k10
    | 11, hq => cases hq; exact k11
    | 12, hq => cases hq; exact k12
    | k + 13, hq => simp [vwCl] at hq
  · intro k q hq
    match k, hq with
    | 0, hq => cases hq; exact ⟨fun N z => ⟨(fun k h => by cases h), ka0, f02, p0, f03⟩, f01⟩
    | 1, hq => cases hq; exact ⟨fun N z => ⟨(fun k h => by cases h), ka1, f12, p1, f13⟩, f11⟩
    | 2, hq => cases hq; exact ⟨fun N z => ⟨(fun k h => by cases h), ka2, f22, p2, f23⟩, f21⟩
    | 3, hq => cases hq; exact ⟨fun N z => ⟨(fun k h => by cases h), ka3, f33, p3, f34⟩, ka3, p3, f33, f34, f31, f35⟩
    | 4, hq => cases hq; exact ⟨fun N z => ⟨(fun k h => by cases h), ka4, f42, p4, f43⟩, f44⟩
    | k + 5, hq => simp [hs_tys] at hq
theorem lw_lk {s : State} {b : Nat} (hts : ∀ w ∈ lw_tbl, w.before #[Value.ref b] s = true) (hgv : (Jvm.Cond.and given_1 narrow_1).before #[Value.ref b] s = true) : lk_nw s := by
  refine ⟨?_, va_Nc.of (flat_of_before _ hgv (.not (.castable NSEE IOOB)) (by decide +kernel))⟩
  intro w hw
  have hm := hts w (of_decide_eq_true (List.all_eq_true.mp lw_lkm w hw))
  simp only [List.mem_cons, List.not_mem_nil, or_false] at hw
  rcases hw with rfl | rfl | rfl | rfl | rfl <;> exact va_Nw.of rfl hm
theorem lw_str1 {s : State} {b : Nat} (hts : ∀ w ∈ lw_tbl, w.before #[Value.ref b] s = true) : ∃ sa, vk_R RX11 177 "no such wheel" sa s := by
  have h := hts _ lw_k1
  obtain ⟨cC, kC, hfc, -⟩ := Cond.instantiable_spec (lw_WS hts _ wbX11)
  obtain ⟨-, -, -, a, -, -, -, -, -, ha⟩ := Cond.stringRef_spec hfc h
  exact ⟨a, vk_R.of h ha⟩
theorem lw_str2 {s : State} {b : Nat} (hts : ∀ w ∈ lw_tbl, w.before #[Value.ref b] s = true) : ∃ sa, vk_R RX11 206 "no such what" sa s := by
  have h := hts _ lw_k2
  obtain ⟨cC, kC, hfc, -⟩ := Cond.instantiable_spec (lw_WS hts _ wbX11)
  obtain ⟨-, -, -, a, -, -, -, -, -, ha⟩ := Cond.stringRef_spec hfc h
  exact ⟨a, vk_R.of h ha⟩
/-- the objects' cells below 1000, the constants above -/
def adS (a adK adV : Nat → Nat) : Nat → Nat := fun c => if c < 1000 then a c else if c < 2000 then adK (c - 1000) else adV (c - 2000)
theorem adS_lo {a adK adV : Nat → Nat} {c : Nat} (h : c < 1000) : adS a adK adV c = a c := if_pos h
theorem adS_k {a adK adV : Nat → Nat} {i : Nat} (h : i < 7) : adS a adK adV (1000 + i) = adK i := by
  show (if 1000 + i < 1000 then _ else if 1000 + i < 2000 then _ else _) = _
  rw [if_neg (by omega), if_pos (by omega), Nat.add_sub_cancel_left]
theorem adS_v {a adK adV : Nat → Nat} {i : Nat} : adS a adK adV (2000 + i) = adV i := by
  show (if 2000 + i < 1000 then _ else if 2000 + i < 2000 then _ else _) = _
  rw [if_neg (by omega), if_neg (by omega), Nat.add_sub_cancel_left]
theorem vk_Scg {N : Nat} {len : List Nat} {byt : List (List Int32)} {k v k' v' : Nat → Nat} {A : Nat → Prop} {U : State} {H : Heap} (h : vk_S N len byt k v A U H) (e1 : ∀ i, i < N → k' i = k i) (e2 : ∀ i, i < N → v' i = v i) : vk_S N len byt k' v' A U H :=
  ⟨fun i hi => by rw [e1 i hi, e2 i hi]; exact h.1 i hi, fun i j hi hj q => h.2 i j hi hj (by rw [← e1 i hi, ← e1 j hj]; exact q)⟩
theorem hs_Wad {SH : List hs_Sh} {dA : Nat → ClassId} {a a' : Nat → Nat} {σ : hs_S} (h : ∀ c, c < 1000 → a c = a' c) (hn : SH.length ≤ 1000) (hr : SH.all (fun sh => sh.2.2.all (fun q => decide (q.2 < 1000))) = true) : hs_W SH dA a σ = hs_W SH dA a' σ := by
  have hr2 : ∀ sh ∈ SH, ∀ q ∈ sh.2.2, q.2 < 1000 := fun sh h1 q h2 => of_decide_eq_true (List.all_eq_true.mp (List.all_eq_true.mp hr sh h1) q h2)
  apply List.ext_getElem?
  intro c
  by_cases hc : c < SH.length
  · have h1 : SH[c]? = some SH[c] := List.getElem?_eq_getElem hc
    rw [hs_W_get h1, hs_W_get h1, h c (by omega)]
    have hs := hr2 _ (List.getElem_mem hc)
    generalize SH[c] = sh at hs
    congr 2
    unfold hs_E
    by_cases c0 : sh.1 = 0
    · rw [if_pos c0, if_pos c0]
      congr 2
      apply List.ext_getElem?
      intro j
      rw [List.getElem?_mapIdx, List.getElem?_mapIdx]
      cases hj : sh.2.2[j]? with
      | none => rfl
      | some q =>
        have hq := hs q (List.mem_of_getElem? hj)
        simp only [Option.map_some]
        unfold hs_fv
        rw [h _ hq]
    · rw [if_neg c0, if_neg c0]
      by_cases c1 : sh.1 = 1
      · rw [if_pos c1, if_pos c1]
      · rw [if_neg c1, if_neg c1]
        have e0 : (fun j => some (a (sh.2.2.getD j (0, 0)).2)) = (fun j => some (a' (sh.2.2.getD j (0, 0)).2)) := by
          funext j
          have hq : (sh.2.2.getD j (0, 0)).2 < 1000 := by
            rw [List.getD_eq_getElem?_getD]
            cases hj : sh.2.2[j]? with
            | none => decide
            | some q => exact hs q (List.mem_of_getElem? hj)
          rw [h _ hq]
        rw [e0]
  · rw [List.getElem?_eq_none (by rw [hs_W_len]; omega), List.getElem?_eq_none (by rw [hs_W_len]; omega)]
theorem shx_ok : SHX.length ≤ 1000 ∧ SHX.all (fun sh => sh.2.2.all (fun q => decide (q.2 < 1000))) = true := ⟨by decide, by decide +kernel⟩
theorem shy_ok : SHY.length ≤ 1000 ∧ SHY.all (fun sh => sh.2.2.all (fun q => decide (q.2 < 1000))) = true := ⟨by decide, by decide +kernel⟩
def tmS (i : Nat) : Term := .string RX7 (hs_SK.getD i 0)
theorem sm_1 : ∀ i : Nat, i < 7 → Cond.exactly (tmS i) "java/lang/String" ∈ flatC (Jvm.Cond.and given_1 narrow_1) := by decide +kernel
theorem sm_2 : ∀ i : Nat, i < 7 → Cond.eq (.field (tmS i) "java/lang/String" "coder" "B") (.int 0) ∈ flatC (Jvm.Cond.and given_1 narrow_1) := by decide +kernel
theorem sm_3 : ∀ i : Nat, i < 7 → Cond.arrayOf (.field (tmS i) "java/lang/String" "value" "[B") .byte ∈ flatC (Jvm.Cond.and given_1 narrow_1) := by decide +kernel
theorem sm_4 : ∀ i : Nat, i < 7 → Cond.eq (.length (.field (tmS i) "java/lang/String" "value" "[B")) (.int (Int32.ofNat (hs_SL.getD i 0))) ∈ flatC (Jvm.Cond.and given_1 narrow_1) := by decide +kernel
theorem sm_5 : ∀ i : Nat, i < 7 → ∀ j : Nat, j < hs_SL.getD i 0 → Cond.eq (.elem (.field (tmS i) "java/lang/String" "value" "[B") (.int (Int32.ofNat j))) (.int ((hs_SB.getD i []).getD j 0)) ∈ flatC (Jvm.Cond.and given_1 narrow_1) := by decide +kernel
theorem sm_6 : ∀ i : Nat, i < 7 → ∀ j : Nat, j < 7 → i ≠ j → Cond.not (Cond.eq (tmS i) (tmS j)) ∈ flatC (Jvm.Cond.and given_1 narrow_1) ∨ Cond.not (Cond.eq (tmS j) (tmS i)) ∈ flatC (Jvm.Cond.and given_1 narrow_1) := by decide +kernel
theorem lw_St {s : State} {b : Nat} (hts : ∀ w ∈ lw_tbl, w.before #[Value.ref b] s = true) (hgv : (Jvm.Cond.and given_1 narrow_1).before #[Value.ref b] s = true) {A : Nat → Prop} (hA : ∀ a : Nat, a < s.heap.size → ¬ A a) : ∃ adK adV : Nat → Nat, ∀ a : Nat → Nat, hs_St (adS a adK adV) A s := by
  have hs := flat_of_before _ hgv
  obtain ⟨adK, adV, h1, h2⟩ := vk_Sof (args := #[Value.ref b]) (s := s) (N := 7) (tm := tmS) (len := hs_SL) (byt := hs_SB) (A := A) (by decide) (fun i hi => hs _ (sm_1 i hi)) (fun i hi => hs _ (sm_2 i hi)) (fun i hi => hs _ (sm_3 i hi)) (fun i hi => hs _ (sm_4 i hi)) (fun i hi j hj => hs _ (sm_5 i hi j hj)) (fun i j hi hj hij => (sm_6 i hi j hj hij).elim (fun q => Or.inl (hs _ q)) (fun q => Or.inr (hs _ q))) hA
  refine ⟨adK, adV, fun a => ⟨vk_Scg h1 (fun i hi => adS_k hi) (fun i _ => adS_v), fun i hi => ?_, va_Zof (hts _ lw_s1) (hts _ lw_s2) (va_eqi (hs _ (by decide +kernel))) hA, va_Zqof (hts _ lw_s3) (hts _ lw_s4) (hs _ (by decide +kernel)) hA⟩⟩
  rw [adS_k hi]
  exact vk_R.of (hts _ (lw_s5 i hi)) (h2 i hi)
