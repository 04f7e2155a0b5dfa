theorem lw_WS {s : State} {b : Nat} (hts : ∀ w ∈ lw_tbl, w.before #[Value.ref b] s = true) : ∀ w ∈ WS, w.before #[Value.ref b] s = true := fun w hw => hts w (List.mem_filter.mp hw).1
theorem lw_NW {s : State} {b : Nat} (hts : ∀ w ∈ lw_tbl, w.before #[Value.ref b] s = true) : hs_nw s := by
  intro w hw
  obtain ⟨h1, h2⟩ := List.mem_filter.mp hw
  have h3 := hts w h1
  cases w <;> first | (cases h2; done) | exact va_Nw.of rfl h3
theorem lw_ao1 : Cond.arrayOver (.object "DialSafes$Wheel") ∈ lw_tbl := by decide +kernel
theorem lw_ao2 : Cond.arrayOver (.array .int) ∈ lw_tbl := by decide +kernel
theorem lw_ac1 : Cond.arrayClass .byte ∈ lw_tbl := by decide +kernel
theorem lw_ac2 : Cond.arrayClass .int ∈ lw_tbl := by decide +kernel
theorem lw_ac3 : Cond.arrayClass .boolean ∈ lw_tbl := by decide +kernel
theorem lw_mem5 {w : Cond} (i : Nat) (h : tables_1_5[i]? = some w) : w ∈ lw_tbl := List.mem_append_right _ (List.mem_append_right _ (List.mem_append_right _ (List.mem_append_right _ (List.mem_append_right _ (List.mem_append_left _ (List.mem_of_getElem? h))))))
theorem lw_KC {s : State} {b : Nat} (hts : ∀ w ∈ lw_tbl, w.before #[Value.ref b] s = true) : ∃ (D : va_G) (dA : Nat → ClassId), hs_KC D dA s := by
  have hW := lw_WS hts
  obtain ⟨c0, i0, k0⟩ := u_known (C := RX0) (T := TX0) (N := 4) (n := 4) hW wfX0 (hW _ wbX0)
  obtain ⟨c1, i1, k1⟩ := u_known (C := RX1) (T := TX1) (N := 4) (n := 4) hW wfX1 (hW _ wbX1)
  obtain ⟨c2, i2, k2⟩ := u_known (C := RX2) (T := TX2) (N := 6) (n := 6) hW wfX2 (hW _ wbX2)
  obtain ⟨c3, i3, k3⟩ := u_known (C := RX3) (T := TX3) (N := 15) (n := 15) hW wfX3 (hW _ wbX3)
  obtain ⟨c4, i4, k4⟩ := u_known (C := RX4) (T := TX4) (N := 7) (n := 7) hW wfX4 (hW _ wbX4)
  obtain ⟨c5, i5, k5⟩ := u_known (C := RX5) (T := TX5) (N := 3) (n := 3) hW wfX5 (hW _ wbX5)
  obtain ⟨c6, i6, k6⟩ := u_known (C := RX6) (T := TX6) (N := 13) (n := 13) hW wfX6 (hW _ wbX6)
  obtain ⟨c7, i7, k7⟩ := u_known (C := RX7) (T := TX7) (N := 5) (n := 5) hW wfX7 (hW _ wbX7)
  obtain ⟨c8, i8, k8⟩ := u_known (C := RX8) (T := TX8) (N := 7) (n := 7) hW wfX8 (hW _ wbX8)
  obtain ⟨c9, i9, k9⟩ := u_known (C := RX9) (T := TX9) (N := 9) (n := 9) hW wfX9 (hW _ wbX9)
  obtain ⟨c10, i10, k10⟩ := u_known (C := RX10) (T := TX10) (N := 9) (n := 9) hW wfX10 (hW _ wbX10)
  obtain ⟨c11, i11, k11⟩ := u_known (C := RX11) (T := TX11) (N := 11) (n := 11) hW wfX11 (hW _ wbX11)
  obtain ⟨c12, i12, k12⟩ := u_known (C := RX12) (T := TX12) (N := 68) (n := 68) hW wfX12 (hW _ wbX12)
  obtain ⟨a0, ka0, p0, f01, f02, f03⟩ := Cond.arrayClass_spec (hts _ lw_ac1)
  obtain ⟨a1, ka1, p1, f11, f12, f13⟩ := Cond.arrayClass_spec (hts _ lw_ac2)
  obtain ⟨a2, ka2, p2, f21, f22, f23⟩ := Cond.arrayClass_spec (hts _ lw_ac3)
  obtain ⟨p3, a3, ka3, f31, f32, f33, f34, f35⟩ := Cond.arrayOver_spec (hts _ lw_ao1)
  obtain ⟨p4, a4, ka4, f41, f42, f43, f44⟩ := Cond.arrayOver_specA (hts _ lw_ao2)
  refine ⟨(fun k => [c0, c1, c2, c3, c4, c5, c6, c7, c8, c9, c10, c11, c12].getD k c0, fun k => [i0, i1, i2, i3, i4, i5, i6, i7, i8, i9, i10, i11, i12].getD k i0), fun k => [a0, a1, a2, a3, a4].getD k a0, ⟨⟨?_, ?_⟩, lw_NW hts⟩, va_AO.of (hts _ lw_ao1), hts _ lw_ao2⟩
  · intro k q hq
    match k, hq with
    | 0, hq => cases hq; exact k0
    | 1, hq => cases hq; exact k1
    | 2, hq => cases hq; exact k2
    | 3, hq => cases hq; exact k3
    | 4, hq => cases hq; exact k4
    | 5, hq => cases hq; exact k5
    | 6, hq => cases hq; exact k6
    | 7, hq => cases hq; exact k7
    | 8, hq => cases hq; exact k8
    | 9, hq => cases hq; exact k9
    | 10, hq => cases hq; exact k10
    | 11, hq => cases hq; exact k11
    | 12, hq => cases hq; exact k12
    | k + 13, hq => simp [vwCl] at hq
  · intro k q hq
    match k, hq with
    | 0, hq => cases hq; exact ⟨fun N z => ⟨(fun k h => by cases h), ka0, f02, p0, f03⟩, f01⟩
    | 1, hq => cases hq; exact ⟨fun N z => ⟨(fun k h => by cases h), ka1, f12, p1, f13⟩, f11⟩
    | 2, hq => cases hq; exact ⟨fun N z => ⟨(fun k h => by cases h), ka2, f22, p2, f23⟩, f21⟩
    | 3, hq => cases hq; exact ⟨fun N z => ⟨(fun k h => by cases h), ka3, f33, p3, f34⟩, ka3, p3, f33, f34, f31, f35⟩
    | 4, hq => cases hq; exact ⟨fun N z => ⟨(fun k h => by cases h), ka4, f42, p4, f43⟩, f44⟩
    | k + 5, hq => simp [hs_tys] at hq
theorem lw_lk {s : State} {b : Nat} (hts : ∀ w ∈ lw_tbl, w.before #[Value.ref b] s = true) : lk_nw s := by
  intro w hw
  simp only [List.mem_cons, List.not_mem_nil, or_false] at hw
  rcases hw with rfl | rfl | rfl | rfl
  · exact va_Nw.of rfl (hts _ (lw_mem5 55 (by decide +kernel)))
  · exact va_Nw.of rfl (hts _ (lw_mem5 57 (by decide +kernel)))
  · exact va_Nw.of rfl (hts _ (lw_mem5 59 (by decide +kernel)))
  · exact va_Nw.of rfl (hts _ (lw_mem5 61 (by decide +kernel)))
theorem lw_str {s : State} {b : Nat} (hts : ∀ w ∈ lw_tbl, w.before #[Value.ref b] s = true) : ∃ sa, vk_R RX11 177 "no such wheel" sa s := by
  have h : (Cond.stringRef RX11 177 "no such wheel").before #[Value.ref b] s = true := hts _ (lw_mem5 93 (by decide +kernel))
  obtain ⟨cC, kC, hfc, -⟩ := Cond.instantiable_spec (lw_WS hts _ wbX11)
  obtain ⟨-, -, -, a, -, -, -, -, -, ha⟩ := Cond.stringRef_spec hfc h
  exact ⟨a, vk_R.of h ha⟩
theorem wnTh : Cond.initialized Jvm.Bundle.tN ∈ WS := ws_1 19 (by decide +kernel) (by decide +kernel)
