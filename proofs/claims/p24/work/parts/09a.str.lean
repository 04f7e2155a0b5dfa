theorem hs_shrS {j : Nat} (hj : j < 7) : (Int32.ofInt (hs_sl j) >>> (Int32.ofInt 0 &&& 31)).toInt = hs_sl j := by
  rcases (show j = 0 ∨ j = 1 ∨ j = 2 ∨ j = 3 ∨ j = 4 ∨ j = 5 ∨ j = 6 by omega) with rfl | rfl | rfl | rfl | rfl | rfl | rfl <;> decide
theorem hs_SLb {j : Nat} (hj : j < 7) : (3 : Int) ≤ hs_sl j ∧ hs_sl j ≤ 5 := by
  rcases (show j = 0 ∨ j = 1 ∨ j = 2 ∨ j = 3 ∨ j = 4 ∨ j = 5 ∨ j = 6 by omega) with rfl | rfl | rfl | rfl | rfl | rfl | rfl <;> decide
theorem hs_and255 {a z : Int} (h : z = (Int32.ofInt a &&& Int32.ofInt 255).toInt) : 0 ≤ z ∧ z ≤ 255 := by
  obtain ⟨j, hj, e⟩ := pk_andE (Int32.ofInt a) (m := Int32.ofInt 255) 8 (by decide)
  rw [h, e, nI_toInt (by omega)]
  omega
set_option maxHeartbeats 4000000 in
set_option maxRecDepth 100000 in
theorem c_J0_coder_7d493 (l : Launch) (j : Nat) (hj : j < 7)  : hs_Met l yJ0_coder_7d493 cJ0_coder_7d493 1 (some .byte) 1 SHX (fun ad => [.ref (ad (1000 + j))]) (fun σ => True) (hs_PI (fun σ z σ1 => 0 = z ∧ σ = σ1)) := by
  refine hs_from pfJ0_coder_7d493 (fun _ => Nat.le_of_ble_eq_true rfl) ?_
  intro p e s m args below meth c D dA ad A σ C hpre
  have C : hs_C p s m args meth c D dA SHX ad A 1 cJ0_coder_7d493 RJ0 (some .byte) := C
  show hs_Wd p l e 1 s m args below meth c D dA SHX ad A 1 (hs_PI (fun σ z σ1 => 0 = z ∧ σ = σ1) σ) 0 [(0, .ref (ad (1000 + j)))] [] σ
  refine s_gsc (pc := 0) C dJ0_coder_7d493_0 wlJ0_38 rfl ?_
  refine s_if_eq (pc := 3) C (tgt := 13) dJ0_coder_7d493_3 (by decide) ⟨by decide, by decide⟩ (fun h3 => ?_) (fun h3 => ?_)
  · exact absurd h3 (by decide)
  · skip
    refine s_aload_n (pc := 6) C dJ0_coder_7d493_6 0 rfl ?_
    refine s_strc (pc := 7) C hj dJ0_coder_7d493_7 wlJ0_15 rfl ?_
    refine s_goto (pc := 10) C (tgt := 14) dJ0_coder_7d493_10 (by decide) ?_
    refine s_bret (pc := 14) C (by first | rfl | decide) dJ0_coder_7d493_14 ?_
    refine ⟨_, rfl, ?_⟩
    exact ⟨rfl, rfl⟩
set_option maxHeartbeats 4000000 in
set_option maxRecDepth 100000 in
theorem c_J0_isLatin1_aae02 (l : Launch) (j : Nat) (hj : j < 7)  : hs_Met l yJ0_isLatin1_aae02 cJ0_isLatin1_aae02 1 (some .boolean) 1 SHX (fun ad => [.ref (ad (1000 + j))]) (fun σ => True) (hs_PI (fun σ z σ1 => 1 = z ∧ σ = σ1)) := by
  refine hs_from pfJ0_isLatin1_aae02 (fun _ => Nat.le_of_ble_eq_true rfl) ?_
  intro p e s m args below meth c D dA ad A σ C hpre
  have C : hs_C p s m args meth c D dA SHX ad A 1 cJ0_isLatin1_aae02 RJ0 (some .boolean) := C
  show hs_Wd p l e 1 s m args below meth c D dA SHX ad A 1 (hs_PI (fun σ z σ1 => 1 = z ∧ σ = σ1) σ) 0 [(0, .ref (ad (1000 + j)))] [] σ
  refine s_gsc (pc := 0) C dJ0_isLatin1_aae02_0 wlJ0_38 rfl ?_
  refine s_if_eq (pc := 3) C (tgt := 17) dJ0_isLatin1_aae02_3 (by decide) ⟨by decide, by decide⟩ (fun h3 => ?_) (fun h3 => ?_)
  · exact absurd h3 (by decide)
  · skip
    refine s_aload_n (pc := 6) C dJ0_isLatin1_aae02_6 0 rfl ?_
    refine s_strc (pc := 7) C hj dJ0_isLatin1_aae02_7 wlJ0_15 rfl ?_
    refine s_if_ne (pc := 10) C (tgt := 17) dJ0_isLatin1_aae02_10 (by decide) ⟨by decide, by decide⟩ (fun h10 => ?_) (fun h10 => ?_)
    · exact absurd h10 (by decide)
    · skip
      refine s_iconst (pc := 13) C dJ0_isLatin1_aae02_13 ?_
      refine s_goto (pc := 14) C (tgt := 18) dJ0_isLatin1_aae02_14 (by decide) ?_
      refine s_zret (pc := 18) C (by omega) dJ0_isLatin1_aae02_18 ?_
      refine ⟨_, rfl, ?_⟩
      exact ⟨rfl, rfl⟩
set_option maxHeartbeats 4000000 in
set_option maxRecDepth 100000 in
theorem c_J0_length_8abf5 (l : Launch) (j : Nat) (hj : j < 7)  : hs_Met l yJ0_length_8abf5 cJ0_length_8abf5 1 (some .int) 2 SHX (fun ad => [.ref (ad (1000 + j))]) (fun σ => True) (hs_PI (fun σ z σ1 => hs_sl j = z ∧ σ = σ1)) := by
  refine hs_from pfJ0_length_8abf5 (fun _ => Nat.le_of_ble_eq_true rfl) ?_
  intro p e s m args below meth c D dA ad A σ C hpre
  have C : hs_C p s m args meth c D dA SHX ad A 1 cJ0_length_8abf5 RJ0 (some .int) := C
  show hs_Wd p l e 2 s m args below meth c D dA SHX ad A 1 (hs_PI (fun σ z σ1 => hs_sl j = z ∧ σ = σ1) σ) 0 [(0, .ref (ad (1000 + j)))] [] σ
  refine s_aload_n (pc := 0) C dJ0_length_8abf5_0 0 rfl ?_
  refine s_strv (pc := 1) C hj dJ0_length_8abf5_1 wlJ0_9 rfl ?_
  refine s_strn (pc := 4) C hj dJ0_length_8abf5_4 ?_
  refine s_aload_n (pc := 5) C dJ0_length_8abf5_5 0 rfl ?_
  refine s_callVSi (pc := 6) C (c_J0_coder_7d493 l j hj) hj rfl [] [vI (hs_sl j)] rfl rfl dJ0_length_8abf5_6 wlJ0_335 wiJ0_coder_7d493 weJ0_coder_7d493 wcJ0_coder_7d493 wnJ0 noJ0_coder_7d493 (by decide) (by decide) (Nat.le_of_ble_eq_true rfl) (by first | omega | assumption | (constructor <;> omega) | (refine ⟨⟨?_, ?_⟩, ?_⟩ <;> omega) | (simp [hs_ss, hs_up]; omega) | (simp [hs_ss, hs_up]; done)) ?_
  rintro _ _ ⟨rfl, rfl⟩
  show hs_Wd _ _ _ _ _ _ _ _ _ _ _ _ _ _ _ _ _ 9 _ [vI 0, vI (hs_sl j)] σ
  refine s_ishr (pc := 9) C dJ0_length_8abf5_9 (fun z9 hz9 ez9 => ?_)
  have hz9 : z9 = hs_sl j := by rw [ez9]; exact hs_shrS hj
  refine s_iret (pc := 10) C dJ0_length_8abf5_10 ?_
  refine ⟨_, rfl, ?_⟩
  exact ⟨hz9.symm, rfl⟩
set_option maxHeartbeats 4000000 in
set_option maxRecDepth 100000 in
theorem n_J3 (l : Launch) (a b : Int) (hx : 0 ≤ a ∧ a < b ∧ b ≤ 1000) : hs_Met l yJ3_checkIndex_8e157 cJ3_checkIndex_8e157 3 (some .int) 1 SHX (fun ad => [vI a, vI b, .null]) (fun σ => True) (hs_PI (fun σ z σ1 => hs_R z ∧ σ = σ1)) := by
  refine hs_from pfJ3_checkIndex_8e157 (fun _ => Nat.le_of_ble_eq_true rfl) ?_
  intro p e s m args below meth c D dA ad A σ C hpre
  have C : hs_C p s m args meth c D dA SHX ad A 3 cJ3_checkIndex_8e157 RJ3 (some .int) := C
  show hs_Wd p l e 1 s m args below meth c D dA SHX ad A 3 (hs_PI (fun σ z σ1 => hs_R z ∧ σ = σ1) σ) 0 [(0, vI a), (1, vI b), (2, .null)] [] σ
  refine s_iload_n (pc := 0) C dJ3_checkIndex_8e157_0 0 rfl ?_
  refine s_if_lt (pc := 1) C (tgt := 9) dJ3_checkIndex_8e157_1 (by decide) ⟨by omega, by omega⟩ (fun h1 => ?_) (fun h1 => ?_)
  · skip
    exfalso; omega
  · skip
    refine s_iload_n (pc := 4) C dJ3_checkIndex_8e157_4 0 rfl ?_
    refine s_iload_n (pc := 5) C dJ3_checkIndex_8e157_5 1 rfl ?_
    refine s_icmp_lt (pc := 6) C (tgt := 16) dJ3_checkIndex_8e157_6 (by decide) ⟨by omega, by omega⟩ ⟨by omega, by omega⟩ (fun h6 => ?_) (fun h6 => ?_)
    · skip
      refine s_iload_n (pc := 16) C dJ3_checkIndex_8e157_16 0 rfl ?_
      refine s_iret (pc := 17) C dJ3_checkIndex_8e157_17 ?_
      refine ⟨_, rfl, ?_⟩
      exact ⟨⟨by omega, by omega⟩, rfl⟩
    · skip
      exfalso; omega
set_option maxHeartbeats 4000000 in
set_option maxRecDepth 100000 in
theorem r_J3 (l : Launch) (a b : Int) (t_ : Nat) (hx : 0 ≤ a ∧ a < b ∧ b ≤ 1000) : hs_Met l yJ3_checkIndex_8e157 cJ3_checkIndex_8e157 3 (some .int) 1 SHX (fun ad => [vI a, vI b, .ref t_]) (fun σ => True) (hs_PI (fun σ z σ1 => hs_R z ∧ σ = σ1)) := by
  refine hs_from pfJ3_checkIndex_8e157 (fun _ => Nat.le_of_ble_eq_true rfl) ?_
  intro p e s m args below meth c D dA ad A σ C hpre
  have C : hs_C p s m args meth c D dA SHX ad A 3 cJ3_checkIndex_8e157 RJ3 (some .int) := C
  show hs_Wd p l e 1 s m args below meth c D dA SHX ad A 3 (hs_PI (fun σ z σ1 => hs_R z ∧ σ = σ1) σ) 0 [(0, vI a), (1, vI b), (2, .ref t_)] [] σ
  refine s_iload_n (pc := 0) C dJ3_checkIndex_8e157_0 0 rfl ?_
  refine s_if_lt (pc := 1) C (tgt := 9) dJ3_checkIndex_8e157_1 (by decide) ⟨by omega, by omega⟩ (fun h1 => ?_) (fun h1 => ?_)
  · skip
    exfalso; omega
  · skip
    refine s_iload_n (pc := 4) C dJ3_checkIndex_8e157_4 0 rfl ?_
    refine s_iload_n (pc := 5) C dJ3_checkIndex_8e157_5 1 rfl ?_
    refine s_icmp_lt (pc := 6) C (tgt := 16) dJ3_checkIndex_8e157_6 (by decide) ⟨by omega, by omega⟩ ⟨by omega, by omega⟩ (fun h6 => ?_) (fun h6 => ?_)
    · skip
      refine s_iload_n (pc := 16) C dJ3_checkIndex_8e157_16 0 rfl ?_
      refine s_iret (pc := 17) C dJ3_checkIndex_8e157_17 ?_
      refine ⟨_, rfl, ?_⟩
      exact ⟨⟨by omega, by omega⟩, rfl⟩
    · skip
      exfalso; omega
set_option maxHeartbeats 4000000 in
set_option maxRecDepth 100000 in
theorem c_J0_checkIndex_df160 (l : Launch) (a b : Int) (hx : 0 ≤ a ∧ a < b ∧ b ≤ 1000) : hs_Met l yJ0_checkIndex_df160 cJ0_checkIndex_df160 2 none 2 SHX (fun ad => [vI a, vI b]) (fun σ => True) (hs_PV (fun σ σ1 => σ = σ1)) := by
  refine hs_from pfJ0_checkIndex_df160 (fun _ => Nat.le_of_ble_eq_true rfl) ?_
  intro p e s m args below meth c D dA ad A σ C hpre
  have C : hs_C p s m args meth c D dA SHX ad A 2 cJ0_checkIndex_df160 RJ0 none := C
  show hs_Wd p l e 2 s m args below meth c D dA SHX ad A 2 (hs_PV (fun σ σ1 => σ = σ1) σ) 0 [(0, vI a), (1, vI b)] [] σ
  refine s_iload_n (pc := 0) C dJ0_checkIndex_df160_0 0 rfl ?_
  refine s_iload_n (pc := 1) C dJ0_checkIndex_df160_1 1 rfl ?_
  refine s_gsf (pc := 2) C dJ0_checkIndex_df160_2 wlJ0_1053 rfl ?_ (fun t_ => ?_)
  · skip
    refine s_callSi (pc := 5) C (n_J3 l a b (by first | omega | assumption | (constructor <;> omega) | (refine ⟨⟨?_, ?_⟩, ?_⟩ <;> omega) | (simp [hs_ss, hs_up]; omega) | (simp [hs_ss, hs_up]; done))) [vI a, vI b, .null] [] rfl rfl dJ0_checkIndex_df160_5 wlJ0_1059 wtJ3_checkIndex_8e157 wcJ3_checkIndex_8e157 wnJ3 noJ3_checkIndex_8e157 (by decide) (by decide) (Nat.le_of_ble_eq_true rfl) (by first | omega | assumption | (constructor <;> omega) | (refine ⟨⟨?_, ?_⟩, ?_⟩ <;> omega) | (simp [hs_ss, hs_up]; omega) | (simp [hs_ss, hs_up]; done)) ?_
    rintro z5 _ ⟨hR5, rfl⟩
    show hs_Wd _ _ _ _ _ _ _ _ _ _ _ _ _ _ _ _ _ 8 _ [vI z5] σ
    refine s_pop (pc := 8) C dJ0_checkIndex_df160_8 rfl ?_
    refine s_vret (pc := 9) C dJ0_checkIndex_df160_9 ?_
    refine ⟨rfl, ?_⟩
    rfl
  · skip
    refine s_callSi (pc := 5) C (r_J3 l a b t_ (by first | omega | assumption | (constructor <;> omega) | (refine ⟨⟨?_, ?_⟩, ?_⟩ <;> omega) | (simp [hs_ss, hs_up]; omega) | (simp [hs_ss, hs_up]; done))) [vI a, vI b, .ref t_] [] rfl rfl dJ0_checkIndex_df160_5 wlJ0_1059 wtJ3_checkIndex_8e157 wcJ3_checkIndex_8e157 wnJ3 noJ3_checkIndex_8e157 (by decide) (by decide) (Nat.le_of_ble_eq_true rfl) (by first | omega | assumption | (constructor <;> omega) | (refine ⟨⟨?_, ?_⟩, ?_⟩ <;> omega) | (simp [hs_ss, hs_up]; omega) | (simp [hs_ss, hs_up]; done)) ?_
    rintro z5 _ ⟨hR5, rfl⟩
    show hs_Wd _ _ _ _ _ _ _ _ _ _ _ _ _ _ _ _ _ 8 _ [vI z5] σ
    refine s_pop (pc := 8) C dJ0_checkIndex_df160_8 rfl ?_
    refine s_vret (pc := 9) C dJ0_checkIndex_df160_9 ?_
    refine ⟨rfl, ?_⟩
    rfl
set_option maxHeartbeats 4000000 in
set_option maxRecDepth 100000 in
theorem c_J1_charAt_3b067 (l : Launch) (j : Nat) (hj : j < 7) (k : Int) (hk : 0 ≤ k ∧ k < hs_sl j) : hs_Met l yJ1_charAt_3b067 cJ1_charAt_3b067 2 (some .char) 3 SHX (fun ad => [.ref (ad (2000 + j)), vI k]) (fun σ => True) (hs_PI (fun σ z σ1 => (0 ≤ z ∧ z ≤ 255) ∧ σ = σ1)) := by
  refine hs_from pfJ1_charAt_3b067 (fun _ => Nat.le_of_ble_eq_true rfl) ?_
  intro p e s m args below meth c D dA ad A σ C hpre
  have C : hs_C p s m args meth c D dA SHX ad A 2 cJ1_charAt_3b067 RJ1 (some .char) := C
  have hn := hs_SLb hj
  show hs_Wd p l e 3 s m args below meth c D dA SHX ad A 2 (hs_PI (fun σ z σ1 => (0 ≤ z ∧ z ≤ 255) ∧ σ = σ1) σ) 0 [(0, .ref (ad (2000 + j))), (1, vI k)] [] σ
  refine s_iload_n (pc := 0) C dJ1_charAt_3b067_0 1 rfl ?_
  refine s_aload_n (pc := 1) C dJ1_charAt_3b067_1 0 rfl ?_
  refine s_strn (pc := 2) C hj dJ1_charAt_3b067_2 ?_
  refine s_callSv (pc := 3) C (c_J0_checkIndex_df160 l k (hs_sl j) (by first | omega | assumption | (constructor <;> omega) | (refine ⟨⟨?_, ?_⟩, ?_⟩ <;> omega) | (simp [hs_ss, hs_up]; omega) | (simp [hs_ss, hs_up]; done))) [vI k, vI (hs_sl j)] [] rfl rfl dJ1_charAt_3b067_3 wlJ1_9 wtJ0_checkIndex_df160 wcJ0_checkIndex_df160 wnJ0 noJ0_checkIndex_df160 (by decide) (by decide) (Nat.le_of_ble_eq_true rfl) (by first | omega | assumption | (constructor <;> omega) | (refine ⟨⟨?_, ?_⟩, ?_⟩ <;> omega) | (simp [hs_ss, hs_up]; omega) | (simp [hs_ss, hs_up]; done)) ?_
  rintro _ rfl
  show hs_Wd _ _ _ _ _ _ _ _ _ _ _ _ _ _ _ _ _ 6 _ [] σ
  refine s_aload_n (pc := 6) C dJ1_charAt_3b067_6 0 rfl ?_
  refine s_iload_n (pc := 7) C dJ1_charAt_3b067_7 1 rfl ?_
  refine s_strb (pc := 8) C hj dJ1_charAt_3b067_8 (by omega) (by omega) (fun z8 hz8 => ?_)
  refine s_sipush (pc := 9) C dJ1_charAt_3b067_9 (by decide) ?_
  refine s_iand (pc := 12) C dJ1_charAt_3b067_12 (fun z12 hz12 ez12 => ?_)
  have hb := hs_and255 ez12
  refine s_i2c (pc := 13) C dJ1_charAt_3b067_13 (by omega) (by omega) ?_
  refine s_cret (pc := 14) C (hs_nch (by omega) (by omega)) dJ1_charAt_3b067_14 ?_
  refine ⟨_, rfl, ?_⟩
  exact ⟨⟨by omega, by omega⟩, rfl⟩
set_option maxHeartbeats 4000000 in
set_option maxRecDepth 100000 in
theorem c_J0_charAt_5068e (l : Launch) (j : Nat) (hj : j < 7) (k : Int) (hk : 0 ≤ k ∧ k < hs_sl j) : hs_Met l yJ0_charAt_5068e cJ0_charAt_5068e 2 (some .char) 4 SHX (fun ad => [.ref (ad (1000 + j)), vI k]) (fun σ => True) (hs_PI (fun σ z σ1 => hs_R z ∧ σ = σ1)) := by
  refine hs_from pfJ0_charAt_5068e (fun _ => Nat.le_of_ble_eq_true rfl) ?_
  intro p e s m args below meth c D dA ad A σ C hpre
  have C : hs_C p s m args meth c D dA SHX ad A 2 cJ0_charAt_5068e RJ0 (some .char) := C
  have hn := hs_SLb hj
  show hs_Wd p l e 4 s m args below meth c D dA SHX ad A 2 (hs_PI (fun σ z σ1 => hs_R z ∧ σ = σ1) σ) 0 [(0, .ref (ad (1000 + j))), (1, vI k)] [] σ
  refine s_aload_n (pc := 0) C dJ0_charAt_5068e_0 0 rfl ?_
  refine s_callVSi (pc := 1) C (c_J0_isLatin1_aae02 l j hj) hj rfl [] [] rfl rfl dJ0_charAt_5068e_1 wlJ0_492 wiJ0_isLatin1_aae02 weJ0_isLatin1_aae02 wcJ0_isLatin1_aae02 wnJ0 noJ0_isLatin1_aae02 (by decide) (by decide) (Nat.le_of_ble_eq_true rfl) (by first | omega | assumption | (constructor <;> omega) | (refine ⟨⟨?_, ?_⟩, ?_⟩ <;> omega) | (simp [hs_ss, hs_up]; omega) | (simp [hs_ss, hs_up]; done)) ?_
  rintro _ _ ⟨rfl, rfl⟩
  show hs_Wd _ _ _ _ _ _ _ _ _ _ _ _ _ _ _ _ _ 4 _ [vI 1] σ
  refine s_if_eq (pc := 4) C (tgt := 16) dJ0_charAt_5068e_4 (by decide) ⟨by decide, by decide⟩ (fun h4 => ?_) (fun h4 => ?_)
  · exact absurd h4 (by decide)
  · skip
    refine s_aload_n (pc := 7) C dJ0_charAt_5068e_7 0 rfl ?_
    refine s_strv (pc := 8) C hj dJ0_charAt_5068e_8 wlJ0_9 rfl ?_
    refine s_iload_n (pc := 11) C dJ0_charAt_5068e_11 1 rfl ?_
    refine s_callSi (pc := 12) C (c_J1_charAt_3b067 l j hj k (by first | omega | assumption | (constructor <;> omega) | (refine ⟨⟨?_, ?_⟩, ?_⟩ <;> omega) | (simp [hs_ss, hs_up]; omega) | (simp [hs_ss, hs_up]; done))) [.ref (ad (2000 + j)), vI k] [] rfl rfl dJ0_charAt_5068e_12 wlJ0_495 wtJ1_charAt_3b067 wcJ1_charAt_3b067 wnJ1 noJ1_charAt_3b067 (by decide) (by decide) (Nat.le_of_ble_eq_true rfl) (by first | omega | assumption | (constructor <;> omega) | (refine ⟨⟨?_, ?_⟩, ?_⟩ <;> omega) | (simp [hs_ss, hs_up]; omega) | (simp [hs_ss, hs_up]; done)) ?_
    rintro z12 _ ⟨hR12, rfl⟩
    show hs_Wd _ _ _ _ _ _ _ _ _ _ _ _ _ _ _ _ _ 15 _ [vI z12] σ
    refine s_cret (pc := 15) C (hs_nch (by omega) (by omega)) dJ0_charAt_5068e_15 ?_
    refine ⟨_, rfl, ?_⟩
    exact ⟨⟨by omega, by omega⟩, rfl⟩
