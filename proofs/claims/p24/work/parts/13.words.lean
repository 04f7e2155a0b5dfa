theorem lt_make {σ σ1 : hs_S} (h : LT σ) (hI : IBX σ1) (h5 : ∀ w : Nat, w < 4 → σ1 5 w = 0) (h34 : ∀ w : Nat, σ1 34 w = σ 34 w) (h35 : ∀ w : Nat, σ1 35 w = σ 35 w) (h49 : ∀ w : Nat, σ1 49 w = σ 49 w) (h51 : ∀ w : Nat, σ1 51 w = σ 51 w) : LT σ1 := by
  refine ⟨fun w hw => ?_, fun k hk => ?_⟩
  · have b : (0 : Int) ≤ σ1 4 w ∧ σ1 4 w ≤ 99 := hI 4 w
    have h1 := (h.1 w hw).2
    rw [h5 w hw, h34, h35]
    omega
  · rw [h49] at hk
    rw [h51]
    exact h.2 k hk
theorem hs_b8 (x : Int8) : -128 ≤ x.toInt ∧ x.toInt ≤ 127 := ⟨by have := x.le_toInt; omega, by have := x.toInt_lt; omega⟩
def FRX (σ σ1 : hs_S) : Prop := IBX σ1 ∧ ∀ c j : Nat, c ≠ 1 → ¬ (c = 0 ∧ j = 9) → σ1 c j = σ c j
theorem frx_tr {a b c : hs_S} (h : FRX a b) (k : FRX b c) : FRX a c := ⟨k.1, fun i j h1 h2 => (k.2 i j h1 h2).trans (h.2 i j h1 h2)⟩
theorem frx_good {a b : hs_S} (h : GX a a) (k : FRX a b) : GX b b := by
  refine ⟨k.1, kx_rf, fun w hw => ?_, fun i hi => ?_⟩
  · rw [k.2 4 w (by decide) (by omega), k.2 5 w (by decide) (by omega), k.2 34 w (by decide) (by omega), k.2 35 w (by decide) (by omega)]
    exact h.2.2.1 w hw
  · rw [k.2 49 i (by decide) (by omega)] at hi
    rw [k.2 51 i (by decide) (by omega)]
    exact h.2.2.2 i hi
theorem hs_shl {x z : Int} (h : 0 ≤ x ∧ x ≤ 4) (ez : z = (Int32.ofInt 1 <<< (Int32.ofInt x &&& 31)).toInt) : (x = 0 → z = 1) ∧ 1 ≤ z ∧ z ≤ 16 := by
  subst ez
  rcases (show x = 0 ∨ x = 1 ∨ x = 2 ∨ x = 3 ∨ x = 4 by omega) with rfl | rfl | rfl | rfl | rfl <;> decide
theorem hs_shl0 : (Int32.ofInt 1 <<< (Int32.ofInt 0 &&& 31)).toInt = 1 := by decide
def X_tell (σ : hs_S) (a b c d : Int) : hs_S := hs_ss (hs_ss (hs_ss (hs_ss (hs_ss σ 49 (σ 48 8).toNat a) 50 (σ 48 8).toNat b) 51 (σ 48 8).toNat c) 52 (σ 48 8).toNat d) 48 8 (σ 48 8 + 1)
theorem x_tell_good {σ : hs_S} {a b c d : Int} (h : GX σ σ) (hn : σ 48 8 < 80) (ha : -1 ≤ a ∧ a ≤ 5) (hb : -1 ≤ b ∧ b ≤ 3) (hc : -1 ≤ c ∧ c ≤ 99) (hd : 0 ≤ d ∧ d ≤ 999) (hs : a = -1 → 0 ≤ c ∧ c ≤ 79) : GX (X_tell σ a b c d) (X_tell σ a b c d) := by
  have b8 : (0 : Int) ≤ σ 48 8 ∧ σ 48 8 ≤ 80 := h.1 48 8
  refine ⟨?_, kx_rf, fun w hw => ?_, fun k hk => ?_⟩
  · exact ibx_set (ibx_set (ibx_set (ibx_set (ibx_set h.1 49 _ (-1) 5 rfl ha) 50 _ (-1) 3 rfl hb) 51 _ (-1) 99 rfl hc) 52 _ 0 999 rfl hd) 48 8 0 80 rfl (by omega)
  · exact h.2.2.1 w hw
  · have e1 : X_tell σ a b c d 49 k = if k = (σ 48 8).toNat then a else σ 49 k := rfl
    have e2 : X_tell σ a b c d 51 k = if k = (σ 48 8).toNat then c else σ 51 k := rfl
    rw [e1] at hk
    rw [e2]
    by_cases q : k = (σ 48 8).toNat
    · rw [if_pos q] at hk ⊢
      exact hs hk
    · rw [if_neg q] at hk ⊢
      exact h.2.2.2 k hk
set_option maxHeartbeats 4000000 in
set_option maxRecDepth 100000 in
theorem c_J6_bitCount_0f7a4 (l : Launch) (x : Int) (hx : hs_R x) : hs_Met l yJ6_bitCount_0f7a4 cJ6_bitCount_0f7a4 1 (some .int) 1 SHX (fun ad => [vI x]) (fun σ => True) (hs_PI (fun σ z σ1 => hs_R z ∧ σ = σ1)) := by
  refine hs_from pfJ6_bitCount_0f7a4 (fun _ => Nat.le_of_ble_eq_true rfl) ?_
  intro p e s m args below meth c D dA ad A σ C hpre
  have C : hs_C p s m args meth c D dA SHX ad A 1 cJ6_bitCount_0f7a4 RJ6 (some .int) := C
  show hs_Wd p l e 1 s m args below meth c D dA SHX ad A 1 (hs_PI (fun σ z σ1 => hs_R z ∧ σ = σ1) σ) 0 [(0, vI x)] [] σ
  refine s_iload_n (pc := 0) C dJ6_bitCount_0f7a4_0 0 rfl ?_
  refine s_iload_n (pc := 1) C dJ6_bitCount_0f7a4_1 0 rfl ?_
  refine s_iconst (pc := 2) C dJ6_bitCount_0f7a4_2 ?_
  refine s_iushr (pc := 3) C dJ6_bitCount_0f7a4_3 (fun z3 hz3 => ?_)
  refine s_ldcw (z := 1431655765) (pc := 4) C dJ6_bitCount_0f7a4_4 wlJ6_265 (by decide) ?_
  refine s_iand (pc := 7) C dJ6_bitCount_0f7a4_7 (fun z7 hz7 ez7 => ?_)
  refine s_isub (pc := 8) C dJ6_bitCount_0f7a4_8 ?_
  refine s_istore_n (pc := 9) C [(0, vI (x - z7))] dJ6_bitCount_0f7a4_9 (by decide) rfl ?_
  refine s_iload_n (pc := 10) C dJ6_bitCount_0f7a4_10 0 rfl ?_
  refine s_ldcw (z := 858993459) (pc := 11) C dJ6_bitCount_0f7a4_11 wlJ6_266 (by decide) ?_
  refine s_iand (pc := 14) C dJ6_bitCount_0f7a4_14 (fun z14 hz14 ez14 => ?_)
  refine s_iload_n (pc := 15) C dJ6_bitCount_0f7a4_15 0 rfl ?_
  refine s_iconst (pc := 16) C dJ6_bitCount_0f7a4_16 ?_
  refine s_iushr (pc := 17) C dJ6_bitCount_0f7a4_17 (fun z17 hz17 => ?_)
  refine s_ldcw (z := 858993459) (pc := 18) C dJ6_bitCount_0f7a4_18 wlJ6_266 (by decide) ?_
  refine s_iand (pc := 21) C dJ6_bitCount_0f7a4_21 (fun z21 hz21 ez21 => ?_)
  refine s_iadd (pc := 22) C dJ6_bitCount_0f7a4_22 ?_
  refine s_istore_n (pc := 23) C [(0, vI (z14 + z21))] dJ6_bitCount_0f7a4_23 (by decide) rfl ?_
  refine s_iload_n (pc := 24) C dJ6_bitCount_0f7a4_24 0 rfl ?_
  refine s_iload_n (pc := 25) C dJ6_bitCount_0f7a4_25 0 rfl ?_
  refine s_iconst (pc := 26) C dJ6_bitCount_0f7a4_26 ?_
  refine s_iushr (pc := 27) C dJ6_bitCount_0f7a4_27 (fun z27 hz27 => ?_)
  refine s_iadd (pc := 28) C dJ6_bitCount_0f7a4_28 ?_
  refine s_ldcw (z := 252645135) (pc := 29) C dJ6_bitCount_0f7a4_29 wlJ6_267 (by decide) ?_
  refine s_iand (pc := 32) C dJ6_bitCount_0f7a4_32 (fun z32 hz32 ez32 => ?_)
  refine s_istore_n (pc := 33) C [(0, vI z32)] dJ6_bitCount_0f7a4_33 (by decide) rfl ?_
  refine s_iload_n (pc := 34) C dJ6_bitCount_0f7a4_34 0 rfl ?_
  refine s_iload_n (pc := 35) C dJ6_bitCount_0f7a4_35 0 rfl ?_
  refine s_bipush (pc := 36) C dJ6_bitCount_0f7a4_36 (by decide) ?_
  refine s_iushr (pc := 38) C dJ6_bitCount_0f7a4_38 (fun z38 hz38 => ?_)
  refine s_iadd (pc := 39) C dJ6_bitCount_0f7a4_39 ?_
  refine s_istore_n (pc := 40) C [(0, vI (z32 + z38))] dJ6_bitCount_0f7a4_40 (by decide) rfl ?_
  refine s_iload_n (pc := 41) C dJ6_bitCount_0f7a4_41 0 rfl ?_
  refine s_iload_n (pc := 42) C dJ6_bitCount_0f7a4_42 0 rfl ?_
  refine s_bipush (pc := 43) C dJ6_bitCount_0f7a4_43 (by decide) ?_
  refine s_iushr (pc := 45) C dJ6_bitCount_0f7a4_45 (fun z45 hz45 => ?_)
  refine s_iadd (pc := 46) C dJ6_bitCount_0f7a4_46 ?_
  refine s_istore_n (pc := 47) C [(0, vI ((z32 + z38) + z45))] dJ6_bitCount_0f7a4_47 (by decide) rfl ?_
  refine s_iload_n (pc := 48) C dJ6_bitCount_0f7a4_48 0 rfl ?_
  refine s_bipush (pc := 49) C dJ6_bitCount_0f7a4_49 (by decide) ?_
  refine s_iand (pc := 51) C dJ6_bitCount_0f7a4_51 (fun z51 hz51 ez51 => ?_)
  refine s_iret (pc := 52) C dJ6_bitCount_0f7a4_52 ?_
  refine ⟨_, rfl, ?_⟩
  exact ⟨⟨by omega, by omega⟩, rfl⟩
set_option maxHeartbeats 4000000 in
set_option maxRecDepth 100000 in
theorem c_X10_note (l : Launch) (a b d k : Int) (ha : hs_R a) : hs_Met l yX10_note cX10_note 5 (some .int) 1 SHX (fun ad => [.ref (ad 48), vI a, vI b, vI d, vI k]) (fun σ => IBX σ) (hs_PI (fun σ z σ1 => (80 ≤ σ 48 8 → z = -1 ∧ σ1 = σ) ∧ (σ 48 8 < 80 → z = σ 48 8 ∧ σ1 = X_tell σ a b d k))) := by
  refine hs_from pfX10_note (fun _ => Nat.le_of_ble_eq_true rfl) ?_
  intro p e s m args below meth c D dA ad A σ C hpre
  have C : hs_C p s m args meth c D dA SHX ad A 5 cX10_note RX10 (some .int) := C
  have b8 : (0 : Int) ≤ σ 48 8 ∧ σ 48 8 ≤ 80 := hpre 48 8
  show hs_Wd p l e 1 s m args below meth c D dA SHX ad A 5 (hs_PI (fun σ z σ1 => (80 ≤ σ 48 8 → z = -1 ∧ σ1 = σ) ∧ (σ 48 8 < 80 → z = σ 48 8 ∧ σ1 = X_tell σ a b d k)) σ) 0 [(0, .ref (ad 48)), (1, vI a), (2, vI b), (3, vI d), (4, vI k)] [] σ
  refine s_aload_n (pc := 0) C dX10_note_0 0 rfl ?_
  refine s_geti (q := 48) (ci := 10) (N := 9) (CN := RX10) (T := TX10) (pc := 1) C 8 dX10_note_1 wlX10_39 rfl rfl rfl wfX10 (by decide) rfl (σ 48 8) rfl ?_
  refine s_bipush (pc := 4) C dX10_note_4 (by decide) ?_
  refine s_icmp_lt (pc := 6) C (tgt := 11) dX10_note_6 (by decide) ⟨by omega, by omega⟩ ⟨by decide, by decide⟩ (fun h6 => ?_) (fun h6 => ?_)
  · skip
    refine s_aload_n (pc := 11) C dX10_note_11 0 rfl ?_
    refine s_getr (q := 48) (ci := 10) (N := 9) (CN := RX10) (T := TX10) (pc := 12) C 2 dX10_note_12 wlX10_11 rfl rfl rfl wfX10 (by decide) rfl ?_
    refine s_aload_n (pc := 15) C dX10_note_15 0 rfl ?_
    refine s_geti (q := 48) (ci := 10) (N := 9) (CN := RX10) (T := TX10) (pc := 16) C 8 dX10_note_16 wlX10_39 rfl rfl rfl wfX10 (by decide) rfl (σ 48 8) rfl ?_
    refine s_iload_n (pc := 19) C dX10_note_19 1 rfl ?_
    refine s_iast (q := 49) (n := 80) (pc := 20) C dX10_note_20 rfl (by omega) (by omega) (by decide) ?_
    refine s_aload_n (pc := 21) C dX10_note_21 0 rfl ?_
    refine s_getr (q := 48) (ci := 10) (N := 9) (CN := RX10) (T := TX10) (pc := 22) C 3 dX10_note_22 wlX10_15 rfl rfl rfl wfX10 (by decide) rfl ?_
    refine s_aload_n (pc := 25) C dX10_note_25 0 rfl ?_
    refine s_geti (q := 48) (ci := 10) (N := 9) (CN := RX10) (T := TX10) (pc := 26) C 8 dX10_note_26 wlX10_39 rfl rfl rfl wfX10 (by decide) rfl (σ 48 8) rfl ?_
    refine s_iload_n (pc := 29) C dX10_note_29 2 rfl ?_
    refine s_iast (q := 50) (n := 80) (pc := 30) C dX10_note_30 rfl (by omega) (by omega) (by decide) ?_
    refine s_aload_n (pc := 31) C dX10_note_31 0 rfl ?_
    refine s_getr (q := 48) (ci := 10) (N := 9) (CN := RX10) (T := TX10) (pc := 32) C 4 dX10_note_32 wlX10_18 rfl rfl rfl wfX10 (by decide) rfl ?_
    refine s_aload_n (pc := 35) C dX10_note_35 0 rfl ?_
    refine s_geti (q := 48) (ci := 10) (N := 9) (CN := RX10) (T := TX10) (pc := 36) C 8 dX10_note_36 wlX10_39 rfl rfl rfl wfX10 (by decide) rfl (σ 48 8) rfl ?_
    refine s_iload_n (pc := 39) C dX10_note_39 3 rfl ?_
    refine s_iast (q := 51) (n := 80) (pc := 40) C dX10_note_40 rfl (by omega) (by omega) (by decide) ?_
    refine s_aload_n (pc := 41) C dX10_note_41 0 rfl ?_
    refine s_getr (q := 48) (ci := 10) (N := 9) (CN := RX10) (T := TX10) (pc := 42) C 5 dX10_note_42 wlX10_21 rfl rfl rfl wfX10 (by decide) rfl ?_
    refine s_aload_n (pc := 45) C dX10_note_45 0 rfl ?_
    refine s_geti (q := 48) (ci := 10) (N := 9) (CN := RX10) (T := TX10) (pc := 46) C 8 dX10_note_46 wlX10_39 rfl rfl rfl wfX10 (by decide) rfl (σ 48 8) rfl ?_
    refine s_iload (pc := 49) C dX10_note_49 4 rfl ?_
    refine s_iast (q := 52) (n := 80) (pc := 51) C dX10_note_51 rfl (by omega) (by omega) (by decide) ?_
    refine s_aload_n (pc := 52) C dX10_note_52 0 rfl ?_
    refine s_dup (pc := 53) C dX10_note_53 rfl ?_
    refine s_geti (q := 48) (ci := 10) (N := 9) (CN := RX10) (T := TX10) (pc := 54) C 8 dX10_note_54 wlX10_39 rfl rfl rfl wfX10 (by decide) rfl (σ 48 8) rfl ?_
    refine s_iconst (pc := 57) C dX10_note_57 ?_
    refine s_iadd (pc := 58) C dX10_note_58 ?_
    refine s_puti (q := 48) (ci := 10) (N := 9) (CN := RX10) (T := TX10) (ty0 := tyX10) (ty := .int) (pc := 59) C 8 dX10_note_59 wlX10_39 rfl rfl rfl wfX10 tyX10_ok nmX10 (by decide) rfl rfl rfl (vp_nar_int _) rfl ?_
    refine s_aload_n (pc := 62) C dX10_note_62 0 rfl ?_
    refine s_geti (q := 48) (ci := 10) (N := 9) (CN := RX10) (T := TX10) (pc := 63) C 8 dX10_note_63 wlX10_39 rfl rfl rfl wfX10 (by decide) rfl ((σ 48 8) + 1) rfl ?_
    refine s_iconst (pc := 66) C dX10_note_66 ?_
    refine s_isub (pc := 67) C dX10_note_67 ?_
    refine s_iret (pc := 68) C dX10_note_68 ?_
    refine ⟨_, rfl, ?_⟩
    exact ⟨fun q => absurd q (by omega), fun _ => ⟨by omega, rfl⟩⟩
  · skip
    refine s_iconst (pc := 9) C dX10_note_9 ?_
    refine s_iret (pc := 10) C dX10_note_10 ?_
    refine ⟨_, rfl, ?_⟩
    exact ⟨fun _ => ⟨rfl, rfl⟩, fun q => absurd q (by omega)⟩
set_option maxHeartbeats 4000000 in
set_option maxRecDepth 100000 in
theorem c_X10_markStruck (l : Launch) (d : Int) (hd : hs_R d) : hs_Met l yX10_markStruck cX10_markStruck 3 none 1 SHX (fun ad => [.ref (ad 48), vI d]) (fun σ => GX σ σ) (hs_PV (fun σ σ1 => GX σ σ1)) := by
  refine hs_from pfX10_markStruck (fun _ => Nat.le_of_ble_eq_true rfl) ?_
  intro p e s m args below meth c D dA ad A σ C hpre
  have C : hs_C p s m args meth c D dA SHX ad A 3 cX10_markStruck RX10 none := C
  have g0 := hpre
  show hs_Wd p l e 1 s m args below meth c D dA SHX ad A 3 (hs_PV (fun σ σ1 => GX σ σ1) σ) 0 [(0, .ref (ad 48)), (1, vI d)] [] σ
  refine s_iconst (pc := 0) C dX10_markStruck_0 ?_
  refine s_istore_n (pc := 1) C [(2, vI 0), (0, .ref (ad 48)), (1, vI d)] dX10_markStruck_1 (by decide) rfl ?_
  refine s_sub C [1, 2, 0] [(0, .ref (ad 48)), (1, vI d), (2, vI 0)] rfl ?_
  have hi2 : GX σ σ ∧ 0 ≤ (0 : Int) ∧ (0 : Int) ≤ 80 := ⟨g0, by first | omega | assumption | (constructor <;> omega) | (refine ⟨⟨?_, ?_⟩, ?_⟩ <;> omega) | (simp [hs_ss, hs_up]; omega) | (simp [hs_ss, hs_up]; done)⟩
  refine hs_loop (α := Int × hs_S) (fun x_ => (GX σ x_.2 ∧ 0 ≤ x_.1 ∧ x_.1 ≤ 80) → hs_Wd p l e 1 s m args below meth c D dA SHX ad A 3 (hs_PV (fun σ σ1 => GX σ σ1) σ) 2 [(0, .ref (ad 48)), (1, vI d), (2, vI x_.1)] [] x_.2) (fun x_ => (81 - x_.1).toNat) ?_ (0, σ) hi2
  rintro ⟨k, σ1⟩ ih2 hinv
  replace hinv : GX σ σ1 ∧ 0 ≤ k ∧ k ≤ 80 := hinv
  show hs_Wd p l e 1 s m args below meth c D dA SHX ad A 3 (hs_PV (fun σ σ1 => GX σ σ1) σ) 2 [(0, .ref (ad 48)), (1, vI d), (2, vI k)] [] σ1
  obtain ⟨hg, hk⟩ := hinv
  refine s_iload_n (pc := 2) C dX10_markStruck_2 2 rfl ?_
  refine s_aload_n (pc := 3) C dX10_markStruck_3 0 rfl ?_
  refine s_geti (q := 48) (ci := 10) (N := 9) (CN := RX10) (T := TX10) (pc := 4) C 8 dX10_markStruck_4 wlX10_39 rfl rfl rfl wfX10 (by decide) rfl (σ1 48 8) rfl ?_
  have b4 : (0 : Int) ≤ σ1 48 8 ∧ σ1 48 8 ≤ 80 := hg.1 48 8
  refine s_icmp_ge (pc := 7) C (tgt := 23) dX10_markStruck_7 (by decide) ⟨by omega, by omega⟩ ⟨by omega, by omega⟩ (fun h7 => ?_) (fun h7 => ?_)
  · skip
    refine s_aload_n (pc := 23) C dX10_markStruck_23 0 rfl ?_
    refine s_geti (q := 48) (ci := 10) (N := 9) (CN := RX10) (T := TX10) (pc := 24) C 8 dX10_markStruck_24 wlX10_39 rfl rfl rfl wfX10 (by decide) rfl (σ1 48 8) rfl ?_
    have b24 : (0 : Int) ≤ σ1 48 8 ∧ σ1 48 8 ≤ 80 := hg.1 48 8
    refine s_iconst (pc := 27) C dX10_markStruck_27 ?_
    refine s_isub (pc := 28) C dX10_markStruck_28 ?_
    refine s_istore_n (pc := 29) C [(2, vI ((σ1 48 8) - 1)), (0, .ref (ad 48)), (1, vI d)] dX10_markStruck_29 (by decide) rfl ?_
    refine s_sub C [1, 2, 0] [(0, .ref (ad 48)), (1, vI d), (2, vI ((σ1 48 8) - 1))] rfl ?_
    have hi30 : GX σ σ1 ∧ -1 ≤ ((σ1 48 8) - 1) ∧ ((σ1 48 8) - 1) ≤ 79 := ⟨hg, by first | omega | assumption | (constructor <;> omega) | (refine ⟨⟨?_, ?_⟩, ?_⟩ <;> omega) | (simp [hs_ss, hs_up]; omega) | (simp [hs_ss, hs_up]; done)⟩
    refine hs_loop (α := Int × hs_S) (fun x_ => (GX σ x_.2 ∧ -1 ≤ x_.1 ∧ x_.1 ≤ 79) → hs_Wd p l e 1 s m args below meth c D dA SHX ad A 3 (hs_PV (fun σ σ1 => GX σ σ1) σ) 30 [(0, .ref (ad 48)), (1, vI d), (2, vI x_.1)] [] x_.2) (fun x_ => (x_.1 + 1).toNat) ?_ ((σ1 48 8) - 1, σ1) hi30
    rintro ⟨k, σ2⟩ ih30 hinv
    replace hinv : GX σ σ2 ∧ -1 ≤ k ∧ k ≤ 79 := hinv
    show hs_Wd p l e 1 s m args below meth c D dA SHX ad A 3 (hs_PV (fun σ σ1 => GX σ σ1) σ) 30 [(0, .ref (ad 48)), (1, vI d), (2, vI k)] [] σ2
    obtain ⟨hg, hk⟩ := hinv
    refine s_iload_n (pc := 30) C dX10_markStruck_30 2 rfl ?_
    refine s_if_lt (pc := 31) C (tgt := 81) dX10_markStruck_31 (by decide) ⟨by omega, by omega⟩ (fun h31 => ?_) (fun h31 => ?_)
    · skip
      refine s_vret (pc := 81) C dX10_markStruck_81 ?_
      refine ⟨rfl, ?_⟩
      exact hg
    · skip
      refine s_aload_n (pc := 34) C dX10_markStruck_34 0 rfl ?_
      refine s_getr (q := 48) (ci := 10) (N := 9) (CN := RX10) (T := TX10) (pc := 35) C 2 dX10_markStruck_35 wlX10_11 rfl rfl rfl wfX10 (by decide) rfl ?_
      refine s_iload_n (pc := 38) C dX10_markStruck_38 2 rfl ?_
      refine s_iald (q := 49) (n := 80) (pc := 39) C (σ2 49 k.toNat) rfl dX10_markStruck_39 rfl (by omega) (by omega) (by decide) ?_
      have b39 : (-1 : Int) ≤ σ2 49 k.toNat ∧ σ2 49 k.toNat ≤ 5 := hg.1 49 k.toNat
      refine s_iconst (pc := 40) C dX10_markStruck_40 ?_
      refine s_icmp_ne (pc := 41) C (tgt := 75) dX10_markStruck_41 (by decide) ⟨by omega, by omega⟩ ⟨by decide, by decide⟩ (fun h41 => ?_) (fun h41 => ?_)
      · skip
        refine s_iinc (pc := 75) C [(2, vI (k + (-1))), (0, .ref (ad 48)), (1, vI d)] dX10_markStruck_75 2 rfl (by decide) rfl ?_
        refine s_goto (pc := 78) C (tgt := 30) dX10_markStruck_78 (by decide) ?_
        refine s_sub C [1, 2, 0] [(0, .ref (ad 48)), (1, vI d), (2, vI (k + (-1)))] rfl ?_
        have hi30 : GX σ σ2 ∧ -1 ≤ (k + (-1)) ∧ (k + (-1)) ≤ 79 := ⟨hg, by first | omega | assumption | (constructor <;> omega) | (refine ⟨⟨?_, ?_⟩, ?_⟩ <;> omega) | (simp [hs_ss, hs_up]; omega) | (simp [hs_ss, hs_up]; done)⟩
        exact ih30 (k + (-1), σ2) (by first | omega | (simp only []; omega)) hi30
      · skip
        have hsk := hg.2.2.2 k.toNat h41
        refine s_aload_n (pc := 44) C dX10_markStruck_44 0 rfl ?_
        refine s_getr (q := 48) (ci := 10) (N := 9) (CN := RX10) (T := TX10) (pc := 45) C 5 dX10_markStruck_45 wlX10_21 rfl rfl rfl wfX10 (by decide) rfl ?_
        refine s_iload_n (pc := 48) C dX10_markStruck_48 2 rfl ?_
        refine s_iald (q := 52) (n := 80) (pc := 49) C (σ2 52 k.toNat) rfl dX10_markStruck_49 rfl (by omega) (by omega) (by decide) ?_
        have b49 : (0 : Int) ≤ σ2 52 k.toNat ∧ σ2 52 k.toNat ≤ 999 := hg.1 52 k.toNat
        refine s_iload_n (pc := 50) C dX10_markStruck_50 1 rfl ?_
        refine s_icmp_gt (pc := 51) C (tgt := 75) dX10_markStruck_51 (by decide) ⟨by omega, by omega⟩ ⟨by omega, by omega⟩ (fun h51 => ?_) (fun h51 => ?_)
        · skip
          refine s_iinc (pc := 75) C [(2, vI (k + (-1))), (0, .ref (ad 48)), (1, vI d)] dX10_markStruck_75 2 rfl (by decide) rfl ?_
          refine s_goto (pc := 78) C (tgt := 30) dX10_markStruck_78 (by decide) ?_
          refine s_sub C [1, 2, 0] [(0, .ref (ad 48)), (1, vI d), (2, vI (k + (-1)))] rfl ?_
          have hi30 : GX σ σ2 ∧ -1 ≤ (k + (-1)) ∧ (k + (-1)) ≤ 79 := ⟨hg, by first | omega | assumption | (constructor <;> omega) | (refine ⟨⟨?_, ?_⟩, ?_⟩ <;> omega) | (simp [hs_ss, hs_up]; omega) | (simp [hs_ss, hs_up]; done)⟩
          exact ih30 (k + (-1), σ2) (by first | omega | (simp only []; omega)) hi30
        · skip
          refine s_aload_n (pc := 54) C dX10_markStruck_54 0 rfl ?_
          refine s_getr (q := 48) (ci := 10) (N := 9) (CN := RX10) (T := TX10) (pc := 55) C 6 dX10_markStruck_55 wlX10_24 rfl rfl rfl wfX10 (by decide) rfl ?_
          refine s_iload_n (pc := 58) C dX10_markStruck_58 2 rfl ?_
          refine s_zald (q := 53) (n := 80) (pc := 59) C (σ2 53 k.toNat) rfl dX10_markStruck_59 rfl (by omega) (by omega) (by decide) ?_
          have b59 : (0 : Int) ≤ σ2 53 k.toNat ∧ σ2 53 k.toNat ≤ 1 := hg.1 53 k.toNat
          refine s_if_ne (pc := 60) C (tgt := 75) dX10_markStruck_60 (by decide) ⟨by omega, by omega⟩ (fun h60 => ?_) (fun h60 => ?_)
          · skip
            refine s_iinc (pc := 75) C [(2, vI (k + (-1))), (0, .ref (ad 48)), (1, vI d)] dX10_markStruck_75 2 rfl (by decide) rfl ?_
            refine s_goto (pc := 78) C (tgt := 30) dX10_markStruck_78 (by decide) ?_
            refine s_sub C [1, 2, 0] [(0, .ref (ad 48)), (1, vI d), (2, vI (k + (-1)))] rfl ?_
            have hi30 : GX σ σ2 ∧ -1 ≤ (k + (-1)) ∧ (k + (-1)) ≤ 79 := ⟨hg, by first | omega | assumption | (constructor <;> omega) | (refine ⟨⟨?_, ?_⟩, ?_⟩ <;> omega) | (simp [hs_ss, hs_up]; omega) | (simp [hs_ss, hs_up]; done)⟩
            exact ih30 (k + (-1), σ2) (by first | omega | (simp only []; omega)) hi30
          · skip
            refine s_aload_n (pc := 63) C dX10_markStruck_63 0 rfl ?_
            refine s_getr (q := 48) (ci := 10) (N := 9) (CN := RX10) (T := TX10) (pc := 64) C 6 dX10_markStruck_64 wlX10_24 rfl rfl rfl wfX10 (by decide) rfl ?_
            refine s_aload_n (pc := 67) C dX10_markStruck_67 0 rfl ?_
            refine s_getr (q := 48) (ci := 10) (N := 9) (CN := RX10) (T := TX10) (pc := 68) C 4 dX10_markStruck_68 wlX10_18 rfl rfl rfl wfX10 (by decide) rfl ?_
            refine s_iload_n (pc := 71) C dX10_markStruck_71 2 rfl ?_
            refine s_iald (q := 51) (n := 80) (pc := 72) C (σ2 51 k.toNat) rfl dX10_markStruck_72 rfl (by omega) (by omega) (by decide) ?_
            have b72 : (-1 : Int) ≤ σ2 51 k.toNat ∧ σ2 51 k.toNat ≤ 99 := hg.1 51 k.toNat
            refine s_iconst (pc := 73) C dX10_markStruck_73 ?_
            refine s_zast (q := 53) (n := 80) (pc := 74) C dX10_markStruck_74 rfl (by omega) (by omega) (by decide) (by omega) ?_
            have g74 := gx_set (z := 1) hg 53 ((σ2 51 k.toNat).toNat) rfl (0) (1) rfl ⟨by omega, by omega⟩
            refine s_iinc (pc := 75) C [(2, vI (k + (-1))), (0, .ref (ad 48)), (1, vI d)] dX10_markStruck_75 2 rfl (by decide) rfl ?_
            refine s_goto (pc := 78) C (tgt := 30) dX10_markStruck_78 (by decide) ?_
            refine s_sub C [1, 2, 0] [(0, .ref (ad 48)), (1, vI d), (2, vI (k + (-1)))] rfl ?_
            have hi30 : GX σ ((hs_ss σ2 53 ((σ2 51 k.toNat).toNat) 1)) ∧ -1 ≤ (k + (-1)) ∧ (k + (-1)) ≤ 79 := ⟨g74, by first | omega | assumption | (constructor <;> omega) | (refine ⟨⟨?_, ?_⟩, ?_⟩ <;> omega) | (simp [hs_ss, hs_up]; omega) | (simp [hs_ss, hs_up]; done)⟩
            exact ih30 (k + (-1), (hs_ss σ2 53 ((σ2 51 k.toNat).toNat) 1)) (by first | omega | (simp only []; omega)) hi30
  · skip
    refine s_aload_n (pc := 10) C dX10_markStruck_10 0 rfl ?_
    refine s_getr (q := 48) (ci := 10) (N := 9) (CN := RX10) (T := TX10) (pc := 11) C 6 dX10_markStruck_11 wlX10_24 rfl rfl rfl wfX10 (by decide) rfl ?_
    refine s_iload_n (pc := 14) C dX10_markStruck_14 2 rfl ?_
    refine s_iconst (pc := 15) C dX10_markStruck_15 ?_
    refine s_zast (q := 53) (n := 80) (pc := 16) C dX10_markStruck_16 rfl (by omega) (by omega) (by decide) (by omega) ?_
    have g16 := gx_set (z := 0) hg 53 k.toNat rfl (0) (1) rfl ⟨by omega, by omega⟩
    refine s_iinc (pc := 17) C [(2, vI (k + 1)), (0, .ref (ad 48)), (1, vI d)] dX10_markStruck_17 2 rfl (by decide) rfl ?_
    refine s_goto (pc := 20) C (tgt := 2) dX10_markStruck_20 (by decide) ?_
    refine s_sub C [1, 2, 0] [(0, .ref (ad 48)), (1, vI d), (2, vI (k + 1))] rfl ?_
    have hi2 : GX σ ((hs_ss σ1 53 k.toNat 0)) ∧ 0 ≤ (k + 1) ∧ (k + 1) ≤ 80 := ⟨g16, by first | omega | assumption | (constructor <;> omega) | (refine ⟨⟨?_, ?_⟩, ?_⟩ <;> omega) | (simp [hs_ss, hs_up]; omega) | (simp [hs_ss, hs_up]; done)⟩
    exact ih2 (k + 1, (hs_ss σ1 53 k.toNat 0)) (by first | omega | (simp only []; omega)) hi2
set_option maxHeartbeats 4000000 in
set_option maxRecDepth 100000 in
theorem c_X10_isNearGate (l : Launch) (a w d : Int) (ha : -1 ≤ a ∧ a ≤ 99) (hw : 0 ≤ w ∧ w < 4) (hd : hs_R d) : hs_Met l yX10_isNearGate cX10_isNearGate 6 (some .boolean) 3 SHX (fun ad => [.ref (ad 48), vI a, vI w, vI d]) (fun σ => GX σ σ) (hs_PI (fun σ z σ1 => σ = σ1 ∧ (z = 0 ∨ z = 1))) := by
  refine hs_from pfX10_isNearGate (fun _ => Nat.le_of_ble_eq_true rfl) ?_
  intro p e s m args below meth c D dA ad A σ C hpre
  have C : hs_C p s m args meth c D dA SHX ad A 6 cX10_isNearGate RX10 (some .boolean) := C
  have g0 := hpre
  show hs_Wd p l e 3 s m args below meth c D dA SHX ad A 6 (hs_PI (fun σ z σ1 => σ = σ1 ∧ (z = 0 ∨ z = 1)) σ) 0 [(0, .ref (ad 48)), (1, vI a), (2, vI w), (3, vI d)] [] σ
  refine s_aload_n (pc := 0) C dX10_isNearGate_0 0 rfl ?_
  refine s_getr (q := 48) (ci := 10) (N := 9) (CN := RX10) (T := TX10) (pc := 1) C 0 dX10_isNearGate_1 wlX10_31 rfl rfl rfl wfX10 (by decide) rfl ?_
  refine s_getrN (q := 2) (ci := 5) (N := 3) (CN := RX5) (T := TX5) (pc := 4) C 1 dX10_isNearGate_4 wlX10_59 rfl rfl rfl wfX5 (by decide) rfl ?_
  refine s_iload_n (pc := 7) C dX10_isNearGate_7 2 rfl ?_
  refine s_aldq (q := 7) (pc := 8) C dX10_isNearGate_8 rfl (by omega) (by show _ < (4 : Int); omega) (by decide) ?_
  rw [show ((_ : List (Nat × Nat)).getD w.toNat (0, 0)).2 = 8 + w.toNat from hs_ref4 (by omega) (by omega)]
  refine s_astore (pc := 9) C [(4, .ref (ad (8 + w.toNat))), (0, .ref (ad 48)), (1, vI a), (2, vI w), (3, vI d)] dX10_isNearGate_9 (by decide) rfl ?_
  refine s_aload_n (pc := 11) C dX10_isNearGate_11 1 rfl ?_
  refine s_getr (q := 48) (ci := 10) (N := 9) (CN := RX10) (T := TX10) (pc := 12) C 1 dX10_isNearGate_12 wlX10_35 rfl rfl rfl wfX10 (by decide) rfl ?_
  refine s_iload_n (pc := 15) C dX10_isNearGate_15 4 rfl ?_
  refine s_iload_n (pc := 16) C dX10_isNearGate_16 3 rfl ?_
  refine s_aload (pc := 17) C dX10_isNearGate_17 0 rfl ?_
  refine s_getiN (q := (8 + w.toNat)) (ci := 9) (N := 9) (CN := RX9) (T := TX9) (pc := 19) C 1 dX10_isNearGate_19 wlX10_62 (sh_Wh (by omega)) rfl rfl wfX9 (by decide) rfl (σ (8 + w.toNat) 1) rfl ?_
  have b19 : (0 : Int) ≤ σ (8 + w.toNat) 1 ∧ σ (8 + w.toNat) 1 ≤ 99 := gx_w g0 (show (w).toNat < 4 by omega) 1
  refine s_callVNi (pc := 22) C (c_X0_gateAtEndOf l d w (σ (8 + w.toNat) 1) ⟨by omega, by omega⟩ ⟨by omega, by omega⟩ (by first | omega | assumption | (constructor <;> omega) | (refine ⟨⟨?_, ?_⟩, ?_⟩ <;> omega) | (simp [hs_ss, hs_up]; omega) | (simp [hs_ss, hs_up]; done))) [vI d, vI w, vI (σ (8 + w.toNat) 1)] [] rfl rfl dX10_isNearGate_22 wlX10_67 wiX0_gateAtEndOf weX0_gateAtEndOf wcX0_gateAtEndOf wnX0 noX0_gateAtEndOf (by decide) (by decide) (Nat.le_of_ble_eq_true rfl) (gx_self g0) rfl rfl ?_
  rintro z22 _ ⟨rfl, k22⟩
  show hs_Wd _ _ _ _ _ _ _ _ _ _ _ _ _ _ _ _ _ 25 _ [vI z22] σ
  refine s_istore (pc := 25) C [(5, vI z22), (4, .ref (ad (8 + w.toNat))), (0, .ref (ad 48)), (1, vI a), (2, vI w), (3, vI d)] dX10_isNearGate_25 (by decide) rfl ?_
  refine s_aload_n (pc := 27) C dX10_isNearGate_27 2 rfl ?_
  refine s_getr (q := 48) (ci := 10) (N := 9) (CN := RX10) (T := TX10) (pc := 28) C 0 dX10_isNearGate_28 wlX10_31 rfl rfl rfl wfX10 (by decide) rfl ?_
  refine s_getrN (q := 2) (ci := 5) (N := 3) (CN := RX5) (T := TX5) (pc := 31) C 0 dX10_isNearGate_31 wlX10_43 rfl rfl rfl wfX5 (by decide) rfl ?_
  refine s_iload_n (pc := 34) C dX10_isNearGate_34 3 rfl ?_
  refine s_iload (pc := 35) C dX10_isNearGate_35 0 rfl ?_
  refine s_callVNi (pc := 37) C (c_X8_far l 3 (Or.inl rfl) a z22 (by first | omega | assumption | (constructor <;> omega) | (refine ⟨⟨?_, ?_⟩, ?_⟩ <;> omega) | (simp [hs_ss, hs_up]; omega) | (simp [hs_ss, hs_up]; done)) (by first | omega | assumption | (constructor <;> omega) | (refine ⟨⟨?_, ?_⟩, ?_⟩ <;> omega) | (simp [hs_ss, hs_up]; omega) | (simp [hs_ss, hs_up]; done))) [vI a, vI z22] [] rfl rfl dX10_isNearGate_37 wlX10_73 wiX8_far weX8_far wcX8_far wnX8 noX8_far (by decide) (by decide) (Nat.le_of_ble_eq_true rfl) (gx_self g0) rfl rfl ?_
  rintro z37 _ ⟨rfl, k37⟩
  show hs_Wd _ _ _ _ _ _ _ _ _ _ _ _ _ _ _ _ _ 40 _ [vI z37] σ
  refine s_aload (pc := 40) C dX10_isNearGate_40 1 rfl ?_
  refine s_getiN (q := (8 + w.toNat)) (ci := 9) (N := 9) (CN := RX9) (T := TX9) (pc := 42) C 4 dX10_isNearGate_42 wlX10_77 (sh_Wh (by omega)) rfl rfl wfX9 (by decide) rfl (σ (8 + w.toNat) 4) rfl ?_
  have b42 : (0 : Int) ≤ σ (8 + w.toNat) 4 ∧ σ (8 + w.toNat) 4 ≤ 3 := gx_w g0 (show (w).toNat < 4 by omega) 4
  refine s_icmp_gt (pc := 45) C (tgt := 52) dX10_isNearGate_45 (by decide) ⟨by omega, by omega⟩ ⟨by omega, by omega⟩ (fun h45 => ?_) (fun h45 => ?_)
  · skip
    refine s_iconst (pc := 52) C dX10_isNearGate_52 ?_
    refine s_zret (pc := 53) C (by omega) dX10_isNearGate_53 ?_
    refine ⟨_, rfl, ?_⟩
    exact ⟨rfl, by first | omega | assumption | (constructor <;> omega) | (refine ⟨⟨?_, ?_⟩, ?_⟩ <;> omega) | (simp [hs_ss, hs_up]; omega) | (simp [hs_ss, hs_up]; done)⟩
  · skip
    refine s_iconst (pc := 48) C dX10_isNearGate_48 ?_
    refine s_goto (pc := 49) C (tgt := 53) dX10_isNearGate_49 (by decide) ?_
    refine s_zret (pc := 53) C (by omega) dX10_isNearGate_53 ?_
    refine ⟨_, rfl, ?_⟩
    exact ⟨rfl, by first | omega | assumption | (constructor <;> omega) | (refine ⟨⟨?_, ?_⟩, ?_⟩ <;> omega) | (simp [hs_ss, hs_up]; omega) | (simp [hs_ss, hs_up]; done)⟩
set_option maxHeartbeats 4000000 in
set_option maxRecDepth 100000 in
theorem c_X10_isKnownTo (l : Launch) (a w d : Int) (ha : hs_R a) (hw : 0 ≤ w ∧ w < 4) (hd : hs_R d) : hs_Met l yX10_isKnownTo cX10_isKnownTo 5 (some .boolean) 4 SHX (fun ad => [.ref (ad 48), vI a, vI w, vI d]) (fun σ => GX σ σ) (hs_PI (fun σ z σ1 => σ = σ1 ∧ (z = 0 ∨ z = 1))) := by
  refine hs_from pfX10_isKnownTo (fun _ => Nat.le_of_ble_eq_true rfl) ?_
  intro p e s m args below meth c D dA ad A σ C hpre
  have C : hs_C p s m args meth c D dA SHX ad A 5 cX10_isKnownTo RX10 (some .boolean) := C
  have g0 := hpre
  show hs_Wd p l e 4 s m args below meth c D dA SHX ad A 5 (hs_PI (fun σ z σ1 => σ = σ1 ∧ (z = 0 ∨ z = 1)) σ) 0 [(0, .ref (ad 48)), (1, vI a), (2, vI w), (3, vI d)] [] σ
  refine s_aload_n (pc := 0) C dX10_isKnownTo_0 0 rfl ?_
  refine s_geti (q := 48) (ci := 10) (N := 9) (CN := RX10) (T := TX10) (pc := 1) C 8 dX10_isKnownTo_1 wlX10_39 rfl rfl rfl wfX10 (by decide) rfl (σ 48 8) rfl ?_
  have b1 : (0 : Int) ≤ σ 48 8 ∧ σ 48 8 ≤ 80 := g0.1 48 8
  refine s_iconst (pc := 4) C dX10_isKnownTo_4 ?_
  refine s_isub (pc := 5) C dX10_isKnownTo_5 ?_
  refine s_istore (pc := 6) C [(4, vI ((σ 48 8) - 1)), (0, .ref (ad 48)), (1, vI a), (2, vI w), (3, vI d)] dX10_isKnownTo_6 (by decide) rfl ?_
  refine s_sub C [1, 2, 3, 4, 0] [(0, .ref (ad 48)), (1, vI a), (2, vI w), (3, vI d), (4, vI ((σ 48 8) - 1))] rfl ?_
  have hi8 : -1 ≤ ((σ 48 8) - 1) ∧ ((σ 48 8) - 1) ≤ 79 := (by first | omega | assumption | (constructor <;> omega) | (refine ⟨⟨?_, ?_⟩, ?_⟩ <;> omega) | (simp [hs_ss, hs_up]; omega) | (simp [hs_ss, hs_up]; done))
  refine hs_loop (α := Int) (fun x_ => (-1 ≤ x_ ∧ x_ ≤ 79) → hs_Wd p l e 4 s m args below meth c D dA SHX ad A 5 (hs_PI (fun σ z σ1 => σ = σ1 ∧ (z = 0 ∨ z = 1)) σ) 8 [(0, .ref (ad 48)), (1, vI a), (2, vI w), (3, vI d), (4, vI x_)] [] σ) (fun x_ => (x_ + 1).toNat) ?_ ((σ 48 8) - 1) hi8
  rintro k ih8 hinv
  replace hinv : -1 ≤ k ∧ k ≤ 79 := hinv
  show hs_Wd p l e 4 s m args below meth c D dA SHX ad A 5 (hs_PI (fun σ z σ1 => σ = σ1 ∧ (z = 0 ∨ z = 1)) σ) 8 [(0, .ref (ad 48)), (1, vI a), (2, vI w), (3, vI d), (4, vI k)] [] σ
  refine s_iload (pc := 8) C dX10_isKnownTo_8 4 rfl ?_
  refine s_if_lt (pc := 10) C (tgt := 95) dX10_isKnownTo_10 (by decide) ⟨by omega, by omega⟩ (fun h10 => ?_) (fun h10 => ?_)
  · skip
    refine s_iconst (pc := 95) C dX10_isKnownTo_95 ?_
    refine s_zret (pc := 96) C (by omega) dX10_isKnownTo_96 ?_
    refine ⟨_, rfl, ?_⟩
    exact ⟨rfl, by first | omega | assumption | (constructor <;> omega) | (refine ⟨⟨?_, ?_⟩, ?_⟩ <;> omega) | (simp [hs_ss, hs_up]; omega) | (simp [hs_ss, hs_up]; done)⟩
  · skip
    refine s_aload_n (pc := 13) C dX10_isKnownTo_13 0 rfl ?_
    refine s_getr (q := 48) (ci := 10) (N := 9) (CN := RX10) (T := TX10) (pc := 14) C 2 dX10_isKnownTo_14 wlX10_11 rfl rfl rfl wfX10 (by decide) rfl ?_
    refine s_iload (pc := 17) C dX10_isKnownTo_17 4 rfl ?_
    refine s_iald (q := 49) (n := 80) (pc := 19) C (σ 49 k.toNat) rfl dX10_isKnownTo_19 rfl (by omega) (by omega) (by decide) ?_
    have b19 : (-1 : Int) ≤ σ 49 k.toNat ∧ σ 49 k.toNat ≤ 5 := g0.1 49 k.toNat
    refine s_iload_n (pc := 20) C dX10_isKnownTo_20 1 rfl ?_
    refine s_icmp_ne (pc := 21) C (tgt := 89) dX10_isKnownTo_21 (by decide) ⟨by omega, by omega⟩ ⟨by omega, by omega⟩ (fun h21 => ?_) (fun h21 => ?_)
    · skip
      refine s_iinc (pc := 89) C [(4, vI (k + (-1))), (0, .ref (ad 48)), (1, vI a), (2, vI w), (3, vI d)] dX10_isKnownTo_89 4 rfl (by decide) rfl ?_
      refine s_goto (pc := 92) C (tgt := 8) dX10_isKnownTo_92 (by decide) ?_
      refine s_sub C [1, 2, 3, 4, 0] [(0, .ref (ad 48)), (1, vI a), (2, vI w), (3, vI d), (4, vI (k + (-1)))] rfl ?_
      have hi8 : -1 ≤ (k + (-1)) ∧ (k + (-1)) ≤ 79 := (by first | omega | assumption | (constructor <;> omega) | (refine ⟨⟨?_, ?_⟩, ?_⟩ <;> omega) | (simp [hs_ss, hs_up]; omega) | (simp [hs_ss, hs_up]; done))
      exact ih8 (k + (-1)) (by first | omega | (simp only []; omega)) hi8
    · skip
      refine s_aload_n (pc := 24) C dX10_isKnownTo_24 0 rfl ?_
      refine s_getr (q := 48) (ci := 10) (N := 9) (CN := RX10) (T := TX10) (pc := 25) C 3 dX10_isKnownTo_25 wlX10_15 rfl rfl rfl wfX10 (by decide) rfl ?_
      refine s_iload (pc := 28) C dX10_isKnownTo_28 4 rfl ?_
      refine s_iald (q := 50) (n := 80) (pc := 30) C (σ 50 k.toNat) rfl dX10_isKnownTo_30 rfl (by omega) (by omega) (by decide) ?_
      have b30 : (-1 : Int) ≤ σ 50 k.toNat ∧ σ 50 k.toNat ≤ 3 := g0.1 50 k.toNat
      refine s_iload_n (pc := 31) C dX10_isKnownTo_31 2 rfl ?_
      refine s_icmp_ne (pc := 32) C (tgt := 89) dX10_isKnownTo_32 (by decide) ⟨by omega, by omega⟩ ⟨by omega, by omega⟩ (fun h32 => ?_) (fun h32 => ?_)
      · skip
        refine s_iinc (pc := 89) C [(4, vI (k + (-1))), (0, .ref (ad 48)), (1, vI a), (2, vI w), (3, vI d)] dX10_isKnownTo_89 4 rfl (by decide) rfl ?_
        refine s_goto (pc := 92) C (tgt := 8) dX10_isKnownTo_92 (by decide) ?_
        refine s_sub C [1, 2, 3, 4, 0] [(0, .ref (ad 48)), (1, vI a), (2, vI w), (3, vI d), (4, vI (k + (-1)))] rfl ?_
        have hi8 : -1 ≤ (k + (-1)) ∧ (k + (-1)) ≤ 79 := (by first | omega | assumption | (constructor <;> omega) | (refine ⟨⟨?_, ?_⟩, ?_⟩ <;> omega) | (simp [hs_ss, hs_up]; omega) | (simp [hs_ss, hs_up]; done))
        exact ih8 (k + (-1)) (by first | omega | (simp only []; omega)) hi8
      · skip
        refine s_aload_n (pc := 35) C dX10_isKnownTo_35 0 rfl ?_
        refine s_getr (q := 48) (ci := 10) (N := 9) (CN := RX10) (T := TX10) (pc := 36) C 5 dX10_isKnownTo_36 wlX10_21 rfl rfl rfl wfX10 (by decide) rfl ?_
        refine s_iload (pc := 39) C dX10_isKnownTo_39 4 rfl ?_
        refine s_iald (q := 52) (n := 80) (pc := 41) C (σ 52 k.toNat) rfl dX10_isKnownTo_41 rfl (by omega) (by omega) (by decide) ?_
        have b41 : (0 : Int) ≤ σ 52 k.toNat ∧ σ 52 k.toNat ≤ 999 := g0.1 52 k.toNat
        refine s_iload_n (pc := 42) C dX10_isKnownTo_42 3 rfl ?_
        refine s_icmp_gt (pc := 43) C (tgt := 89) dX10_isKnownTo_43 (by decide) ⟨by omega, by omega⟩ ⟨by omega, by omega⟩ (fun h43 => ?_) (fun h43 => ?_)
        · skip
          refine s_iinc (pc := 89) C [(4, vI (k + (-1))), (0, .ref (ad 48)), (1, vI a), (2, vI w), (3, vI d)] dX10_isKnownTo_89 4 rfl (by decide) rfl ?_
          refine s_goto (pc := 92) C (tgt := 8) dX10_isKnownTo_92 (by decide) ?_
          refine s_sub C [1, 2, 3, 4, 0] [(0, .ref (ad 48)), (1, vI a), (2, vI w), (3, vI d), (4, vI (k + (-1)))] rfl ?_
          have hi8 : -1 ≤ (k + (-1)) ∧ (k + (-1)) ≤ 79 := (by first | omega | assumption | (constructor <;> omega) | (refine ⟨⟨?_, ?_⟩, ?_⟩ <;> omega) | (simp [hs_ss, hs_up]; omega) | (simp [hs_ss, hs_up]; done))
          exact ih8 (k + (-1)) (by first | omega | (simp only []; omega)) hi8
        · skip
          refine s_aload_n (pc := 46) C dX10_isKnownTo_46 0 rfl ?_
          refine s_getr (q := 48) (ci := 10) (N := 9) (CN := RX10) (T := TX10) (pc := 47) C 6 dX10_isKnownTo_47 wlX10_24 rfl rfl rfl wfX10 (by decide) rfl ?_
          refine s_iload (pc := 50) C dX10_isKnownTo_50 4 rfl ?_
          refine s_zald (q := 53) (n := 80) (pc := 52) C (σ 53 k.toNat) rfl dX10_isKnownTo_52 rfl (by omega) (by omega) (by decide) ?_
          have b52 : (0 : Int) ≤ σ 53 k.toNat ∧ σ 53 k.toNat ≤ 1 := g0.1 53 k.toNat
          refine s_if_ne (pc := 53) C (tgt := 89) dX10_isKnownTo_53 (by decide) ⟨by omega, by omega⟩ (fun h53 => ?_) (fun h53 => ?_)
          · skip
            refine s_iinc (pc := 89) C [(4, vI (k + (-1))), (0, .ref (ad 48)), (1, vI a), (2, vI w), (3, vI d)] dX10_isKnownTo_89 4 rfl (by decide) rfl ?_
            refine s_goto (pc := 92) C (tgt := 8) dX10_isKnownTo_92 (by decide) ?_
            refine s_sub C [1, 2, 3, 4, 0] [(0, .ref (ad 48)), (1, vI a), (2, vI w), (3, vI d), (4, vI (k + (-1)))] rfl ?_
            have hi8 : -1 ≤ (k + (-1)) ∧ (k + (-1)) ≤ 79 := (by first | omega | assumption | (constructor <;> omega) | (refine ⟨⟨?_, ?_⟩, ?_⟩ <;> omega) | (simp [hs_ss, hs_up]; omega) | (simp [hs_ss, hs_up]; done))
            exact ih8 (k + (-1)) (by first | omega | (simp only []; omega)) hi8
          · skip
            refine s_aload_n (pc := 56) C dX10_isKnownTo_56 0 rfl ?_
            refine s_getr (q := 48) (ci := 10) (N := 9) (CN := RX10) (T := TX10) (pc := 57) C 4 dX10_isKnownTo_57 wlX10_18 rfl rfl rfl wfX10 (by decide) rfl ?_
            refine s_iload (pc := 60) C dX10_isKnownTo_60 4 rfl ?_
            refine s_iald (q := 51) (n := 80) (pc := 62) C (σ 51 k.toNat) rfl dX10_isKnownTo_62 rfl (by omega) (by omega) (by decide) ?_
            have b62 : (-1 : Int) ≤ σ 51 k.toNat ∧ σ 51 k.toNat ≤ 99 := g0.1 51 k.toNat
            refine s_iconst (pc := 63) C dX10_isKnownTo_63 ?_
            refine s_icmp_eq (pc := 64) C (tgt := 87) dX10_isKnownTo_64 (by decide) ⟨by omega, by omega⟩ ⟨by decide, by decide⟩ (fun h64 => ?_) (fun h64 => ?_)
            · skip
              refine s_iconst (pc := 87) C dX10_isKnownTo_87 ?_
              refine s_zret (pc := 88) C (by omega) dX10_isKnownTo_88 ?_
              refine ⟨_, rfl, ?_⟩
              exact ⟨rfl, by first | omega | assumption | (constructor <;> omega) | (refine ⟨⟨?_, ?_⟩, ?_⟩ <;> omega) | (simp [hs_ss, hs_up]; omega) | (simp [hs_ss, hs_up]; done)⟩
            · skip
              refine s_aload_n (pc := 67) C dX10_isKnownTo_67 0 rfl ?_
              refine s_aload_n (pc := 68) C dX10_isKnownTo_68 0 rfl ?_
              refine s_getr (q := 48) (ci := 10) (N := 9) (CN := RX10) (T := TX10) (pc := 69) C 4 dX10_isKnownTo_69 wlX10_18 rfl rfl rfl wfX10 (by decide) rfl ?_
              refine s_iload (pc := 72) C dX10_isKnownTo_72 4 rfl ?_
              refine s_iald (q := 51) (n := 80) (pc := 74) C (σ 51 k.toNat) rfl dX10_isKnownTo_74 rfl (by omega) (by omega) (by decide) ?_
              have b74 : (-1 : Int) ≤ σ 51 k.toNat ∧ σ 51 k.toNat ≤ 99 := g0.1 51 k.toNat
              refine s_iload_n (pc := 75) C dX10_isKnownTo_75 2 rfl ?_
              refine s_iload_n (pc := 76) C dX10_isKnownTo_76 3 rfl ?_
              refine s_callVi (pc := 77) C (c_X10_isNearGate l (σ 51 k.toNat) w d (by first | omega | assumption | (constructor <;> omega) | (refine ⟨⟨?_, ?_⟩, ?_⟩ <;> omega) | (simp [hs_ss, hs_up]; omega) | (simp [hs_ss, hs_up]; done)) (by first | omega | assumption | (constructor <;> omega) | (refine ⟨⟨?_, ?_⟩, ?_⟩ <;> omega) | (simp [hs_ss, hs_up]; omega) | (simp [hs_ss, hs_up]; done)) ⟨by omega, by omega⟩) [vI (σ 51 k.toNat), vI w, vI d] [] rfl rfl dX10_isKnownTo_77 wlX10_56 wiX10_isNearGate weX10_isNearGate wcX10_isNearGate wnX10 noX10_isNearGate (by decide) (by decide) (Nat.le_of_ble_eq_true rfl) (gx_self g0) rfl rfl ?_
              rintro z77 _ ⟨rfl, k77⟩
              show hs_Wd _ _ _ _ _ _ _ _ _ _ _ _ _ _ _ _ _ 80 _ [vI z77] σ
              refine s_if_eq (pc := 80) C (tgt := 87) dX10_isKnownTo_80 (by decide) ⟨by omega, by omega⟩ (fun h80 => ?_) (fun h80 => ?_)
              · skip
                refine s_iconst (pc := 87) C dX10_isKnownTo_87 ?_
                refine s_zret (pc := 88) C (by omega) dX10_isKnownTo_88 ?_
                refine ⟨_, rfl, ?_⟩
                exact ⟨rfl, by first | omega | assumption | (constructor <;> omega) | (refine ⟨⟨?_, ?_⟩, ?_⟩ <;> omega) | (simp [hs_ss, hs_up]; omega) | (simp [hs_ss, hs_up]; done)⟩
              · skip
                refine s_iconst (pc := 83) C dX10_isKnownTo_83 ?_
                refine s_goto (pc := 84) C (tgt := 88) dX10_isKnownTo_84 (by decide) ?_
                refine s_zret (pc := 88) C (by omega) dX10_isKnownTo_88 ?_
                refine ⟨_, rfl, ?_⟩
                exact ⟨rfl, by first | omega | assumption | (constructor <;> omega) | (refine ⟨⟨?_, ?_⟩, ?_⟩ <;> omega) | (simp [hs_ss, hs_up]; omega) | (simp [hs_ss, hs_up]; done)⟩
set_option maxHeartbeats 4000000 in
set_option maxRecDepth 100000 in
theorem c_X10_wheelsKnownTo (l : Launch) (a d : Int) (ha : hs_R a) (hd : hs_R d) : hs_Met l yX10_wheelsKnownTo cX10_wheelsKnownTo 5 (some .int) 5 SHX (fun ad => [.ref (ad 48), vI a, vI d]) (fun σ => GX σ σ) (hs_PI (fun σ z σ1 => σ = σ1 ∧ hs_R z ∧ (σ 3 4 = 0 → z = 0))) := by
  refine hs_from pfX10_wheelsKnownTo (fun _ => Nat.le_of_ble_eq_true rfl) ?_
  intro p e s m args below meth c D dA ad A σ C hpre
  have C : hs_C p s m args meth c D dA SHX ad A 5 cX10_wheelsKnownTo RX10 (some .int) := C
  have g0 := hpre
  show hs_Wd p l e 5 s m args below meth c D dA SHX ad A 5 (hs_PI (fun σ z σ1 => σ = σ1 ∧ hs_R z ∧ (σ 3 4 = 0 → z = 0)) σ) 0 [(0, .ref (ad 48)), (1, vI a), (2, vI d)] [] σ
  refine s_iconst (pc := 0) C dX10_wheelsKnownTo_0 ?_
  refine s_istore_n (pc := 1) C [(3, vI 0), (0, .ref (ad 48)), (1, vI a), (2, vI d)] dX10_wheelsKnownTo_1 (by decide) rfl ?_
  refine s_iconst (pc := 2) C dX10_wheelsKnownTo_2 ?_
  refine s_istore (pc := 3) C [(4, vI 0), (3, vI 0), (0, .ref (ad 48)), (1, vI a), (2, vI d)] dX10_wheelsKnownTo_3 (by decide) rfl ?_
  refine s_sub C [2, 3, 4, 1, 0] [(0, .ref (ad 48)), (1, vI a), (2, vI d), (3, vI 0), (4, vI 0)] rfl ?_
  have hi5 : 0 ≤ (0 : Int) ∧ (0 : Int) ≤ 4 ∧ (-2147483648 ≤ (0 : Int) ∧ (0 : Int) ≤ 2147483647) ∧ (σ 3 4 = 0 → (0 : Int) = 0) := (by first | omega | assumption | (constructor <;> omega) | (refine ⟨⟨?_, ?_⟩, ?_⟩ <;> omega) | (simp [hs_ss, hs_up]; omega) | (simp [hs_ss, hs_up]; done))
  refine hs_loop (α := Int × Int) (fun x_ => (0 ≤ x_.1 ∧ x_.1 ≤ 4 ∧ (-2147483648 ≤ x_.2 ∧ x_.2 ≤ 2147483647) ∧ (σ 3 4 = 0 → x_.2 = 0)) → hs_Wd p l e 5 s m args below meth c D dA SHX ad A 5 (hs_PI (fun σ z σ1 => σ = σ1 ∧ hs_R z ∧ (σ 3 4 = 0 → z = 0)) σ) 5 [(0, .ref (ad 48)), (1, vI a), (2, vI d), (3, vI x_.2), (4, vI x_.1)] [] σ) (fun x_ => (5 - x_.1).toNat) ?_ (0, 0) hi5
  rintro ⟨w, bt⟩ ih5 hinv
  replace hinv : 0 ≤ w ∧ w ≤ 4 ∧ (-2147483648 ≤ bt ∧ bt ≤ 2147483647) ∧ (σ 3 4 = 0 → bt = 0) := hinv
  show hs_Wd p l e 5 s m args below meth c D dA SHX ad A 5 (hs_PI (fun σ z σ1 => σ = σ1 ∧ hs_R z ∧ (σ 3 4 = 0 → z = 0)) σ) 5 [(0, .ref (ad 48)), (1, vI a), (2, vI d), (3, vI bt), (4, vI w)] [] σ
  refine s_iload (pc := 5) C dX10_wheelsKnownTo_5 4 rfl ?_
  refine s_aload_n (pc := 7) C dX10_wheelsKnownTo_7 0 rfl ?_
  refine s_getr (q := 48) (ci := 10) (N := 9) (CN := RX10) (T := TX10) (pc := 8) C 0 dX10_wheelsKnownTo_8 wlX10_31 rfl rfl rfl wfX10 (by decide) rfl ?_
  refine s_getrN (q := 2) (ci := 5) (N := 3) (CN := RX5) (T := TX5) (pc := 11) C 0 dX10_wheelsKnownTo_11 wlX10_43 rfl rfl rfl wfX5 (by decide) rfl ?_
  refine s_getiN (q := 3) (ci := 8) (N := 7) (CN := RX8) (T := TX8) (pc := 14) C 4 dX10_wheelsKnownTo_14 wlX10_49 rfl rfl rfl wfX8 (by decide) rfl (σ 3 4) rfl ?_
  have b14 : (0 : Int) ≤ σ 3 4 ∧ σ 3 4 ≤ 4 := g0.1 3 4
  refine s_icmp_ge (pc := 17) C (tgt := 44) dX10_wheelsKnownTo_17 (by decide) ⟨by omega, by omega⟩ ⟨by omega, by omega⟩ (fun h17 => ?_) (fun h17 => ?_)
  · skip
    refine s_iload_n (pc := 44) C dX10_wheelsKnownTo_44 3 rfl ?_
    refine s_iret (pc := 45) C dX10_wheelsKnownTo_45 ?_
    refine ⟨_, rfl, ?_⟩
    exact ⟨rfl, ⟨by omega, by omega⟩, by omega⟩
  · skip
    refine s_aload_n (pc := 20) C dX10_wheelsKnownTo_20 0 rfl ?_
    refine s_iload_n (pc := 21) C dX10_wheelsKnownTo_21 1 rfl ?_
    refine s_iload (pc := 22) C dX10_wheelsKnownTo_22 4 rfl ?_
    refine s_iload_n (pc := 24) C dX10_wheelsKnownTo_24 2 rfl ?_
    refine s_callVi (pc := 25) C (c_X10_isKnownTo l a w d ⟨by omega, by omega⟩ (by first | omega | assumption | (constructor <;> omega) | (refine ⟨⟨?_, ?_⟩, ?_⟩ <;> omega) | (simp [hs_ss, hs_up]; omega) | (simp [hs_ss, hs_up]; done)) ⟨by omega, by omega⟩) [vI a, vI w, vI d] [] rfl rfl dX10_wheelsKnownTo_25 wlX10_52 wiX10_isKnownTo weX10_isKnownTo wcX10_isKnownTo wnX10 noX10_isKnownTo (by decide) (by decide) (Nat.le_of_ble_eq_true rfl) (gx_self g0) rfl rfl ?_
    rintro z25 _ ⟨rfl, k25⟩
    show hs_Wd _ _ _ _ _ _ _ _ _ _ _ _ _ _ _ _ _ 28 _ [vI z25] σ
    refine s_if_eq (pc := 28) C (tgt := 38) dX10_wheelsKnownTo_28 (by decide) ⟨by omega, by omega⟩ (fun h28 => ?_) (fun h28 => ?_)
    · skip
      refine s_iinc (pc := 38) C [(4, vI (w + 1)), (0, .ref (ad 48)), (1, vI a), (2, vI d), (3, vI bt)] dX10_wheelsKnownTo_38 4 rfl (by decide) rfl ?_
      refine s_goto (pc := 41) C (tgt := 5) dX10_wheelsKnownTo_41 (by decide) ?_
      refine s_sub C [1, 2, 3, 4, 0] [(0, .ref (ad 48)), (1, vI a), (2, vI d), (3, vI bt), (4, vI (w + 1))] rfl ?_
      have hi5 : 0 ≤ (w + 1) ∧ (w + 1) ≤ 4 ∧ (-2147483648 ≤ bt ∧ bt ≤ 2147483647) ∧ (σ 3 4 = 0 → bt = 0) := (by first | omega | assumption | (constructor <;> omega) | (refine ⟨⟨?_, ?_⟩, ?_⟩ <;> omega) | (simp [hs_ss, hs_up]; omega) | (simp [hs_ss, hs_up]; done))
      exact ih5 (w + 1, bt) (by first | omega | (simp only []; omega)) hi5
    · skip
      refine s_iload_n (pc := 31) C dX10_wheelsKnownTo_31 3 rfl ?_
      refine s_iconst (pc := 32) C dX10_wheelsKnownTo_32 ?_
      refine s_iload (pc := 33) C dX10_wheelsKnownTo_33 4 rfl ?_
      refine s_ishl (pc := 35) C dX10_wheelsKnownTo_35 (fun z35 hz35 ez35 => ?_)
      refine s_ior (pc := 36) C dX10_wheelsKnownTo_36 (fun z36 hz36 ez36 => ?_)
      refine s_istore_n (pc := 37) C [(3, vI z36), (0, .ref (ad 48)), (1, vI a), (2, vI d), (4, vI w)] dX10_wheelsKnownTo_37 (by decide) rfl ?_
      refine s_iinc (pc := 38) C [(4, vI (w + 1)), (3, vI z36), (0, .ref (ad 48)), (1, vI a), (2, vI d)] dX10_wheelsKnownTo_38 4 rfl (by decide) rfl ?_
      refine s_goto (pc := 41) C (tgt := 5) dX10_wheelsKnownTo_41 (by decide) ?_
      refine s_sub C [2, 3, 4, 1, 0] [(0, .ref (ad 48)), (1, vI a), (2, vI d), (3, vI z36), (4, vI (w + 1))] rfl ?_
      have hi5 : 0 ≤ (w + 1) ∧ (w + 1) ≤ 4 ∧ (-2147483648 ≤ z36 ∧ z36 ≤ 2147483647) ∧ (σ 3 4 = 0 → z36 = 0) := (by first | omega | assumption | (constructor <;> omega) | (refine ⟨⟨?_, ?_⟩, ?_⟩ <;> omega) | (simp [hs_ss, hs_up]; omega) | (simp [hs_ss, hs_up]; done))
      exact ih5 (w + 1, z36) (by first | omega | (simp only []; omega)) hi5
set_option maxHeartbeats 4000000 in
set_option maxRecDepth 100000 in
theorem c_X10_wheelsKnownToAll (l : Launch) (a : Int) (ha : hs_R a) : hs_Met l yX10_wheelsKnownToAll cX10_wheelsKnownToAll 4 (some .int) 1 SHX (fun ad => [.ref (ad 48), vI a]) (fun σ => GX σ σ) (hs_PI (fun σ z σ1 => σ = σ1 ∧ hs_R z)) := by
  refine hs_from pfX10_wheelsKnownToAll (fun _ => Nat.le_of_ble_eq_true rfl) ?_
  intro p e s m args below meth c D dA ad A σ C hpre
  have C : hs_C p s m args meth c D dA SHX ad A 4 cX10_wheelsKnownToAll RX10 (some .int) := C
  have g0 := hpre
  show hs_Wd p l e 1 s m args below meth c D dA SHX ad A 4 (hs_PI (fun σ z σ1 => σ = σ1 ∧ hs_R z) σ) 0 [(0, .ref (ad 48)), (1, vI a)] [] σ
  refine s_iconst (pc := 0) C dX10_wheelsKnownToAll_0 ?_
  refine s_istore_n (pc := 1) C [(2, vI 0), (0, .ref (ad 48)), (1, vI a)] dX10_wheelsKnownToAll_1 (by decide) rfl ?_
  refine s_iconst (pc := 2) C dX10_wheelsKnownToAll_2 ?_
  refine s_istore_n (pc := 3) C [(3, vI 0), (2, vI 0), (0, .ref (ad 48)), (1, vI a)] dX10_wheelsKnownToAll_3 (by decide) rfl ?_
  refine s_sub C [2, 3, 1, 0] [(0, .ref (ad 48)), (1, vI a), (2, vI 0), (3, vI 0)] rfl ?_
  have hi4 : 0 ≤ (0 : Int) ∧ (0 : Int) ≤ 6 ∧ (-2147483648 ≤ (0 : Int) ∧ (0 : Int) ≤ 2147483647) := (by first | omega | assumption | (constructor <;> omega) | (refine ⟨⟨?_, ?_⟩, ?_⟩ <;> omega) | (simp [hs_ss, hs_up]; omega) | (simp [hs_ss, hs_up]; done))
  refine hs_loop (α := Int × Int) (fun x_ => (0 ≤ x_.1 ∧ x_.1 ≤ 6 ∧ (-2147483648 ≤ x_.2 ∧ x_.2 ≤ 2147483647)) → hs_Wd p l e 1 s m args below meth c D dA SHX ad A 4 (hs_PI (fun σ z σ1 => σ = σ1 ∧ hs_R z) σ) 4 [(0, .ref (ad 48)), (1, vI a), (2, vI x_.2), (3, vI x_.1)] [] σ) (fun x_ => (7 - x_.1).toNat) ?_ (0, 0) hi4
  rintro ⟨w, bt⟩ ih4 hinv
  replace hinv : 0 ≤ w ∧ w ≤ 6 ∧ (-2147483648 ≤ bt ∧ bt ≤ 2147483647) := hinv
  show hs_Wd p l e 1 s m args below meth c D dA SHX ad A 4 (hs_PI (fun σ z σ1 => σ = σ1 ∧ hs_R z) σ) 4 [(0, .ref (ad 48)), (1, vI a), (2, vI bt), (3, vI w)] [] σ
  refine s_iload_n (pc := 4) C dX10_wheelsKnownToAll_4 3 rfl ?_
  refine s_bipush (pc := 5) C dX10_wheelsKnownToAll_5 (by decide) ?_
  refine s_icmp_ge (pc := 7) C (tgt := 34) dX10_wheelsKnownToAll_7 (by decide) ⟨by omega, by omega⟩ ⟨by decide, by decide⟩ (fun h7 => ?_) (fun h7 => ?_)
  · skip
    refine s_iload_n (pc := 34) C dX10_wheelsKnownToAll_34 2 rfl ?_
    refine s_iret (pc := 35) C dX10_wheelsKnownToAll_35 ?_
    refine ⟨_, rfl, ?_⟩
    exact ⟨rfl, ⟨by omega, by omega⟩⟩
  · skip
    refine s_iload_n (pc := 10) C dX10_wheelsKnownToAll_10 1 rfl ?_
    refine s_iload_n (pc := 11) C dX10_wheelsKnownToAll_11 3 rfl ?_
    refine s_ishr (pc := 12) C dX10_wheelsKnownToAll_12 (fun z12 hz12 ez12 => ?_)
    refine s_iconst (pc := 13) C dX10_wheelsKnownToAll_13 ?_
    refine s_iand (pc := 14) C dX10_wheelsKnownToAll_14 (fun z14 hz14 ez14 => ?_)
    refine s_iconst (pc := 15) C dX10_wheelsKnownToAll_15 ?_
    refine s_icmp_ne (pc := 16) C (tgt := 28) dX10_wheelsKnownToAll_16 (by decide) ⟨by omega, by omega⟩ ⟨by decide, by decide⟩ (fun h16 => ?_) (fun h16 => ?_)
    · skip
      refine s_iinc (pc := 28) C [(3, vI (w + 1)), (0, .ref (ad 48)), (1, vI a), (2, vI bt)] dX10_wheelsKnownToAll_28 3 rfl (by decide) rfl ?_
      refine s_goto (pc := 31) C (tgt := 4) dX10_wheelsKnownToAll_31 (by decide) ?_
      refine s_sub C [1, 2, 3, 0] [(0, .ref (ad 48)), (1, vI a), (2, vI bt), (3, vI (w + 1))] rfl ?_
      have hi4 : 0 ≤ (w + 1) ∧ (w + 1) ≤ 6 ∧ (-2147483648 ≤ bt ∧ bt ≤ 2147483647) := (by first | omega | assumption | (constructor <;> omega) | (refine ⟨⟨?_, ?_⟩, ?_⟩ <;> omega) | (simp [hs_ss, hs_up]; omega) | (simp [hs_ss, hs_up]; done))
      exact ih4 (w + 1, bt) (by first | omega | (simp only []; omega)) hi4
    · skip
      refine s_iload_n (pc := 19) C dX10_wheelsKnownToAll_19 2 rfl ?_
      refine s_aload_n (pc := 20) C dX10_wheelsKnownToAll_20 0 rfl ?_
      refine s_getr (q := 48) (ci := 10) (N := 9) (CN := RX10) (T := TX10) (pc := 21) C 7 dX10_wheelsKnownToAll_21 wlX10_28 rfl rfl rfl wfX10 (by decide) rfl ?_
      refine s_iload_n (pc := 24) C dX10_wheelsKnownToAll_24 3 rfl ?_
      refine s_iald (q := 54) (n := 6) (pc := 25) C (σ 54 w.toNat) rfl dX10_wheelsKnownToAll_25 rfl (by omega) (by omega) (by decide) ?_
      have b25 : (-2147483648 : Int) ≤ σ 54 w.toNat ∧ σ 54 w.toNat ≤ 2147483647 := g0.1 54 w.toNat
      refine s_ior (pc := 26) C dX10_wheelsKnownToAll_26 (fun z26 hz26 ez26 => ?_)
      refine s_istore_n (pc := 27) C [(2, vI z26), (0, .ref (ad 48)), (1, vI a), (3, vI w)] dX10_wheelsKnownToAll_27 (by decide) rfl ?_
      refine s_iinc (pc := 28) C [(3, vI (w + 1)), (2, vI z26), (0, .ref (ad 48)), (1, vI a)] dX10_wheelsKnownToAll_28 3 rfl (by decide) rfl ?_
      refine s_goto (pc := 31) C (tgt := 4) dX10_wheelsKnownToAll_31 (by decide) ?_
      refine s_sub C [2, 3, 1, 0] [(0, .ref (ad 48)), (1, vI a), (2, vI z26), (3, vI (w + 1))] rfl ?_
      have hi4 : 0 ≤ (w + 1) ∧ (w + 1) ≤ 6 ∧ (-2147483648 ≤ z26 ∧ z26 ≤ 2147483647) := (by first | omega | assumption | (constructor <;> omega) | (refine ⟨⟨?_, ?_⟩, ?_⟩ <;> omega) | (simp [hs_ss, hs_up]; omega) | (simp [hs_ss, hs_up]; done))
      exact ih4 (w + 1, z26) (by first | omega | (simp only []; omega)) hi4
set_option maxHeartbeats 4000000 in
set_option maxRecDepth 100000 in
theorem c_X10_fewestWhoCan (l : Launch) (d : Int) (hd : hs_R d) : hs_Met l yX10_fewestWhoCan cX10_fewestWhoCan 6 (some .int) 6 SHX (fun ad => [.ref (ad 48), vI d]) (fun σ => GX σ σ) (hs_PI (fun σ z σ1 => GX σ σ1 ∧ hs_R z ∧ (σ 3 4 = 0 → z = 0))) := by
  refine hs_from pfX10_fewestWhoCan (fun _ => Nat.le_of_ble_eq_true rfl) ?_
  intro p e s m args below meth c D dA ad A σ C hpre
  have C : hs_C p s m args meth c D dA SHX ad A 6 cX10_fewestWhoCan RX10 (some .int) := C
  have g0 := hpre
  show hs_Wd p l e 6 s m args below meth c D dA SHX ad A 6 (hs_PI (fun σ z σ1 => GX σ σ1 ∧ hs_R z ∧ (σ 3 4 = 0 → z = 0)) σ) 0 [(0, .ref (ad 48)), (1, vI d)] [] σ
  refine s_iconst (pc := 0) C dX10_fewestWhoCan_0 ?_
  refine s_istore_n (pc := 1) C [(2, vI 0), (0, .ref (ad 48)), (1, vI d)] dX10_fewestWhoCan_1 (by decide) rfl ?_
  refine s_sub C [1, 2, 0] [(0, .ref (ad 48)), (1, vI d), (2, vI 0)] rfl ?_
  have hi2 : GX σ σ ∧ 0 ≤ (0 : Int) ∧ (0 : Int) ≤ 6 := ⟨g0, by first | omega | assumption | (constructor <;> omega) | (refine ⟨⟨?_, ?_⟩, ?_⟩ <;> omega) | (simp [hs_ss, hs_up]; omega) | (simp [hs_ss, hs_up]; done)⟩
  refine hs_loop (α := Int × hs_S) (fun x_ => (GX σ x_.2 ∧ 0 ≤ x_.1 ∧ x_.1 ≤ 6) → hs_Wd p l e 6 s m args below meth c D dA SHX ad A 6 (hs_PI (fun σ z σ1 => GX σ σ1 ∧ hs_R z ∧ (σ 3 4 = 0 → z = 0)) σ) 2 [(0, .ref (ad 48)), (1, vI d), (2, vI x_.1)] [] x_.2) (fun x_ => (7 - x_.1).toNat) ?_ (0, σ) hi2
  rintro ⟨k, σ1⟩ ih2 hinv
  replace hinv : GX σ σ1 ∧ 0 ≤ k ∧ k ≤ 6 := hinv
  show hs_Wd p l e 6 s m args below meth c D dA SHX ad A 6 (hs_PI (fun σ z σ1 => GX σ σ1 ∧ hs_R z ∧ (σ 3 4 = 0 → z = 0)) σ) 2 [(0, .ref (ad 48)), (1, vI d), (2, vI k)] [] σ1
  obtain ⟨hg, hk⟩ := hinv
  refine s_iload_n (pc := 2) C dX10_fewestWhoCan_2 2 rfl ?_
  refine s_bipush (pc := 3) C dX10_fewestWhoCan_3 (by decide) ?_
  refine s_icmp_ge (pc := 5) C (tgt := 26) dX10_fewestWhoCan_5 (by decide) ⟨by omega, by omega⟩ ⟨by decide, by decide⟩ (fun h5 => ?_) (fun h5 => ?_)
  · skip
    refine s_iconst (pc := 26) C dX10_fewestWhoCan_26 ?_
    refine s_aload_n (pc := 27) C dX10_fewestWhoCan_27 0 rfl ?_
    refine s_getr (q := 48) (ci := 10) (N := 9) (CN := RX10) (T := TX10) (pc := 28) C 0 dX10_fewestWhoCan_28 wlX10_31 rfl rfl rfl wfX10 (by decide) rfl ?_
    refine s_getrN (q := 2) (ci := 5) (N := 3) (CN := RX5) (T := TX5) (pc := 31) C 0 dX10_fewestWhoCan_31 wlX10_43 rfl rfl rfl wfX5 (by decide) rfl ?_
    refine s_getiN (q := 3) (ci := 8) (N := 7) (CN := RX8) (T := TX8) (pc := 34) C 4 dX10_fewestWhoCan_34 wlX10_49 rfl rfl rfl wfX8 (by decide) rfl (σ1 3 4) rfl ?_
    have b34 : (0 : Int) ≤ σ1 3 4 ∧ σ1 3 4 ≤ 4 := hg.1 3 4
    refine s_ishl (pc := 37) C dX10_fewestWhoCan_37 (fun z37 hz37 ez37 => ?_)
    refine s_iconst (pc := 38) C dX10_fewestWhoCan_38 ?_
    refine s_isub (pc := 39) C dX10_fewestWhoCan_39 ?_
    refine s_istore_n (pc := 40) C [(2, vI (z37 - 1)), (0, .ref (ad 48)), (1, vI d)] dX10_fewestWhoCan_40 (by decide) rfl ?_
    refine s_iconst (pc := 41) C dX10_fewestWhoCan_41 ?_
    refine s_istore_n (pc := 42) C [(3, vI 0), (2, vI (z37 - 1)), (0, .ref (ad 48)), (1, vI d)] dX10_fewestWhoCan_42 (by decide) rfl ?_
    refine s_iconst (pc := 43) C dX10_fewestWhoCan_43 ?_
    refine s_istore (pc := 44) C [(4, vI 1), (3, vI 0), (2, vI (z37 - 1)), (0, .ref (ad 48)), (1, vI d)] dX10_fewestWhoCan_44 (by decide) rfl ?_
    refine s_sub C [3, 4, 2, 1, 0] [(0, .ref (ad 48)), (1, vI d), (2, vI (z37 - 1)), (3, vI 0), (4, vI 1)] rfl ?_
    have he := hs_shl b34 ez37
    have hi46 : 1 ≤ (1 : Int) ∧ (1 : Int) ≤ 64 ∧ 0 ≤ (0 : Int) ∧ (0 : Int) ≤ 64 ∧ (σ1 3 4 = 0 → (0 : Int) = 0) := (by first | omega | assumption | (constructor <;> omega) | (refine ⟨⟨?_, ?_⟩, ?_⟩ <;> omega) | (simp [hs_ss, hs_up]; omega) | (simp [hs_ss, hs_up]; done))
    refine hs_loop (α := Int × Int) (fun x_ => (1 ≤ x_.1 ∧ x_.1 ≤ 64 ∧ 0 ≤ x_.2 ∧ x_.2 ≤ 64 ∧ (σ1 3 4 = 0 → x_.2 = 0)) → hs_Wd p l e 6 s m args below meth c D dA SHX ad A 6 (hs_PI (fun σ z σ1 => GX σ σ1 ∧ hs_R z ∧ (σ 3 4 = 0 → z = 0)) σ) 46 [(0, .ref (ad 48)), (1, vI d), (2, vI (z37 - 1)), (3, vI x_.2), (4, vI x_.1)] [] σ1) (fun x_ => (65 - x_.1).toNat) ?_ (1, 0) hi46
    rintro ⟨k, bb⟩ ih46 hinv
    replace hinv : 1 ≤ k ∧ k ≤ 64 ∧ 0 ≤ bb ∧ bb ≤ 64 ∧ (σ1 3 4 = 0 → bb = 0) := hinv
    show hs_Wd p l e 6 s m args below meth c D dA SHX ad A 6 (hs_PI (fun σ z σ1 => GX σ σ1 ∧ hs_R z ∧ (σ 3 4 = 0 → z = 0)) σ) 46 [(0, .ref (ad 48)), (1, vI d), (2, vI (z37 - 1)), (3, vI bb), (4, vI k)] [] σ1
    refine s_iload (pc := 46) C dX10_fewestWhoCan_46 4 rfl ?_
    refine s_bipush (pc := 48) C dX10_fewestWhoCan_48 (by decide) ?_
    refine s_icmp_ge (pc := 50) C (tgt := 104) dX10_fewestWhoCan_50 (by decide) ⟨by omega, by omega⟩ ⟨by decide, by decide⟩ (fun h50 => ?_) (fun h50 => ?_)
    · skip
      refine s_iload_n (pc := 104) C dX10_fewestWhoCan_104 3 rfl ?_
      refine s_iret (pc := 105) C dX10_fewestWhoCan_105 ?_
      refine ⟨_, rfl, ?_⟩
      have h34 := hg.2.1.2.2.2.1
      exact ⟨hg, ⟨by omega, by omega⟩, by omega⟩
    · skip
      refine s_iload_n (pc := 53) C dX10_fewestWhoCan_53 2 rfl ?_
      refine s_if_eq (pc := 54) C (tgt := 104) dX10_fewestWhoCan_54 (by decide) ⟨by omega, by omega⟩ (fun h54 => ?_) (fun h54 => ?_)
      · skip
        refine s_iload_n (pc := 104) C dX10_fewestWhoCan_104 3 rfl ?_
        refine s_iret (pc := 105) C dX10_fewestWhoCan_105 ?_
        refine ⟨_, rfl, ?_⟩
        have h34 := hg.2.1.2.2.2.1
        exact ⟨hg, ⟨by omega, by omega⟩, by omega⟩
      · skip
        refine s_iload_n (pc := 57) C dX10_fewestWhoCan_57 3 rfl ?_
        refine s_if_eq (pc := 58) C (tgt := 73) dX10_fewestWhoCan_58 (by decide) ⟨by omega, by omega⟩ (fun h58 => ?_) (fun h58 => ?_)
        · skip
          refine s_iconst (pc := 73) C dX10_fewestWhoCan_73 ?_
          refine s_goto (pc := 74) C (tgt := 78) dX10_fewestWhoCan_74 (by decide) ?_
          refine s_istore (pc := 78) C [(5, vI 1), (0, .ref (ad 48)), (1, vI d), (2, vI (z37 - 1)), (3, vI bb), (4, vI k)] dX10_fewestWhoCan_78 (by decide) rfl ?_
          refine s_iload (pc := 80) C dX10_fewestWhoCan_80 0 rfl ?_
          refine s_if_eq (pc := 82) C (tgt := 98) dX10_fewestWhoCan_82 (by decide) ⟨by decide, by decide⟩ (fun h82 => ?_) (fun h82 => ?_)
          · exact absurd h82 (by decide)
          · skip
            refine s_aload_n (pc := 85) C dX10_fewestWhoCan_85 1 rfl ?_
            refine s_iload (pc := 86) C dX10_fewestWhoCan_86 5 rfl ?_
            refine s_callVi (pc := 88) C (c_X10_wheelsKnownToAll l k ⟨by omega, by omega⟩) [vI k] [] rfl rfl dX10_fewestWhoCan_88 wlX10_89 wiX10_wheelsKnownToAll weX10_wheelsKnownToAll wcX10_wheelsKnownToAll wnX10 noX10_wheelsKnownToAll (by decide) (by decide) (Nat.le_of_ble_eq_true rfl) (gx_self hg) rfl rfl ?_
            rintro z88 _ ⟨rfl, k88⟩
            show hs_Wd _ _ _ _ _ _ _ _ _ _ _ _ _ _ _ _ _ 91 _ [vI z88] σ1
            refine s_iload_n (pc := 91) C dX10_fewestWhoCan_91 3 rfl ?_
            refine s_icmp_ne (pc := 92) C (tgt := 98) dX10_fewestWhoCan_92 (by decide) ⟨by omega, by omega⟩ ⟨by omega, by omega⟩ (fun h92 => ?_) (fun h92 => ?_)
            · skip
              refine s_iinc (pc := 98) C [(4, vI (k + 1)), (5, vI 1), (0, .ref (ad 48)), (1, vI d), (2, vI (z37 - 1)), (3, vI bb)] dX10_fewestWhoCan_98 5 rfl (by decide) rfl ?_
              refine s_goto (pc := 101) C (tgt := 46) dX10_fewestWhoCan_101 (by decide) ?_
              refine s_sub C [2, 3, 4, 5, 0] [(0, .ref (ad 48)), (1, vI d), (2, vI (z37 - 1)), (3, vI bb), (4, vI (k + 1))] rfl ?_
              have hi46 : 1 ≤ (k + 1) ∧ (k + 1) ≤ 64 ∧ 0 ≤ bb ∧ bb ≤ 64 ∧ (σ1 3 4 = 0 → bb = 0) := (by first | omega | assumption | (constructor <;> omega) | (refine ⟨⟨?_, ?_⟩, ?_⟩ <;> omega) | (simp [hs_ss, hs_up]; omega) | (simp [hs_ss, hs_up]; done))
              exact ih46 (k + 1, bb) (by first | omega | (simp only []; omega)) hi46
            · skip
              refine s_iload (pc := 95) C dX10_fewestWhoCan_95 5 rfl ?_
              refine s_istore_n (pc := 97) C [(3, vI k), (5, vI 1), (0, .ref (ad 48)), (1, vI d), (2, vI (z37 - 1)), (4, vI k)] dX10_fewestWhoCan_97 (by decide) rfl ?_
              refine s_iinc (pc := 98) C [(4, vI (k + 1)), (3, vI k), (5, vI 1), (0, .ref (ad 48)), (1, vI d), (2, vI (z37 - 1))] dX10_fewestWhoCan_98 5 rfl (by decide) rfl ?_
              refine s_goto (pc := 101) C (tgt := 46) dX10_fewestWhoCan_101 (by decide) ?_
              refine s_sub C [3, 4, 5, 1, 0] [(0, .ref (ad 48)), (1, vI d), (2, vI (z37 - 1)), (3, vI k), (4, vI (k + 1))] rfl ?_
              have hi46 : 1 ≤ (k + 1) ∧ (k + 1) ≤ 64 ∧ 0 ≤ k ∧ k ≤ 64 ∧ (σ1 3 4 = 0 → k = 0) := (by first | omega | assumption | (constructor <;> omega) | (refine ⟨⟨?_, ?_⟩, ?_⟩ <;> omega) | (simp [hs_ss, hs_up]; omega) | (simp [hs_ss, hs_up]; done))
              exact ih46 (k + 1, k) (by first | omega | (simp only []; omega)) hi46
        · skip
          refine s_iload (pc := 61) C dX10_fewestWhoCan_61 4 rfl ?_
          refine s_callSi (pc := 63) C (c_J6_bitCount_0f7a4 l k ⟨by omega, by omega⟩) [vI k] [] rfl rfl dX10_fewestWhoCan_63 wlX10_83 wtJ6_bitCount_0f7a4 wcJ6_bitCount_0f7a4 wnJ6 noJ6_bitCount_0f7a4 (by decide) (by decide) (Nat.le_of_ble_eq_true rfl) (by first | omega | assumption | (constructor <;> omega) | (refine ⟨⟨?_, ?_⟩, ?_⟩ <;> omega) | (simp [hs_ss, hs_up]; omega) | (simp [hs_ss, hs_up]; done)) ?_
          rintro z63 _ ⟨hR63, rfl⟩
          show hs_Wd _ _ _ _ _ _ _ _ _ _ _ _ _ _ _ _ _ 66 _ [vI z63] σ1
          refine s_iload_n (pc := 66) C dX10_fewestWhoCan_66 3 rfl ?_
          refine s_callSi (pc := 67) C (c_J6_bitCount_0f7a4 l bb ⟨by omega, by omega⟩) [vI bb] [vI z63] rfl rfl dX10_fewestWhoCan_67 wlX10_83 wtJ6_bitCount_0f7a4 wcJ6_bitCount_0f7a4 wnJ6 noJ6_bitCount_0f7a4 (by decide) (by decide) (Nat.le_of_ble_eq_true rfl) (by first | omega | assumption | (constructor <;> omega) | (refine ⟨⟨?_, ?_⟩, ?_⟩ <;> omega) | (simp [hs_ss, hs_up]; omega) | (simp [hs_ss, hs_up]; done)) ?_
          rintro z67 _ ⟨hR67, rfl⟩
          show hs_Wd _ _ _ _ _ _ _ _ _ _ _ _ _ _ _ _ _ 70 _ [vI z67, vI z63] σ1
          refine s_icmp_ge (pc := 70) C (tgt := 77) dX10_fewestWhoCan_70 (by decide) ⟨by omega, by omega⟩ ⟨by omega, by omega⟩ (fun h70 => ?_) (fun h70 => ?_)
          · skip
            refine s_iconst (pc := 77) C dX10_fewestWhoCan_77 ?_
            refine s_istore (pc := 78) C [(5, vI 0), (0, .ref (ad 48)), (1, vI d), (2, vI (z37 - 1)), (3, vI bb), (4, vI k)] dX10_fewestWhoCan_78 (by decide) rfl ?_
            refine s_iload (pc := 80) C dX10_fewestWhoCan_80 0 rfl ?_
            refine s_if_eq (pc := 82) C (tgt := 98) dX10_fewestWhoCan_82 (by decide) ⟨by decide, by decide⟩ (fun h82 => ?_) (fun h82 => ?_)
            · skip
              refine s_iinc (pc := 98) C [(4, vI (k + 1)), (5, vI 0), (0, .ref (ad 48)), (1, vI d), (2, vI (z37 - 1)), (3, vI bb)] dX10_fewestWhoCan_98 5 rfl (by decide) rfl ?_
              refine s_goto (pc := 101) C (tgt := 46) dX10_fewestWhoCan_101 (by decide) ?_
              refine s_sub C [2, 3, 4, 5, 0] [(0, .ref (ad 48)), (1, vI d), (2, vI (z37 - 1)), (3, vI bb), (4, vI (k + 1))] rfl ?_
              have hi46 : 1 ≤ (k + 1) ∧ (k + 1) ≤ 64 ∧ 0 ≤ bb ∧ bb ≤ 64 ∧ (σ1 3 4 = 0 → bb = 0) := (by first | omega | assumption | (constructor <;> omega) | (refine ⟨⟨?_, ?_⟩, ?_⟩ <;> omega) | (simp [hs_ss, hs_up]; omega) | (simp [hs_ss, hs_up]; done))
              exact ih46 (k + 1, bb) (by first | omega | (simp only []; omega)) hi46
            · exact absurd h82 (by decide)
          · skip
            refine s_iconst (pc := 73) C dX10_fewestWhoCan_73 ?_
            refine s_goto (pc := 74) C (tgt := 78) dX10_fewestWhoCan_74 (by decide) ?_
            refine s_istore (pc := 78) C [(5, vI 1), (0, .ref (ad 48)), (1, vI d), (2, vI (z37 - 1)), (3, vI bb), (4, vI k)] dX10_fewestWhoCan_78 (by decide) rfl ?_
            refine s_iload (pc := 80) C dX10_fewestWhoCan_80 0 rfl ?_
            refine s_if_eq (pc := 82) C (tgt := 98) dX10_fewestWhoCan_82 (by decide) ⟨by decide, by decide⟩ (fun h82 => ?_) (fun h82 => ?_)
            · exact absurd h82 (by decide)
            · skip
              refine s_aload_n (pc := 85) C dX10_fewestWhoCan_85 1 rfl ?_
              refine s_iload (pc := 86) C dX10_fewestWhoCan_86 5 rfl ?_
              refine s_callVi (pc := 88) C (c_X10_wheelsKnownToAll l k ⟨by omega, by omega⟩) [vI k] [] rfl rfl dX10_fewestWhoCan_88 wlX10_89 wiX10_wheelsKnownToAll weX10_wheelsKnownToAll wcX10_wheelsKnownToAll wnX10 noX10_wheelsKnownToAll (by decide) (by decide) (Nat.le_of_ble_eq_true rfl) (gx_self hg) rfl rfl ?_
              rintro z88 _ ⟨rfl, k88⟩
              show hs_Wd _ _ _ _ _ _ _ _ _ _ _ _ _ _ _ _ _ 91 _ [vI z88] σ1
              refine s_iload_n (pc := 91) C dX10_fewestWhoCan_91 3 rfl ?_
              refine s_icmp_ne (pc := 92) C (tgt := 98) dX10_fewestWhoCan_92 (by decide) ⟨by omega, by omega⟩ ⟨by omega, by omega⟩ (fun h92 => ?_) (fun h92 => ?_)
              · skip
                refine s_iinc (pc := 98) C [(4, vI (k + 1)), (5, vI 1), (0, .ref (ad 48)), (1, vI d), (2, vI (z37 - 1)), (3, vI bb)] dX10_fewestWhoCan_98 5 rfl (by decide) rfl ?_
                refine s_goto (pc := 101) C (tgt := 46) dX10_fewestWhoCan_101 (by decide) ?_
                refine s_sub C [2, 3, 4, 5, 0] [(0, .ref (ad 48)), (1, vI d), (2, vI (z37 - 1)), (3, vI bb), (4, vI (k + 1))] rfl ?_
                have hi46 : 1 ≤ (k + 1) ∧ (k + 1) ≤ 64 ∧ 0 ≤ bb ∧ bb ≤ 64 ∧ (σ1 3 4 = 0 → bb = 0) := (by first | omega | assumption | (constructor <;> omega) | (refine ⟨⟨?_, ?_⟩, ?_⟩ <;> omega) | (simp [hs_ss, hs_up]; omega) | (simp [hs_ss, hs_up]; done))
                exact ih46 (k + 1, bb) (by first | omega | (simp only []; omega)) hi46
              · skip
                refine s_iload (pc := 95) C dX10_fewestWhoCan_95 5 rfl ?_
                refine s_istore_n (pc := 97) C [(3, vI k), (5, vI 1), (0, .ref (ad 48)), (1, vI d), (2, vI (z37 - 1)), (4, vI k)] dX10_fewestWhoCan_97 (by decide) rfl ?_
                refine s_iinc (pc := 98) C [(4, vI (k + 1)), (3, vI k), (5, vI 1), (0, .ref (ad 48)), (1, vI d), (2, vI (z37 - 1))] dX10_fewestWhoCan_98 5 rfl (by decide) rfl ?_
                refine s_goto (pc := 101) C (tgt := 46) dX10_fewestWhoCan_101 (by decide) ?_
                refine s_sub C [3, 4, 5, 1, 0] [(0, .ref (ad 48)), (1, vI d), (2, vI (z37 - 1)), (3, vI k), (4, vI (k + 1))] rfl ?_
                have hi46 : 1 ≤ (k + 1) ∧ (k + 1) ≤ 64 ∧ 0 ≤ k ∧ k ≤ 64 ∧ (σ1 3 4 = 0 → k = 0) := (by first | omega | assumption | (constructor <;> omega) | (refine ⟨⟨?_, ?_⟩, ?_⟩ <;> omega) | (simp [hs_ss, hs_up]; omega) | (simp [hs_ss, hs_up]; done))
                exact ih46 (k + 1, k) (by first | omega | (simp only []; omega)) hi46
  · skip
    refine s_aload_n (pc := 8) C dX10_fewestWhoCan_8 0 rfl ?_
    refine s_getr (q := 48) (ci := 10) (N := 9) (CN := RX10) (T := TX10) (pc := 9) C 7 dX10_fewestWhoCan_9 wlX10_28 rfl rfl rfl wfX10 (by decide) rfl ?_
    refine s_iload_n (pc := 12) C dX10_fewestWhoCan_12 2 rfl ?_
    refine s_aload_n (pc := 13) C dX10_fewestWhoCan_13 0 rfl ?_
    refine s_iload_n (pc := 14) C dX10_fewestWhoCan_14 2 rfl ?_
    refine s_iload_n (pc := 15) C dX10_fewestWhoCan_15 1 rfl ?_
    refine s_callVi (pc := 16) C (c_X10_wheelsKnownTo l k d ⟨by omega, by omega⟩ ⟨by omega, by omega⟩) [vI k, vI d] [vI k, .ref (ad 54)] rfl rfl dX10_fewestWhoCan_16 wlX10_80 wiX10_wheelsKnownTo weX10_wheelsKnownTo wcX10_wheelsKnownTo wnX10 noX10_wheelsKnownTo (by decide) (by decide) (Nat.le_of_ble_eq_true rfl) (gx_self hg) rfl rfl ?_
    rintro z16 _ ⟨rfl, k16⟩
    show hs_Wd _ _ _ _ _ _ _ _ _ _ _ _ _ _ _ _ _ 19 _ [vI z16, vI k, .ref (ad 54)] σ1
    refine s_iast (q := 54) (n := 6) (pc := 19) C dX10_fewestWhoCan_19 rfl (by omega) (by omega) (by decide) ?_
    have g19 := gx_set (z := z16) hg 54 k.toNat rfl (-2147483648) (2147483647) rfl ⟨by omega, by omega⟩
    refine s_iinc (pc := 20) C [(2, vI (k + 1)), (0, .ref (ad 48)), (1, vI d)] dX10_fewestWhoCan_20 2 rfl (by decide) rfl ?_
    refine s_goto (pc := 23) C (tgt := 2) dX10_fewestWhoCan_23 (by decide) ?_
    refine s_sub C [1, 2, 0] [(0, .ref (ad 48)), (1, vI d), (2, vI (k + 1))] rfl ?_
    have hi2 : GX σ ((hs_ss σ1 54 k.toNat z16)) ∧ 0 ≤ (k + 1) ∧ (k + 1) ≤ 6 := ⟨g19, by first | omega | assumption | (constructor <;> omega) | (refine ⟨⟨?_, ?_⟩, ?_⟩ <;> omega) | (simp [hs_ss, hs_up]; omega) | (simp [hs_ss, hs_up]; done)⟩
    exact ih2 (k + 1, (hs_ss σ1 54 k.toNat z16)) (by first | omega | (simp only []; omega)) hi2
