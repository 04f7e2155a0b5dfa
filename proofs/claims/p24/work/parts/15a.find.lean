def PWg (c j : Nat) : Bool := c == 30
def PFd (c j : Nat) : Bool := c == 29 || c == 30 || c == 31
def PGc (c j : Nat) : Bool := c == 29 || c == 30 || c == 31 || (c == 32 && j == 6) || c == 38 || c == 39 || c == 40 || c == 41 || c == 42
def PGr (c j : Nat) : Bool := c == 43 || (c == 32 && (j == 7 || j == 8 || j == 9 || j == 10)) || c == 33 || c == 34 || c == 35 || c == 36
def PSw (c j : Nat) : Bool := (c == 32 && j == 9) || (c == 33 && (j == 5 || j == 6)) || c == 35 || c == 36
def PCh (c j : Nat) : Bool := c == 43
/-- every wheel's choice lies in its row -/
def CHO (σ : hs_S) : Prop := ∀ j : Nat, (j : Int) < σ 33 4 → 0 ≤ σ 43 j ∧ σ 43 j < σ 42 j
def okCHO (c j : Nat) : Bool := !(c == 42 || c == 43 || (c == 33 && j == 4))
theorem CHO_cg {σ σ1 : hs_S} (h : FRM okCHO σ σ1) (k : CHO σ) : CHO σ1 := by
  intro j hj
  rw [h 43 j rfl, h 42 j rfl]
  rw [h 33 4 rfl] at hj
  exact k j hj
/-- where there are rows, no row is empty -/
def SZR (σ : hs_S) : Prop := (0 ≤ σ 32 6 ∧ σ 32 6 ≤ 400) ∧ (0 < σ 32 6 → ∀ j : Nat, (j : Int) < σ 3 4 → 1 ≤ σ 42 j)
def okSZR (c j : Nat) : Bool := !(c == 42 || (c == 32 && j == 6) || (c == 3 && j == 4))
theorem SZR_cg {σ σ1 : hs_S} (h : FRM okSZR σ σ1) (k : SZR σ) : SZR σ1 := by
  unfold SZR at *
  rw [h 32 6 rfl]
  refine ⟨k.1, fun q j hj => ?_⟩
  rw [h 42 j rfl]
  rw [h 3 4 rfl] at hj
  exact k.2 q j hj
theorem hs_prod {r s : Int} (hr : 0 ≤ r) (hs : 0 ≤ s) (hs1 : s ≤ 100) : 0 ≤ r * s ∧ r * s ≤ r * 100 ∧ (0 < r * s → 0 < r ∧ 0 < s) := by
  refine ⟨Int.mul_nonneg hr hs, Int.mul_le_mul_of_nonneg_left hs1 hr, fun h => ?_⟩
  have h1 : r = 0 → r * s = 0 := fun e => by rw [e, Int.zero_mul]
  have h2 : s = 0 → r * s = 0 := fun e => by rw [e, Int.mul_zero]
  omega
theorem gx_home {σ σ1 : hs_S} (h : GX σ σ) (hI : IBX σ1) (hz : ∀ j : Nat, j < 4 → σ1 35 j = 0) (hk : ∀ c j : Nat, c ≠ 32 → c ≠ 33 → c ≠ 34 → c ≠ 35 → c ≠ 36 → σ1 c j = σ c j) : GX σ σ1 := by
  refine ⟨hI, ?_, fun w hw => ?_, fun k hk1 => ?_⟩
  · unfold KX
    exact ⟨hk 0 9 (by decide) (by decide) (by decide) (by decide) (by decide), hk 0 10 (by decide) (by decide) (by decide) (by decide) (by decide), hk 3 3 (by decide) (by decide) (by decide) (by decide) (by decide), hk 3 4 (by decide) (by decide) (by decide) (by decide) (by decide), hk 48 8 (by decide) (by decide) (by decide) (by decide) (by decide)⟩
  · have b : (0 : Int) ≤ σ1 34 w ∧ σ1 34 w ≤ 99 := hI 34 w
    rw [hz w hw, hk 4 w (by decide) (by decide) (by decide) (by decide) (by decide), hk 5 w (by decide) (by decide) (by decide) (by decide) (by decide)]
    have := (h.2.2.1 w hw).1
    omega
  · rw [hk 49 k (by decide) (by decide) (by decide) (by decide) (by decide)] at hk1
    rw [hk 51 k (by decide) (by decide) (by decide) (by decide) (by decide)]
    exact h.2.2.2 k hk1
theorem hs_ss38 {σ : hs_S} {w k c j : Nat} {z : Int} (hw : w < 4) (hc : c < 38 ∨ 41 < c) : hs_ss σ (38 + w) k z c j = σ c j := by
  rw [hs_ss_ne (by omega)]
set_option maxHeartbeats 4000000 in
set_option maxRecDepth 100000 in
theorem c_X2_isPossible (l : Launch) (w : Int) (hw : 0 ≤ w ∧ w < 4) (g : Int) (hg : 0 ≤ g ∧ g ≤ 99) : hs_Met l yX2_isPossible cX2_isPossible 8 (some .boolean) 4 SHX (fun ad => [.ref (ad 29), vI w, vI g]) (fun σ => GX σ σ) (hs_PI (fun σ z σ1 => σ = σ1 ∧ (z = 0 ∨ z = 1))) := by
  refine hs_from pfX2_isPossible (fun _ => Nat.le_of_ble_eq_true rfl) ?_
  intro p e s m args below meth c D dA ad A σ C hpre
  have C : hs_C p s m args meth c D dA SHX ad A 8 cX2_isPossible RX2 (some .boolean) := C
  have g0 := hpre
  show hs_Wd p l e 4 s m args below meth c D dA SHX ad A 8 (hs_PI (fun σ z σ1 => σ = σ1 ∧ (z = 0 ∨ z = 1)) σ) 0 [(0, .ref (ad 29)), (1, vI w), (2, vI g)] [] σ
  refine s_aload_n (pc := 0) C dX2_isPossible_0 0 rfl ?_
  refine s_getr (q := 29) (ci := 2) (N := 6) (CN := RX2) (T := TX2) (pc := 1) C 0 dX2_isPossible_1 wlX2_19 rfl rfl rfl wfX2 (by decide) rfl ?_
  refine s_iload_n (pc := 4) C dX2_isPossible_4 1 rfl ?_
  refine s_callVNi (pc := 5) C (c_X5_greatestHighBut l w (by first | omega | assumption | (constructor <;> omega) | (refine ⟨⟨?_, ?_⟩, ?_⟩ <;> omega) | (simp [hs_ss, hs_up]; omega) | (simp [hs_ss, hs_up]; done))) [vI w] [] rfl rfl dX2_isPossible_5 wlX2_43 wiX5_greatestHighBut weX5_greatestHighBut wcX5_greatestHighBut wnX5 noX5_greatestHighBut (by decide) (by decide) (Nat.le_of_ble_eq_true rfl) (gx_self g0) rfl rfl ?_
  rintro z5 _ ⟨rfl, k5⟩
  show hs_Wd _ _ _ _ _ _ _ _ _ _ _ _ _ _ _ _ _ 8 _ [vI z5] σ
  refine s_istore_n (pc := 8) C [(3, vI z5), (0, .ref (ad 29)), (1, vI w), (2, vI g)] dX2_isPossible_8 (by decide) rfl ?_
  refine s_aload_n (pc := 9) C dX2_isPossible_9 1 rfl ?_
  refine s_getr (q := 29) (ci := 2) (N := 6) (CN := RX2) (T := TX2) (pc := 10) C 0 dX2_isPossible_10 wlX2_19 rfl rfl rfl wfX2 (by decide) rfl ?_
  refine s_getrN (q := 2) (ci := 5) (N := 3) (CN := RX5) (T := TX5) (pc := 13) C 1 dX2_isPossible_13 wlX2_47 rfl rfl rfl wfX5 (by decide) rfl ?_
  refine s_iload_n (pc := 16) C dX2_isPossible_16 2 rfl ?_
  refine s_aldq (q := 7) (pc := 17) C dX2_isPossible_17 rfl (by omega) (by show _ < (4 : Int); omega) (by decide) ?_
  rw [show ((_ : List (Nat × Nat)).getD w.toNat (0, 0)).2 = 8 + w.toNat from hs_ref4 (by omega) (by omega)]
  refine s_getiN (q := (8 + w.toNat)) (ci := 9) (N := 9) (CN := RX9) (T := TX9) (pc := 18) C 4 dX2_isPossible_18 wlX2_51 (sh_Wh (by omega)) rfl rfl wfX9 (by decide) rfl (σ (8 + w.toNat) 4) rfl ?_
  have b18 : (0 : Int) ≤ σ (8 + w.toNat) 4 ∧ σ (8 + w.toNat) 4 ≤ 3 := gx_w g0 (show (w).toNat < 4 by omega) 4
  refine s_istore (pc := 21) C [(4, vI (σ (8 + w.toNat) 4)), (3, vI z5), (0, .ref (ad 29)), (1, vI w), (2, vI g)] dX2_isPossible_21 (by decide) rfl ?_
  refine s_iconst (pc := 23) C dX2_isPossible_23 ?_
  refine s_istore (pc := 24) C [(5, vI 0), (4, vI (σ (8 + w.toNat) 4)), (3, vI z5), (0, .ref (ad 29)), (1, vI w), (2, vI g)] dX2_isPossible_24 (by decide) rfl ?_
  refine s_sub C [3, 4, 5, 2, 1, 0] [(0, .ref (ad 29)), (1, vI w), (2, vI g), (3, vI z5), (4, vI (σ (8 + w.toNat) 4)), (5, vI 0)] rfl ?_
  have hi26 : 0 ≤ (0 : Int) ∧ (0 : Int) ≤ 100 := (by first | omega | assumption | (constructor <;> omega) | (refine ⟨⟨?_, ?_⟩, ?_⟩ <;> omega) | (simp [hs_ss, hs_up]; omega) | (simp [hs_ss, hs_up]; done))
  refine hs_loop (α := Int) (fun x_ => (0 ≤ x_ ∧ x_ ≤ 100) → hs_Wd p l e 4 s m args below meth c D dA SHX ad A 8 (hs_PI (fun σ z σ1 => σ = σ1 ∧ (z = 0 ∨ z = 1)) σ) 26 [(0, .ref (ad 29)), (1, vI w), (2, vI g), (3, vI z5), (4, vI (σ (8 + w.toNat) 4)), (5, vI x_)] [] σ) (fun x_ => (101 - x_).toNat) ?_ (0) hi26
  rintro k ih26 hinv
  replace hinv : 0 ≤ k ∧ k ≤ 100 := hinv
  show hs_Wd p l e 4 s m args below meth c D dA SHX ad A 8 (hs_PI (fun σ z σ1 => σ = σ1 ∧ (z = 0 ∨ z = 1)) σ) 26 [(0, .ref (ad 29)), (1, vI w), (2, vI g), (3, vI z5), (4, vI (σ (8 + w.toNat) 4)), (5, vI k)] [] σ
  refine s_iload (pc := 26) C dX2_isPossible_26 5 rfl ?_
  refine s_aload_n (pc := 28) C dX2_isPossible_28 0 rfl ?_
  refine s_getr (q := 29) (ci := 2) (N := 6) (CN := RX2) (T := TX2) (pc := 29) C 1 dX2_isPossible_29 wlX2_23 rfl rfl rfl wfX2 (by decide) rfl ?_
  refine s_getiN (q := 12) (ci := 1) (N := 4) (CN := RX1) (T := TX1) (pc := 32) C 2 dX2_isPossible_32 wlX2_56 rfl rfl rfl wfX1 (by decide) rfl (σ 12 2) rfl ?_
  have b32 : (0 : Int) ≤ σ 12 2 ∧ σ 12 2 ≤ 100 := g0.1 12 2
  refine s_icmp_ge (pc := 35) C (tgt := 144) dX2_isPossible_35 (by decide) ⟨by omega, by omega⟩ ⟨by omega, by omega⟩ (fun h35 => ?_) (fun h35 => ?_)
  · skip
    refine s_iconst (pc := 144) C dX2_isPossible_144 ?_
    refine s_zret (pc := 145) C (by omega) dX2_isPossible_145 ?_
    refine ⟨_, rfl, ?_⟩
    exact ⟨rfl, by first | omega | assumption | (constructor <;> omega) | (refine ⟨⟨?_, ?_⟩, ?_⟩ <;> omega) | (simp [hs_ss, hs_up]; omega) | (simp [hs_ss, hs_up]; done)⟩
  · skip
    refine s_aload_n (pc := 38) C dX2_isPossible_38 0 rfl ?_
    refine s_getr (q := 29) (ci := 2) (N := 6) (CN := RX2) (T := TX2) (pc := 39) C 1 dX2_isPossible_39 wlX2_23 rfl rfl rfl wfX2 (by decide) rfl ?_
    refine s_iload (pc := 42) C dX2_isPossible_42 5 rfl ?_
    refine s_iload_n (pc := 44) C dX2_isPossible_44 1 rfl ?_
    refine s_callVNi (pc := 45) C (c_X1_placeOf l k w (by first | omega | assumption | (constructor <;> omega) | (refine ⟨⟨?_, ?_⟩, ?_⟩ <;> omega) | (simp [hs_ss, hs_up]; omega) | (simp [hs_ss, hs_up]; done)) (by first | omega | assumption | (constructor <;> omega) | (refine ⟨⟨?_, ?_⟩, ?_⟩ <;> omega) | (simp [hs_ss, hs_up]; omega) | (simp [hs_ss, hs_up]; done))) [vI k, vI w] [] rfl rfl dX2_isPossible_45 wlX2_61 wiX1_placeOf weX1_placeOf wcX1_placeOf wnX1 noX1_placeOf (by decide) (by decide) (Nat.le_of_ble_eq_true rfl) (gx_self g0) rfl rfl ?_
    rintro z45 _ ⟨rfl, k45⟩
    show hs_Wd _ _ _ _ _ _ _ _ _ _ _ _ _ _ _ _ _ 48 _ [vI z45] σ
    refine s_istore (pc := 48) C [(6, vI z45), (0, .ref (ad 29)), (1, vI w), (2, vI g), (3, vI z5), (4, vI (σ (8 + w.toNat) 4)), (5, vI k)] dX2_isPossible_48 (by decide) rfl ?_
    refine s_aload_n (pc := 50) C dX2_isPossible_50 1 rfl ?_
    refine s_getr (q := 29) (ci := 2) (N := 6) (CN := RX2) (T := TX2) (pc := 51) C 0 dX2_isPossible_51 wlX2_19 rfl rfl rfl wfX2 (by decide) rfl ?_
    refine s_getrN (q := 2) (ci := 5) (N := 3) (CN := RX5) (T := TX5) (pc := 54) C 0 dX2_isPossible_54 wlX2_27 rfl rfl rfl wfX5 (by decide) rfl ?_
    refine s_iload (pc := 57) C dX2_isPossible_57 0 rfl ?_
    refine s_iload_n (pc := 59) C dX2_isPossible_59 3 rfl ?_
    refine s_callVNi (pc := 60) C (c_X8_far l 3 (Or.inl rfl) z45 g (by first | omega | assumption | (constructor <;> omega) | (refine ⟨⟨?_, ?_⟩, ?_⟩ <;> omega) | (simp [hs_ss, hs_up]; omega) | (simp [hs_ss, hs_up]; done)) (by first | omega | assumption | (constructor <;> omega) | (refine ⟨⟨?_, ?_⟩, ?_⟩ <;> omega) | (simp [hs_ss, hs_up]; omega) | (simp [hs_ss, hs_up]; done))) [vI z45, vI g] [] rfl rfl dX2_isPossible_60 wlX2_65 wiX8_far weX8_far wcX8_far wnX8 noX8_far (by decide) (by decide) (Nat.le_of_ble_eq_true rfl) (gx_self g0) rfl rfl ?_
    rintro z60 _ ⟨rfl, k60⟩
    show hs_Wd _ _ _ _ _ _ _ _ _ _ _ _ _ _ _ _ _ 63 _ [vI z60] σ
    refine s_istore (pc := 63) C [(7, vI z60), (6, vI z45), (0, .ref (ad 29)), (1, vI w), (2, vI g), (3, vI z5), (4, vI (σ (8 + w.toNat) 4)), (5, vI k)] dX2_isPossible_63 (by decide) rfl ?_
    refine s_iload (pc := 65) C dX2_isPossible_65 0 rfl ?_
    refine s_iload (pc := 67) C dX2_isPossible_67 6 rfl ?_
    refine s_icmp_gt (pc := 69) C (tgt := 96) dX2_isPossible_69 (by decide) ⟨by omega, by omega⟩ ⟨by omega, by omega⟩ (fun h69 => ?_) (fun h69 => ?_)
    · skip
      refine s_iload (pc := 96) C dX2_isPossible_96 0 rfl ?_
      refine s_iload (pc := 98) C dX2_isPossible_98 6 rfl ?_
      refine s_iconst (pc := 100) C dX2_isPossible_100 ?_
      refine s_iadd (pc := 101) C dX2_isPossible_101 ?_
      refine s_icmp_le (pc := 102) C (tgt := 138) dX2_isPossible_102 (by decide) ⟨by omega, by omega⟩ ⟨by omega, by omega⟩ (fun h102 => ?_) (fun h102 => ?_)
      · skip
        refine s_iinc (pc := 138) C [(5, vI (k + 1)), (7, vI z60), (6, vI z45), (0, .ref (ad 29)), (1, vI w), (2, vI g), (3, vI z5), (4, vI (σ (8 + w.toNat) 4))] dX2_isPossible_138 7 rfl (by decide) rfl ?_
        refine s_goto (pc := 141) C (tgt := 26) dX2_isPossible_141 (by decide) ?_
        refine s_sub C [3, 4, 5, 6, 7, 0] [(0, .ref (ad 29)), (1, vI w), (2, vI g), (3, vI z5), (4, vI (σ (8 + w.toNat) 4)), (5, vI (k + 1))] rfl ?_
        have hi26 : 0 ≤ (k + 1) ∧ (k + 1) ≤ 100 := (by first | omega | assumption | (constructor <;> omega) | (refine ⟨⟨?_, ?_⟩, ?_⟩ <;> omega) | (simp [hs_ss, hs_up]; omega) | (simp [hs_ss, hs_up]; done))
        exact ih26 (k + 1) (by first | omega | (simp only []; omega)) hi26
      · skip
        refine s_aload_n (pc := 105) C dX2_isPossible_105 2 rfl ?_
        refine s_getr (q := 29) (ci := 2) (N := 6) (CN := RX2) (T := TX2) (pc := 106) C 1 dX2_isPossible_106 wlX2_23 rfl rfl rfl wfX2 (by decide) rfl ?_
        refine s_getrN (q := 12) (ci := 1) (N := 4) (CN := RX1) (T := TX1) (pc := 109) C 0 dX2_isPossible_109 wlX2_68 rfl rfl rfl wfX1 (by decide) rfl ?_
        refine s_iload (pc := 112) C dX2_isPossible_112 7 rfl ?_
        refine s_iald (q := 13) (n := 100) (pc := 114) C (σ 13 k.toNat) rfl dX2_isPossible_114 rfl (by omega) (by omega) (by decide) ?_
        have b114 : (-10000 : Int) ≤ σ 13 k.toNat ∧ σ 13 k.toNat ≤ 10000 := g0.1 13 k.toNat
        refine s_aload_n (pc := 115) C dX2_isPossible_115 2 rfl ?_
        refine s_getr (q := 29) (ci := 2) (N := 6) (CN := RX2) (T := TX2) (pc := 116) C 1 dX2_isPossible_116 wlX2_23 rfl rfl rfl wfX2 (by decide) rfl ?_
        refine s_getiN (q := 12) (ci := 1) (N := 4) (CN := RX1) (T := TX1) (pc := 119) C 3 dX2_isPossible_119 wlX2_71 rfl rfl rfl wfX1 (by decide) rfl (σ 12 3) rfl ?_
        have b119 : (0 : Int) ≤ σ 12 3 ∧ σ 12 3 ≤ 99 := g0.1 12 3
        refine s_iadd (pc := 122) C dX2_isPossible_122 ?_
        refine s_aload_n (pc := 123) C dX2_isPossible_123 2 rfl ?_
        refine s_getr (q := 29) (ci := 2) (N := 6) (CN := RX2) (T := TX2) (pc := 124) C 0 dX2_isPossible_124 wlX2_19 rfl rfl rfl wfX2 (by decide) rfl ?_
        refine s_iload_n (pc := 127) C dX2_isPossible_127 3 rfl ?_
        refine s_iload (pc := 128) C dX2_isPossible_128 1 rfl ?_
        refine s_callVNi (pc := 130) C (c_X5_radiusWithoutGates l w (by first | omega | assumption | (constructor <;> omega) | (refine ⟨⟨?_, ?_⟩, ?_⟩ <;> omega) | (simp [hs_ss, hs_up]; omega) | (simp [hs_ss, hs_up]; done)) z45 (by first | omega | assumption | (constructor <;> omega) | (refine ⟨⟨?_, ?_⟩, ?_⟩ <;> omega) | (simp [hs_ss, hs_up]; omega) | (simp [hs_ss, hs_up]; done))) [vI w, vI z45] [vI ((σ 13 k.toNat) + (σ 12 3))] rfl rfl dX2_isPossible_130 wlX2_74 wiX5_radiusWithoutGates weX5_radiusWithoutGates wcX5_radiusWithoutGates wnX5 noX5_radiusWithoutGates (by decide) (by decide) (Nat.le_of_ble_eq_true rfl) (gx_self g0) rfl rfl ?_
        rintro z130 _ ⟨rfl, k130⟩
        show hs_Wd _ _ _ _ _ _ _ _ _ _ _ _ _ _ _ _ _ 133 _ [vI z130, vI ((σ 13 k.toNat) + (σ 12 3))] σ
        refine s_icmp_ge (pc := 133) C (tgt := 138) dX2_isPossible_133 (by decide) ⟨by omega, by omega⟩ ⟨by omega, by omega⟩ (fun h133 => ?_) (fun h133 => ?_)
        · skip
          refine s_iinc (pc := 138) C [(5, vI (k + 1)), (7, vI z60), (6, vI z45), (0, .ref (ad 29)), (1, vI w), (2, vI g), (3, vI z5), (4, vI (σ (8 + w.toNat) 4))] dX2_isPossible_138 7 rfl (by decide) rfl ?_
          refine s_goto (pc := 141) C (tgt := 26) dX2_isPossible_141 (by decide) ?_
          refine s_sub C [3, 4, 5, 6, 7, 0] [(0, .ref (ad 29)), (1, vI w), (2, vI g), (3, vI z5), (4, vI (σ (8 + w.toNat) 4)), (5, vI (k + 1))] rfl ?_
          have hi26 : 0 ≤ (k + 1) ∧ (k + 1) ≤ 100 := (by first | omega | assumption | (constructor <;> omega) | (refine ⟨⟨?_, ?_⟩, ?_⟩ <;> omega) | (simp [hs_ss, hs_up]; omega) | (simp [hs_ss, hs_up]; done))
          exact ih26 (k + 1) (by first | omega | (simp only []; omega)) hi26
        · skip
          refine s_iconst (pc := 136) C dX2_isPossible_136 ?_
          refine s_zret (pc := 137) C (by omega) dX2_isPossible_137 ?_
          refine ⟨_, rfl, ?_⟩
          exact ⟨rfl, by first | omega | assumption | (constructor <;> omega) | (refine ⟨⟨?_, ?_⟩, ?_⟩ <;> omega) | (simp [hs_ss, hs_up]; omega) | (simp [hs_ss, hs_up]; done)⟩
    · skip
      refine s_aload_n (pc := 72) C dX2_isPossible_72 2 rfl ?_
      refine s_getr (q := 29) (ci := 2) (N := 6) (CN := RX2) (T := TX2) (pc := 73) C 1 dX2_isPossible_73 wlX2_23 rfl rfl rfl wfX2 (by decide) rfl ?_
      refine s_getrN (q := 12) (ci := 1) (N := 4) (CN := RX1) (T := TX1) (pc := 76) C 0 dX2_isPossible_76 wlX2_68 rfl rfl rfl wfX1 (by decide) rfl ?_
      refine s_iload (pc := 79) C dX2_isPossible_79 7 rfl ?_
      refine s_iald (q := 13) (n := 100) (pc := 81) C (σ 13 k.toNat) rfl dX2_isPossible_81 rfl (by omega) (by omega) (by decide) ?_
      have b81 : (-10000 : Int) ≤ σ 13 k.toNat ∧ σ 13 k.toNat ≤ 10000 := g0.1 13 k.toNat
      refine s_aload_n (pc := 82) C dX2_isPossible_82 2 rfl ?_
      refine s_getr (q := 29) (ci := 2) (N := 6) (CN := RX2) (T := TX2) (pc := 83) C 1 dX2_isPossible_83 wlX2_23 rfl rfl rfl wfX2 (by decide) rfl ?_
      refine s_getiN (q := 12) (ci := 1) (N := 4) (CN := RX1) (T := TX1) (pc := 86) C 3 dX2_isPossible_86 wlX2_71 rfl rfl rfl wfX1 (by decide) rfl (σ 12 3) rfl ?_
      have b86 : (0 : Int) ≤ σ 12 3 ∧ σ 12 3 ≤ 99 := g0.1 12 3
      refine s_isub (pc := 89) C dX2_isPossible_89 ?_
      refine s_iload_n (pc := 90) C dX2_isPossible_90 5 rfl ?_
      refine s_icmp_le (pc := 91) C (tgt := 96) dX2_isPossible_91 (by decide) ⟨by omega, by omega⟩ ⟨by omega, by omega⟩ (fun h91 => ?_) (fun h91 => ?_)
      · skip
        refine s_iload (pc := 96) C dX2_isPossible_96 0 rfl ?_
        refine s_iload (pc := 98) C dX2_isPossible_98 6 rfl ?_
        refine s_iconst (pc := 100) C dX2_isPossible_100 ?_
        refine s_iadd (pc := 101) C dX2_isPossible_101 ?_
        refine s_icmp_le (pc := 102) C (tgt := 138) dX2_isPossible_102 (by decide) ⟨by omega, by omega⟩ ⟨by omega, by omega⟩ (fun h102 => ?_) (fun h102 => ?_)
        · skip
          refine s_iinc (pc := 138) C [(5, vI (k + 1)), (7, vI z60), (6, vI z45), (0, .ref (ad 29)), (1, vI w), (2, vI g), (3, vI z5), (4, vI (σ (8 + w.toNat) 4))] dX2_isPossible_138 7 rfl (by decide) rfl ?_
          refine s_goto (pc := 141) C (tgt := 26) dX2_isPossible_141 (by decide) ?_
          refine s_sub C [3, 4, 5, 6, 7, 0] [(0, .ref (ad 29)), (1, vI w), (2, vI g), (3, vI z5), (4, vI (σ (8 + w.toNat) 4)), (5, vI (k + 1))] rfl ?_
          have hi26 : 0 ≤ (k + 1) ∧ (k + 1) ≤ 100 := (by first | omega | assumption | (constructor <;> omega) | (refine ⟨⟨?_, ?_⟩, ?_⟩ <;> omega) | (simp [hs_ss, hs_up]; omega) | (simp [hs_ss, hs_up]; done))
          exact ih26 (k + 1) (by first | omega | (simp only []; omega)) hi26
        · skip
          refine s_aload_n (pc := 105) C dX2_isPossible_105 2 rfl ?_
          refine s_getr (q := 29) (ci := 2) (N := 6) (CN := RX2) (T := TX2) (pc := 106) C 1 dX2_isPossible_106 wlX2_23 rfl rfl rfl wfX2 (by decide) rfl ?_
          refine s_getrN (q := 12) (ci := 1) (N := 4) (CN := RX1) (T := TX1) (pc := 109) C 0 dX2_isPossible_109 wlX2_68 rfl rfl rfl wfX1 (by decide) rfl ?_
          refine s_iload (pc := 112) C dX2_isPossible_112 7 rfl ?_
          refine s_iald (q := 13) (n := 100) (pc := 114) C (σ 13 k.toNat) rfl dX2_isPossible_114 rfl (by omega) (by omega) (by decide) ?_
          have b114 : (-10000 : Int) ≤ σ 13 k.toNat ∧ σ 13 k.toNat ≤ 10000 := g0.1 13 k.toNat
          refine s_aload_n (pc := 115) C dX2_isPossible_115 2 rfl ?_
          refine s_getr (q := 29) (ci := 2) (N := 6) (CN := RX2) (T := TX2) (pc := 116) C 1 dX2_isPossible_116 wlX2_23 rfl rfl rfl wfX2 (by decide) rfl ?_
          refine s_getiN (q := 12) (ci := 1) (N := 4) (CN := RX1) (T := TX1) (pc := 119) C 3 dX2_isPossible_119 wlX2_71 rfl rfl rfl wfX1 (by decide) rfl (σ 12 3) rfl ?_
          have b119 : (0 : Int) ≤ σ 12 3 ∧ σ 12 3 ≤ 99 := g0.1 12 3
          refine s_iadd (pc := 122) C dX2_isPossible_122 ?_
          refine s_aload_n (pc := 123) C dX2_isPossible_123 2 rfl ?_
          refine s_getr (q := 29) (ci := 2) (N := 6) (CN := RX2) (T := TX2) (pc := 124) C 0 dX2_isPossible_124 wlX2_19 rfl rfl rfl wfX2 (by decide) rfl ?_
          refine s_iload_n (pc := 127) C dX2_isPossible_127 3 rfl ?_
          refine s_iload (pc := 128) C dX2_isPossible_128 1 rfl ?_
          refine s_callVNi (pc := 130) C (c_X5_radiusWithoutGates l w (by first | omega | assumption | (constructor <;> omega) | (refine ⟨⟨?_, ?_⟩, ?_⟩ <;> omega) | (simp [hs_ss, hs_up]; omega) | (simp [hs_ss, hs_up]; done)) z45 (by first | omega | assumption | (constructor <;> omega) | (refine ⟨⟨?_, ?_⟩, ?_⟩ <;> omega) | (simp [hs_ss, hs_up]; omega) | (simp [hs_ss, hs_up]; done))) [vI w, vI z45] [vI ((σ 13 k.toNat) + (σ 12 3))] rfl rfl dX2_isPossible_130 wlX2_74 wiX5_radiusWithoutGates weX5_radiusWithoutGates wcX5_radiusWithoutGates wnX5 noX5_radiusWithoutGates (by decide) (by decide) (Nat.le_of_ble_eq_true rfl) (gx_self g0) rfl rfl ?_
          rintro z130 _ ⟨rfl, k130⟩
          show hs_Wd _ _ _ _ _ _ _ _ _ _ _ _ _ _ _ _ _ 133 _ [vI z130, vI ((σ 13 k.toNat) + (σ 12 3))] σ
          refine s_icmp_ge (pc := 133) C (tgt := 138) dX2_isPossible_133 (by decide) ⟨by omega, by omega⟩ ⟨by omega, by omega⟩ (fun h133 => ?_) (fun h133 => ?_)
          · skip
            refine s_iinc (pc := 138) C [(5, vI (k + 1)), (7, vI z60), (6, vI z45), (0, .ref (ad 29)), (1, vI w), (2, vI g), (3, vI z5), (4, vI (σ (8 + w.toNat) 4))] dX2_isPossible_138 7 rfl (by decide) rfl ?_
            refine s_goto (pc := 141) C (tgt := 26) dX2_isPossible_141 (by decide) ?_
            refine s_sub C [3, 4, 5, 6, 7, 0] [(0, .ref (ad 29)), (1, vI w), (2, vI g), (3, vI z5), (4, vI (σ (8 + w.toNat) 4)), (5, vI (k + 1))] rfl ?_
            have hi26 : 0 ≤ (k + 1) ∧ (k + 1) ≤ 100 := (by first | omega | assumption | (constructor <;> omega) | (refine ⟨⟨?_, ?_⟩, ?_⟩ <;> omega) | (simp [hs_ss, hs_up]; omega) | (simp [hs_ss, hs_up]; done))
            exact ih26 (k + 1) (by first | omega | (simp only []; omega)) hi26
          · skip
            refine s_iconst (pc := 136) C dX2_isPossible_136 ?_
            refine s_zret (pc := 137) C (by omega) dX2_isPossible_137 ?_
            refine ⟨_, rfl, ?_⟩
            exact ⟨rfl, by first | omega | assumption | (constructor <;> omega) | (refine ⟨⟨?_, ?_⟩, ?_⟩ <;> omega) | (simp [hs_ss, hs_up]; omega) | (simp [hs_ss, hs_up]; done)⟩
      · skip
        refine s_iconst (pc := 94) C dX2_isPossible_94 ?_
        refine s_zret (pc := 95) C (by omega) dX2_isPossible_95 ?_
        refine ⟨_, rfl, ?_⟩
        exact ⟨rfl, by first | omega | assumption | (constructor <;> omega) | (refine ⟨⟨?_, ?_⟩, ?_⟩ <;> omega) | (simp [hs_ss, hs_up]; omega) | (simp [hs_ss, hs_up]; done)⟩
set_option maxHeartbeats 4000000 in
set_option maxRecDepth 100000 in
theorem c_X2_weighGates (l : Launch) (w : Int) (hw : 0 ≤ w ∧ w < 4) : hs_Met l yX2_weighGates cX2_weighGates 3 none 5 SHX (fun ad => [.ref (ad 29), vI w]) (fun σ => GX σ σ) (hs_PV (fun σ σ1 => GX σ σ1 ∧ FRM PWg σ σ1)) := by
  refine hs_from pfX2_weighGates (fun _ => Nat.le_of_ble_eq_true rfl) ?_
  intro p e s m args below meth c D dA ad A σ C hpre
  have C : hs_C p s m args meth c D dA SHX ad A 3 cX2_weighGates RX2 none := C
  have g0 := hpre
  have f0 : FRM PWg σ σ := frm_rf
  show hs_Wd p l e 5 s m args below meth c D dA SHX ad A 3 (hs_PV (fun σ σ1 => GX σ σ1 ∧ FRM PWg σ σ1) σ) 0 [(0, .ref (ad 29)), (1, vI w)] [] σ
  refine s_iconst (pc := 0) C dX2_weighGates_0 ?_
  refine s_istore_n (pc := 1) C [(2, vI 0), (0, .ref (ad 29)), (1, vI w)] dX2_weighGates_1 (by decide) rfl ?_
  refine s_sub C [1, 2, 0] [(0, .ref (ad 29)), (1, vI w), (2, vI 0)] rfl ?_
  have hi2 : GX σ σ ∧ FRM PWg σ σ ∧ 0 ≤ (0 : Int) ∧ (0 : Int) ≤ 100 := ⟨g0, f0, by first | omega | assumption | (constructor <;> omega) | (refine ⟨⟨?_, ?_⟩, ?_⟩ <;> omega) | (simp [hs_ss, hs_up]; omega) | (simp [hs_ss, hs_up]; done)⟩
  refine hs_loop (α := Int × hs_S) (fun x_ => (GX σ x_.2 ∧ FRM PWg σ x_.2 ∧ 0 ≤ x_.1 ∧ x_.1 ≤ 100) → hs_Wd p l e 5 s m args below meth c D dA SHX ad A 3 (hs_PV (fun σ σ1 => GX σ σ1 ∧ FRM PWg σ σ1) σ) 2 [(0, .ref (ad 29)), (1, vI w), (2, vI x_.1)] [] x_.2) (fun x_ => (101 - x_.1).toNat) ?_ (0, σ) hi2
  rintro ⟨g, σ1⟩ ih2 hinv
  replace hinv : GX σ σ1 ∧ FRM PWg σ σ1 ∧ 0 ≤ g ∧ g ≤ 100 := hinv
  obtain ⟨hg2, hf2, hv2⟩ := hinv
  show hs_Wd p l e 5 s m args below meth c D dA SHX ad A 3 (hs_PV (fun σ σ1 => GX σ σ1 ∧ FRM PWg σ σ1) σ) 2 [(0, .ref (ad 29)), (1, vI w), (2, vI g)] [] σ1
  refine s_iload_n (pc := 2) C dX2_weighGates_2 2 rfl ?_
  refine s_aload_n (pc := 3) C dX2_weighGates_3 0 rfl ?_
  refine s_getr (q := 29) (ci := 2) (N := 6) (CN := RX2) (T := TX2) (pc := 4) C 0 dX2_weighGates_4 wlX2_19 rfl rfl rfl wfX2 (by decide) rfl ?_
  refine s_getrN (q := 2) (ci := 5) (N := 3) (CN := RX5) (T := TX5) (pc := 7) C 0 dX2_weighGates_7 wlX2_27 rfl rfl rfl wfX5 (by decide) rfl ?_
  refine s_getiN (q := 3) (ci := 8) (N := 7) (CN := RX8) (T := TX8) (pc := 10) C 3 dX2_weighGates_10 wlX2_33 rfl rfl rfl wfX8 (by decide) rfl (σ1 3 3) rfl ?_
  have b10 : (10 : Int) ≤ σ1 3 3 ∧ σ1 3 3 ≤ 100 := hg2.1 3 3
  refine s_icmp_ge (pc := 13) C (tgt := 34) dX2_weighGates_13 (by decide) ⟨by omega, by omega⟩ ⟨by omega, by omega⟩ (fun h13 => ?_) (fun h13 => ?_)
  · skip
    refine s_vret (pc := 34) C dX2_weighGates_34 ?_
    refine ⟨rfl, ?_⟩
    exact ⟨hg2, hf2⟩
  · skip
    refine s_aload_n (pc := 16) C dX2_weighGates_16 0 rfl ?_
    refine s_getr (q := 29) (ci := 2) (N := 6) (CN := RX2) (T := TX2) (pc := 17) C 2 dX2_weighGates_17 wlX2_9 rfl rfl rfl wfX2 (by decide) rfl ?_
    refine s_iload_n (pc := 20) C dX2_weighGates_20 2 rfl ?_
    refine s_aload_n (pc := 21) C dX2_weighGates_21 0 rfl ?_
    refine s_iload_n (pc := 22) C dX2_weighGates_22 1 rfl ?_
    refine s_iload_n (pc := 23) C dX2_weighGates_23 2 rfl ?_
    refine s_callVi (pc := 24) C (c_X2_isPossible l w (by first | omega | assumption | (constructor <;> omega) | (refine ⟨⟨?_, ?_⟩, ?_⟩ <;> omega) | (simp [hs_ss, hs_up]; omega) | (simp [hs_ss, hs_up]; done)) g (by first | omega | assumption | (constructor <;> omega) | (refine ⟨⟨?_, ?_⟩, ?_⟩ <;> omega) | (simp [hs_ss, hs_up]; omega) | (simp [hs_ss, hs_up]; done))) [vI w, vI g] [vI g, .ref (ad 30)] rfl rfl dX2_weighGates_24 wlX2_39 wiX2_isPossible weX2_isPossible wcX2_isPossible wnX2 noX2_isPossible (by decide) (by decide) (Nat.le_of_ble_eq_true rfl) (gx_self hg2) rfl rfl ?_
    rintro z24 _ ⟨rfl, k24⟩
    show hs_Wd _ _ _ _ _ _ _ _ _ _ _ _ _ _ _ _ _ 27 _ [vI z24, vI g, .ref (ad 30)] σ1
    refine s_zast (q := 30) (n := 100) (pc := 27) C dX2_weighGates_27 rfl (by omega) (by omega) (by decide) (by omega) ?_
    have g27 := gx_set (z := z24) hg2 30 g.toNat rfl (0) (1) rfl ⟨by omega, by omega⟩
    have f27 := frm_set (P := PWg) (z := z24) hf2 30 g.toNat rfl
    refine s_iinc (pc := 28) C [(2, vI (g + 1)), (0, .ref (ad 29)), (1, vI w)] dX2_weighGates_28 2 rfl (by decide) rfl ?_
    refine s_goto (pc := 31) C (tgt := 2) dX2_weighGates_31 (by decide) ?_
    refine s_sub C [1, 2, 0] [(0, .ref (ad 29)), (1, vI w), (2, vI (g + 1))] rfl ?_
    have hi2 : GX σ ((hs_ss σ1 30 g.toNat z24)) ∧ FRM PWg σ ((hs_ss σ1 30 g.toNat z24)) ∧ 0 ≤ (g + 1) ∧ (g + 1) ≤ 100 := ⟨g27, f27, by first | omega | assumption | (constructor <;> omega) | (refine ⟨⟨?_, ?_⟩, ?_⟩ <;> omega) | (simp [hs_ss, hs_up]; omega) | (simp [hs_ss, hs_up]; done)⟩
    exact ih2 (g + 1, (hs_ss σ1 30 g.toNat z24)) (by first | omega | (simp only []; omega)) hi2
set_option maxHeartbeats 4000000 in
set_option maxRecDepth 100000 in
theorem c_X2_countPossible (l : Launch)  : hs_Met l yX2_countPossible cX2_countPossible 3 (some .int) 1 SHX (fun ad => [.ref (ad 29)]) (fun σ => GX σ σ) (hs_PI (fun σ z σ1 => σ = σ1 ∧ 0 ≤ z ∧ z ≤ 100)) := by
  refine hs_from pfX2_countPossible (fun _ => Nat.le_of_ble_eq_true rfl) ?_
  intro p e s m args below meth c D dA ad A σ C hpre
  have C : hs_C p s m args meth c D dA SHX ad A 3 cX2_countPossible RX2 (some .int) := C
  have g0 := hpre
  show hs_Wd p l e 1 s m args below meth c D dA SHX ad A 3 (hs_PI (fun σ z σ1 => σ = σ1 ∧ 0 ≤ z ∧ z ≤ 100) σ) 0 [(0, .ref (ad 29))] [] σ
  refine s_iconst (pc := 0) C dX2_countPossible_0 ?_
  refine s_istore_n (pc := 1) C [(1, vI 0), (0, .ref (ad 29))] dX2_countPossible_1 (by decide) rfl ?_
  refine s_iconst (pc := 2) C dX2_countPossible_2 ?_
  refine s_istore_n (pc := 3) C [(2, vI 0), (1, vI 0), (0, .ref (ad 29))] dX2_countPossible_3 (by decide) rfl ?_
  refine s_sub C [2, 1, 0] [(0, .ref (ad 29)), (1, vI 0), (2, vI 0)] rfl ?_
  have hi4 : 0 ≤ (0 : Int) ∧ (0 : Int) ≤ 100 ∧ 0 ≤ (0 : Int) ∧ (0 : Int) ≤ (0 : Int) := (by first | omega | assumption | (constructor <;> omega) | (refine ⟨⟨?_, ?_⟩, ?_⟩ <;> omega) | (simp [hs_ss, hs_up]; omega) | (simp [hs_ss, hs_up]; done))
  refine hs_loop (α := Int × Int) (fun x_ => (0 ≤ x_.1 ∧ x_.1 ≤ 100 ∧ 0 ≤ x_.2 ∧ x_.2 ≤ x_.1) → hs_Wd p l e 1 s m args below meth c D dA SHX ad A 3 (hs_PI (fun σ z σ1 => σ = σ1 ∧ 0 ≤ z ∧ z ≤ 100) σ) 4 [(0, .ref (ad 29)), (1, vI x_.2), (2, vI x_.1)] [] σ) (fun x_ => (101 - x_.1).toNat) ?_ (0, 0) hi4
  rintro ⟨g, fo⟩ ih4 hinv
  replace hinv : 0 ≤ g ∧ g ≤ 100 ∧ 0 ≤ fo ∧ fo ≤ g := hinv
  show hs_Wd p l e 1 s m args below meth c D dA SHX ad A 3 (hs_PI (fun σ z σ1 => σ = σ1 ∧ 0 ≤ z ∧ z ≤ 100) σ) 4 [(0, .ref (ad 29)), (1, vI fo), (2, vI g)] [] σ
  refine s_iload_n (pc := 4) C dX2_countPossible_4 2 rfl ?_
  refine s_aload_n (pc := 5) C dX2_countPossible_5 0 rfl ?_
  refine s_getr (q := 29) (ci := 2) (N := 6) (CN := RX2) (T := TX2) (pc := 6) C 0 dX2_countPossible_6 wlX2_19 rfl rfl rfl wfX2 (by decide) rfl ?_
  refine s_getrN (q := 2) (ci := 5) (N := 3) (CN := RX5) (T := TX5) (pc := 9) C 0 dX2_countPossible_9 wlX2_27 rfl rfl rfl wfX5 (by decide) rfl ?_
  refine s_getiN (q := 3) (ci := 8) (N := 7) (CN := RX8) (T := TX8) (pc := 12) C 3 dX2_countPossible_12 wlX2_33 rfl rfl rfl wfX8 (by decide) rfl (σ 3 3) rfl ?_
  have b12 : (10 : Int) ≤ σ 3 3 ∧ σ 3 3 ≤ 100 := g0.1 3 3
  refine s_icmp_ge (pc := 15) C (tgt := 41) dX2_countPossible_15 (by decide) ⟨by omega, by omega⟩ ⟨by omega, by omega⟩ (fun h15 => ?_) (fun h15 => ?_)
  · skip
    refine s_iload_n (pc := 41) C dX2_countPossible_41 1 rfl ?_
    refine s_iret (pc := 42) C dX2_countPossible_42 ?_
    refine ⟨_, rfl, ?_⟩
    exact ⟨rfl, by first | omega | assumption | (constructor <;> omega) | (refine ⟨⟨?_, ?_⟩, ?_⟩ <;> omega) | (simp [hs_ss, hs_up]; omega) | (simp [hs_ss, hs_up]; done)⟩
  · skip
    refine s_iload_n (pc := 18) C dX2_countPossible_18 1 rfl ?_
    refine s_aload_n (pc := 19) C dX2_countPossible_19 0 rfl ?_
    refine s_getr (q := 29) (ci := 2) (N := 6) (CN := RX2) (T := TX2) (pc := 20) C 2 dX2_countPossible_20 wlX2_9 rfl rfl rfl wfX2 (by decide) rfl ?_
    refine s_iload_n (pc := 23) C dX2_countPossible_23 2 rfl ?_
    refine s_zald (q := 30) (n := 100) (pc := 24) C (σ 30 g.toNat) rfl dX2_countPossible_24 rfl (by omega) (by omega) (by decide) ?_
    have b24 : (0 : Int) ≤ σ 30 g.toNat ∧ σ 30 g.toNat ≤ 1 := g0.1 30 g.toNat
    refine s_if_eq (pc := 25) C (tgt := 32) dX2_countPossible_25 (by decide) ⟨by omega, by omega⟩ (fun h25 => ?_) (fun h25 => ?_)
    · skip
      refine s_iconst (pc := 32) C dX2_countPossible_32 ?_
      refine s_iadd (pc := 33) C dX2_countPossible_33 ?_
      refine s_istore_n (pc := 34) C [(1, vI (fo + 0)), (0, .ref (ad 29)), (2, vI g)] dX2_countPossible_34 (by decide) rfl ?_
      refine s_iinc (pc := 35) C [(2, vI (g + 1)), (1, vI (fo + 0)), (0, .ref (ad 29))] dX2_countPossible_35 2 rfl (by decide) rfl ?_
      refine s_goto (pc := 38) C (tgt := 4) dX2_countPossible_38 (by decide) ?_
      refine s_sub C [2, 1, 0] [(0, .ref (ad 29)), (1, vI (fo + 0)), (2, vI (g + 1))] rfl ?_
      have hi4 : 0 ≤ (g + 1) ∧ (g + 1) ≤ 100 ∧ 0 ≤ (fo + 0) ∧ (fo + 0) ≤ (g + 1) := (by first | omega | assumption | (constructor <;> omega) | (refine ⟨⟨?_, ?_⟩, ?_⟩ <;> omega) | (simp [hs_ss, hs_up]; omega) | (simp [hs_ss, hs_up]; done))
      exact ih4 (g + 1, fo + 0) (by first | omega | (simp only []; omega)) hi4
    · skip
      refine s_iconst (pc := 28) C dX2_countPossible_28 ?_
      refine s_goto (pc := 29) C (tgt := 33) dX2_countPossible_29 (by decide) ?_
      refine s_iadd (pc := 33) C dX2_countPossible_33 ?_
      refine s_istore_n (pc := 34) C [(1, vI (fo + 1)), (0, .ref (ad 29)), (2, vI g)] dX2_countPossible_34 (by decide) rfl ?_
      refine s_iinc (pc := 35) C [(2, vI (g + 1)), (1, vI (fo + 1)), (0, .ref (ad 29))] dX2_countPossible_35 2 rfl (by decide) rfl ?_
      refine s_goto (pc := 38) C (tgt := 4) dX2_countPossible_38 (by decide) ?_
      refine s_sub C [2, 1, 0] [(0, .ref (ad 29)), (1, vI (fo + 1)), (2, vI (g + 1))] rfl ?_
      have hi4 : 0 ≤ (g + 1) ∧ (g + 1) ≤ 100 ∧ 0 ≤ (fo + 1) ∧ (fo + 1) ≤ (g + 1) := (by first | omega | assumption | (constructor <;> omega) | (refine ⟨⟨?_, ?_⟩, ?_⟩ <;> omega) | (simp [hs_ss, hs_up]; omega) | (simp [hs_ss, hs_up]; done))
      exact ih4 (g + 1, fo + 1) (by first | omega | (simp only []; omega)) hi4
set_option maxHeartbeats 4000000 in
set_option maxRecDepth 100000 in
theorem c_X2_possibleAt (l : Launch) (k : Int) (hk : hs_R k) : hs_Met l yX2_possibleAt cX2_possibleAt 4 (some .int) 1 SHX (fun ad => [.ref (ad 29), vI k]) (fun σ => GX σ σ) (hs_PI (fun σ z σ1 => σ = σ1 ∧ -1 ≤ z ∧ z ≤ 99)) := by
  refine hs_from pfX2_possibleAt (fun _ => Nat.le_of_ble_eq_true rfl) ?_
  intro p e s m args below meth c D dA ad A σ C hpre
  have C : hs_C p s m args meth c D dA SHX ad A 4 cX2_possibleAt RX2 (some .int) := C
  have g0 := hpre
  show hs_Wd p l e 1 s m args below meth c D dA SHX ad A 4 (hs_PI (fun σ z σ1 => σ = σ1 ∧ -1 ≤ z ∧ z ≤ 99) σ) 0 [(0, .ref (ad 29)), (1, vI k)] [] σ
  refine s_iload_n (pc := 0) C dX2_possibleAt_0 1 rfl ?_
  refine s_istore_n (pc := 1) C [(2, vI k), (0, .ref (ad 29)), (1, vI k)] dX2_possibleAt_1 (by decide) rfl ?_
  refine s_iconst (pc := 2) C dX2_possibleAt_2 ?_
  refine s_istore_n (pc := 3) C [(3, vI 0), (2, vI k), (0, .ref (ad 29)), (1, vI k)] dX2_possibleAt_3 (by decide) rfl ?_
  refine s_sub C [2, 3, 1, 0] [(0, .ref (ad 29)), (1, vI k), (2, vI k), (3, vI 0)] rfl ?_
  have hi4 : 0 ≤ (0 : Int) ∧ (0 : Int) ≤ 100 ∧ -2147483648 ≤ k ∧ k ≤ 2147483647 := (by first | omega | assumption | (constructor <;> omega) | (refine ⟨⟨?_, ?_⟩, ?_⟩ <;> omega) | (simp [hs_ss, hs_up]; omega) | (simp [hs_ss, hs_up]; done))
  refine hs_loop (α := Int × Int) (fun x_ => (0 ≤ x_.1 ∧ x_.1 ≤ 100 ∧ -2147483648 ≤ x_.2 ∧ x_.2 ≤ 2147483647) → hs_Wd p l e 1 s m args below meth c D dA SHX ad A 4 (hs_PI (fun σ z σ1 => σ = σ1 ∧ -1 ≤ z ∧ z ≤ 99) σ) 4 [(0, .ref (ad 29)), (1, vI k), (2, vI x_.2), (3, vI x_.1)] [] σ) (fun x_ => (101 - x_.1).toNat) ?_ (0, k) hi4
  rintro ⟨g, lf⟩ ih4 hinv
  replace hinv : 0 ≤ g ∧ g ≤ 100 ∧ -2147483648 ≤ lf ∧ lf ≤ 2147483647 := hinv
  show hs_Wd p l e 1 s m args below meth c D dA SHX ad A 4 (hs_PI (fun σ z σ1 => σ = σ1 ∧ -1 ≤ z ∧ z ≤ 99) σ) 4 [(0, .ref (ad 29)), (1, vI k), (2, vI lf), (3, vI g)] [] σ
  refine s_iload_n (pc := 4) C dX2_possibleAt_4 3 rfl ?_
  refine s_aload_n (pc := 5) C dX2_possibleAt_5 0 rfl ?_
  refine s_getr (q := 29) (ci := 2) (N := 6) (CN := RX2) (T := TX2) (pc := 6) C 0 dX2_possibleAt_6 wlX2_19 rfl rfl rfl wfX2 (by decide) rfl ?_
  refine s_getrN (q := 2) (ci := 5) (N := 3) (CN := RX5) (T := TX5) (pc := 9) C 0 dX2_possibleAt_9 wlX2_27 rfl rfl rfl wfX5 (by decide) rfl ?_
  refine s_getiN (q := 3) (ci := 8) (N := 7) (CN := RX8) (T := TX8) (pc := 12) C 3 dX2_possibleAt_12 wlX2_33 rfl rfl rfl wfX8 (by decide) rfl (σ 3 3) rfl ?_
  have b12 : (10 : Int) ≤ σ 3 3 ∧ σ 3 3 ≤ 100 := g0.1 3 3
  refine s_icmp_ge (pc := 15) C (tgt := 60) dX2_possibleAt_15 (by decide) ⟨by omega, by omega⟩ ⟨by omega, by omega⟩ (fun h15 => ?_) (fun h15 => ?_)
  · skip
    refine s_iconst (pc := 60) C dX2_possibleAt_60 ?_
    refine s_iret (pc := 61) C dX2_possibleAt_61 ?_
    refine ⟨_, rfl, ?_⟩
    exact ⟨rfl, by first | omega | assumption | (constructor <;> omega) | (refine ⟨⟨?_, ?_⟩, ?_⟩ <;> omega) | (simp [hs_ss, hs_up]; omega) | (simp [hs_ss, hs_up]; done)⟩
  · skip
    refine s_iload_n (pc := 18) C dX2_possibleAt_18 2 rfl ?_
    refine s_if_lt (pc := 19) C (tgt := 60) dX2_possibleAt_19 (by decide) ⟨by omega, by omega⟩ (fun h19 => ?_) (fun h19 => ?_)
    · skip
      refine s_iconst (pc := 60) C dX2_possibleAt_60 ?_
      refine s_iret (pc := 61) C dX2_possibleAt_61 ?_
      refine ⟨_, rfl, ?_⟩
      exact ⟨rfl, by first | omega | assumption | (constructor <;> omega) | (refine ⟨⟨?_, ?_⟩, ?_⟩ <;> omega) | (simp [hs_ss, hs_up]; omega) | (simp [hs_ss, hs_up]; done)⟩
    · skip
      refine s_aload_n (pc := 22) C dX2_possibleAt_22 0 rfl ?_
      refine s_getr (q := 29) (ci := 2) (N := 6) (CN := RX2) (T := TX2) (pc := 23) C 2 dX2_possibleAt_23 wlX2_9 rfl rfl rfl wfX2 (by decide) rfl ?_
      refine s_iload_n (pc := 26) C dX2_possibleAt_26 3 rfl ?_
      refine s_zald (q := 30) (n := 100) (pc := 27) C (σ 30 g.toNat) rfl dX2_possibleAt_27 rfl (by omega) (by omega) (by decide) ?_
      have b27 : (0 : Int) ≤ σ 30 g.toNat ∧ σ 30 g.toNat ≤ 1 := g0.1 30 g.toNat
      refine s_if_eq (pc := 28) C (tgt := 37) dX2_possibleAt_28 (by decide) ⟨by omega, by omega⟩ (fun h28 => ?_) (fun h28 => ?_)
      · skip
        refine s_iload_n (pc := 37) C dX2_possibleAt_37 2 rfl ?_
        refine s_aload_n (pc := 38) C dX2_possibleAt_38 0 rfl ?_
        refine s_getr (q := 29) (ci := 2) (N := 6) (CN := RX2) (T := TX2) (pc := 39) C 2 dX2_possibleAt_39 wlX2_9 rfl rfl rfl wfX2 (by decide) rfl ?_
        refine s_iload_n (pc := 42) C dX2_possibleAt_42 3 rfl ?_
        refine s_zald (q := 30) (n := 100) (pc := 43) C (σ 30 g.toNat) rfl dX2_possibleAt_43 rfl (by omega) (by omega) (by decide) ?_
        have b43 : (0 : Int) ≤ σ 30 g.toNat ∧ σ 30 g.toNat ≤ 1 := g0.1 30 g.toNat
        refine s_if_eq (pc := 44) C (tgt := 51) dX2_possibleAt_44 (by decide) ⟨by omega, by omega⟩ (fun h44 => ?_) (fun h44 => ?_)
        · skip
          refine s_iconst (pc := 51) C dX2_possibleAt_51 ?_
          refine s_isub (pc := 52) C dX2_possibleAt_52 ?_
          refine s_istore_n (pc := 53) C [(2, vI (lf - 0)), (0, .ref (ad 29)), (1, vI k), (3, vI g)] dX2_possibleAt_53 (by decide) rfl ?_
          refine s_iinc (pc := 54) C [(3, vI (g + 1)), (2, vI (lf - 0)), (0, .ref (ad 29)), (1, vI k)] dX2_possibleAt_54 3 rfl (by decide) rfl ?_
          refine s_goto (pc := 57) C (tgt := 4) dX2_possibleAt_57 (by decide) ?_
          refine s_sub C [2, 3, 1, 0] [(0, .ref (ad 29)), (1, vI k), (2, vI (lf - 0)), (3, vI (g + 1))] rfl ?_
          have hi4 : 0 ≤ (g + 1) ∧ (g + 1) ≤ 100 ∧ -2147483648 ≤ (lf - 0) ∧ (lf - 0) ≤ 2147483647 := (by first | omega | assumption | (constructor <;> omega) | (refine ⟨⟨?_, ?_⟩, ?_⟩ <;> omega) | (simp [hs_ss, hs_up]; omega) | (simp [hs_ss, hs_up]; done))
          exact ih4 (g + 1, lf - 0) (by first | omega | (simp only []; omega)) hi4
        · skip
          refine s_iconst (pc := 47) C dX2_possibleAt_47 ?_
          refine s_goto (pc := 48) C (tgt := 52) dX2_possibleAt_48 (by decide) ?_
          refine s_isub (pc := 52) C dX2_possibleAt_52 ?_
          refine s_istore_n (pc := 53) C [(2, vI (lf - 1)), (0, .ref (ad 29)), (1, vI k), (3, vI g)] dX2_possibleAt_53 (by decide) rfl ?_
          refine s_iinc (pc := 54) C [(3, vI (g + 1)), (2, vI (lf - 1)), (0, .ref (ad 29)), (1, vI k)] dX2_possibleAt_54 3 rfl (by decide) rfl ?_
          refine s_goto (pc := 57) C (tgt := 4) dX2_possibleAt_57 (by decide) ?_
          refine s_sub C [2, 3, 1, 0] [(0, .ref (ad 29)), (1, vI k), (2, vI (lf - 1)), (3, vI (g + 1))] rfl ?_
          have hi4 : 0 ≤ (g + 1) ∧ (g + 1) ≤ 100 ∧ -2147483648 ≤ (lf - 1) ∧ (lf - 1) ≤ 2147483647 := (by first | omega | assumption | (constructor <;> omega) | (refine ⟨⟨?_, ?_⟩, ?_⟩ <;> omega) | (simp [hs_ss, hs_up]; omega) | (simp [hs_ss, hs_up]; done))
          exact ih4 (g + 1, lf - 1) (by first | omega | (simp only []; omega)) hi4
      · skip
        refine s_iload_n (pc := 31) C dX2_possibleAt_31 2 rfl ?_
        refine s_if_ne (pc := 32) C (tgt := 37) dX2_possibleAt_32 (by decide) ⟨by omega, by omega⟩ (fun h32 => ?_) (fun h32 => ?_)
        · skip
          refine s_iload_n (pc := 37) C dX2_possibleAt_37 2 rfl ?_
          refine s_aload_n (pc := 38) C dX2_possibleAt_38 0 rfl ?_
          refine s_getr (q := 29) (ci := 2) (N := 6) (CN := RX2) (T := TX2) (pc := 39) C 2 dX2_possibleAt_39 wlX2_9 rfl rfl rfl wfX2 (by decide) rfl ?_
          refine s_iload_n (pc := 42) C dX2_possibleAt_42 3 rfl ?_
          refine s_zald (q := 30) (n := 100) (pc := 43) C (σ 30 g.toNat) rfl dX2_possibleAt_43 rfl (by omega) (by omega) (by decide) ?_
          have b43 : (0 : Int) ≤ σ 30 g.toNat ∧ σ 30 g.toNat ≤ 1 := g0.1 30 g.toNat
          refine s_if_eq (pc := 44) C (tgt := 51) dX2_possibleAt_44 (by decide) ⟨by omega, by omega⟩ (fun h44 => ?_) (fun h44 => ?_)
          · skip
            refine s_iconst (pc := 51) C dX2_possibleAt_51 ?_
            refine s_isub (pc := 52) C dX2_possibleAt_52 ?_
            refine s_istore_n (pc := 53) C [(2, vI (lf - 0)), (0, .ref (ad 29)), (1, vI k), (3, vI g)] dX2_possibleAt_53 (by decide) rfl ?_
            refine s_iinc (pc := 54) C [(3, vI (g + 1)), (2, vI (lf - 0)), (0, .ref (ad 29)), (1, vI k)] dX2_possibleAt_54 3 rfl (by decide) rfl ?_
            refine s_goto (pc := 57) C (tgt := 4) dX2_possibleAt_57 (by decide) ?_
            refine s_sub C [2, 3, 1, 0] [(0, .ref (ad 29)), (1, vI k), (2, vI (lf - 0)), (3, vI (g + 1))] rfl ?_
            have hi4 : 0 ≤ (g + 1) ∧ (g + 1) ≤ 100 ∧ -2147483648 ≤ (lf - 0) ∧ (lf - 0) ≤ 2147483647 := (by first | omega | assumption | (constructor <;> omega) | (refine ⟨⟨?_, ?_⟩, ?_⟩ <;> omega) | (simp [hs_ss, hs_up]; omega) | (simp [hs_ss, hs_up]; done))
            exact ih4 (g + 1, lf - 0) (by first | omega | (simp only []; omega)) hi4
          · skip
            refine s_iconst (pc := 47) C dX2_possibleAt_47 ?_
            refine s_goto (pc := 48) C (tgt := 52) dX2_possibleAt_48 (by decide) ?_
            refine s_isub (pc := 52) C dX2_possibleAt_52 ?_
            refine s_istore_n (pc := 53) C [(2, vI (lf - 1)), (0, .ref (ad 29)), (1, vI k), (3, vI g)] dX2_possibleAt_53 (by decide) rfl ?_
            refine s_iinc (pc := 54) C [(3, vI (g + 1)), (2, vI (lf - 1)), (0, .ref (ad 29)), (1, vI k)] dX2_possibleAt_54 3 rfl (by decide) rfl ?_
            refine s_goto (pc := 57) C (tgt := 4) dX2_possibleAt_57 (by decide) ?_
            refine s_sub C [2, 3, 1, 0] [(0, .ref (ad 29)), (1, vI k), (2, vI (lf - 1)), (3, vI (g + 1))] rfl ?_
            have hi4 : 0 ≤ (g + 1) ∧ (g + 1) ≤ 100 ∧ -2147483648 ≤ (lf - 1) ∧ (lf - 1) ≤ 2147483647 := (by first | omega | assumption | (constructor <;> omega) | (refine ⟨⟨?_, ?_⟩, ?_⟩ <;> omega) | (simp [hs_ss, hs_up]; omega) | (simp [hs_ss, hs_up]; done))
            exact ih4 (g + 1, lf - 1) (by first | omega | (simp only []; omega)) hi4
        · skip
          refine s_iload_n (pc := 35) C dX2_possibleAt_35 3 rfl ?_
          refine s_iret (pc := 36) C dX2_possibleAt_36 ?_
          refine ⟨_, rfl, ?_⟩
          exact ⟨rfl, by first | omega | assumption | (constructor <;> omega) | (refine ⟨⟨?_, ?_⟩, ?_⟩ <;> omega) | (simp [hs_ss, hs_up]; omega) | (simp [hs_ss, hs_up]; done)⟩
set_option maxHeartbeats 4000000 in
set_option maxRecDepth 100000 in
theorem c_X2_lastFrom (l : Launch) (a : Int) (ha : 0 ≤ a ∧ a ≤ 99) : hs_Met l yX2_lastFrom cX2_lastFrom 2 (some .int) 1 SHX (fun ad => [.ref (ad 29), vI a]) (fun σ => GX σ σ) (hs_PI (fun σ z σ1 => σ = σ1 ∧ 0 ≤ z ∧ z ≤ 200)) := by
  refine hs_from pfX2_lastFrom (fun _ => Nat.le_of_ble_eq_true rfl) ?_
  intro p e s m args below meth c D dA ad A σ C hpre
  have C : hs_C p s m args meth c D dA SHX ad A 2 cX2_lastFrom RX2 (some .int) := C
  have g0 := hpre
  show hs_Wd p l e 1 s m args below meth c D dA SHX ad A 2 (hs_PI (fun σ z σ1 => σ = σ1 ∧ 0 ≤ z ∧ z ≤ 200) σ) 0 [(0, .ref (ad 29)), (1, vI a)] [] σ
  refine s_iload_n (pc := 0) C dX2_lastFrom_0 1 rfl ?_
  refine s_aload_n (pc := 1) C dX2_lastFrom_1 0 rfl ?_
  refine s_getr (q := 29) (ci := 2) (N := 6) (CN := RX2) (T := TX2) (pc := 2) C 0 dX2_lastFrom_2 wlX2_19 rfl rfl rfl wfX2 (by decide) rfl ?_
  refine s_getrN (q := 2) (ci := 5) (N := 3) (CN := RX5) (T := TX5) (pc := 5) C 0 dX2_lastFrom_5 wlX2_27 rfl rfl rfl wfX5 (by decide) rfl ?_
  refine s_getiN (q := 3) (ci := 8) (N := 7) (CN := RX8) (T := TX8) (pc := 8) C 3 dX2_lastFrom_8 wlX2_33 rfl rfl rfl wfX8 (by decide) rfl (σ 3 3) rfl ?_
  have b8 : (10 : Int) ≤ σ 3 3 ∧ σ 3 3 ≤ 100 := g0.1 3 3
  refine s_iadd (pc := 11) C dX2_lastFrom_11 ?_
  refine s_aload_n (pc := 12) C dX2_lastFrom_12 0 rfl ?_
  refine s_geti (q := 29) (ci := 2) (N := 6) (CN := RX2) (T := TX2) (pc := 13) C 5 dX2_lastFrom_13 wlX2_81 rfl rfl rfl wfX2 (by decide) rfl (σ 29 5) rfl ?_
  have b13 : (0 : Int) ≤ σ 29 5 ∧ σ 29 5 ≤ 3 := g0.1 29 5
  refine s_isub (pc := 16) C dX2_lastFrom_16 ?_
  refine s_iconst (pc := 17) C dX2_lastFrom_17 ?_
  refine s_isub (pc := 18) C dX2_lastFrom_18 ?_
  refine s_iret (pc := 19) C dX2_lastFrom_19 ?_
  refine ⟨_, rfl, ?_⟩
  exact ⟨rfl, by first | omega | assumption | (constructor <;> omega) | (refine ⟨⟨?_, ?_⟩, ?_⟩ <;> omega) | (simp [hs_ss, hs_up]; omega) | (simp [hs_ss, hs_up]; done)⟩
set_option maxHeartbeats 4000000 in
set_option maxRecDepth 100000 in
theorem c_X2_firstOpenBehind (l : Launch) (a b : Int) (ha : -10 ≤ a ∧ a ≤ 99) (hb : 0 ≤ b ∧ b ≤ 200) : hs_Met l yX2_firstOpenBehind cX2_firstOpenBehind 4 (some .int) 3 SHX (fun ad => [.ref (ad 29), vI a, vI b]) (fun σ => GX σ σ) (hs_PI (fun σ z σ1 => σ = σ1 ∧ (z = -1 ∨ (a + σ 29 5 + 1 ≤ z ∧ z ≤ b)))) := by
  refine hs_from pfX2_firstOpenBehind (fun _ => Nat.le_of_ble_eq_true rfl) ?_
  intro p e s m args below meth c D dA ad A σ C hpre
  have C : hs_C p s m args meth c D dA SHX ad A 4 cX2_firstOpenBehind RX2 (some .int) := C
  have g0 := hpre
  have b5 : (0 : Int) ≤ σ 29 5 ∧ σ 29 5 ≤ 3 := g0.1 29 5
  have b33 : (10 : Int) ≤ σ 3 3 ∧ σ 3 3 ≤ 100 := g0.1 3 3
  show hs_Wd p l e 3 s m args below meth c D dA SHX ad A 4 (hs_PI (fun σ z σ1 => σ = σ1 ∧ (z = -1 ∨ (a + σ 29 5 + 1 ≤ z ∧ z ≤ b))) σ) 0 [(0, .ref (ad 29)), (1, vI a), (2, vI b)] [] σ
  refine s_iload_n (pc := 0) C dX2_firstOpenBehind_0 1 rfl ?_
  refine s_aload_n (pc := 1) C dX2_firstOpenBehind_1 0 rfl ?_
  refine s_geti (q := 29) (ci := 2) (N := 6) (CN := RX2) (T := TX2) (pc := 2) C 5 dX2_firstOpenBehind_2 wlX2_81 rfl rfl rfl wfX2 (by decide) rfl (σ 29 5) rfl ?_
  have b2 : (0 : Int) ≤ σ 29 5 ∧ σ 29 5 ≤ 3 := g0.1 29 5
  refine s_iadd (pc := 5) C dX2_firstOpenBehind_5 ?_
  refine s_iconst (pc := 6) C dX2_firstOpenBehind_6 ?_
  refine s_iadd (pc := 7) C dX2_firstOpenBehind_7 ?_
  refine s_istore_n (pc := 8) C [(3, vI ((a + (σ 29 5)) + 1)), (0, .ref (ad 29)), (1, vI a), (2, vI b)] dX2_firstOpenBehind_8 (by decide) rfl ?_
  refine s_sub C [1, 2, 3, 0] [(0, .ref (ad 29)), (1, vI a), (2, vI b), (3, vI ((a + (σ 29 5)) + 1))] rfl ?_
  have hi9 : a + σ 29 5 + 1 ≤ ((a + (σ 29 5)) + 1) ∧ ((a + (σ 29 5)) + 1) ≤ 201 := (by first | omega | assumption | (constructor <;> omega) | (refine ⟨⟨?_, ?_⟩, ?_⟩ <;> omega) | (simp [hs_ss, hs_up]; omega) | (simp [hs_ss, hs_up]; done))
  refine hs_loop (α := Int) (fun x_ => (a + σ 29 5 + 1 ≤ x_ ∧ x_ ≤ 201) → hs_Wd p l e 3 s m args below meth c D dA SHX ad A 4 (hs_PI (fun σ z σ1 => σ = σ1 ∧ (z = -1 ∨ (a + σ 29 5 + 1 ≤ z ∧ z ≤ b))) σ) 9 [(0, .ref (ad 29)), (1, vI a), (2, vI b), (3, vI x_)] [] σ) (fun x_ => (202 - x_).toNat) ?_ ((a + (σ 29 5)) + 1) hi9
  rintro g ih9 hinv
  replace hinv : a + σ 29 5 + 1 ≤ g ∧ g ≤ 201 := hinv
  show hs_Wd p l e 3 s m args below meth c D dA SHX ad A 4 (hs_PI (fun σ z σ1 => σ = σ1 ∧ (z = -1 ∨ (a + σ 29 5 + 1 ≤ z ∧ z ≤ b))) σ) 9 [(0, .ref (ad 29)), (1, vI a), (2, vI b), (3, vI g)] [] σ
  refine s_iload_n (pc := 9) C dX2_firstOpenBehind_9 3 rfl ?_
  refine s_iload_n (pc := 10) C dX2_firstOpenBehind_10 2 rfl ?_
  refine s_icmp_gt (pc := 11) C (tgt := 41) dX2_firstOpenBehind_11 (by decide) ⟨by omega, by omega⟩ ⟨by omega, by omega⟩ (fun h11 => ?_) (fun h11 => ?_)
  · skip
    refine s_iconst (pc := 41) C dX2_firstOpenBehind_41 ?_
    refine s_iret (pc := 42) C dX2_firstOpenBehind_42 ?_
    refine ⟨_, rfl, ?_⟩
    exact ⟨rfl, by first | omega | assumption | (constructor <;> omega) | (refine ⟨⟨?_, ?_⟩, ?_⟩ <;> omega) | (simp [hs_ss, hs_up]; omega) | (simp [hs_ss, hs_up]; done)⟩
  · skip
    refine s_aload_n (pc := 14) C dX2_firstOpenBehind_14 0 rfl ?_
    refine s_getr (q := 29) (ci := 2) (N := 6) (CN := RX2) (T := TX2) (pc := 15) C 2 dX2_firstOpenBehind_15 wlX2_9 rfl rfl rfl wfX2 (by decide) rfl ?_
    refine s_aload_n (pc := 18) C dX2_firstOpenBehind_18 0 rfl ?_
    refine s_getr (q := 29) (ci := 2) (N := 6) (CN := RX2) (T := TX2) (pc := 19) C 0 dX2_firstOpenBehind_19 wlX2_19 rfl rfl rfl wfX2 (by decide) rfl ?_
    refine s_getrN (q := 2) (ci := 5) (N := 3) (CN := RX5) (T := TX5) (pc := 22) C 0 dX2_firstOpenBehind_22 wlX2_27 rfl rfl rfl wfX5 (by decide) rfl ?_
    refine s_iload_n (pc := 25) C dX2_firstOpenBehind_25 3 rfl ?_
    refine s_callVNi (pc := 26) C (c_X8_wrap l 3 (Or.inl rfl) g ⟨by omega, by omega⟩) [vI g] [.ref (ad 30)] rfl rfl dX2_firstOpenBehind_26 wlX2_99 wiX8_wrap weX8_wrap wcX8_wrap wnX8 noX8_wrap (by decide) (by decide) (Nat.le_of_ble_eq_true rfl) (gx_self g0) rfl rfl ?_
    rintro z26 _ ⟨rfl, k26⟩
    show hs_Wd _ _ _ _ _ _ _ _ _ _ _ _ _ _ _ _ _ 29 _ [vI z26, .ref (ad 30)] σ
    refine s_zald (q := 30) (n := 100) (pc := 29) C (σ 30 z26.toNat) rfl dX2_firstOpenBehind_29 rfl (by omega) (by omega) (by decide) ?_
    have b29 : (0 : Int) ≤ σ 30 z26.toNat ∧ σ 30 z26.toNat ≤ 1 := g0.1 30 z26.toNat
    refine s_if_eq (pc := 30) C (tgt := 35) dX2_firstOpenBehind_30 (by decide) ⟨by omega, by omega⟩ (fun h30 => ?_) (fun h30 => ?_)
    · skip
      refine s_iinc (pc := 35) C [(3, vI (g + 1)), (0, .ref (ad 29)), (1, vI a), (2, vI b)] dX2_firstOpenBehind_35 3 rfl (by decide) rfl ?_
      refine s_goto (pc := 38) C (tgt := 9) dX2_firstOpenBehind_38 (by decide) ?_
      refine s_sub C [1, 2, 3, 0] [(0, .ref (ad 29)), (1, vI a), (2, vI b), (3, vI (g + 1))] rfl ?_
      have hi9 : a + σ 29 5 + 1 ≤ (g + 1) ∧ (g + 1) ≤ 201 := (by first | omega | assumption | (constructor <;> omega) | (refine ⟨⟨?_, ?_⟩, ?_⟩ <;> omega) | (simp [hs_ss, hs_up]; omega) | (simp [hs_ss, hs_up]; done))
      exact ih9 (g + 1) (by first | omega | (simp only []; omega)) hi9
    · skip
      refine s_iload_n (pc := 33) C dX2_firstOpenBehind_33 3 rfl ?_
      refine s_iret (pc := 34) C dX2_firstOpenBehind_34 ?_
      refine ⟨_, rfl, ?_⟩
      exact ⟨rfl, by first | omega | assumption | (constructor <;> omega) | (refine ⟨⟨?_, ?_⟩, ?_⟩ <;> omega) | (simp [hs_ss, hs_up]; omega) | (simp [hs_ss, hs_up]; done)⟩
set_option maxHeartbeats 4000000 in
set_option maxRecDepth 100000 in
theorem c_X2_farthestFor (l : Launch) (a : Int) (ha : -10 ≤ a ∧ a ≤ 300) : hs_Met l yX2_farthestFor cX2_farthestFor 2 (some .int) 2 SHX (fun ad => [.ref (ad 29), vI a]) (fun σ => GX σ σ) (hs_PI (fun σ z σ1 => σ = σ1 ∧ (a ≤ z ∨ 9 ≤ z) ∧ z ≤ 99)) := by
  refine hs_from pfX2_farthestFor (fun _ => Nat.le_of_ble_eq_true rfl) ?_
  intro p e s m args below meth c D dA ad A σ C hpre
  have C : hs_C p s m args meth c D dA SHX ad A 2 cX2_farthestFor RX2 (some .int) := C
  have g0 := hpre
  have b5 : (0 : Int) ≤ σ 29 5 ∧ σ 29 5 ≤ 3 := g0.1 29 5
  have b33 : (10 : Int) ≤ σ 3 3 ∧ σ 3 3 ≤ 100 := g0.1 3 3
  show hs_Wd p l e 2 s m args below meth c D dA SHX ad A 2 (hs_PI (fun σ z σ1 => σ = σ1 ∧ (a ≤ z ∨ 9 ≤ z) ∧ z ≤ 99) σ) 0 [(0, .ref (ad 29)), (1, vI a)] [] σ
  refine s_iload_n (pc := 0) C dX2_farthestFor_0 1 rfl ?_
  refine s_aload_n (pc := 1) C dX2_farthestFor_1 0 rfl ?_
  refine s_geti (q := 29) (ci := 2) (N := 6) (CN := RX2) (T := TX2) (pc := 2) C 5 dX2_farthestFor_2 wlX2_81 rfl rfl rfl wfX2 (by decide) rfl (σ 29 5) rfl ?_
  have b2 : (0 : Int) ≤ σ 29 5 ∧ σ 29 5 ≤ 3 := g0.1 29 5
  refine s_iadd (pc := 5) C dX2_farthestFor_5 ?_
  refine s_aload_n (pc := 6) C dX2_farthestFor_6 0 rfl ?_
  refine s_getr (q := 29) (ci := 2) (N := 6) (CN := RX2) (T := TX2) (pc := 7) C 0 dX2_farthestFor_7 wlX2_19 rfl rfl rfl wfX2 (by decide) rfl ?_
  refine s_getrN (q := 2) (ci := 5) (N := 3) (CN := RX5) (T := TX5) (pc := 10) C 0 dX2_farthestFor_10 wlX2_27 rfl rfl rfl wfX5 (by decide) rfl ?_
  refine s_getiN (q := 3) (ci := 8) (N := 7) (CN := RX8) (T := TX8) (pc := 13) C 3 dX2_farthestFor_13 wlX2_33 rfl rfl rfl wfX8 (by decide) rfl (σ 3 3) rfl ?_
  have b13 : (10 : Int) ≤ σ 3 3 ∧ σ 3 3 ≤ 100 := g0.1 3 3
  refine s_iconst (pc := 16) C dX2_farthestFor_16 ?_
  refine s_isub (pc := 17) C dX2_farthestFor_17 ?_
  refine s_callSi (pc := 18) C (c_J9_min_7cf53 l (a + (σ 29 5)) ((σ 3 3) - 1) ⟨by omega, by omega⟩ ⟨by omega, by omega⟩) [vI (a + (σ 29 5)), vI ((σ 3 3) - 1)] [] rfl rfl dX2_farthestFor_18 wlX2_108 wtJ9_min_7cf53 wcJ9_min_7cf53 wnJ9 noJ9_min_7cf53 (by decide) (by decide) (Nat.le_of_ble_eq_true rfl) (by first | omega | assumption | (constructor <;> omega) | (refine ⟨⟨?_, ?_⟩, ?_⟩ <;> omega) | (simp [hs_ss, hs_up]; omega) | (simp [hs_ss, hs_up]; done)) ?_
  rintro _ _ ⟨rfl, rfl⟩
  show hs_Wd _ _ _ _ _ _ _ _ _ _ _ _ _ _ _ _ _ 21 _ [vI (min (a + ((σ 29 5))) (((σ 3 3)) - 1))] σ
  refine s_iret (pc := 21) C dX2_farthestFor_21 ?_
  refine ⟨_, rfl, ?_⟩
  exact ⟨rfl, by first | omega | assumption | (constructor <;> omega) | (refine ⟨⟨?_, ?_⟩, ?_⟩ <;> omega) | (simp [hs_ss, hs_up]; omega) | (simp [hs_ss, hs_up]; done)⟩
set_option maxHeartbeats 4000000 in
set_option maxRecDepth 100000 in
theorem c_X2_fewestBehind (l : Launch) (a b : Int) (ha : -10 ≤ a ∧ a ≤ 99) (hb : 0 ≤ b ∧ b ≤ 200) : hs_Met l yX2_fewestBehind cX2_fewestBehind 6 (some .int) 4 SHX (fun ad => [.ref (ad 29), vI a, vI b]) (fun σ => GX σ σ) (hs_PI (fun σ z σ1 => σ = σ1 ∧ 0 ≤ z ∧ z ≤ 1000)) := by
  refine hs_from pfX2_fewestBehind (fun _ => Nat.le_of_ble_eq_true rfl) ?_
  intro p e s m args below meth c D dA ad A σ C hpre
  have C : hs_C p s m args meth c D dA SHX ad A 6 cX2_fewestBehind RX2 (some .int) := C
  have g0 := hpre
  have b5 : (0 : Int) ≤ σ 29 5 ∧ σ 29 5 ≤ 3 := g0.1 29 5
  have b33 : (10 : Int) ≤ σ 3 3 ∧ σ 3 3 ≤ 100 := g0.1 3 3
  show hs_Wd p l e 4 s m args below meth c D dA SHX ad A 6 (hs_PI (fun σ z σ1 => σ = σ1 ∧ 0 ≤ z ∧ z ≤ 1000) σ) 0 [(0, .ref (ad 29)), (1, vI a), (2, vI b)] [] σ
  refine s_iload_n (pc := 0) C dX2_fewestBehind_0 1 rfl ?_
  refine s_istore_n (pc := 1) C [(3, vI a), (0, .ref (ad 29)), (1, vI a), (2, vI b)] dX2_fewestBehind_1 (by decide) rfl ?_
  refine s_iconst (pc := 2) C dX2_fewestBehind_2 ?_
  refine s_istore (pc := 3) C [(4, vI 0), (3, vI a), (0, .ref (ad 29)), (1, vI a), (2, vI b)] dX2_fewestBehind_3 (by decide) rfl ?_
  refine s_sub C [2, 3, 4, 1, 0] [(0, .ref (ad 29)), (1, vI a), (2, vI b), (3, vI a), (4, vI 0)] rfl ?_
  have hi5 : 0 ≤ (0 : Int) ∧ (0 : Int) ≤ 101 ∧ -10 ≤ a ∧ a ≤ 99 := (by first | omega | assumption | (constructor <;> omega) | (refine ⟨⟨?_, ?_⟩, ?_⟩ <;> omega) | (simp [hs_ss, hs_up]; omega) | (simp [hs_ss, hs_up]; done))
  refine hs_loop (α := Int × Int) (fun x_ => (0 ≤ x_.1 ∧ x_.1 ≤ 101 ∧ -10 ≤ x_.2 ∧ x_.2 ≤ 99) → hs_Wd p l e 4 s m args below meth c D dA SHX ad A 6 (hs_PI (fun σ z σ1 => σ = σ1 ∧ 0 ≤ z ∧ z ≤ 1000) σ) 5 [(0, .ref (ad 29)), (1, vI a), (2, vI b), (3, vI x_.2), (4, vI x_.1)] [] σ) (fun x_ => (102 - x_.1).toNat) ?_ (0, a) hi5
  rintro ⟨k, x⟩ ih5 hinv
  replace hinv : 0 ≤ k ∧ k ≤ 101 ∧ -10 ≤ x ∧ x ≤ 99 := hinv
  show hs_Wd p l e 4 s m args below meth c D dA SHX ad A 6 (hs_PI (fun σ z σ1 => σ = σ1 ∧ 0 ≤ z ∧ z ≤ 1000) σ) 5 [(0, .ref (ad 29)), (1, vI a), (2, vI b), (3, vI x), (4, vI k)] [] σ
  refine s_iload (pc := 5) C dX2_fewestBehind_5 4 rfl ?_
  refine s_bipush (pc := 7) C dX2_fewestBehind_7 (by decide) ?_
  refine s_icmp_gt (pc := 9) C (tgt := 66) dX2_fewestBehind_9 (by decide) ⟨by omega, by omega⟩ ⟨by decide, by decide⟩ (fun h9 => ?_) (fun h9 => ?_)
  · skip
    refine s_sipush (pc := 66) C dX2_fewestBehind_66 (by decide) ?_
    refine s_iret (pc := 69) C dX2_fewestBehind_69 ?_
    refine ⟨_, rfl, ?_⟩
    exact ⟨rfl, by first | omega | assumption | (constructor <;> omega) | (refine ⟨⟨?_, ?_⟩, ?_⟩ <;> omega) | (simp [hs_ss, hs_up]; omega) | (simp [hs_ss, hs_up]; done)⟩
  · skip
    refine s_aload_n (pc := 12) C dX2_fewestBehind_12 0 rfl ?_
    refine s_iload_n (pc := 13) C dX2_fewestBehind_13 3 rfl ?_
    refine s_iload_n (pc := 14) C dX2_fewestBehind_14 2 rfl ?_
    refine s_callVi (pc := 15) C (c_X2_firstOpenBehind l x b (by first | omega | assumption | (constructor <;> omega) | (refine ⟨⟨?_, ?_⟩, ?_⟩ <;> omega) | (simp [hs_ss, hs_up]; omega) | (simp [hs_ss, hs_up]; done)) (by first | omega | assumption | (constructor <;> omega) | (refine ⟨⟨?_, ?_⟩, ?_⟩ <;> omega) | (simp [hs_ss, hs_up]; omega) | (simp [hs_ss, hs_up]; done))) [vI x, vI b] [] rfl rfl dX2_fewestBehind_15 wlX2_102 wiX2_firstOpenBehind weX2_firstOpenBehind wcX2_firstOpenBehind wnX2 noX2_firstOpenBehind (by decide) (by decide) (Nat.le_of_ble_eq_true rfl) (gx_self g0) rfl rfl ?_
    rintro z15 _ ⟨rfl, k15⟩
    show hs_Wd _ _ _ _ _ _ _ _ _ _ _ _ _ _ _ _ _ 18 _ [vI z15] σ
    refine s_istore (pc := 18) C [(5, vI z15), (0, .ref (ad 29)), (1, vI a), (2, vI b), (3, vI x), (4, vI k)] dX2_fewestBehind_18 (by decide) rfl ?_
    refine s_iload (pc := 20) C dX2_fewestBehind_20 0 rfl ?_
    refine s_iconst (pc := 22) C dX2_fewestBehind_22 ?_
    refine s_icmp_ne (pc := 23) C (tgt := 29) dX2_fewestBehind_23 (by decide) ⟨by omega, by omega⟩ ⟨by decide, by decide⟩ (fun h23 => ?_) (fun h23 => ?_)
    · skip
      refine s_iload (pc := 29) C dX2_fewestBehind_29 0 rfl ?_
      refine s_aload_n (pc := 31) C dX2_fewestBehind_31 1 rfl ?_
      refine s_geti (q := 29) (ci := 2) (N := 6) (CN := RX2) (T := TX2) (pc := 32) C 5 dX2_fewestBehind_32 wlX2_81 rfl rfl rfl wfX2 (by decide) rfl (σ 29 5) rfl ?_
      have b32 : (0 : Int) ≤ σ 29 5 ∧ σ 29 5 ≤ 3 := g0.1 29 5
      refine s_isub (pc := 35) C dX2_fewestBehind_35 ?_
      refine s_aload_n (pc := 36) C dX2_fewestBehind_36 1 rfl ?_
      refine s_getr (q := 29) (ci := 2) (N := 6) (CN := RX2) (T := TX2) (pc := 37) C 0 dX2_fewestBehind_37 wlX2_19 rfl rfl rfl wfX2 (by decide) rfl ?_
      refine s_getrN (q := 2) (ci := 5) (N := 3) (CN := RX5) (T := TX5) (pc := 40) C 0 dX2_fewestBehind_40 wlX2_27 rfl rfl rfl wfX5 (by decide) rfl ?_
      refine s_getiN (q := 3) (ci := 8) (N := 7) (CN := RX8) (T := TX8) (pc := 43) C 3 dX2_fewestBehind_43 wlX2_33 rfl rfl rfl wfX8 (by decide) rfl (σ 3 3) rfl ?_
      have b43 : (10 : Int) ≤ σ 3 3 ∧ σ 3 3 ≤ 100 := g0.1 3 3
      refine s_icmp_lt (pc := 46) C (tgt := 53) dX2_fewestBehind_46 (by decide) ⟨by omega, by omega⟩ ⟨by omega, by omega⟩ (fun h46 => ?_) (fun h46 => ?_)
      · skip
        refine s_aload_n (pc := 53) C dX2_fewestBehind_53 1 rfl ?_
        refine s_iload (pc := 54) C dX2_fewestBehind_54 0 rfl ?_
        refine s_callVi (pc := 56) C (c_X2_farthestFor l z15 (by first | omega | assumption | (constructor <;> omega) | (refine ⟨⟨?_, ?_⟩, ?_⟩ <;> omega) | (simp [hs_ss, hs_up]; omega) | (simp [hs_ss, hs_up]; done))) [vI z15] [] rfl rfl dX2_fewestBehind_56 wlX2_105 wiX2_farthestFor weX2_farthestFor wcX2_farthestFor wnX2 noX2_farthestFor (by decide) (by decide) (Nat.le_of_ble_eq_true rfl) (gx_self g0) rfl rfl ?_
        rintro z56 _ ⟨rfl, k56⟩
        show hs_Wd _ _ _ _ _ _ _ _ _ _ _ _ _ _ _ _ _ 59 _ [vI z56] σ
        refine s_istore_n (pc := 59) C [(3, vI z56), (5, vI z15), (0, .ref (ad 29)), (1, vI a), (2, vI b), (4, vI k)] dX2_fewestBehind_59 (by decide) rfl ?_
        refine s_iinc (pc := 60) C [(4, vI (k + 1)), (3, vI z56), (5, vI z15), (0, .ref (ad 29)), (1, vI a), (2, vI b)] dX2_fewestBehind_60 5 rfl (by decide) rfl ?_
        refine s_goto (pc := 63) C (tgt := 5) dX2_fewestBehind_63 (by decide) ?_
        refine s_sub C [3, 4, 5, 1, 0] [(0, .ref (ad 29)), (1, vI a), (2, vI b), (3, vI z56), (4, vI (k + 1))] rfl ?_
        have hi5 : 0 ≤ (k + 1) ∧ (k + 1) ≤ 101 ∧ -10 ≤ z56 ∧ z56 ≤ 99 := (by first | omega | assumption | (constructor <;> omega) | (refine ⟨⟨?_, ?_⟩, ?_⟩ <;> omega) | (simp [hs_ss, hs_up]; omega) | (simp [hs_ss, hs_up]; done))
        exact ih5 (k + 1, z56) (by first | omega | (simp only []; omega)) hi5
      · skip
        refine s_sipush (pc := 49) C dX2_fewestBehind_49 (by decide) ?_
        refine s_iret (pc := 52) C dX2_fewestBehind_52 ?_
        refine ⟨_, rfl, ?_⟩
        exact ⟨rfl, by first | omega | assumption | (constructor <;> omega) | (refine ⟨⟨?_, ?_⟩, ?_⟩ <;> omega) | (simp [hs_ss, hs_up]; omega) | (simp [hs_ss, hs_up]; done)⟩
    · skip
      refine s_iload (pc := 26) C dX2_fewestBehind_26 5 rfl ?_
      refine s_iret (pc := 28) C dX2_fewestBehind_28 ?_
      refine ⟨_, rfl, ?_⟩
      exact ⟨rfl, by first | omega | assumption | (constructor <;> omega) | (refine ⟨⟨?_, ?_⟩, ?_⟩ <;> omega) | (simp [hs_ss, hs_up]; omega) | (simp [hs_ss, hs_up]; done)⟩
set_option maxHeartbeats 4000000 in
set_option maxRecDepth 100000 in
theorem c_X2_nextPlace (l : Launch) (a b : Int) (ha : -10 ≤ a ∧ a ≤ 99) (hb : 0 ≤ b ∧ b ≤ 200) (n : Int) (hn : -1001 ≤ n ∧ n ≤ 1001) : hs_Met l yX2_nextPlace cX2_nextPlace 7 (some .int) 5 SHX (fun ad => [.ref (ad 29), vI a, vI b, vI n]) (fun σ => GX σ σ) (hs_PI (fun σ z σ1 => σ = σ1 ∧ -10 ≤ z ∧ z ≤ 99)) := by
  refine hs_from pfX2_nextPlace (fun _ => Nat.le_of_ble_eq_true rfl) ?_
  intro p e s m args below meth c D dA ad A σ C hpre
  have C : hs_C p s m args meth c D dA SHX ad A 7 cX2_nextPlace RX2 (some .int) := C
  have g0 := hpre
  have b5 : (0 : Int) ≤ σ 29 5 ∧ σ 29 5 ≤ 3 := g0.1 29 5
  have b33 : (10 : Int) ≤ σ 3 3 ∧ σ 3 3 ≤ 100 := g0.1 3 3
  show hs_Wd p l e 5 s m args below meth c D dA SHX ad A 7 (hs_PI (fun σ z σ1 => σ = σ1 ∧ -10 ≤ z ∧ z ≤ 99) σ) 0 [(0, .ref (ad 29)), (1, vI a), (2, vI b), (3, vI n)] [] σ
  refine s_aload_n (pc := 0) C dX2_nextPlace_0 0 rfl ?_
  refine s_iload_n (pc := 1) C dX2_nextPlace_1 1 rfl ?_
  refine s_iload_n (pc := 2) C dX2_nextPlace_2 2 rfl ?_
  refine s_callVi (pc := 3) C (c_X2_firstOpenBehind l a b (by first | omega | assumption | (constructor <;> omega) | (refine ⟨⟨?_, ?_⟩, ?_⟩ <;> omega) | (simp [hs_ss, hs_up]; omega) | (simp [hs_ss, hs_up]; done)) (by first | omega | assumption | (constructor <;> omega) | (refine ⟨⟨?_, ?_⟩, ?_⟩ <;> omega) | (simp [hs_ss, hs_up]; omega) | (simp [hs_ss, hs_up]; done))) [vI a, vI b] [] rfl rfl dX2_nextPlace_3 wlX2_102 wiX2_firstOpenBehind weX2_firstOpenBehind wcX2_firstOpenBehind wnX2 noX2_firstOpenBehind (by decide) (by decide) (Nat.le_of_ble_eq_true rfl) (gx_self g0) rfl rfl ?_
  rintro z3 _ ⟨rfl, k3⟩
  show hs_Wd _ _ _ _ _ _ _ _ _ _ _ _ _ _ _ _ _ 6 _ [vI z3] σ
  refine s_istore (pc := 6) C [(4, vI z3), (0, .ref (ad 29)), (1, vI a), (2, vI b), (3, vI n)] dX2_nextPlace_6 (by decide) rfl ?_
  refine s_aload_n (pc := 8) C dX2_nextPlace_8 1 rfl ?_
  refine s_iload (pc := 9) C dX2_nextPlace_9 0 rfl ?_
  refine s_callVi (pc := 11) C (c_X2_farthestFor l z3 (by first | omega | assumption | (constructor <;> omega) | (refine ⟨⟨?_, ?_⟩, ?_⟩ <;> omega) | (simp [hs_ss, hs_up]; omega) | (simp [hs_ss, hs_up]; done))) [vI z3] [] rfl rfl dX2_nextPlace_11 wlX2_105 wiX2_farthestFor weX2_farthestFor wcX2_farthestFor wnX2 noX2_farthestFor (by decide) (by decide) (Nat.le_of_ble_eq_true rfl) (gx_self g0) rfl rfl ?_
  rintro z11 _ ⟨rfl, k11⟩
  show hs_Wd _ _ _ _ _ _ _ _ _ _ _ _ _ _ _ _ _ 14 _ [vI z11] σ
  refine s_istore (pc := 14) C [(5, vI z11), (4, vI z3), (0, .ref (ad 29)), (1, vI a), (2, vI b), (3, vI n)] dX2_nextPlace_14 (by decide) rfl ?_
  refine s_iload (pc := 16) C dX2_nextPlace_16 1 rfl ?_
  refine s_aload_n (pc := 18) C dX2_nextPlace_18 2 rfl ?_
  refine s_geti (q := 29) (ci := 2) (N := 6) (CN := RX2) (T := TX2) (pc := 19) C 5 dX2_nextPlace_19 wlX2_81 rfl rfl rfl wfX2 (by decide) rfl (σ 29 5) rfl ?_
  have b19 : (0 : Int) ≤ σ 29 5 ∧ σ 29 5 ≤ 3 := g0.1 29 5
  refine s_isub (pc := 22) C dX2_nextPlace_22 ?_
  refine s_istore (pc := 23) C [(6, vI (z3 - (σ 29 5))), (5, vI z11), (4, vI z3), (0, .ref (ad 29)), (1, vI a), (2, vI b), (3, vI n)] dX2_nextPlace_23 (by decide) rfl ?_
  refine s_sub C [3, 4, 5, 6, 2, 1, 0] [(0, .ref (ad 29)), (1, vI a), (2, vI b), (3, vI n), (4, vI z3), (5, vI z11), (6, vI (z3 - (σ 29 5)))] rfl ?_
  have hi25 : -10 ≤ (z3 - (σ 29 5)) ∧ (z3 - (σ 29 5)) ≤ 200 := (by first | omega | assumption | (constructor <;> omega) | (refine ⟨⟨?_, ?_⟩, ?_⟩ <;> omega) | (simp [hs_ss, hs_up]; omega) | (simp [hs_ss, hs_up]; done))
  refine hs_loop (α := Int) (fun x_ => (-10 ≤ x_ ∧ x_ ≤ 200) → hs_Wd p l e 5 s m args below meth c D dA SHX ad A 7 (hs_PI (fun σ z σ1 => σ = σ1 ∧ -10 ≤ z ∧ z ≤ 99) σ) 25 [(0, .ref (ad 29)), (1, vI a), (2, vI b), (3, vI n), (4, vI z3), (5, vI z11), (6, vI x_)] [] σ) (fun x_ => (300 - x_).toNat) ?_ (z3 - (σ 29 5)) hi25
  rintro x ih25 hinv
  replace hinv : -10 ≤ x ∧ x ≤ 200 := hinv
  show hs_Wd p l e 5 s m args below meth c D dA SHX ad A 7 (hs_PI (fun σ z σ1 => σ = σ1 ∧ -10 ≤ z ∧ z ≤ 99) σ) 25 [(0, .ref (ad 29)), (1, vI a), (2, vI b), (3, vI n), (4, vI z3), (5, vI z11), (6, vI x)] [] σ
  refine s_iload (pc := 25) C dX2_nextPlace_25 6 rfl ?_
  refine s_iload (pc := 27) C dX2_nextPlace_27 5 rfl ?_
  refine s_icmp_ge (pc := 29) C (tgt := 52) dX2_nextPlace_29 (by decide) ⟨by omega, by omega⟩ ⟨by omega, by omega⟩ (fun h29 => ?_) (fun h29 => ?_)
  · skip
    refine s_iload (pc := 52) C dX2_nextPlace_52 5 rfl ?_
    refine s_iret (pc := 54) C dX2_nextPlace_54 ?_
    refine ⟨_, rfl, ?_⟩
    exact ⟨rfl, by first | omega | assumption | (constructor <;> omega) | (refine ⟨⟨?_, ?_⟩, ?_⟩ <;> omega) | (simp [hs_ss, hs_up]; omega) | (simp [hs_ss, hs_up]; done)⟩
  · skip
    refine s_aload_n (pc := 32) C dX2_nextPlace_32 0 rfl ?_
    refine s_iload (pc := 33) C dX2_nextPlace_33 6 rfl ?_
    refine s_iload_n (pc := 35) C dX2_nextPlace_35 2 rfl ?_
    refine s_callVi (pc := 36) C (c_X2_fewestBehind l x b (by first | omega | assumption | (constructor <;> omega) | (refine ⟨⟨?_, ?_⟩, ?_⟩ <;> omega) | (simp [hs_ss, hs_up]; omega) | (simp [hs_ss, hs_up]; done)) (by first | omega | assumption | (constructor <;> omega) | (refine ⟨⟨?_, ?_⟩, ?_⟩ <;> omega) | (simp [hs_ss, hs_up]; omega) | (simp [hs_ss, hs_up]; done))) [vI x, vI b] [] rfl rfl dX2_nextPlace_36 wlX2_92 wiX2_fewestBehind weX2_fewestBehind wcX2_fewestBehind wnX2 noX2_fewestBehind (by decide) (by decide) (Nat.le_of_ble_eq_true rfl) (gx_self g0) rfl rfl ?_
    rintro z36 _ ⟨rfl, k36⟩
    show hs_Wd _ _ _ _ _ _ _ _ _ _ _ _ _ _ _ _ _ 39 _ [vI z36] σ
    refine s_iload_n (pc := 39) C dX2_nextPlace_39 3 rfl ?_
    refine s_icmp_gt (pc := 40) C (tgt := 46) dX2_nextPlace_40 (by decide) ⟨by omega, by omega⟩ ⟨by omega, by omega⟩ (fun h40 => ?_) (fun h40 => ?_)
    · skip
      refine s_iinc (pc := 46) C [(6, vI (x + 1)), (0, .ref (ad 29)), (1, vI a), (2, vI b), (3, vI n), (4, vI z3), (5, vI z11)] dX2_nextPlace_46 6 rfl (by decide) rfl ?_
      refine s_goto (pc := 49) C (tgt := 25) dX2_nextPlace_49 (by decide) ?_
      refine s_sub C [1, 2, 3, 4, 5, 6, 0] [(0, .ref (ad 29)), (1, vI a), (2, vI b), (3, vI n), (4, vI z3), (5, vI z11), (6, vI (x + 1))] rfl ?_
      have hi25 : -10 ≤ (x + 1) ∧ (x + 1) ≤ 200 := (by first | omega | assumption | (constructor <;> omega) | (refine ⟨⟨?_, ?_⟩, ?_⟩ <;> omega) | (simp [hs_ss, hs_up]; omega) | (simp [hs_ss, hs_up]; done))
      exact ih25 (x + 1) (by first | omega | (simp only []; omega)) hi25
    · skip
      refine s_iload (pc := 43) C dX2_nextPlace_43 6 rfl ?_
      refine s_iret (pc := 45) C dX2_nextPlace_45 ?_
      refine ⟨_, rfl, ?_⟩
      exact ⟨rfl, by first | omega | assumption | (constructor <;> omega) | (refine ⟨⟨?_, ?_⟩, ?_⟩ <;> omega) | (simp [hs_ss, hs_up]; omega) | (simp [hs_ss, hs_up]; done)⟩
set_option maxHeartbeats 4000000 in
set_option maxRecDepth 100000 in
theorem c_X2_layOut (l : Launch) (w : Int) (hw : 0 ≤ w ∧ w < 4) : hs_Met l yX2_layOut cX2_layOut 7 none 6 SHX (fun ad => [.ref (ad 29), vI w]) (fun σ => GX σ σ) (hs_PV (fun σ σ1 => GX σ σ1 ∧ FRM PFd σ σ1)) := by
  refine hs_from pfX2_layOut (fun _ => Nat.le_of_ble_eq_true rfl) ?_
  intro p e s m args below meth c D dA ad A σ C hpre
  have C : hs_C p s m args meth c D dA SHX ad A 7 cX2_layOut RX2 none := C
  have g0 := hpre
  have f0 : FRM PFd σ σ := frm_rf
  show hs_Wd p l e 6 s m args below meth c D dA SHX ad A 7 (hs_PV (fun σ σ1 => GX σ σ1 ∧ FRM PFd σ σ1) σ) 0 [(0, .ref (ad 29)), (1, vI w)] [] σ
  refine s_aload_n (pc := 0) C dX2_layOut_0 0 rfl ?_
  refine s_iload_n (pc := 1) C dX2_layOut_1 1 rfl ?_
  refine s_callVv (pc := 2) C (c_X2_weighGates l w (by first | omega | assumption | (constructor <;> omega) | (refine ⟨⟨?_, ?_⟩, ?_⟩ <;> omega) | (simp [hs_ss, hs_up]; omega) | (simp [hs_ss, hs_up]; done))) [vI w] [] rfl rfl dX2_layOut_2 wlX2_77 wiX2_weighGates weX2_weighGates wcX2_weighGates wnX2 noX2_weighGates (by decide) (by decide) (Nat.le_of_ble_eq_true rfl) (gx_self g0) rfl rfl ?_
  rintro σ2 k2
  obtain ⟨kg2, kf2⟩ := k2
  have g2 := gx_trans g0 kg2
  have f2 := frm_tr f0 (frm_mono (Q := PFd) kf2 (fun c j h => by simp [PWg, PFd] at h ⊢ <;> omega))
  show hs_Wd _ _ _ _ _ _ _ _ _ _ _ _ _ _ _ _ _ 5 _ [] σ2
  refine s_aload_n (pc := 5) C dX2_layOut_5 0 rfl ?_
  refine s_aload_n (pc := 6) C dX2_layOut_6 0 rfl ?_
  refine s_getr (q := 29) (ci := 2) (N := 6) (CN := RX2) (T := TX2) (pc := 7) C 0 dX2_layOut_7 wlX2_19 rfl rfl rfl wfX2 (by decide) rfl ?_
  refine s_getrN (q := 2) (ci := 5) (N := 3) (CN := RX5) (T := TX5) (pc := 10) C 1 dX2_layOut_10 wlX2_47 rfl rfl rfl wfX5 (by decide) rfl ?_
  refine s_iload_n (pc := 13) C dX2_layOut_13 1 rfl ?_
  refine s_aldq (q := 7) (pc := 14) C dX2_layOut_14 rfl (by omega) (by show _ < (4 : Int); omega) (by decide) ?_
  rw [show ((_ : List (Nat × Nat)).getD w.toNat (0, 0)).2 = 8 + w.toNat from hs_ref4 (by omega) (by omega)]
  refine s_getiN (q := (8 + w.toNat)) (ci := 9) (N := 9) (CN := RX9) (T := TX9) (pc := 15) C 4 dX2_layOut_15 wlX2_51 (sh_Wh (by omega)) rfl rfl wfX9 (by decide) rfl (σ2 (8 + w.toNat) 4) rfl ?_
  have b15 : (0 : Int) ≤ σ2 (8 + w.toNat) 4 ∧ σ2 (8 + w.toNat) 4 ≤ 3 := gx_w g2 (show (w).toNat < 4 by omega) 4
  refine s_puti (q := 29) (ci := 2) (N := 6) (CN := RX2) (T := TX2) (ty0 := tyX2) (ty := .int) (pc := 18) C 5 dX2_layOut_18 wlX2_81 rfl rfl rfl wfX2 tyX2_ok nmX2 (by decide) rfl rfl rfl (vp_nar_int _) rfl ?_
  have g18 := gx_set (z := (σ2 (8 + w.toNat) 4)) g2 29 5 rfl (0) (3) rfl ⟨by omega, by omega⟩
  have f18 := frm_set (P := PFd) (z := (σ2 (8 + w.toNat) 4)) f2 29 5 rfl
  refine s_aload_n (pc := 21) C dX2_layOut_21 0 rfl ?_
  refine s_iconst (pc := 22) C dX2_layOut_22 ?_
  refine s_puti (q := 29) (ci := 2) (N := 6) (CN := RX2) (T := TX2) (ty0 := tyX2) (ty := .int) (pc := 23) C 4 dX2_layOut_23 wlX2_82 rfl rfl rfl wfX2 tyX2_ok nmX2 (by decide) rfl rfl rfl (vp_nar_int _) rfl ?_
  have g23 := gx_set (z := 0) g18 29 4 rfl (0) (100) rfl ⟨by omega, by omega⟩
  have f23 := frm_set (P := PFd) (z := 0) f18 29 4 rfl
  refine s_aload_n (pc := 26) C dX2_layOut_26 0 rfl ?_
  refine s_callVi (pc := 27) C (c_X2_countPossible l) [] [] rfl rfl dX2_layOut_27 wlX2_85 wiX2_countPossible weX2_countPossible wcX2_countPossible wnX2 noX2_countPossible (by decide) (by decide) (Nat.le_of_ble_eq_true rfl) (gx_self g23) rfl rfl ?_
  rintro z27 _ ⟨rfl, k27⟩
  show hs_Wd _ _ _ _ _ _ _ _ _ _ _ _ _ _ _ _ _ 30 _ [vI z27] (hs_ss (hs_ss σ2 29 5 (σ2 (8 + w.toNat) 4)) 29 4 0)
  refine s_if_ne (pc := 30) C (tgt := 34) dX2_layOut_30 (by decide) ⟨by omega, by omega⟩ (fun h30 => ?_) (fun h30 => ?_)
  · skip
    refine s_aload_n (pc := 34) C dX2_layOut_34 0 rfl ?_
    refine s_getr (q := 29) (ci := 2) (N := 6) (CN := RX2) (T := TX2) (pc := 35) C 0 dX2_layOut_35 wlX2_19 rfl rfl rfl wfX2 (by decide) rfl ?_
    refine s_getrN (q := 2) (ci := 5) (N := 3) (CN := RX5) (T := TX5) (pc := 38) C 0 dX2_layOut_38 wlX2_27 rfl rfl rfl wfX5 (by decide) rfl ?_
    refine s_getiN (q := 3) (ci := 8) (N := 7) (CN := RX8) (T := TX8) (pc := 41) C 3 dX2_layOut_41 wlX2_33 rfl rfl rfl wfX8 (by decide) rfl (σ2 3 3) rfl ?_
    have b41 : (10 : Int) ≤ σ2 3 3 ∧ σ2 3 3 ≤ 100 := g23.1 3 3
    refine s_istore_n (pc := 44) C [(2, vI (σ2 3 3)), (0, .ref (ad 29)), (1, vI w)] dX2_layOut_44 (by decide) rfl ?_
    refine s_sipush (pc := 45) C dX2_layOut_45 (by decide) ?_
    refine s_istore_n (pc := 48) C [(3, vI 1000), (2, vI (σ2 3 3)), (0, .ref (ad 29)), (1, vI w)] dX2_layOut_48 (by decide) rfl ?_
    refine s_iconst (pc := 49) C dX2_layOut_49 ?_
    refine s_istore (pc := 50) C [(4, vI 0), (3, vI 1000), (2, vI (σ2 3 3)), (0, .ref (ad 29)), (1, vI w)] dX2_layOut_50 (by decide) rfl ?_
    refine s_iconst (pc := 52) C dX2_layOut_52 ?_
    refine s_istore (pc := 53) C [(5, vI 0), (4, vI 0), (3, vI 1000), (2, vI (σ2 3 3)), (0, .ref (ad 29)), (1, vI w)] dX2_layOut_53 (by decide) rfl ?_
    refine s_sub C [4, 5, 3, 2, 1, 0] [(0, .ref (ad 29)), (1, vI w), (2, vI (σ2 3 3)), (3, vI 1000), (4, vI 0), (5, vI 0)] rfl ?_
    have hi55 : 0 ≤ (0 : Int) ∧ (0 : Int) ≤ 100 ∧ 0 ≤ (1000 : Int) ∧ (1000 : Int) ≤ 1000 ∧ 0 ≤ (0 : Int) ∧ (0 : Int) ≤ 99 := (by first | omega | assumption | (constructor <;> omega) | (refine ⟨⟨?_, ?_⟩, ?_⟩ <;> omega) | (simp [hs_ss, hs_up]; omega) | (simp [hs_ss, hs_up]; done))
    refine hs_loop (α := Int × Int × Int) (fun x_ => (0 ≤ x_.1 ∧ x_.1 ≤ 100 ∧ 0 ≤ x_.2.1 ∧ x_.2.1 ≤ 1000 ∧ 0 ≤ x_.2.2 ∧ x_.2.2 ≤ 99) → hs_Wd p l e 6 s m args below meth c D dA SHX ad A 7 (hs_PV (fun σ σ1 => GX σ σ1 ∧ FRM PFd σ σ1) σ) 55 [(0, .ref (ad 29)), (1, vI w), (2, vI (σ2 3 3)), (3, vI x_.2.1), (4, vI x_.2.2), (5, vI x_.1)] [] (hs_ss (hs_ss σ2 29 5 (σ2 (8 + w.toNat) 4)) 29 4 0)) (fun x_ => (101 - x_.1).toNat) ?_ (0, 1000, 0) hi55
    rintro ⟨q, fw, fs⟩ ih55 hinv
    replace hinv : 0 ≤ q ∧ q ≤ 100 ∧ 0 ≤ fw ∧ fw ≤ 1000 ∧ 0 ≤ fs ∧ fs ≤ 99 := hinv
    show hs_Wd p l e 6 s m args below meth c D dA SHX ad A 7 (hs_PV (fun σ σ1 => GX σ σ1 ∧ FRM PFd σ σ1) σ) 55 [(0, .ref (ad 29)), (1, vI w), (2, vI (σ2 3 3)), (3, vI fw), (4, vI fs), (5, vI q)] [] (hs_ss (hs_ss σ2 29 5 (σ2 (8 + w.toNat) 4)) 29 4 0)
    refine s_iload (pc := 55) C dX2_layOut_55 5 rfl ?_
    refine s_iload_n (pc := 57) C dX2_layOut_57 2 rfl ?_
    refine s_icmp_ge (pc := 58) C (tgt := 96) dX2_layOut_58 (by decide) ⟨by omega, by omega⟩ ⟨by omega, by omega⟩ (fun h58 => ?_) (fun h58 => ?_)
    · skip
      refine s_aload_n (pc := 96) C dX2_layOut_96 0 rfl ?_
      refine s_getr (q := 29) (ci := 2) (N := 6) (CN := RX2) (T := TX2) (pc := 97) C 3 dX2_layOut_97 wlX2_15 rfl rfl rfl wfX2 (by decide) rfl ?_
      refine s_iconst (pc := 100) C dX2_layOut_100 ?_
      refine s_iload (pc := 101) C dX2_layOut_101 4 rfl ?_
      refine s_iast (q := 31) (n := 100) (pc := 103) C dX2_layOut_103 rfl (by omega) (by omega) (by decide) ?_
      have g103 := gx_set (z := fs) g23 31 0 rfl (-10) (99) rfl ⟨by omega, by omega⟩
      have f103 := frm_set (P := PFd) (z := fs) f23 31 0 rfl
      refine s_aload_n (pc := 104) C dX2_layOut_104 0 rfl ?_
      refine s_iconst (pc := 105) C dX2_layOut_105 ?_
      refine s_puti (q := 29) (ci := 2) (N := 6) (CN := RX2) (T := TX2) (ty0 := tyX2) (ty := .int) (pc := 106) C 4 dX2_layOut_106 wlX2_82 rfl rfl rfl wfX2 tyX2_ok nmX2 (by decide) rfl rfl rfl (vp_nar_int _) rfl ?_
      have g106 := gx_set (z := 1) g103 29 4 rfl (0) (100) rfl ⟨by omega, by omega⟩
      have f106 := frm_set (P := PFd) (z := 1) f103 29 4 rfl
      refine s_sub C [0, 1, 2, 3, 4] [(0, .ref (ad 29)), (1, vI w), (2, vI (σ2 3 3)), (3, vI fw), (4, vI fs)] rfl ?_
      have hi109 : GX σ ((hs_ss (hs_ss (hs_ss (hs_ss σ2 29 5 (σ2 (8 + w.toNat) 4)) 29 4 0) 31 0 fs) 29 4 1)) ∧ FRM PFd σ ((hs_ss (hs_ss (hs_ss (hs_ss σ2 29 5 (σ2 (8 + w.toNat) 4)) 29 4 0) 31 0 fs) 29 4 1)) ∧ 1 ≤ ((hs_ss (hs_ss (hs_ss (hs_ss σ2 29 5 (σ2 (8 + w.toNat) 4)) 29 4 0) 31 0 fs) 29 4 1)) 29 4 := ⟨g106, f106, by simp [hs_ss, hs_up]⟩
      refine hs_loop (α := hs_S) (fun x_ => (GX σ x_ ∧ FRM PFd σ x_ ∧ 1 ≤ x_ 29 4) → hs_Wd p l e 6 s m args below meth c D dA SHX ad A 7 (hs_PV (fun σ σ1 => GX σ σ1 ∧ FRM PFd σ σ1) σ) 109 [(0, .ref (ad 29)), (1, vI w), (2, vI (σ2 3 3)), (3, vI fw), (4, vI fs)] [] x_) (fun x_ => (101 - x_ 29 4).toNat) ?_ ((hs_ss (hs_ss (hs_ss (hs_ss σ2 29 5 (σ2 (8 + w.toNat) 4)) 29 4 0) 31 0 fs) 29 4 1)) hi109
      rintro σ1 ih109 hinv
      replace hinv : GX σ σ1 ∧ FRM PFd σ σ1 ∧ 1 ≤ σ1 29 4 := hinv
      obtain ⟨hg109, hf109, hv109⟩ := hinv
      show hs_Wd p l e 6 s m args below meth c D dA SHX ad A 7 (hs_PV (fun σ σ1 => GX σ σ1 ∧ FRM PFd σ σ1) σ) 109 [(0, .ref (ad 29)), (1, vI w), (2, vI (σ2 3 3)), (3, vI fw), (4, vI fs)] [] σ1
      refine s_aload_n (pc := 109) C dX2_layOut_109 0 rfl ?_
      refine s_geti (q := 29) (ci := 2) (N := 6) (CN := RX2) (T := TX2) (pc := 110) C 4 dX2_layOut_110 wlX2_82 rfl rfl rfl wfX2 (by decide) rfl (σ1 29 4) rfl ?_
      have b110 : (0 : Int) ≤ σ1 29 4 ∧ σ1 29 4 ≤ 100 := hg109.1 29 4
      refine s_iload_n (pc := 113) C dX2_layOut_113 3 rfl ?_
      refine s_icmp_ge (pc := 114) C (tgt := 176) dX2_layOut_114 (by decide) ⟨by omega, by omega⟩ ⟨by omega, by omega⟩ (fun h114 => ?_) (fun h114 => ?_)
      · skip
        refine s_vret (pc := 176) C dX2_layOut_176 ?_
        refine ⟨rfl, ?_⟩
        exact ⟨hg109, hf109⟩
      · skip
        refine s_aload_n (pc := 117) C dX2_layOut_117 0 rfl ?_
        refine s_geti (q := 29) (ci := 2) (N := 6) (CN := RX2) (T := TX2) (pc := 118) C 4 dX2_layOut_118 wlX2_82 rfl rfl rfl wfX2 (by decide) rfl (σ1 29 4) rfl ?_
        have b118 : (0 : Int) ≤ σ1 29 4 ∧ σ1 29 4 ≤ 100 := hg109.1 29 4
        refine s_iload_n (pc := 121) C dX2_layOut_121 2 rfl ?_
        refine s_icmp_ge (pc := 122) C (tgt := 176) dX2_layOut_122 (by decide) ⟨by omega, by omega⟩ ⟨by omega, by omega⟩ (fun h122 => ?_) (fun h122 => ?_)
        · skip
          refine s_vret (pc := 176) C dX2_layOut_176 ?_
          refine ⟨rfl, ?_⟩
          exact ⟨hg109, hf109⟩
        · skip
          refine s_aload_n (pc := 125) C dX2_layOut_125 0 rfl ?_
          refine s_getr (q := 29) (ci := 2) (N := 6) (CN := RX2) (T := TX2) (pc := 126) C 3 dX2_layOut_126 wlX2_15 rfl rfl rfl wfX2 (by decide) rfl ?_
          refine s_aload_n (pc := 129) C dX2_layOut_129 0 rfl ?_
          refine s_geti (q := 29) (ci := 2) (N := 6) (CN := RX2) (T := TX2) (pc := 130) C 4 dX2_layOut_130 wlX2_82 rfl rfl rfl wfX2 (by decide) rfl (σ1 29 4) rfl ?_
          have b130 : (0 : Int) ≤ σ1 29 4 ∧ σ1 29 4 ≤ 100 := hg109.1 29 4
          refine s_aload_n (pc := 133) C dX2_layOut_133 0 rfl ?_
          refine s_aload_n (pc := 134) C dX2_layOut_134 0 rfl ?_
          refine s_getr (q := 29) (ci := 2) (N := 6) (CN := RX2) (T := TX2) (pc := 135) C 3 dX2_layOut_135 wlX2_15 rfl rfl rfl wfX2 (by decide) rfl ?_
          refine s_aload_n (pc := 138) C dX2_layOut_138 0 rfl ?_
          refine s_geti (q := 29) (ci := 2) (N := 6) (CN := RX2) (T := TX2) (pc := 139) C 4 dX2_layOut_139 wlX2_82 rfl rfl rfl wfX2 (by decide) rfl (σ1 29 4) rfl ?_
          have b139 : (0 : Int) ≤ σ1 29 4 ∧ σ1 29 4 ≤ 100 := hg109.1 29 4
          refine s_iconst (pc := 142) C dX2_layOut_142 ?_
          refine s_isub (pc := 143) C dX2_layOut_143 ?_
          refine s_iald (q := 31) (n := 100) (pc := 144) C (σ1 31 (((σ1 29 4) - 1).toNat)) rfl dX2_layOut_144 rfl (by omega) (by omega) (by decide) ?_
          have b144 : (-10 : Int) ≤ σ1 31 (((σ1 29 4) - 1).toNat) ∧ σ1 31 (((σ1 29 4) - 1).toNat) ≤ 99 := hg109.1 31 (((σ1 29 4) - 1).toNat)
          refine s_aload_n (pc := 145) C dX2_layOut_145 0 rfl ?_
          refine s_iload (pc := 146) C dX2_layOut_146 4 rfl ?_
          refine s_callVi (pc := 148) C (c_X2_lastFrom l fs (by first | omega | assumption | (constructor <;> omega) | (refine ⟨⟨?_, ?_⟩, ?_⟩ <;> omega) | (simp [hs_ss, hs_up]; omega) | (simp [hs_ss, hs_up]; done))) [vI fs] [vI (σ1 31 (((σ1 29 4) - 1).toNat)), .ref (ad 29), vI (σ1 29 4), .ref (ad 31)] rfl rfl dX2_layOut_148 wlX2_89 wiX2_lastFrom weX2_lastFrom wcX2_lastFrom wnX2 noX2_lastFrom (by decide) (by decide) (Nat.le_of_ble_eq_true rfl) (gx_self hg109) rfl rfl ?_
          rintro z148 _ ⟨rfl, k148⟩
          show hs_Wd _ _ _ _ _ _ _ _ _ _ _ _ _ _ _ _ _ 151 _ [vI z148, vI (σ1 31 (((σ1 29 4) - 1).toNat)), .ref (ad 29), vI (σ1 29 4), .ref (ad 31)] σ1
          refine s_iload_n (pc := 151) C dX2_layOut_151 3 rfl ?_
          refine s_aload_n (pc := 152) C dX2_layOut_152 0 rfl ?_
          refine s_geti (q := 29) (ci := 2) (N := 6) (CN := RX2) (T := TX2) (pc := 153) C 4 dX2_layOut_153 wlX2_82 rfl rfl rfl wfX2 (by decide) rfl (σ1 29 4) rfl ?_
          have b153 : (0 : Int) ≤ σ1 29 4 ∧ σ1 29 4 ≤ 100 := hg109.1 29 4
          refine s_isub (pc := 156) C dX2_layOut_156 ?_
          refine s_iconst (pc := 157) C dX2_layOut_157 ?_
          refine s_isub (pc := 158) C dX2_layOut_158 ?_
          refine s_callVi (pc := 159) C (c_X2_nextPlace l (σ1 31 (((σ1 29 4) - 1).toNat)) z148 (by first | omega | assumption | (constructor <;> omega) | (refine ⟨⟨?_, ?_⟩, ?_⟩ <;> omega) | (simp [hs_ss, hs_up]; omega) | (simp [hs_ss, hs_up]; done)) (by first | omega | assumption | (constructor <;> omega) | (refine ⟨⟨?_, ?_⟩, ?_⟩ <;> omega) | (simp [hs_ss, hs_up]; omega) | (simp [hs_ss, hs_up]; done)) ((fw - (σ1 29 4)) - 1) (by first | omega | assumption | (constructor <;> omega) | (refine ⟨⟨?_, ?_⟩, ?_⟩ <;> omega) | (simp [hs_ss, hs_up]; omega) | (simp [hs_ss, hs_up]; done))) [vI (σ1 31 (((σ1 29 4) - 1).toNat)), vI z148, vI ((fw - (σ1 29 4)) - 1)] [vI (σ1 29 4), .ref (ad 31)] rfl rfl dX2_layOut_159 wlX2_95 wiX2_nextPlace weX2_nextPlace wcX2_nextPlace wnX2 noX2_nextPlace (by decide) (by decide) (Nat.le_of_ble_eq_true rfl) (gx_self hg109) rfl rfl ?_
          rintro z159 _ ⟨rfl, k159⟩
          show hs_Wd _ _ _ _ _ _ _ _ _ _ _ _ _ _ _ _ _ 162 _ [vI z159, vI (σ1 29 4), .ref (ad 31)] σ1
          refine s_iast (q := 31) (n := 100) (pc := 162) C dX2_layOut_162 rfl (by omega) (by omega) (by decide) ?_
          have g162 := gx_set (z := z159) hg109 31 ((σ1 29 4).toNat) rfl (-10) (99) rfl ⟨by omega, by omega⟩
          have f162 := frm_set (P := PFd) (z := z159) hf109 31 ((σ1 29 4).toNat) rfl
          refine s_aload_n (pc := 163) C dX2_layOut_163 0 rfl ?_
          refine s_dup (pc := 164) C dX2_layOut_164 rfl ?_
          refine s_geti (q := 29) (ci := 2) (N := 6) (CN := RX2) (T := TX2) (pc := 165) C 4 dX2_layOut_165 wlX2_82 rfl rfl rfl wfX2 (by decide) rfl (σ1 29 4) rfl ?_
          have b165 : (0 : Int) ≤ σ1 29 4 ∧ σ1 29 4 ≤ 100 := g162.1 29 4
          refine s_iconst (pc := 168) C dX2_layOut_168 ?_
          refine s_iadd (pc := 169) C dX2_layOut_169 ?_
          refine s_puti (q := 29) (ci := 2) (N := 6) (CN := RX2) (T := TX2) (ty0 := tyX2) (ty := .int) (pc := 170) C 4 dX2_layOut_170 wlX2_82 rfl rfl rfl wfX2 tyX2_ok nmX2 (by decide) rfl rfl rfl (vp_nar_int _) rfl ?_
          have g170 := gx_set (z := ((σ1 29 4) + 1)) g162 29 4 rfl (0) (100) rfl ⟨by omega, by omega⟩
          have f170 := frm_set (P := PFd) (z := ((σ1 29 4) + 1)) f162 29 4 rfl
          refine s_goto (pc := 173) C (tgt := 109) dX2_layOut_173 (by decide) ?_
          refine s_sub C [0, 1, 2, 3, 4] [(0, .ref (ad 29)), (1, vI w), (2, vI (σ2 3 3)), (3, vI fw), (4, vI fs)] rfl ?_
          have hi109 : GX σ ((hs_ss (hs_ss σ1 31 ((σ1 29 4).toNat) z159) 29 4 ((σ1 29 4) + 1))) ∧ FRM PFd σ ((hs_ss (hs_ss σ1 31 ((σ1 29 4).toNat) z159) 29 4 ((σ1 29 4) + 1))) ∧ 1 ≤ ((hs_ss (hs_ss σ1 31 ((σ1 29 4).toNat) z159) 29 4 ((σ1 29 4) + 1))) 29 4 := ⟨g170, f170, by simp [hs_ss, hs_up]; omega⟩
          exact ih109 ((hs_ss (hs_ss σ1 31 ((σ1 29 4).toNat) z159) 29 4 ((σ1 29 4) + 1))) (by simp [hs_ss, hs_up]; omega) hi109
    · skip
      refine s_iconst (pc := 61) C dX2_layOut_61 ?_
      refine s_aload_n (pc := 62) C dX2_layOut_62 0 rfl ?_
      refine s_iload (pc := 63) C dX2_layOut_63 5 rfl ?_
      refine s_aload_n (pc := 65) C dX2_layOut_65 0 rfl ?_
      refine s_iload (pc := 66) C dX2_layOut_66 5 rfl ?_
      refine s_callVi (pc := 68) C (c_X2_lastFrom l q (by first | omega | assumption | (constructor <;> omega) | (refine ⟨⟨?_, ?_⟩, ?_⟩ <;> omega) | (simp [hs_ss, hs_up]; omega) | (simp [hs_ss, hs_up]; done))) [vI q] [vI q, .ref (ad 29), vI 1] rfl rfl dX2_layOut_68 wlX2_89 wiX2_lastFrom weX2_lastFrom wcX2_lastFrom wnX2 noX2_lastFrom (by decide) (by decide) (Nat.le_of_ble_eq_true rfl) (gx_self g23) rfl rfl ?_
      rintro z68 _ ⟨rfl, k68⟩
      show hs_Wd _ _ _ _ _ _ _ _ _ _ _ _ _ _ _ _ _ 71 _ [vI z68, vI q, .ref (ad 29), vI 1] (hs_ss (hs_ss σ2 29 5 (σ2 (8 + w.toNat) 4)) 29 4 0)
      refine s_callVi (pc := 71) C (c_X2_fewestBehind l q z68 (by first | omega | assumption | (constructor <;> omega) | (refine ⟨⟨?_, ?_⟩, ?_⟩ <;> omega) | (simp [hs_ss, hs_up]; omega) | (simp [hs_ss, hs_up]; done)) (by first | omega | assumption | (constructor <;> omega) | (refine ⟨⟨?_, ?_⟩, ?_⟩ <;> omega) | (simp [hs_ss, hs_up]; omega) | (simp [hs_ss, hs_up]; done))) [vI q, vI z68] [vI 1] rfl rfl dX2_layOut_71 wlX2_92 wiX2_fewestBehind weX2_fewestBehind wcX2_fewestBehind wnX2 noX2_fewestBehind (by decide) (by decide) (Nat.le_of_ble_eq_true rfl) (gx_self g23) rfl rfl ?_
      rintro z71 _ ⟨rfl, k71⟩
      show hs_Wd _ _ _ _ _ _ _ _ _ _ _ _ _ _ _ _ _ 74 _ [vI z71, vI 1] (hs_ss (hs_ss σ2 29 5 (σ2 (8 + w.toNat) 4)) 29 4 0)
      refine s_iadd (pc := 74) C dX2_layOut_74 ?_
      refine s_istore (pc := 75) C [(6, vI (1 + z71)), (0, .ref (ad 29)), (1, vI w), (2, vI (σ2 3 3)), (3, vI fw), (4, vI fs), (5, vI q)] dX2_layOut_75 (by decide) rfl ?_
      refine s_iload (pc := 77) C dX2_layOut_77 0 rfl ?_
      refine s_iload_n (pc := 79) C dX2_layOut_79 4 rfl ?_
      refine s_icmp_ge (pc := 80) C (tgt := 90) dX2_layOut_80 (by decide) ⟨by omega, by omega⟩ ⟨by omega, by omega⟩ (fun h80 => ?_) (fun h80 => ?_)
      · skip
        refine s_iinc (pc := 90) C [(5, vI (q + 1)), (6, vI (1 + z71)), (0, .ref (ad 29)), (1, vI w), (2, vI (σ2 3 3)), (3, vI fw), (4, vI fs)] dX2_layOut_90 6 rfl (by decide) rfl ?_
        refine s_goto (pc := 93) C (tgt := 55) dX2_layOut_93 (by decide) ?_
        refine s_sub C [2, 3, 4, 5, 6, 0] [(0, .ref (ad 29)), (1, vI w), (2, vI (σ2 3 3)), (3, vI fw), (4, vI fs), (5, vI (q + 1))] rfl ?_
        have hi55 : 0 ≤ (q + 1) ∧ (q + 1) ≤ 100 ∧ 0 ≤ fw ∧ fw ≤ 1000 ∧ 0 ≤ fs ∧ fs ≤ 99 := (by first | omega | assumption | (constructor <;> omega) | (refine ⟨⟨?_, ?_⟩, ?_⟩ <;> omega) | (simp [hs_ss, hs_up]; omega) | (simp [hs_ss, hs_up]; done))
        exact ih55 (q + 1, fw, fs) (by first | omega | (simp only []; omega)) hi55
      · skip
        refine s_iload (pc := 83) C dX2_layOut_83 0 rfl ?_
        refine s_istore_n (pc := 85) C [(3, vI (1 + z71)), (6, vI (1 + z71)), (0, .ref (ad 29)), (1, vI w), (2, vI (σ2 3 3)), (4, vI fs), (5, vI q)] dX2_layOut_85 (by decide) rfl ?_
        refine s_iload (pc := 86) C dX2_layOut_86 6 rfl ?_
        refine s_istore (pc := 88) C [(4, vI q), (3, vI (1 + z71)), (6, vI (1 + z71)), (0, .ref (ad 29)), (1, vI w), (2, vI (σ2 3 3)), (5, vI q)] dX2_layOut_88 (by decide) rfl ?_
        refine s_iinc (pc := 90) C [(5, vI (q + 1)), (4, vI q), (3, vI (1 + z71)), (6, vI (1 + z71)), (0, .ref (ad 29)), (1, vI w), (2, vI (σ2 3 3))] dX2_layOut_90 6 rfl (by decide) rfl ?_
        refine s_goto (pc := 93) C (tgt := 55) dX2_layOut_93 (by decide) ?_
        refine s_sub C [4, 5, 6, 2, 1, 0] [(0, .ref (ad 29)), (1, vI w), (2, vI (σ2 3 3)), (3, vI (1 + z71)), (4, vI q), (5, vI (q + 1))] rfl ?_
        have hi55 : 0 ≤ (q + 1) ∧ (q + 1) ≤ 100 ∧ 0 ≤ (1 + z71) ∧ (1 + z71) ≤ 1000 ∧ 0 ≤ q ∧ q ≤ 99 := (by first | omega | assumption | (constructor <;> omega) | (refine ⟨⟨?_, ?_⟩, ?_⟩ <;> omega) | (simp [hs_ss, hs_up]; omega) | (simp [hs_ss, hs_up]; done))
        exact ih55 (q + 1, 1 + z71, q) (by first | omega | (simp only []; omega)) hi55
  · skip
    refine s_vret (pc := 33) C dX2_layOut_33 ?_
    refine ⟨rfl, ?_⟩
    exact ⟨g23, f23⟩
