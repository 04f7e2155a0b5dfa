def PRn (c j : Nat) : Bool := c == 27 || c == 28 || c == 5 || c == 6 || (c == 3 && (j == 5 || j == 6)) || c == 13 || c == 14 || (c == 12 && j == 2)
def ST (σ : hs_S) : Prop := -100 * σ 27 5 ≤ σ 27 4 ∧ σ 27 6 ≤ σ 27 5
def okST (c j : Nat) : Bool := !(c == 27 && (j == 4 || j == 5 || j == 6))
theorem ST_cg {σ σ1 : hs_S} (h : FRM okST σ σ1) (k : ST σ) : ST σ1 := by
  unfold ST at *
  rw [h 27 4 rfl, h 27 5 rfl, h 27 6 rfl]
  exact k
set_option maxHeartbeats 4000000 in
set_option maxRecDepth 100000 in
theorem c_X4_forget (l : Launch)  : hs_Met l yX4_forget cX4_forget 1 none 1 SHX (fun ad => [.ref (ad 27)]) (fun σ => GX σ σ) (hs_PV (fun σ σ1 => GX σ σ1 ∧ FRM PRn σ σ1 ∧ ST σ1)) := by
  refine hs_from pfX4_forget (fun _ => Nat.le_of_ble_eq_true rfl) ?_
  intro p e s m args below meth c D dA ad A σ C hpre
  have C : hs_C p s m args meth c D dA SHX ad A 1 cX4_forget RX4 none := C
  have g0 := hpre
  have f0 : FRM PRn σ σ := frm_rf
  show hs_Wd p l e 1 s m args below meth c D dA SHX ad A 1 (hs_PV (fun σ σ1 => GX σ σ1 ∧ FRM PRn σ σ1 ∧ ST σ1) σ) 0 [(0, .ref (ad 27))] [] σ
  refine s_aload_n (pc := 0) C dX4_forget_0 0 rfl ?_
  refine s_iconst (pc := 1) C dX4_forget_1 ?_
  refine s_puti (q := 27) (ci := 4) (N := 7) (CN := RX4) (T := TX4) (ty0 := tyX4) (ty := .int) (pc := 2) C 4 dX4_forget_2 wlX4_29 rfl rfl rfl wfX4 tyX4_ok nmX4 (by decide) rfl rfl rfl (vp_nar_int _) rfl ?_
  have g2 := gx_set (z := 0) g0 27 4 rfl (-500000) (100000) rfl ⟨by omega, by omega⟩
  have f2 := frm_set (P := PRn) (z := 0) f0 27 4 rfl
  refine s_aload_n (pc := 5) C dX4_forget_5 0 rfl ?_
  refine s_iconst (pc := 6) C dX4_forget_6 ?_
  refine s_puti (q := 27) (ci := 4) (N := 7) (CN := RX4) (T := TX4) (ty0 := tyX4) (ty := .int) (pc := 7) C 5 dX4_forget_7 wlX4_33 rfl rfl rfl wfX4 tyX4_ok nmX4 (by decide) rfl rfl rfl (vp_nar_int _) rfl ?_
  have g7 := gx_set (z := 0) g2 27 5 rfl (0) (5000) rfl ⟨by omega, by omega⟩
  have f7 := frm_set (P := PRn) (z := 0) f2 27 5 rfl
  refine s_aload_n (pc := 10) C dX4_forget_10 0 rfl ?_
  refine s_iconst (pc := 11) C dX4_forget_11 ?_
  refine s_puti (q := 27) (ci := 4) (N := 7) (CN := RX4) (T := TX4) (ty0 := tyX4) (ty := .int) (pc := 12) C 6 dX4_forget_12 wlX4_36 rfl rfl rfl wfX4 tyX4_ok nmX4 (by decide) rfl rfl rfl (vp_nar_int _) rfl ?_
  have g12 := gx_set (z := 0) g7 27 6 rfl (0) (5000) rfl ⟨by omega, by omega⟩
  have f12 := frm_set (P := PRn) (z := 0) f7 27 6 rfl
  refine s_vret (pc := 15) C dX4_forget_15 ?_
  refine ⟨rfl, ?_⟩
  exact ⟨g12, f12, by unfold ST; simp [hs_ss, hs_up]⟩
set_option maxHeartbeats 4000000 in
set_option maxRecDepth 100000 in
theorem c_X4_valueOf (l : Launch) (q : Int) (hq : 0 ≤ q ∧ q ≤ 119) : hs_Met l yX4_valueOf cX4_valueOf 4 (some .int) 3 SHX (fun ad => [.ref (ad 27), vI q]) (fun σ => GX σ σ) (hs_PI (fun σ z σ1 => σ = σ1 ∧ 0 ≤ z ∧ z ≤ 99)) := by
  refine hs_from pfX4_valueOf (fun _ => Nat.le_of_ble_eq_true rfl) ?_
  intro p e s m args below meth c D dA ad A σ C hpre
  have C : hs_C p s m args meth c D dA SHX ad A 4 cX4_valueOf RX4 (some .int) := C
  have g0 := hpre
  show hs_Wd p l e 3 s m args below meth c D dA SHX ad A 4 (hs_PI (fun σ z σ1 => σ = σ1 ∧ 0 ≤ z ∧ z ≤ 99) σ) 0 [(0, .ref (ad 27)), (1, vI q)] [] σ
  refine s_aload_n (pc := 0) C dX4_valueOf_0 0 rfl ?_
  refine s_getr (q := 27) (ci := 4) (N := 7) (CN := RX4) (T := TX4) (pc := 1) C 2 dX4_valueOf_1 wlX4_25 rfl rfl rfl wfX4 (by decide) rfl ?_
  refine s_getrN (q := 15) (ci := 3) (N := 15) (CN := RX3) (T := TX3) (pc := 4) C 5 dX4_valueOf_4 wlX4_127 rfl rfl rfl wfX3 (by decide) rfl ?_
  refine s_iload_n (pc := 7) C dX4_valueOf_7 1 rfl ?_
  refine s_iald (q := 24) (n := 120) (pc := 8) C (σ 24 q.toNat) rfl dX4_valueOf_8 rfl (by omega) (by omega) (by decide) ?_
  have b8 : (-1 : Int) ≤ σ 24 q.toNat ∧ σ 24 q.toNat ≤ 7 := g0.1 24 q.toNat
  refine s_istore_n (pc := 9) C [(2, vI (σ 24 q.toNat)), (0, .ref (ad 27)), (1, vI q)] dX4_valueOf_9 (by decide) rfl ?_
  refine s_iload_n (pc := 10) C dX4_valueOf_10 0 rfl ?_
  refine s_iconst (pc := 11) C dX4_valueOf_11 ?_
  refine s_icmp_ne (pc := 12) C (tgt := 19) dX4_valueOf_12 (by decide) ⟨by omega, by omega⟩ ⟨by decide, by decide⟩ (fun h12 => ?_) (fun h12 => ?_)
  · skip
    refine s_aload_n (pc := 19) C dX4_valueOf_19 1 rfl ?_
    refine s_getr (q := 27) (ci := 4) (N := 7) (CN := RX4) (T := TX4) (pc := 20) C 3 dX4_valueOf_20 wlX4_11 rfl rfl rfl wfX4 (by decide) rfl ?_
    refine s_iload_n (pc := 23) C dX4_valueOf_23 0 rfl ?_
    refine s_iald (q := 28) (n := 8) (pc := 24) C (σ 28 ((σ 24 q.toNat).toNat)) rfl dX4_valueOf_24 rfl (by omega) (by omega) (by decide) ?_
    have b24 : (0 : Int) ≤ σ 28 ((σ 24 q.toNat).toNat) ∧ σ 28 ((σ 24 q.toNat).toNat) ≤ 99 := g0.1 28 ((σ 24 q.toNat).toNat)
    refine s_istore_n (pc := 25) C [(3, vI (σ 28 ((σ 24 q.toNat).toNat))), (2, vI (σ 24 q.toNat)), (0, .ref (ad 27)), (1, vI q)] dX4_valueOf_25 (by decide) rfl ?_
    refine s_aload_n (pc := 26) C dX4_valueOf_26 2 rfl ?_
    refine s_getr (q := 27) (ci := 4) (N := 7) (CN := RX4) (T := TX4) (pc := 27) C 0 dX4_valueOf_27 wlX4_17 rfl rfl rfl wfX4 (by decide) rfl ?_
    refine s_getrN (q := 2) (ci := 5) (N := 3) (CN := RX5) (T := TX5) (pc := 30) C 0 dX4_valueOf_30 wlX4_65 rfl rfl rfl wfX5 (by decide) rfl ?_
    refine s_iload_n (pc := 33) C dX4_valueOf_33 0 rfl ?_
    refine s_aload_n (pc := 34) C dX4_valueOf_34 2 rfl ?_
    refine s_getr (q := 27) (ci := 4) (N := 7) (CN := RX4) (T := TX4) (pc := 35) C 2 dX4_valueOf_35 wlX4_25 rfl rfl rfl wfX4 (by decide) rfl ?_
    refine s_getrN (q := 15) (ci := 3) (N := 15) (CN := RX3) (T := TX3) (pc := 38) C 6 dX4_valueOf_38 wlX4_130 rfl rfl rfl wfX3 (by decide) rfl ?_
    refine s_iload_n (pc := 41) C dX4_valueOf_41 3 rfl ?_
    refine s_iald (q := 25) (n := 120) (pc := 42) C (σ 25 q.toNat) rfl dX4_valueOf_42 rfl (by omega) (by omega) (by decide) ?_
    have b42 : (-999 : Int) ≤ σ 25 q.toNat ∧ σ 25 q.toNat ≤ 999 := g0.1 25 q.toNat
    refine s_iadd (pc := 43) C dX4_valueOf_43 ?_
    refine s_callVNi (pc := 44) C (c_X8_wrap l 3 (Or.inl rfl) ((σ 28 ((σ 24 q.toNat).toNat)) + (σ 25 q.toNat)) ⟨by omega, by omega⟩) [vI ((σ 28 ((σ 24 q.toNat).toNat)) + (σ 25 q.toNat))] [] rfl rfl dX4_valueOf_44 wlX4_121 wiX8_wrap weX8_wrap wcX8_wrap wnX8 noX8_wrap (by decide) (by decide) (Nat.le_of_ble_eq_true rfl) (gx_self g0) rfl rfl ?_
    rintro z44 _ ⟨rfl, k44⟩
    show hs_Wd _ _ _ _ _ _ _ _ _ _ _ _ _ _ _ _ _ 47 _ [vI z44] σ
    refine s_iret (pc := 47) C dX4_valueOf_47 ?_
    refine ⟨_, rfl, ?_⟩
    exact ⟨rfl, by first | omega | assumption | (constructor <;> omega) | (refine ⟨⟨?_, ?_⟩, ?_⟩ <;> omega) | (simp [hs_ss, hs_up]; omega) | (simp [hs_ss, hs_up]; done)⟩
  · skip
    refine s_iconst (pc := 15) C dX4_valueOf_15 ?_
    refine s_goto (pc := 16) C (tgt := 25) dX4_valueOf_16 (by decide) ?_
    refine s_istore_n (pc := 25) C [(3, vI 0), (2, vI (σ 24 q.toNat)), (0, .ref (ad 27)), (1, vI q)] dX4_valueOf_25 (by decide) rfl ?_
    refine s_aload_n (pc := 26) C dX4_valueOf_26 2 rfl ?_
    refine s_getr (q := 27) (ci := 4) (N := 7) (CN := RX4) (T := TX4) (pc := 27) C 0 dX4_valueOf_27 wlX4_17 rfl rfl rfl wfX4 (by decide) rfl ?_
    refine s_getrN (q := 2) (ci := 5) (N := 3) (CN := RX5) (T := TX5) (pc := 30) C 0 dX4_valueOf_30 wlX4_65 rfl rfl rfl wfX5 (by decide) rfl ?_
    refine s_iload_n (pc := 33) C dX4_valueOf_33 0 rfl ?_
    refine s_aload_n (pc := 34) C dX4_valueOf_34 2 rfl ?_
    refine s_getr (q := 27) (ci := 4) (N := 7) (CN := RX4) (T := TX4) (pc := 35) C 2 dX4_valueOf_35 wlX4_25 rfl rfl rfl wfX4 (by decide) rfl ?_
    refine s_getrN (q := 15) (ci := 3) (N := 15) (CN := RX3) (T := TX3) (pc := 38) C 6 dX4_valueOf_38 wlX4_130 rfl rfl rfl wfX3 (by decide) rfl ?_
    refine s_iload_n (pc := 41) C dX4_valueOf_41 3 rfl ?_
    refine s_iald (q := 25) (n := 120) (pc := 42) C (σ 25 q.toNat) rfl dX4_valueOf_42 rfl (by omega) (by omega) (by decide) ?_
    have b42 : (-999 : Int) ≤ σ 25 q.toNat ∧ σ 25 q.toNat ≤ 999 := g0.1 25 q.toNat
    refine s_iadd (pc := 43) C dX4_valueOf_43 ?_
    refine s_callVNi (pc := 44) C (c_X8_wrap l 3 (Or.inl rfl) (0 + (σ 25 q.toNat)) ⟨by omega, by omega⟩) [vI (0 + (σ 25 q.toNat))] [] rfl rfl dX4_valueOf_44 wlX4_121 wiX8_wrap weX8_wrap wcX8_wrap wnX8 noX8_wrap (by decide) (by decide) (Nat.le_of_ble_eq_true rfl) (gx_self g0) rfl rfl ?_
    rintro z44 _ ⟨rfl, k44⟩
    show hs_Wd _ _ _ _ _ _ _ _ _ _ _ _ _ _ _ _ _ 47 _ [vI z44] σ
    refine s_iret (pc := 47) C dX4_valueOf_47 ?_
    refine ⟨_, rfl, ?_⟩
    exact ⟨rfl, by first | omega | assumption | (constructor <;> omega) | (refine ⟨⟨?_, ?_⟩, ?_⟩ <;> omega) | (simp [hs_ss, hs_up]; omega) | (simp [hs_ss, hs_up]; done)⟩
set_option maxHeartbeats 4000000 in
set_option maxRecDepth 100000 in
theorem c_X4_goesLeft (l : Launch) (u : Int) (hu : 0 ≤ u ∧ u ≤ 59) : hs_Met l yX4_goesLeft cX4_goesLeft 3 (some .boolean) 1 SHX (fun ad => [.ref (ad 27), vI u]) (fun σ => GX σ σ) (hs_PI (fun σ z σ1 => σ = σ1 ∧ (z = 0 ∨ z = 1))) := by
  refine hs_from pfX4_goesLeft (fun _ => Nat.le_of_ble_eq_true rfl) ?_
  intro p e s m args below meth c D dA ad A σ C hpre
  have C : hs_C p s m args meth c D dA SHX ad A 3 cX4_goesLeft RX4 (some .boolean) := C
  have g0 := hpre
  show hs_Wd p l e 1 s m args below meth c D dA SHX ad A 3 (hs_PI (fun σ z σ1 => σ = σ1 ∧ (z = 0 ∨ z = 1)) σ) 0 [(0, .ref (ad 27)), (1, vI u)] [] σ
  refine s_aload_n (pc := 0) C dX4_goesLeft_0 0 rfl ?_
  refine s_getr (q := 27) (ci := 4) (N := 7) (CN := RX4) (T := TX4) (pc := 1) C 2 dX4_goesLeft_1 wlX4_25 rfl rfl rfl wfX4 (by decide) rfl ?_
  refine s_getrN (q := 15) (ci := 3) (N := 15) (CN := RX3) (T := TX3) (pc := 4) C 1 dX4_goesLeft_4 wlX4_77 rfl rfl rfl wfX3 (by decide) rfl ?_
  refine s_iload_n (pc := 7) C dX4_goesLeft_7 1 rfl ?_
  refine s_iald (q := 20) (n := 60) (pc := 8) C (σ 20 u.toNat) rfl dX4_goesLeft_8 rfl (by omega) (by omega) (by decide) ?_
  have b8 : (0 : Int) ≤ σ 20 u.toNat ∧ σ 20 u.toNat ≤ 10 := g0.1 20 u.toNat
  refine s_istore_n (pc := 9) C [(2, vI (σ 20 u.toNat)), (0, .ref (ad 27)), (1, vI u)] dX4_goesLeft_9 (by decide) rfl ?_
  refine s_iload_n (pc := 10) C dX4_goesLeft_10 0 rfl ?_
  refine s_iconst (pc := 11) C dX4_goesLeft_11 ?_
  refine s_icmp_eq (pc := 12) C (tgt := 34) dX4_goesLeft_12 (by decide) ⟨by omega, by omega⟩ ⟨by decide, by decide⟩ (fun h12 => ?_) (fun h12 => ?_)
  · skip
    refine s_iconst (pc := 34) C dX4_goesLeft_34 ?_
    refine s_goto (pc := 35) C (tgt := 39) dX4_goesLeft_35 (by decide) ?_
    refine s_zret (pc := 39) C (by omega) dX4_goesLeft_39 ?_
    refine ⟨_, rfl, ?_⟩
    exact ⟨rfl, by first | omega | assumption | (constructor <;> omega) | (refine ⟨⟨?_, ?_⟩, ?_⟩ <;> omega) | (simp [hs_ss, hs_up]; omega) | (simp [hs_ss, hs_up]; done)⟩
  · skip
    refine s_iload_n (pc := 15) C dX4_goesLeft_15 0 rfl ?_
    refine s_bipush (pc := 16) C dX4_goesLeft_16 (by decide) ?_
    refine s_icmp_ne (pc := 18) C (tgt := 38) dX4_goesLeft_18 (by decide) ⟨by omega, by omega⟩ ⟨by decide, by decide⟩ (fun h18 => ?_) (fun h18 => ?_)
    · skip
      refine s_iconst (pc := 38) C dX4_goesLeft_38 ?_
      refine s_zret (pc := 39) C (by omega) dX4_goesLeft_39 ?_
      refine ⟨_, rfl, ?_⟩
      exact ⟨rfl, by first | omega | assumption | (constructor <;> omega) | (refine ⟨⟨?_, ?_⟩, ?_⟩ <;> omega) | (simp [hs_ss, hs_up]; omega) | (simp [hs_ss, hs_up]; done)⟩
    · skip
      refine s_aload_n (pc := 21) C dX4_goesLeft_21 1 rfl ?_
      refine s_getr (q := 27) (ci := 4) (N := 7) (CN := RX4) (T := TX4) (pc := 22) C 0 dX4_goesLeft_22 wlX4_17 rfl rfl rfl wfX4 (by decide) rfl ?_
      refine s_getrN (q := 2) (ci := 5) (N := 3) (CN := RX5) (T := TX5) (pc := 25) C 0 dX4_goesLeft_25 wlX4_65 rfl rfl rfl wfX5 (by decide) rfl ?_
      refine s_getiN (q := 3) (ci := 8) (N := 7) (CN := RX8) (T := TX8) (pc := 28) C 6 dX4_goesLeft_28 wlX4_100 rfl rfl rfl wfX8 (by decide) rfl (σ 3 6) rfl ?_
      have b28 : (0 : Int) ≤ σ 3 6 ∧ σ 3 6 ≤ 1 := g0.1 3 6
      refine s_if_ne (pc := 31) C (tgt := 38) dX4_goesLeft_31 (by decide) ⟨by omega, by omega⟩ (fun h31 => ?_) (fun h31 => ?_)
      · skip
        refine s_iconst (pc := 38) C dX4_goesLeft_38 ?_
        refine s_zret (pc := 39) C (by omega) dX4_goesLeft_39 ?_
        refine ⟨_, rfl, ?_⟩
        exact ⟨rfl, by first | omega | assumption | (constructor <;> omega) | (refine ⟨⟨?_, ?_⟩, ?_⟩ <;> omega) | (simp [hs_ss, hs_up]; omega) | (simp [hs_ss, hs_up]; done)⟩
      · skip
        refine s_iconst (pc := 34) C dX4_goesLeft_34 ?_
        refine s_goto (pc := 35) C (tgt := 39) dX4_goesLeft_35 (by decide) ?_
        refine s_zret (pc := 39) C (by omega) dX4_goesLeft_39 ?_
        refine ⟨_, rfl, ?_⟩
        exact ⟨rfl, by first | omega | assumption | (constructor <;> omega) | (refine ⟨⟨?_, ?_⟩, ?_⟩ <;> omega) | (simp [hs_ss, hs_up]; omega) | (simp [hs_ss, hs_up]; done)⟩
set_option maxHeartbeats 4000000 in
set_option maxRecDepth 100000 in
theorem c_X4_stepsOf (l : Launch) (u : Int) (hu : 0 ≤ u ∧ u ≤ 59) (b : Int) (hb : b = 0 ∨ b = 1) : hs_Met l yX4_stepsOf cX4_stepsOf 5 (some .int) 5 SHX (fun ad => [.ref (ad 27), vI u, vI b]) (fun σ => GX σ σ) (hs_PI (fun σ z σ1 => σ = σ1 ∧ -100 ≤ z ∧ z ≤ 10000)) := by
  refine hs_from pfX4_stepsOf (fun _ => Nat.le_of_ble_eq_true rfl) ?_
  intro p e s m args below meth c D dA ad A σ C hpre
  have C : hs_C p s m args meth c D dA SHX ad A 5 cX4_stepsOf RX4 (some .int) := C
  have g0 := hpre
  show hs_Wd p l e 5 s m args below meth c D dA SHX ad A 5 (hs_PI (fun σ z σ1 => σ = σ1 ∧ -100 ≤ z ∧ z ≤ 10000) σ) 0 [(0, .ref (ad 27)), (1, vI u), (2, vI b)] [] σ
  refine s_aload_n (pc := 0) C dX4_stepsOf_0 0 rfl ?_
  refine s_getr (q := 27) (ci := 4) (N := 7) (CN := RX4) (T := TX4) (pc := 1) C 2 dX4_stepsOf_1 wlX4_25 rfl rfl rfl wfX4 (by decide) rfl ?_
  refine s_getrN (q := 15) (ci := 3) (N := 15) (CN := RX3) (T := TX3) (pc := 4) C 1 dX4_stepsOf_4 wlX4_77 rfl rfl rfl wfX3 (by decide) rfl ?_
  refine s_iload_n (pc := 7) C dX4_stepsOf_7 1 rfl ?_
  refine s_iald (q := 20) (n := 60) (pc := 8) C (σ 20 u.toNat) rfl dX4_stepsOf_8 rfl (by omega) (by omega) (by decide) ?_
  have b8 : (0 : Int) ≤ σ 20 u.toNat ∧ σ 20 u.toNat ≤ 10 := g0.1 20 u.toNat
  refine s_istore_n (pc := 9) C [(3, vI (σ 20 u.toNat)), (0, .ref (ad 27)), (1, vI u), (2, vI b)] dX4_stepsOf_9 (by decide) rfl ?_
  refine s_iload_n (pc := 10) C dX4_stepsOf_10 0 rfl ?_
  refine s_bipush (pc := 11) C dX4_stepsOf_11 (by decide) ?_
  refine s_icmp_le (pc := 13) C (tgt := 18) dX4_stepsOf_13 (by decide) ⟨by omega, by omega⟩ ⟨by decide, by decide⟩ (fun h13 => ?_) (fun h13 => ?_)
  · skip
    refine s_aload_n (pc := 18) C dX4_stepsOf_18 1 rfl ?_
    refine s_iconst (pc := 19) C dX4_stepsOf_19 ?_
    refine s_iload_n (pc := 20) C dX4_stepsOf_20 2 rfl ?_
    refine s_imul (pc := 21) C dX4_stepsOf_21 ?_
    refine s_callVi (pc := 22) C (c_X4_valueOf l (2 * u) (by first | omega | assumption | (constructor <;> omega) | (refine ⟨⟨?_, ?_⟩, ?_⟩ <;> omega) | (simp [hs_ss, hs_up]; omega) | (simp [hs_ss, hs_up]; done))) [vI (2 * u)] [] rfl rfl dX4_stepsOf_22 wlX4_104 wiX4_valueOf weX4_valueOf wcX4_valueOf wnX4 noX4_valueOf (by decide) (by decide) (Nat.le_of_ble_eq_true rfl) (gx_self g0) rfl rfl ?_
    rintro z22 _ ⟨rfl, k22⟩
    show hs_Wd _ _ _ _ _ _ _ _ _ _ _ _ _ _ _ _ _ 25 _ [vI z22] σ
    refine s_istore (pc := 25) C [(4, vI z22), (3, vI (σ 20 u.toNat)), (0, .ref (ad 27)), (1, vI u), (2, vI b)] dX4_stepsOf_25 (by decide) rfl ?_
    refine s_iload_n (pc := 27) C dX4_stepsOf_27 1 rfl ?_
    refine s_bipush (pc := 28) C dX4_stepsOf_28 (by decide) ?_
    refine s_icmp_ne (pc := 30) C (tgt := 67) dX4_stepsOf_30 (by decide) ⟨by omega, by omega⟩ ⟨by decide, by decide⟩ (fun h30 => ?_) (fun h30 => ?_)
    · skip
      refine s_aload_n (pc := 67) C dX4_stepsOf_67 2 rfl ?_
      refine s_getr (q := 27) (ci := 4) (N := 7) (CN := RX4) (T := TX4) (pc := 68) C 0 dX4_stepsOf_68 wlX4_17 rfl rfl rfl wfX4 (by decide) rfl ?_
      refine s_getrN (q := 2) (ci := 5) (N := 3) (CN := RX5) (T := TX5) (pc := 71) C 0 dX4_stepsOf_71 wlX4_65 rfl rfl rfl wfX5 (by decide) rfl ?_
      refine s_iload (pc := 74) C dX4_stepsOf_74 0 rfl ?_
      refine s_iload_n (pc := 76) C dX4_stepsOf_76 4 rfl ?_
      refine s_aload_n (pc := 77) C dX4_stepsOf_77 2 rfl ?_
      refine s_getr (q := 27) (ci := 4) (N := 7) (CN := RX4) (T := TX4) (pc := 78) C 2 dX4_stepsOf_78 wlX4_25 rfl rfl rfl wfX4 (by decide) rfl ?_
      refine s_getrN (q := 15) (ci := 3) (N := 15) (CN := RX3) (T := TX3) (pc := 81) C 2 dX4_stepsOf_81 wlX4_114 rfl rfl rfl wfX3 (by decide) rfl ?_
      refine s_iload_n (pc := 84) C dX4_stepsOf_84 3 rfl ?_
      refine s_iald (q := 21) (n := 60) (pc := 85) C (σ 21 u.toNat) rfl dX4_stepsOf_85 rfl (by omega) (by omega) (by decide) ?_
      have b85 : (0 : Int) ≤ σ 21 u.toNat ∧ σ 21 u.toNat ≤ 99 := g0.1 21 u.toNat
      refine s_callVNi (pc := 86) C (c_X8_stepsTo l 3 (Or.inl rfl) z22 b (σ 21 u.toNat) (by first | omega | assumption | (constructor <;> omega) | (refine ⟨⟨?_, ?_⟩, ?_⟩ <;> omega) | (simp [hs_ss, hs_up]; omega) | (simp [hs_ss, hs_up]; done)) (by first | omega | assumption | (constructor <;> omega) | (refine ⟨⟨?_, ?_⟩, ?_⟩ <;> omega) | (simp [hs_ss, hs_up]; omega) | (simp [hs_ss, hs_up]; done)) (by first | omega | assumption | (constructor <;> omega) | (refine ⟨⟨?_, ?_⟩, ?_⟩ <;> omega) | (simp [hs_ss, hs_up]; omega) | (simp [hs_ss, hs_up]; done))) [vI z22, vI b, vI (σ 21 u.toNat)] [] rfl rfl dX4_stepsOf_86 wlX4_110 wiX8_stepsTo weX8_stepsTo wcX8_stepsTo wnX8 noX8_stepsTo (by decide) (by decide) (Nat.le_of_ble_eq_true rfl) (gx_self g0) rfl rfl ?_
      rintro z86 _ ⟨rfl, k86⟩
      show hs_Wd _ _ _ _ _ _ _ _ _ _ _ _ _ _ _ _ _ 89 _ [vI z86] σ
      refine s_iret (pc := 89) C dX4_stepsOf_89 ?_
      refine ⟨_, rfl, ?_⟩
      exact ⟨rfl, by first | omega | assumption | (constructor <;> omega) | (refine ⟨⟨?_, ?_⟩, ?_⟩ <;> omega) | (simp [hs_ss, hs_up]; omega) | (simp [hs_ss, hs_up]; done)⟩
    · skip
      refine s_iload (pc := 33) C dX4_stepsOf_33 0 rfl ?_
      refine s_aload_n (pc := 35) C dX4_stepsOf_35 2 rfl ?_
      refine s_getr (q := 27) (ci := 4) (N := 7) (CN := RX4) (T := TX4) (pc := 36) C 0 dX4_stepsOf_36 wlX4_17 rfl rfl rfl wfX4 (by decide) rfl ?_
      refine s_getrN (q := 2) (ci := 5) (N := 3) (CN := RX5) (T := TX5) (pc := 39) C 0 dX4_stepsOf_39 wlX4_65 rfl rfl rfl wfX5 (by decide) rfl ?_
      refine s_getiN (q := 3) (ci := 8) (N := 7) (CN := RX8) (T := TX8) (pc := 42) C 5 dX4_stepsOf_42 wlX4_107 rfl rfl rfl wfX8 (by decide) rfl (σ 3 5) rfl ?_
      have b42 : (0 : Int) ≤ σ 3 5 ∧ σ 3 5 ≤ 99 := g0.1 3 5
      refine s_icmp_ne (pc := 45) C (tgt := 52) dX4_stepsOf_45 (by decide) ⟨by omega, by omega⟩ ⟨by omega, by omega⟩ (fun h45 => ?_) (fun h45 => ?_)
      · skip
        refine s_aload_n (pc := 52) C dX4_stepsOf_52 2 rfl ?_
        refine s_getr (q := 27) (ci := 4) (N := 7) (CN := RX4) (T := TX4) (pc := 53) C 0 dX4_stepsOf_53 wlX4_17 rfl rfl rfl wfX4 (by decide) rfl ?_
        refine s_getrN (q := 2) (ci := 5) (N := 3) (CN := RX5) (T := TX5) (pc := 56) C 0 dX4_stepsOf_56 wlX4_65 rfl rfl rfl wfX5 (by decide) rfl ?_
        refine s_iload (pc := 59) C dX4_stepsOf_59 0 rfl ?_
        refine s_iload_n (pc := 61) C dX4_stepsOf_61 4 rfl ?_
        refine s_iconst (pc := 62) C dX4_stepsOf_62 ?_
        refine s_callVNi (pc := 63) C (c_X8_stepsTo l 3 (Or.inl rfl) z22 b 1 (by first | omega | assumption | (constructor <;> omega) | (refine ⟨⟨?_, ?_⟩, ?_⟩ <;> omega) | (simp [hs_ss, hs_up]; omega) | (simp [hs_ss, hs_up]; done)) (by first | omega | assumption | (constructor <;> omega) | (refine ⟨⟨?_, ?_⟩, ?_⟩ <;> omega) | (simp [hs_ss, hs_up]; omega) | (simp [hs_ss, hs_up]; done)) (by first | omega | assumption | (constructor <;> omega) | (refine ⟨⟨?_, ?_⟩, ?_⟩ <;> omega) | (simp [hs_ss, hs_up]; omega) | (simp [hs_ss, hs_up]; done))) [vI z22, vI b, vI 1] [] rfl rfl dX4_stepsOf_63 wlX4_110 wiX8_stepsTo weX8_stepsTo wcX8_stepsTo wnX8 noX8_stepsTo (by decide) (by decide) (Nat.le_of_ble_eq_true rfl) (gx_self g0) rfl rfl ?_
        rintro z63 _ ⟨rfl, k63⟩
        show hs_Wd _ _ _ _ _ _ _ _ _ _ _ _ _ _ _ _ _ 66 _ [vI z63] σ
        refine s_iret (pc := 66) C dX4_stepsOf_66 ?_
        refine ⟨_, rfl, ?_⟩
        exact ⟨rfl, by first | omega | assumption | (constructor <;> omega) | (refine ⟨⟨?_, ?_⟩, ?_⟩ <;> omega) | (simp [hs_ss, hs_up]; omega) | (simp [hs_ss, hs_up]; done)⟩
      · skip
        refine s_iconst (pc := 48) C dX4_stepsOf_48 ?_
        refine s_goto (pc := 49) C (tgt := 66) dX4_stepsOf_49 (by decide) ?_
        refine s_iret (pc := 66) C dX4_stepsOf_66 ?_
        refine ⟨_, rfl, ?_⟩
        exact ⟨rfl, by first | omega | assumption | (constructor <;> omega) | (refine ⟨⟨?_, ?_⟩, ?_⟩ <;> omega) | (simp [hs_ss, hs_up]; omega) | (simp [hs_ss, hs_up]; done)⟩
  · skip
    refine s_iconst (pc := 16) C dX4_stepsOf_16 ?_
    refine s_iret (pc := 17) C dX4_stepsOf_17 ?_
    refine ⟨_, rfl, ?_⟩
    exact ⟨rfl, by first | omega | assumption | (constructor <;> omega) | (refine ⟨⟨?_, ?_⟩, ?_⟩ <;> omega) | (simp [hs_ss, hs_up]; omega) | (simp [hs_ss, hs_up]; done)⟩
set_option maxHeartbeats 4000000 in
set_option maxRecDepth 100000 in
theorem c_X4_outcomeOfTry (l : Launch) (a : Int) (ha : 0 ≤ a ∧ a ≤ 2) : hs_Met l yX4_outcomeOfTry cX4_outcomeOfTry 1 (some .int) 1 SHX (fun ad => [vI a]) (fun σ => GX σ σ) (hs_PI (fun σ z σ1 => σ = σ1 ∧ 0 ≤ z ∧ z ≤ 3)) := by
  refine hs_from pfX4_outcomeOfTry (fun _ => Nat.le_of_ble_eq_true rfl) ?_
  intro p e s m args below meth c D dA ad A σ C hpre
  have C : hs_C p s m args meth c D dA SHX ad A 1 cX4_outcomeOfTry RX4 (some .int) := C
  have g0 := hpre
  show hs_Wd p l e 1 s m args below meth c D dA SHX ad A 1 (hs_PI (fun σ z σ1 => σ = σ1 ∧ 0 ≤ z ∧ z ≤ 3) σ) 0 [(0, vI a)] [] σ
  refine s_iload_n (pc := 0) C dX4_outcomeOfTry_0 0 rfl ?_
  refine s_if_ne (pc := 1) C (tgt := 8) dX4_outcomeOfTry_1 (by decide) ⟨by omega, by omega⟩ (fun h1 => ?_) (fun h1 => ?_)
  · skip
    refine s_iload_n (pc := 8) C dX4_outcomeOfTry_8 0 rfl ?_
    refine s_iconst (pc := 9) C dX4_outcomeOfTry_9 ?_
    refine s_iadd (pc := 10) C dX4_outcomeOfTry_10 ?_
    refine s_iret (pc := 11) C dX4_outcomeOfTry_11 ?_
    refine ⟨_, rfl, ?_⟩
    exact ⟨rfl, by first | omega | assumption | (constructor <;> omega) | (refine ⟨⟨?_, ?_⟩, ?_⟩ <;> omega) | (simp [hs_ss, hs_up]; omega) | (simp [hs_ss, hs_up]; done)⟩
  · skip
    refine s_iconst (pc := 4) C dX4_outcomeOfTry_4 ?_
    refine s_goto (pc := 5) C (tgt := 11) dX4_outcomeOfTry_5 (by decide) ?_
    refine s_iret (pc := 11) C dX4_outcomeOfTry_11 ?_
    refine ⟨_, rfl, ?_⟩
    exact ⟨rfl, by first | omega | assumption | (constructor <;> omega) | (refine ⟨⟨?_, ?_⟩, ?_⟩ <;> omega) | (simp [hs_ss, hs_up]; omega) | (simp [hs_ss, hs_up]; done)⟩
set_option maxHeartbeats 4000000 in
set_option maxRecDepth 100000 in
theorem r_X4_runAgain (l : Launch) (n : Nat) (hn : n ≤ 5) (ih : ∀ f en : Int, (0 ≤ f ∧ f ≤ 60) → hs_R en → hs_Met l yX4_runRow cX4_runRow 6 (some .int) (3 * n + 10) SHX (fun ad => [.ref (ad 27), vI f, vI en, vI (6 - (n : Int))]) (fun σ => GX σ σ ∧ ST σ) (hs_PI (fun σ z σ1 => GX σ σ1 ∧ FRM PRn σ σ1 ∧ ST σ1 ∧ 0 ≤ z ∧ z ≤ 3))) (u : Int) (hu : 0 ≤ u ∧ u ≤ 59) (dp : Int) (hd : dp = 5 - (n : Int)) : hs_Met l yX4_runAgain cX4_runAgain 5 (some .int) (3 * n + 11) SHX (fun ad => [.ref (ad 27), vI u, vI dp]) (fun σ => GX σ σ ∧ ST σ) (hs_PI (fun σ z σ1 => GX σ σ1 ∧ FRM PRn σ σ1 ∧ ST σ1 ∧ 0 ≤ z ∧ z ≤ 3)) := by
  refine hs_from pfX4_runAgain (fun _ => Nat.le_of_ble_eq_true rfl) ?_
  intro p e s m args below meth c D dA ad A σ C hpre
  have C : hs_C p s m args meth c D dA SHX ad A 5 cX4_runAgain RX4 (some .int) := C
  obtain ⟨g0, p0_ST⟩ := hpre
  have f0 : FRM PRn σ σ := frm_rf
  show hs_Wd p l e (3 * n + 11) s m args below meth c D dA SHX ad A 5 (hs_PI (fun σ z σ1 => GX σ σ1 ∧ FRM PRn σ σ1 ∧ ST σ1 ∧ 0 ≤ z ∧ z ≤ 3) σ) 0 [(0, .ref (ad 27)), (1, vI u), (2, vI dp)] [] σ
  refine s_iconst (pc := 0) C dX4_runAgain_0 ?_
  refine s_istore_n (pc := 1) C [(3, vI 0), (0, .ref (ad 27)), (1, vI u), (2, vI dp)] dX4_runAgain_1 (by decide) rfl ?_
  refine s_sub C [1, 2, 3, 0] [(0, .ref (ad 27)), (1, vI u), (2, vI dp), (3, vI 0)] rfl ?_
  have hi2 : GX σ σ ∧ FRM PRn σ σ ∧ ST σ ∧ 0 ≤ (0 : Int) ∧ (0 : Int) ≤ 99 := ⟨g0, f0, p0_ST, by first | omega | assumption | (constructor <;> omega) | (refine ⟨⟨?_, ?_⟩, ?_⟩ <;> omega) | (simp [hs_ss, hs_up]; omega) | (simp [hs_ss, hs_up]; done)⟩
  refine hs_loop (α := Int × hs_S) (fun x_ => (GX σ x_.2 ∧ FRM PRn σ x_.2 ∧ ST x_.2 ∧ 0 ≤ x_.1 ∧ x_.1 ≤ 99) → hs_Wd p l e (3 * n + 11) s m args below meth c D dA SHX ad A 5 (hs_PI (fun σ z σ1 => GX σ σ1 ∧ FRM PRn σ σ1 ∧ ST σ1 ∧ 0 ≤ z ∧ z ≤ 3) σ) 2 [(0, .ref (ad 27)), (1, vI u), (2, vI dp), (3, vI x_.1)] [] x_.2) (fun x_ => (100 - x_.1).toNat) ?_ (0, σ) hi2
  rintro ⟨k, σ1⟩ ih2 hinv
  replace hinv : GX σ σ1 ∧ FRM PRn σ σ1 ∧ ST σ1 ∧ 0 ≤ k ∧ k ≤ 99 := hinv
  obtain ⟨hg2, hf2, hp2_ST, hv2⟩ := hinv
  show hs_Wd p l e (3 * n + 11) s m args below meth c D dA SHX ad A 5 (hs_PI (fun σ z σ1 => GX σ σ1 ∧ FRM PRn σ σ1 ∧ ST σ1 ∧ 0 ≤ z ∧ z ≤ 3) σ) 2 [(0, .ref (ad 27)), (1, vI u), (2, vI dp), (3, vI k)] [] σ1
  refine s_iload_n (pc := 2) C dX4_runAgain_2 3 rfl ?_
  refine s_aload_n (pc := 3) C dX4_runAgain_3 0 rfl ?_
  refine s_getr (q := 27) (ci := 4) (N := 7) (CN := RX4) (T := TX4) (pc := 4) C 2 dX4_runAgain_4 wlX4_25 rfl rfl rfl wfX4 (by decide) rfl ?_
  refine s_getrN (q := 15) (ci := 3) (N := 15) (CN := RX3) (T := TX3) (pc := 7) C 2 dX4_runAgain_7 wlX4_114 rfl rfl rfl wfX3 (by decide) rfl ?_
  refine s_iload_n (pc := 10) C dX4_runAgain_10 1 rfl ?_
  refine s_iald (q := 21) (n := 60) (pc := 11) C (σ1 21 u.toNat) rfl dX4_runAgain_11 rfl (by omega) (by omega) (by decide) ?_
  have b11 : (0 : Int) ≤ σ1 21 u.toNat ∧ σ1 21 u.toNat ≤ 99 := hg2.1 21 u.toNat
  refine s_icmp_ge (pc := 12) C (tgt := 50) dX4_runAgain_12 (by decide) ⟨by omega, by omega⟩ ⟨by omega, by omega⟩ (fun h12 => ?_) (fun h12 => ?_)
  · skip
    refine s_iconst (pc := 50) C dX4_runAgain_50 ?_
    refine s_iret (pc := 51) C dX4_runAgain_51 ?_
    refine ⟨_, rfl, ?_⟩
    exact ⟨hg2, hf2, hp2_ST, by first | omega | assumption | (constructor <;> omega) | (refine ⟨⟨?_, ?_⟩, ?_⟩ <;> omega) | (simp [hs_ss, hs_up]; omega) | (simp [hs_ss, hs_up]; done)⟩
  · skip
    refine s_aload_n (pc := 15) C dX4_runAgain_15 0 rfl ?_
    refine s_iload_n (pc := 16) C dX4_runAgain_16 1 rfl ?_
    refine s_iconst (pc := 17) C dX4_runAgain_17 ?_
    refine s_iadd (pc := 18) C dX4_runAgain_18 ?_
    refine s_aload_n (pc := 19) C dX4_runAgain_19 0 rfl ?_
    refine s_getr (q := 27) (ci := 4) (N := 7) (CN := RX4) (T := TX4) (pc := 20) C 2 dX4_runAgain_20 wlX4_25 rfl rfl rfl wfX4 (by decide) rfl ?_
    refine s_getrN (q := 15) (ci := 3) (N := 15) (CN := RX3) (T := TX3) (pc := 23) C 4 dX4_runAgain_23 wlX4_48 rfl rfl rfl wfX3 (by decide) rfl ?_
    refine s_iload_n (pc := 26) C dX4_runAgain_26 1 rfl ?_
    refine s_iald (q := 23) (n := 60) (pc := 27) C (σ1 23 u.toNat) rfl dX4_runAgain_27 rfl (by omega) (by omega) (by decide) ?_
    have b27 : (0 : Int) ≤ σ1 23 u.toNat ∧ σ1 23 u.toNat ≤ 60 := hg2.1 23 u.toNat
    refine s_iload_n (pc := 28) C dX4_runAgain_28 2 rfl ?_
    refine s_iconst (pc := 29) C dX4_runAgain_29 ?_
    refine s_iadd (pc := 30) C dX4_runAgain_30 ?_
    have hrow := ih (u + 1) (σ1 23 u.toNat) (by omega) ⟨by omega, by omega⟩
    rw [show (6 : Int) - n = dp + 1 by omega] at hrow
    refine s_callVi (pc := 31) C hrow [vI (u + 1), vI (σ1 23 u.toNat), vI (dp + 1)] [] rfl rfl dX4_runAgain_31 wlX4_117 wiX4_runRow weX4_runRow wcX4_runRow wnX4 noX4_runRow (by omega) (by decide) (Nat.le_of_ble_eq_true rfl) ⟨(gx_self hg2), hp2_ST⟩ rfl rfl ?_
    rintro z31 σ31 k31
    obtain ⟨kg31, kf31, p31_ST, k31⟩ := k31
    have g31 := gx_trans hg2 kg31
    have f31 := frm_tr hf2 (frm_mono (Q := PRn) kf31 (fun _ _ h => h))
    show hs_Wd _ _ _ _ _ _ _ _ _ _ _ _ _ _ _ _ _ 34 _ [vI z31] σ31
    refine s_istore (pc := 34) C [(4, vI z31), (0, .ref (ad 27)), (1, vI u), (2, vI dp), (3, vI k)] dX4_runAgain_34 (by decide) rfl ?_
    refine s_iload (pc := 36) C dX4_runAgain_36 0 rfl ?_
    refine s_if_eq (pc := 38) C (tgt := 44) dX4_runAgain_38 (by decide) ⟨by omega, by omega⟩ (fun h38 => ?_) (fun h38 => ?_)
    · skip
      refine s_iinc (pc := 44) C [(3, vI (k + 1)), (4, vI z31), (0, .ref (ad 27)), (1, vI u), (2, vI dp)] dX4_runAgain_44 4 rfl (by decide) rfl ?_
      refine s_goto (pc := 47) C (tgt := 2) dX4_runAgain_47 (by decide) ?_
      refine s_sub C [2, 3, 4, 0] [(0, .ref (ad 27)), (1, vI u), (2, vI dp), (3, vI (k + 1))] rfl ?_
      have hi2 : GX σ σ31 ∧ FRM PRn σ σ31 ∧ ST σ31 ∧ 0 ≤ (k + 1) ∧ (k + 1) ≤ 99 := ⟨g31, f31, p31_ST, by first | omega | assumption | (constructor <;> omega) | (refine ⟨⟨?_, ?_⟩, ?_⟩ <;> omega) | (simp [hs_ss, hs_up]; omega) | (simp [hs_ss, hs_up]; done)⟩
      exact ih2 (k + 1, σ31) (by first | omega | (simp only []; omega)) hi2
    · skip
      refine s_iload (pc := 41) C dX4_runAgain_41 0 rfl ?_
      refine s_iret (pc := 43) C dX4_runAgain_43 ?_
      refine ⟨_, rfl, ?_⟩
      exact ⟨g31, f31, p31_ST, by first | omega | assumption | (constructor <;> omega) | (refine ⟨⟨?_, ?_⟩, ?_⟩ <;> omega) | (simp [hs_ss, hs_up]; omega) | (simp [hs_ss, hs_up]; done)⟩
set_option maxHeartbeats 4000000 in
set_option maxRecDepth 100000 in
theorem r_X4_runEach (l : Launch) (n : Nat) (hn : n ≤ 5) (ih : ∀ f en : Int, (0 ≤ f ∧ f ≤ 60) → hs_R en → hs_Met l yX4_runRow cX4_runRow 6 (some .int) (3 * n + 10) SHX (fun ad => [.ref (ad 27), vI f, vI en, vI (6 - (n : Int))]) (fun σ => GX σ σ ∧ ST σ) (hs_PI (fun σ z σ1 => GX σ σ1 ∧ FRM PRn σ σ1 ∧ ST σ1 ∧ 0 ≤ z ∧ z ≤ 3))) (u : Int) (hu : 0 ≤ u ∧ u ≤ 59) (dp : Int) (hd : dp = 5 - (n : Int)) : hs_Met l yX4_runEach cX4_runEach 8 (some .int) (3 * n + 11) SHX (fun ad => [.ref (ad 27), vI u, vI dp]) (fun σ => GX σ σ ∧ ST σ) (hs_PI (fun σ z σ1 => GX σ σ1 ∧ FRM PRn σ σ1 ∧ ST σ1 ∧ 0 ≤ z ∧ z ≤ 3)) := by
  refine hs_from pfX4_runEach (fun _ => Nat.le_of_ble_eq_true rfl) ?_
  intro p e s m args below meth c D dA ad A σ C hpre
  have C : hs_C p s m args meth c D dA SHX ad A 8 cX4_runEach RX4 (some .int) := C
  obtain ⟨g0, p0_ST⟩ := hpre
  have f0 : FRM PRn σ σ := frm_rf
  show hs_Wd p l e (3 * n + 11) s m args below meth c D dA SHX ad A 8 (hs_PI (fun σ z σ1 => GX σ σ1 ∧ FRM PRn σ σ1 ∧ ST σ1 ∧ 0 ≤ z ∧ z ≤ 3) σ) 0 [(0, .ref (ad 27)), (1, vI u), (2, vI dp)] [] σ
  refine s_aload_n (pc := 0) C dX4_runEach_0 0 rfl ?_
  refine s_iconst (pc := 1) C dX4_runEach_1 ?_
  refine s_iload_n (pc := 2) C dX4_runEach_2 1 rfl ?_
  refine s_imul (pc := 3) C dX4_runEach_3 ?_
  refine s_callVi (pc := 4) C (c_X4_valueOf l (2 * u) (by first | omega | assumption | (constructor <;> omega) | (refine ⟨⟨?_, ?_⟩, ?_⟩ <;> omega) | (simp [hs_ss, hs_up]; omega) | (simp [hs_ss, hs_up]; done))) [vI (2 * u)] [] rfl rfl dX4_runEach_4 wlX4_104 wiX4_valueOf weX4_valueOf wcX4_valueOf wnX4 noX4_valueOf (by omega) (by decide) (Nat.le_of_ble_eq_true rfl) (gx_self g0) rfl rfl ?_
  rintro z4 _ ⟨rfl, k4⟩
  show hs_Wd _ _ _ _ _ _ _ _ _ _ _ _ _ _ _ _ _ 7 _ [vI z4] σ
  refine s_istore_n (pc := 7) C [(3, vI z4), (0, .ref (ad 27)), (1, vI u), (2, vI dp)] dX4_runEach_7 (by decide) rfl ?_
  refine s_aload_n (pc := 8) C dX4_runEach_8 1 rfl ?_
  refine s_getr (q := 27) (ci := 4) (N := 7) (CN := RX4) (T := TX4) (pc := 9) C 0 dX4_runEach_9 wlX4_17 rfl rfl rfl wfX4 (by decide) rfl ?_
  refine s_getrN (q := 2) (ci := 5) (N := 3) (CN := RX5) (T := TX5) (pc := 12) C 0 dX4_runEach_12 wlX4_65 rfl rfl rfl wfX5 (by decide) rfl ?_
  refine s_aload_n (pc := 15) C dX4_runEach_15 1 rfl ?_
  refine s_iconst (pc := 16) C dX4_runEach_16 ?_
  refine s_iload_n (pc := 17) C dX4_runEach_17 2 rfl ?_
  refine s_imul (pc := 18) C dX4_runEach_18 ?_
  refine s_iconst (pc := 19) C dX4_runEach_19 ?_
  refine s_iadd (pc := 20) C dX4_runEach_20 ?_
  refine s_callVi (pc := 21) C (c_X4_valueOf l ((2 * u) + 1) (by first | omega | assumption | (constructor <;> omega) | (refine ⟨⟨?_, ?_⟩, ?_⟩ <;> omega) | (simp [hs_ss, hs_up]; omega) | (simp [hs_ss, hs_up]; done))) [vI ((2 * u) + 1)] [.ref (ad 3)] rfl rfl dX4_runEach_21 wlX4_104 wiX4_valueOf weX4_valueOf wcX4_valueOf wnX4 noX4_valueOf (by omega) (by decide) (Nat.le_of_ble_eq_true rfl) (gx_self g0) rfl rfl ?_
  rintro z21 _ ⟨rfl, k21⟩
  show hs_Wd _ _ _ _ _ _ _ _ _ _ _ _ _ _ _ _ _ 24 _ [vI z21, .ref (ad 3)] σ
  refine s_iload_n (pc := 24) C dX4_runEach_24 0 rfl ?_
  refine s_isub (pc := 25) C dX4_runEach_25 ?_
  refine s_callVNi (pc := 26) C (c_X8_wrap l 3 (Or.inl rfl) (z21 - z4) ⟨by omega, by omega⟩) [vI (z21 - z4)] [] rfl rfl dX4_runEach_26 wlX4_121 wiX8_wrap weX8_wrap wcX8_wrap wnX8 noX8_wrap (by omega) (by decide) (Nat.le_of_ble_eq_true rfl) (gx_self g0) rfl rfl ?_
  rintro z26 _ ⟨rfl, k26⟩
  show hs_Wd _ _ _ _ _ _ _ _ _ _ _ _ _ _ _ _ _ 29 _ [vI z26] σ
  refine s_istore (pc := 29) C [(4, vI z26), (3, vI z4), (0, .ref (ad 27)), (1, vI u), (2, vI dp)] dX4_runEach_29 (by decide) rfl ?_
  refine s_iconst (pc := 31) C dX4_runEach_31 ?_
  refine s_aload_n (pc := 32) C dX4_runEach_32 2 rfl ?_
  refine s_getr (q := 27) (ci := 4) (N := 7) (CN := RX4) (T := TX4) (pc := 33) C 2 dX4_runEach_33 wlX4_25 rfl rfl rfl wfX4 (by decide) rfl ?_
  refine s_getrN (q := 15) (ci := 3) (N := 15) (CN := RX3) (T := TX3) (pc := 36) C 2 dX4_runEach_36 wlX4_114 rfl rfl rfl wfX3 (by decide) rfl ?_
  refine s_iload_n (pc := 39) C dX4_runEach_39 3 rfl ?_
  refine s_iald (q := 21) (n := 60) (pc := 40) C (σ 21 u.toNat) rfl dX4_runEach_40 rfl (by omega) (by omega) (by decide) ?_
  have b40 : (0 : Int) ≤ σ 21 u.toNat ∧ σ 21 u.toNat ≤ 99 := g0.1 21 u.toNat
  refine s_callSi (pc := 41) C (c_J9_max_7cf53 l 1 (σ 21 u.toNat) ⟨by omega, by omega⟩ ⟨by omega, by omega⟩) [vI 1, vI (σ 21 u.toNat)] [] rfl rfl dX4_runEach_41 wlX4_51 wtJ9_max_7cf53 wcJ9_max_7cf53 wnJ9 noJ9_max_7cf53 (by omega) (by decide) (Nat.le_of_ble_eq_true rfl) (by first | omega | assumption | (constructor <;> omega) | (refine ⟨⟨?_, ?_⟩, ?_⟩ <;> omega) | (simp [hs_ss, hs_up]; omega) | (simp [hs_ss, hs_up]; done)) ?_
  rintro _ _ ⟨rfl, rfl⟩
  show hs_Wd _ _ _ _ _ _ _ _ _ _ _ _ _ _ _ _ _ 44 _ [vI (max 1 (σ 21 u.toNat))] σ
  refine s_istore (pc := 44) C [(5, vI (max 1 (σ 21 u.toNat))), (4, vI z26), (3, vI z4), (0, .ref (ad 27)), (1, vI u), (2, vI dp)] dX4_runEach_44 (by decide) rfl ?_
  refine s_iconst (pc := 46) C dX4_runEach_46 ?_
  refine s_istore (pc := 47) C [(6, vI 0), (5, vI (max 1 (σ 21 u.toNat))), (4, vI z26), (3, vI z4), (0, .ref (ad 27)), (1, vI u), (2, vI dp)] dX4_runEach_47 (by decide) rfl ?_
  refine s_sub C [4, 5, 6, 3, 2, 1, 0] [(0, .ref (ad 27)), (1, vI u), (2, vI dp), (3, vI z4), (4, vI z26), (5, vI (max 1 (σ 21 u.toNat))), (6, vI 0)] rfl ?_
  have hi49 : GX σ σ ∧ FRM PRn σ σ ∧ ST σ ∧ 0 ≤ (0 : Int) ∧ (0 : Int) ≤ 300 := ⟨g0, f0, p0_ST, by first | omega | assumption | (constructor <;> omega) | (refine ⟨⟨?_, ?_⟩, ?_⟩ <;> omega) | (simp [hs_ss, hs_up]; omega) | (simp [hs_ss, hs_up]; done)⟩
  refine hs_loop (α := Int × hs_S) (fun x_ => (GX σ x_.2 ∧ FRM PRn σ x_.2 ∧ ST x_.2 ∧ 0 ≤ x_.1 ∧ x_.1 ≤ 300) → hs_Wd p l e (3 * n + 11) s m args below meth c D dA SHX ad A 8 (hs_PI (fun σ z σ1 => GX σ σ1 ∧ FRM PRn σ σ1 ∧ ST σ1 ∧ 0 ≤ z ∧ z ≤ 3) σ) 49 [(0, .ref (ad 27)), (1, vI u), (2, vI dp), (3, vI z4), (4, vI z26), (5, vI (max 1 (σ 21 u.toNat))), (6, vI x_.1)] [] x_.2) (fun x_ => (400 - x_.1).toNat) ?_ (0, σ) hi49
  rintro ⟨k, σ1⟩ ih49 hinv
  replace hinv : GX σ σ1 ∧ FRM PRn σ σ1 ∧ ST σ1 ∧ 0 ≤ k ∧ k ≤ 300 := hinv
  obtain ⟨hg49, hf49, hp49_ST, hv49⟩ := hinv
  show hs_Wd p l e (3 * n + 11) s m args below meth c D dA SHX ad A 8 (hs_PI (fun σ z σ1 => GX σ σ1 ∧ FRM PRn σ σ1 ∧ ST σ1 ∧ 0 ≤ z ∧ z ≤ 3) σ) 49 [(0, .ref (ad 27)), (1, vI u), (2, vI dp), (3, vI z4), (4, vI z26), (5, vI (max 1 (σ 21 u.toNat))), (6, vI k)] [] σ1
  refine s_iload (pc := 49) C dX4_runEach_49 6 rfl ?_
  refine s_iload (pc := 51) C dX4_runEach_51 4 rfl ?_
  refine s_icmp_gt (pc := 53) C (tgt := 123) dX4_runEach_53 (by decide) ⟨by omega, by omega⟩ ⟨by omega, by omega⟩ (fun h53 => ?_) (fun h53 => ?_)
  · skip
    refine s_iconst (pc := 123) C dX4_runEach_123 ?_
    refine s_iret (pc := 124) C dX4_runEach_124 ?_
    refine ⟨_, rfl, ?_⟩
    exact ⟨hg49, hf49, hp49_ST, by first | omega | assumption | (constructor <;> omega) | (refine ⟨⟨?_, ?_⟩, ?_⟩ <;> omega) | (simp [hs_ss, hs_up]; omega) | (simp [hs_ss, hs_up]; done)⟩
  · skip
    refine s_aload_n (pc := 56) C dX4_runEach_56 0 rfl ?_
    refine s_getr (q := 27) (ci := 4) (N := 7) (CN := RX4) (T := TX4) (pc := 57) C 3 dX4_runEach_57 wlX4_11 rfl rfl rfl wfX4 (by decide) rfl ?_
    refine s_aload_n (pc := 60) C dX4_runEach_60 0 rfl ?_
    refine s_getr (q := 27) (ci := 4) (N := 7) (CN := RX4) (T := TX4) (pc := 61) C 2 dX4_runEach_61 wlX4_25 rfl rfl rfl wfX4 (by decide) rfl ?_
    refine s_getrN (q := 15) (ci := 3) (N := 15) (CN := RX3) (T := TX3) (pc := 64) C 3 dX4_runEach_64 wlX4_124 rfl rfl rfl wfX3 (by decide) rfl ?_
    refine s_iload_n (pc := 67) C dX4_runEach_67 1 rfl ?_
    refine s_iald (q := 22) (n := 60) (pc := 68) C (σ1 22 u.toNat) rfl dX4_runEach_68 rfl (by omega) (by omega) (by decide) ?_
    have b68 : (0 : Int) ≤ σ1 22 u.toNat ∧ σ1 22 u.toNat ≤ 7 := hg49.1 22 u.toNat
    refine s_aload_n (pc := 69) C dX4_runEach_69 0 rfl ?_
    refine s_getr (q := 27) (ci := 4) (N := 7) (CN := RX4) (T := TX4) (pc := 70) C 0 dX4_runEach_70 wlX4_17 rfl rfl rfl wfX4 (by decide) rfl ?_
    refine s_getrN (q := 2) (ci := 5) (N := 3) (CN := RX5) (T := TX5) (pc := 73) C 0 dX4_runEach_73 wlX4_65 rfl rfl rfl wfX5 (by decide) rfl ?_
    refine s_iload_n (pc := 76) C dX4_runEach_76 3 rfl ?_
    refine s_iload (pc := 77) C dX4_runEach_77 6 rfl ?_
    refine s_iadd (pc := 79) C dX4_runEach_79 ?_
    refine s_callVNi (pc := 80) C (c_X8_wrap l 3 (Or.inl rfl) (z4 + k) ⟨by omega, by omega⟩) [vI (z4 + k)] [vI (σ1 22 u.toNat), .ref (ad 28)] rfl rfl dX4_runEach_80 wlX4_121 wiX8_wrap weX8_wrap wcX8_wrap wnX8 noX8_wrap (by omega) (by decide) (Nat.le_of_ble_eq_true rfl) (gx_self hg49) rfl rfl ?_
    rintro z80 _ ⟨rfl, k80⟩
    show hs_Wd _ _ _ _ _ _ _ _ _ _ _ _ _ _ _ _ _ 83 _ [vI z80, vI (σ1 22 u.toNat), .ref (ad 28)] σ1
    refine s_iast (q := 28) (n := 8) (pc := 83) C dX4_runEach_83 rfl (by omega) (by omega) (by decide) ?_
    have g83 := gx_set (z := z80) hg49 28 ((σ1 22 u.toNat).toNat) rfl (0) (99) rfl ⟨by omega, by omega⟩
    have f83 := frm_set (P := PRn) (z := z80) hf49 28 ((σ1 22 u.toNat).toNat) rfl
    have p83_ST := ST_cg (frm_one (P := okST) (z := z80) 28 ((σ1 22 u.toNat).toNat) rfl) hp49_ST
    refine s_aload_n (pc := 84) C dX4_runEach_84 0 rfl ?_
    refine s_iload_n (pc := 85) C dX4_runEach_85 1 rfl ?_
    refine s_iconst (pc := 86) C dX4_runEach_86 ?_
    refine s_iadd (pc := 87) C dX4_runEach_87 ?_
    refine s_aload_n (pc := 88) C dX4_runEach_88 0 rfl ?_
    refine s_getr (q := 27) (ci := 4) (N := 7) (CN := RX4) (T := TX4) (pc := 89) C 2 dX4_runEach_89 wlX4_25 rfl rfl rfl wfX4 (by decide) rfl ?_
    refine s_getrN (q := 15) (ci := 3) (N := 15) (CN := RX3) (T := TX3) (pc := 92) C 4 dX4_runEach_92 wlX4_48 rfl rfl rfl wfX3 (by decide) rfl ?_
    refine s_iload_n (pc := 95) C dX4_runEach_95 1 rfl ?_
    refine s_iald (q := 23) (n := 60) (pc := 96) C (σ1 23 u.toNat) rfl dX4_runEach_96 rfl (by omega) (by omega) (by decide) ?_
    have b96 : (0 : Int) ≤ σ1 23 u.toNat ∧ σ1 23 u.toNat ≤ 60 := g83.1 23 u.toNat
    refine s_iload_n (pc := 97) C dX4_runEach_97 2 rfl ?_
    refine s_iconst (pc := 98) C dX4_runEach_98 ?_
    refine s_iadd (pc := 99) C dX4_runEach_99 ?_
    have hrow := ih (u + 1) (σ1 23 u.toNat) (by omega) ⟨by omega, by omega⟩
    rw [show (6 : Int) - n = dp + 1 by omega] at hrow
    refine s_callVi (pc := 100) C hrow [vI (u + 1), vI (σ1 23 u.toNat), vI (dp + 1)] [] rfl rfl dX4_runEach_100 wlX4_117 wiX4_runRow weX4_runRow wcX4_runRow wnX4 noX4_runRow (by omega) (by decide) (Nat.le_of_ble_eq_true rfl) ⟨(gx_self g83), p83_ST⟩ rfl rfl ?_
    rintro z100 σ100 k100
    obtain ⟨kg100, kf100, p100_ST, k100⟩ := k100
    have g100 := gx_trans g83 kg100
    have f100 := frm_tr f83 (frm_mono (Q := PRn) kf100 (fun _ _ h => h))
    show hs_Wd _ _ _ _ _ _ _ _ _ _ _ _ _ _ _ _ _ 103 _ [vI z100] σ100
    refine s_istore (pc := 103) C [(7, vI z100), (0, .ref (ad 27)), (1, vI u), (2, vI dp), (3, vI z4), (4, vI z26), (5, vI (max 1 (σ 21 u.toNat))), (6, vI k)] dX4_runEach_103 (by decide) rfl ?_
    refine s_iload (pc := 105) C dX4_runEach_105 0 rfl ?_
    refine s_if_eq (pc := 107) C (tgt := 113) dX4_runEach_107 (by decide) ⟨by omega, by omega⟩ (fun h107 => ?_) (fun h107 => ?_)
    · skip
      refine s_iload (pc := 113) C dX4_runEach_113 7 rfl ?_
      refine s_iload (pc := 115) C dX4_runEach_115 6 rfl ?_
      refine s_iadd (pc := 117) C dX4_runEach_117 ?_
      refine s_istore (pc := 118) C [(6, vI (k + (max 1 (σ 21 u.toNat)))), (7, vI z100), (0, .ref (ad 27)), (1, vI u), (2, vI dp), (3, vI z4), (4, vI z26), (5, vI (max 1 (σ 21 u.toNat)))] dX4_runEach_118 (by decide) rfl ?_
      refine s_goto (pc := 120) C (tgt := 49) dX4_runEach_120 (by decide) ?_
      refine s_sub C [2, 3, 4, 5, 6, 7, 0] [(0, .ref (ad 27)), (1, vI u), (2, vI dp), (3, vI z4), (4, vI z26), (5, vI (max 1 (σ 21 u.toNat))), (6, vI (k + (max 1 (σ 21 u.toNat))))] rfl ?_
      have hi49 : GX σ σ100 ∧ FRM PRn σ σ100 ∧ ST σ100 ∧ 0 ≤ (k + (max 1 (σ 21 u.toNat))) ∧ (k + (max 1 (σ 21 u.toNat))) ≤ 300 := ⟨g100, f100, p100_ST, by first | omega | assumption | (constructor <;> omega) | (refine ⟨⟨?_, ?_⟩, ?_⟩ <;> omega) | (simp [hs_ss, hs_up]; omega) | (simp [hs_ss, hs_up]; done)⟩
      exact ih49 (k + (max 1 (σ 21 u.toNat)), σ100) (by first | omega | (simp only []; omega)) hi49
    · skip
      refine s_iload (pc := 110) C dX4_runEach_110 0 rfl ?_
      refine s_iret (pc := 112) C dX4_runEach_112 ?_
      refine ⟨_, rfl, ?_⟩
      exact ⟨g100, f100, p100_ST, by first | omega | assumption | (constructor <;> omega) | (refine ⟨⟨?_, ?_⟩, ?_⟩ <;> omega) | (simp [hs_ss, hs_up]; omega) | (simp [hs_ss, hs_up]; done)⟩
set_option maxHeartbeats 4000000 in
set_option maxRecDepth 100000 in
theorem r_X4_runStatement (l : Launch) (n : Nat) (hn : n ≤ 5) (ih : ∀ f en : Int, (0 ≤ f ∧ f ≤ 60) → hs_R en → hs_Met l yX4_runRow cX4_runRow 6 (some .int) (3 * n + 10) SHX (fun ad => [.ref (ad 27), vI f, vI en, vI (6 - (n : Int))]) (fun σ => GX σ σ ∧ ST σ) (hs_PI (fun σ z σ1 => GX σ σ1 ∧ FRM PRn σ σ1 ∧ ST σ1 ∧ 0 ≤ z ∧ z ≤ 3))) (u : Int) (hu : 0 ≤ u ∧ u ≤ 59) (dp : Int) (hd : dp = 5 - (n : Int)) : hs_Met l yX4_runStatement cX4_runStatement 5 (some .int) (3 * n + 12) SHX (fun ad => [.ref (ad 27), vI u, vI dp]) (fun σ => GX σ σ ∧ ST σ) (hs_PI (fun σ z σ1 => GX σ σ1 ∧ FRM PRn σ σ1 ∧ ST σ1 ∧ 0 ≤ z ∧ z ≤ 3)) := by
  refine hs_from pfX4_runStatement (fun _ => Nat.le_of_ble_eq_true rfl) ?_
  intro p e s m args below meth c D dA ad A σ C hpre
  have C : hs_C p s m args meth c D dA SHX ad A 5 cX4_runStatement RX4 (some .int) := C
  obtain ⟨g0, p0_ST⟩ := hpre
  have f0 : FRM PRn σ σ := frm_rf
  have hst := p0_ST
  unfold ST at hst
  have b0 : (0 : Int) ≤ σ 27 5 ∧ σ 27 5 ≤ 5000 := g0.1 27 5
  have b1 : (0 : Int) ≤ σ 27 6 ∧ σ 27 6 ≤ 5000 := g0.1 27 6
  show hs_Wd p l e (3 * n + 12) s m args below meth c D dA SHX ad A 5 (hs_PI (fun σ z σ1 => GX σ σ1 ∧ FRM PRn σ σ1 ∧ ST σ1 ∧ 0 ≤ z ∧ z ≤ 3) σ) 0 [(0, .ref (ad 27)), (1, vI u), (2, vI dp)] [] σ
  refine s_aload_n (pc := 0) C dX4_runStatement_0 0 rfl ?_
  refine s_iload_n (pc := 1) C dX4_runStatement_1 1 rfl ?_
  refine s_callVi (pc := 2) C (c_X4_goesLeft l u (by first | omega | assumption | (constructor <;> omega) | (refine ⟨⟨?_, ?_⟩, ?_⟩ <;> omega) | (simp [hs_ss, hs_up]; omega) | (simp [hs_ss, hs_up]; done))) [vI u] [] rfl rfl dX4_runStatement_2 wlX4_56 wiX4_goesLeft weX4_goesLeft wcX4_goesLeft wnX4 noX4_goesLeft (by omega) (by decide) (Nat.le_of_ble_eq_true rfl) (gx_self g0) rfl rfl ?_
  rintro z2 _ ⟨rfl, k2⟩
  show hs_Wd _ _ _ _ _ _ _ _ _ _ _ _ _ _ _ _ _ 5 _ [vI z2] σ
  refine s_istore_n (pc := 5) C [(3, vI z2), (0, .ref (ad 27)), (1, vI u), (2, vI dp)] dX4_runStatement_5 (by decide) rfl ?_
  refine s_aload_n (pc := 6) C dX4_runStatement_6 1 rfl ?_
  refine s_iload_n (pc := 7) C dX4_runStatement_7 2 rfl ?_
  refine s_iload_n (pc := 8) C dX4_runStatement_8 0 rfl ?_
  refine s_callVi (pc := 9) C (c_X4_stepsOf l u (by first | omega | assumption | (constructor <;> omega) | (refine ⟨⟨?_, ?_⟩, ?_⟩ <;> omega) | (simp [hs_ss, hs_up]; omega) | (simp [hs_ss, hs_up]; done)) z2 (by first | omega | assumption | (constructor <;> omega) | (refine ⟨⟨?_, ?_⟩, ?_⟩ <;> omega) | (simp [hs_ss, hs_up]; omega) | (simp [hs_ss, hs_up]; done))) [vI u, vI z2] [] rfl rfl dX4_runStatement_9 wlX4_60 wiX4_stepsOf weX4_stepsOf wcX4_stepsOf wnX4 noX4_stepsOf (by omega) (by decide) (Nat.le_of_ble_eq_true rfl) (gx_self g0) rfl rfl ?_
  rintro z9 _ ⟨rfl, k9⟩
  show hs_Wd _ _ _ _ _ _ _ _ _ _ _ _ _ _ _ _ _ 12 _ [vI z9] σ
  refine s_istore (pc := 12) C [(4, vI z9), (3, vI z2), (0, .ref (ad 27)), (1, vI u), (2, vI dp)] dX4_runStatement_12 (by decide) rfl ?_
  refine s_aload_n (pc := 14) C dX4_runStatement_14 2 rfl ?_
  refine s_geti (q := 27) (ci := 4) (N := 7) (CN := RX4) (T := TX4) (pc := 15) C 5 dX4_runStatement_15 wlX4_33 rfl rfl rfl wfX4 (by decide) rfl (σ 27 5) rfl ?_
  have b15 : (0 : Int) ≤ σ 27 5 ∧ σ 27 5 ≤ 5000 := g0.1 27 5
  refine s_iconst (pc := 18) C dX4_runStatement_18 ?_
  refine s_iadd (pc := 19) C dX4_runStatement_19 ?_
  refine s_sipush (pc := 20) C dX4_runStatement_20 (by decide) ?_
  refine s_icmp_gt (pc := 23) C (tgt := 38) dX4_runStatement_23 (by decide) ⟨by omega, by omega⟩ ⟨by decide, by decide⟩ (fun h23 => ?_) (fun h23 => ?_)
  · skip
    refine s_iconst (pc := 38) C dX4_runStatement_38 ?_
    refine s_iret (pc := 39) C dX4_runStatement_39 ?_
    refine ⟨_, rfl, ?_⟩
    exact ⟨g0, f0, p0_ST, by first | omega | assumption | (constructor <;> omega) | (refine ⟨⟨?_, ?_⟩, ?_⟩ <;> omega) | (simp [hs_ss, hs_up]; omega) | (simp [hs_ss, hs_up]; done)⟩
  · skip
    refine s_aload_n (pc := 26) C dX4_runStatement_26 2 rfl ?_
    refine s_geti (q := 27) (ci := 4) (N := 7) (CN := RX4) (T := TX4) (pc := 27) C 4 dX4_runStatement_27 wlX4_29 rfl rfl rfl wfX4 (by decide) rfl (σ 27 4) rfl ?_
    have b27 : (-500000 : Int) ≤ σ 27 4 ∧ σ 27 4 ≤ 100000 := g0.1 27 4
    refine s_iload (pc := 30) C dX4_runStatement_30 0 rfl ?_
    refine s_iadd (pc := 32) C dX4_runStatement_32 ?_
    refine s_ldc (z := 100000) (pc := 33) C dX4_runStatement_33 wlX4_64 (by decide) ?_
    refine s_icmp_le (pc := 35) C (tgt := 40) dX4_runStatement_35 (by decide) ⟨by omega, by omega⟩ ⟨by decide, by decide⟩ (fun h35 => ?_) (fun h35 => ?_)
    · skip
      refine s_aload_n (pc := 40) C dX4_runStatement_40 2 rfl ?_
      refine s_dup (pc := 41) C dX4_runStatement_41 rfl ?_
      refine s_geti (q := 27) (ci := 4) (N := 7) (CN := RX4) (T := TX4) (pc := 42) C 5 dX4_runStatement_42 wlX4_33 rfl rfl rfl wfX4 (by decide) rfl (σ 27 5) rfl ?_
      have b42 : (0 : Int) ≤ σ 27 5 ∧ σ 27 5 ≤ 5000 := g0.1 27 5
      refine s_iconst (pc := 45) C dX4_runStatement_45 ?_
      refine s_iadd (pc := 46) C dX4_runStatement_46 ?_
      refine s_puti (q := 27) (ci := 4) (N := 7) (CN := RX4) (T := TX4) (ty0 := tyX4) (ty := .int) (pc := 47) C 5 dX4_runStatement_47 wlX4_33 rfl rfl rfl wfX4 tyX4_ok nmX4 (by decide) rfl rfl rfl (vp_nar_int _) rfl ?_
      have g47 := gx_set (z := ((σ 27 5) + 1)) g0 27 5 rfl (0) (5000) rfl ⟨by omega, by omega⟩
      have f47 := frm_set (P := PRn) (z := ((σ 27 5) + 1)) f0 27 5 rfl
      refine s_aload_n (pc := 50) C dX4_runStatement_50 2 rfl ?_
      refine s_dup (pc := 51) C dX4_runStatement_51 rfl ?_
      refine s_geti (q := 27) (ci := 4) (N := 7) (CN := RX4) (T := TX4) (pc := 52) C 4 dX4_runStatement_52 wlX4_29 rfl rfl rfl wfX4 (by decide) rfl (σ 27 4) rfl ?_
      have b52 : (-500000 : Int) ≤ σ 27 4 ∧ σ 27 4 ≤ 100000 := g47.1 27 4
      refine s_iload (pc := 55) C dX4_runStatement_55 0 rfl ?_
      refine s_iadd (pc := 57) C dX4_runStatement_57 ?_
      refine s_puti (q := 27) (ci := 4) (N := 7) (CN := RX4) (T := TX4) (ty0 := tyX4) (ty := .int) (pc := 58) C 4 dX4_runStatement_58 wlX4_29 rfl rfl rfl wfX4 tyX4_ok nmX4 (by decide) rfl rfl rfl (vp_nar_int _) rfl ?_
      have g58 := gx_set (z := ((σ 27 4) + z9)) g47 27 4 rfl (-500000) (100000) rfl ⟨by omega, by omega⟩
      have f58 := frm_set (P := PRn) (z := ((σ 27 4) + z9)) f47 27 4 rfl
      have p58_ST : ST ((hs_ss (hs_ss σ 27 5 ((σ 27 5) + 1)) 27 4 ((σ 27 4) + z9))) := (by unfold ST; simp [hs_ss, hs_up]; omega)
      refine s_aload_n (pc := 61) C dX4_runStatement_61 2 rfl ?_
      refine s_getr (q := 27) (ci := 4) (N := 7) (CN := RX4) (T := TX4) (pc := 62) C 0 dX4_runStatement_62 wlX4_17 rfl rfl rfl wfX4 (by decide) rfl ?_
      refine s_getrN (q := 2) (ci := 5) (N := 3) (CN := RX5) (T := TX5) (pc := 65) C 0 dX4_runStatement_65 wlX4_65 rfl rfl rfl wfX5 (by decide) rfl ?_
      refine s_iload (pc := 68) C dX4_runStatement_68 0 rfl ?_
      refine s_iload_n (pc := 70) C dX4_runStatement_70 1 rfl ?_
      refine s_callVNv (pc := 71) C (c_X8_spin l 3 (Or.inl rfl) z9 z2 (by first | omega | assumption | (constructor <;> omega) | (refine ⟨⟨?_, ?_⟩, ?_⟩ <;> omega) | (simp [hs_ss, hs_up]; omega) | (simp [hs_ss, hs_up]; done)) (by first | omega | assumption | (constructor <;> omega) | (refine ⟨⟨?_, ?_⟩, ?_⟩ <;> omega) | (simp [hs_ss, hs_up]; omega) | (simp [hs_ss, hs_up]; done))) [vI z9, vI z2] [] rfl rfl dX4_runStatement_71 wlX4_71 wiX8_spin weX8_spin wcX8_spin wnX8 noX8_spin (by omega) (by decide) (Nat.le_of_ble_eq_true rfl) (gx_self g58) rfl rfl ?_
      rintro σ71 k71
      obtain ⟨kg71, kf71, k71⟩ := k71
      have g71 := gx_trans g58 kg71
      have f71 := frm_tr f58 (frm_mono (Q := PRn) kf71 (fun c j h => by simp [PSp, PRn] at h ⊢ <;> omega))
      have p71_ST := ST_cg (frm_mono (Q := okST) kf71 (fun c j h => by simp [PSp, okST] at h ⊢ <;> omega)) p58_ST
      have e71a : σ71 27 5 = σ 27 5 + 1 := kf71 27 5 rfl
      have e71b : σ71 27 6 = σ 27 6 := kf71 27 6 rfl
      have b71 : (0 : Int) ≤ σ71 27 5 ∧ σ71 27 5 ≤ 5000 := g71.1 27 5
      have s71 := p71_ST
      unfold ST at s71
      show hs_Wd _ _ _ _ _ _ _ _ _ _ _ _ _ _ _ _ _ 74 _ [] σ71
      refine s_aload_n (pc := 74) C dX4_runStatement_74 2 rfl ?_
      refine s_getr (q := 27) (ci := 4) (N := 7) (CN := RX4) (T := TX4) (pc := 75) C 2 dX4_runStatement_75 wlX4_25 rfl rfl rfl wfX4 (by decide) rfl ?_
      refine s_getrN (q := 15) (ci := 3) (N := 15) (CN := RX3) (T := TX3) (pc := 78) C 1 dX4_runStatement_78 wlX4_77 rfl rfl rfl wfX3 (by decide) rfl ?_
      refine s_iload_n (pc := 81) C dX4_runStatement_81 3 rfl ?_
      refine s_iald (q := 20) (n := 60) (pc := 82) C (σ71 20 u.toNat) rfl dX4_runStatement_82 rfl (by omega) (by omega) (by decide) ?_
      have b82 : (0 : Int) ≤ σ71 20 u.toNat ∧ σ71 20 u.toNat ≤ 10 := g71.1 20 u.toNat
      by_cases sw83 : (σ71 20 u.toNat) < 7 ∨ 10 < (σ71 20 u.toNat)
      · refine s_swOut (pc := 83) C (tgt := 160) dX4_runStatement_83 ⟨by omega, by omega⟩ sw83 (by decide) ?_
        refine s_iconst (pc := 160) C dX4_runStatement_160 ?_
        refine s_iret (pc := 161) C dX4_runStatement_161 ?_
        refine ⟨_, rfl, ?_⟩
        exact ⟨g71, f71, p71_ST, by first | omega | assumption | (constructor <;> omega) | (refine ⟨⟨?_, ?_⟩, ?_⟩ <;> omega) | (simp [hs_ss, hs_up]; omega) | (simp [hs_ss, hs_up]; done)⟩
      · rcases (show (σ71 20 u.toNat) = 7 ∨ (σ71 20 u.toNat) = 8 ∨ (σ71 20 u.toNat) = 9 ∨ (σ71 20 u.toNat) = 10 by omega) with sv83 | sv83 | sv83 | sv83
        · refine s_swIn (pc := 83) (off := 29) C (tgt := 112) dX4_runStatement_83 ⟨by omega, by omega⟩ (by omega) (by omega) (by rw [sv83]; decide) (by decide) ?_
          refine s_aload_n (pc := 112) C dX4_runStatement_112 2 rfl ?_
          refine s_getr (q := 27) (ci := 4) (N := 7) (CN := RX4) (T := TX4) (pc := 113) C 1 dX4_runStatement_113 wlX4_21 rfl rfl rfl wfX4 (by decide) rfl ?_
          refine s_aload_n (pc := 116) C dX4_runStatement_116 2 rfl ?_
          refine s_getr (q := 27) (ci := 4) (N := 7) (CN := RX4) (T := TX4) (pc := 117) C 0 dX4_runStatement_117 wlX4_17 rfl rfl rfl wfX4 (by decide) rfl ?_
          refine s_callVNv (pc := 120) C (c_X1_note l) [.ref (ad 2)] [] rfl rfl dX4_runStatement_120 wlX4_80 wiX1_note weX1_note wcX1_note wnX1 noX1_note (by omega) (by decide) (Nat.le_of_ble_eq_true rfl) (gx_self g71) rfl rfl ?_
          rintro σ120 k120
          obtain ⟨kg120, kf120, k120⟩ := k120
          have g120 := gx_trans g71 kg120
          have f120 := frm_tr f71 (frm_mono (Q := PRn) kf120 (fun c j h => by simp [PNote, PRn] at h ⊢ <;> omega))
          have p120_ST := ST_cg (frm_mono (Q := okST) kf120 (fun c j h => by simp [PNote, okST] at h ⊢ <;> omega)) p71_ST
          show hs_Wd _ _ _ _ _ _ _ _ _ _ _ _ _ _ _ _ _ 123 _ [] σ120
          refine s_iconst (pc := 123) C dX4_runStatement_123 ?_
          refine s_iret (pc := 124) C dX4_runStatement_124 ?_
          refine ⟨_, rfl, ?_⟩
          exact ⟨g120, f120, p120_ST, by first | omega | assumption | (constructor <;> omega) | (refine ⟨⟨?_, ?_⟩, ?_⟩ <;> omega) | (simp [hs_ss, hs_up]; omega) | (simp [hs_ss, hs_up]; done)⟩
        · refine s_swIn (pc := 83) (off := 42) C (tgt := 125) dX4_runStatement_83 ⟨by omega, by omega⟩ (by omega) (by omega) (by rw [sv83]; decide) (by decide) ?_
          refine s_aload_n (pc := 125) C dX4_runStatement_125 2 rfl ?_
          refine s_dup (pc := 126) C dX4_runStatement_126 rfl ?_
          refine s_geti (q := 27) (ci := 4) (N := 7) (CN := RX4) (T := TX4) (pc := 127) C 6 dX4_runStatement_127 wlX4_36 rfl rfl rfl wfX4 (by decide) rfl (σ71 27 6) rfl ?_
          have b127 : (0 : Int) ≤ σ71 27 6 ∧ σ71 27 6 ≤ 5000 := g71.1 27 6
          refine s_iconst (pc := 130) C dX4_runStatement_130 ?_
          refine s_iadd (pc := 131) C dX4_runStatement_131 ?_
          refine s_puti (q := 27) (ci := 4) (N := 7) (CN := RX4) (T := TX4) (ty0 := tyX4) (ty := .int) (pc := 132) C 6 dX4_runStatement_132 wlX4_36 rfl rfl rfl wfX4 tyX4_ok nmX4 (by decide) rfl rfl rfl (vp_nar_int _) rfl ?_
          have g132 := gx_set (z := ((σ71 27 6) + 1)) g71 27 6 rfl (0) (5000) rfl ⟨by omega, by omega⟩
          have f132 := frm_set (P := PRn) (z := ((σ71 27 6) + 1)) f71 27 6 rfl
          have p132_ST : ST ((hs_ss σ71 27 6 ((σ71 27 6) + 1))) := (by unfold ST; simp [hs_ss, hs_up]; omega)
          refine s_aload_n (pc := 135) C dX4_runStatement_135 2 rfl ?_
          refine s_getr (q := 27) (ci := 4) (N := 7) (CN := RX4) (T := TX4) (pc := 136) C 0 dX4_runStatement_136 wlX4_17 rfl rfl rfl wfX4 (by decide) rfl ?_
          have r139_2_2 : (hs_ss σ71 27 6 ((σ71 27 6) + 1)) 2 2 = σ71 2 2 := rfl
          have r139_3_4 : (hs_ss σ71 27 6 ((σ71 27 6) + 1)) 3 4 = σ71 3 4 := rfl
          refine s_callVNi (pc := 139) C (c_X5_tryLever l) [] [] rfl rfl dX4_runStatement_139 wlX4_86 wiX5_tryLever weX5_tryLever wcX5_tryLever wnX5 noX5_tryLever (by omega) (by decide) (Nat.le_of_ble_eq_true rfl) (gx_self g132) rfl rfl ?_
          rintro z139 _ ⟨rfl, k139⟩
          show hs_Wd _ _ _ _ _ _ _ _ _ _ _ _ _ _ _ _ _ 142 _ [vI z139] (hs_ss σ71 27 6 ((σ71 27 6) + 1))
          refine s_callSi (pc := 142) C (c_X4_outcomeOfTry l z139 (by first | omega | assumption | (constructor <;> omega) | (refine ⟨⟨?_, ?_⟩, ?_⟩ <;> omega) | (simp [hs_ss, hs_up]; omega) | (simp [hs_ss, hs_up]; done))) [vI z139] [] rfl rfl dX4_runStatement_142 wlX4_90 wtX4_outcomeOfTry wcX4_outcomeOfTry wnX4 noX4_outcomeOfTry (by omega) (by decide) (Nat.le_of_ble_eq_true rfl) (gx_self g132) ?_
          rintro z142 _ ⟨rfl, k142⟩
          show hs_Wd _ _ _ _ _ _ _ _ _ _ _ _ _ _ _ _ _ 145 _ [vI z142] (hs_ss σ71 27 6 ((σ71 27 6) + 1))
          refine s_iret (pc := 145) C dX4_runStatement_145 ?_
          refine ⟨_, rfl, ?_⟩
          exact ⟨g132, f132, p132_ST, by first | omega | assumption | (constructor <;> omega) | (refine ⟨⟨?_, ?_⟩, ?_⟩ <;> omega) | (simp [hs_ss, hs_up]; omega) | (simp [hs_ss, hs_up]; done)⟩
        · refine s_swIn (pc := 83) (off := 63) C (tgt := 146) dX4_runStatement_83 ⟨by omega, by omega⟩ (by omega) (by omega) (by rw [sv83]; decide) (by decide) ?_
          refine s_aload_n (pc := 146) C dX4_runStatement_146 2 rfl ?_
          refine s_iload_n (pc := 147) C dX4_runStatement_147 3 rfl ?_
          refine s_iload_n (pc := 148) C dX4_runStatement_148 4 rfl ?_
          refine s_callVi (pc := 149) C (r_X4_runAgain l n hn ih u hu dp hd) [vI u, vI dp] [] rfl rfl dX4_runStatement_149 wlX4_94 wiX4_runAgain weX4_runAgain wcX4_runAgain wnX4 noX4_runAgain (by omega) (by decide) (Nat.le_of_ble_eq_true rfl) ⟨(gx_self g71), p71_ST⟩ rfl rfl ?_
          rintro z149 σ149 k149
          obtain ⟨kg149, kf149, p149_ST, k149⟩ := k149
          have g149 := gx_trans g71 kg149
          have f149 := frm_tr f71 (frm_mono (Q := PRn) kf149 (fun _ _ h => h))
          show hs_Wd _ _ _ _ _ _ _ _ _ _ _ _ _ _ _ _ _ 152 _ [vI z149] σ149
          refine s_iret (pc := 152) C dX4_runStatement_152 ?_
          refine ⟨_, rfl, ?_⟩
          exact ⟨g149, f149, p149_ST, by first | omega | assumption | (constructor <;> omega) | (refine ⟨⟨?_, ?_⟩, ?_⟩ <;> omega) | (simp [hs_ss, hs_up]; omega) | (simp [hs_ss, hs_up]; done)⟩
        · refine s_swIn (pc := 83) (off := 70) C (tgt := 153) dX4_runStatement_83 ⟨by omega, by omega⟩ (by omega) (by omega) (by rw [sv83]; decide) (by decide) ?_
          refine s_aload_n (pc := 153) C dX4_runStatement_153 2 rfl ?_
          refine s_iload_n (pc := 154) C dX4_runStatement_154 3 rfl ?_
          refine s_iload_n (pc := 155) C dX4_runStatement_155 4 rfl ?_
          refine s_callVi (pc := 156) C (r_X4_runEach l n hn ih u hu dp hd) [vI u, vI dp] [] rfl rfl dX4_runStatement_156 wlX4_97 wiX4_runEach weX4_runEach wcX4_runEach wnX4 noX4_runEach (by omega) (by decide) (Nat.le_of_ble_eq_true rfl) ⟨(gx_self g71), p71_ST⟩ rfl rfl ?_
          rintro z156 σ156 k156
          obtain ⟨kg156, kf156, p156_ST, k156⟩ := k156
          have g156 := gx_trans g71 kg156
          have f156 := frm_tr f71 (frm_mono (Q := PRn) kf156 (fun _ _ h => h))
          show hs_Wd _ _ _ _ _ _ _ _ _ _ _ _ _ _ _ _ _ 159 _ [vI z156] σ156
          refine s_iret (pc := 159) C dX4_runStatement_159 ?_
          refine ⟨_, rfl, ?_⟩
          exact ⟨g156, f156, p156_ST, by first | omega | assumption | (constructor <;> omega) | (refine ⟨⟨?_, ?_⟩, ?_⟩ <;> omega) | (simp [hs_ss, hs_up]; omega) | (simp [hs_ss, hs_up]; done)⟩
    · skip
      refine s_iconst (pc := 38) C dX4_runStatement_38 ?_
      refine s_iret (pc := 39) C dX4_runStatement_39 ?_
      refine ⟨_, rfl, ?_⟩
      exact ⟨g0, f0, p0_ST, by first | omega | assumption | (constructor <;> omega) | (refine ⟨⟨?_, ?_⟩, ?_⟩ <;> omega) | (simp [hs_ss, hs_up]; omega) | (simp [hs_ss, hs_up]; done)⟩
set_option maxHeartbeats 4000000 in
set_option maxRecDepth 100000 in
theorem r_X4_runRow (l : Launch) (n : Nat) (hn : n ≤ 5) (ih : ∀ f en : Int, (0 ≤ f ∧ f ≤ 60) → hs_R en → hs_Met l yX4_runRow cX4_runRow 6 (some .int) (3 * n + 10) SHX (fun ad => [.ref (ad 27), vI f, vI en, vI (6 - (n : Int))]) (fun σ => GX σ σ ∧ ST σ) (hs_PI (fun σ z σ1 => GX σ σ1 ∧ FRM PRn σ σ1 ∧ ST σ1 ∧ 0 ≤ z ∧ z ≤ 3))) (f en : Int) (hf : 0 ≤ f ∧ f ≤ 60) (hen : hs_R en) (dp : Int) (hd : dp = 5 - (n : Int)) : hs_Met l yX4_runRow cX4_runRow 6 (some .int) (3 * n + 13) SHX (fun ad => [.ref (ad 27), vI f, vI en, vI dp]) (fun σ => GX σ σ ∧ ST σ) (hs_PI (fun σ z σ1 => GX σ σ1 ∧ FRM PRn σ σ1 ∧ ST σ1 ∧ 0 ≤ z ∧ z ≤ 3)) := by
  refine hs_from pfX4_runRow (fun _ => Nat.le_of_ble_eq_true rfl) ?_
  intro p e s m args below meth c D dA ad A σ C hpre
  have C : hs_C p s m args meth c D dA SHX ad A 6 cX4_runRow RX4 (some .int) := C
  obtain ⟨g0, p0_ST⟩ := hpre
  have f0 : FRM PRn σ σ := frm_rf
  show hs_Wd p l e (3 * n + 13) s m args below meth c D dA SHX ad A 6 (hs_PI (fun σ z σ1 => GX σ σ1 ∧ FRM PRn σ σ1 ∧ ST σ1 ∧ 0 ≤ z ∧ z ≤ 3) σ) 0 [(0, .ref (ad 27)), (1, vI f), (2, vI en), (3, vI dp)] [] σ
  refine s_iload_n (pc := 0) C dX4_runRow_0 3 rfl ?_
  refine s_iconst (pc := 1) C dX4_runRow_1 ?_
  refine s_icmp_gt (pc := 2) C (tgt := 16) dX4_runRow_2 (by decide) ⟨by omega, by omega⟩ ⟨by decide, by decide⟩ (fun h2 => ?_) (fun h2 => ?_)
  · skip
    refine s_iconst (pc := 16) C dX4_runRow_16 ?_
    refine s_iret (pc := 17) C dX4_runRow_17 ?_
    refine ⟨_, rfl, ?_⟩
    exact ⟨g0, f0, p0_ST, by first | omega | assumption | (constructor <;> omega) | (refine ⟨⟨?_, ?_⟩, ?_⟩ <;> omega) | (simp [hs_ss, hs_up]; omega) | (simp [hs_ss, hs_up]; done)⟩
  · skip
    refine s_iload_n (pc := 5) C dX4_runRow_5 2 rfl ?_
    refine s_aload_n (pc := 6) C dX4_runRow_6 0 rfl ?_
    refine s_getr (q := 27) (ci := 4) (N := 7) (CN := RX4) (T := TX4) (pc := 7) C 2 dX4_runRow_7 wlX4_25 rfl rfl rfl wfX4 (by decide) rfl ?_
    refine s_getiN (q := 15) (ci := 3) (N := 15) (CN := RX3) (T := TX3) (pc := 10) C 8 dX4_runRow_10 wlX4_41 rfl rfl rfl wfX3 (by decide) rfl (σ 15 8) rfl ?_
    have b10 : (0 : Int) ≤ σ 15 8 ∧ σ 15 8 ≤ 60 := g0.1 15 8
    refine s_icmp_le (pc := 13) C (tgt := 18) dX4_runRow_13 (by decide) ⟨by omega, by omega⟩ ⟨by omega, by omega⟩ (fun h13 => ?_) (fun h13 => ?_)
    · skip
      refine s_iload_n (pc := 18) C dX4_runRow_18 1 rfl ?_
      refine s_istore (pc := 19) C [(4, vI f), (0, .ref (ad 27)), (1, vI f), (2, vI en), (3, vI dp)] dX4_runRow_19 (by decide) rfl ?_
      refine s_sub C [1, 2, 3, 4, 0] [(0, .ref (ad 27)), (1, vI f), (2, vI en), (3, vI dp), (4, vI f)] rfl ?_
      have hi21 : GX σ σ ∧ FRM PRn σ σ ∧ ST σ ∧ 0 ≤ f ∧ f ≤ 60 := ⟨g0, f0, p0_ST, by first | omega | assumption | (constructor <;> omega) | (refine ⟨⟨?_, ?_⟩, ?_⟩ <;> omega) | (simp [hs_ss, hs_up]; omega) | (simp [hs_ss, hs_up]; done)⟩
      refine hs_loop (α := Int × hs_S) (fun x_ => (GX σ x_.2 ∧ FRM PRn σ x_.2 ∧ ST x_.2 ∧ 0 ≤ x_.1 ∧ x_.1 ≤ 60) → hs_Wd p l e (3 * n + 13) s m args below meth c D dA SHX ad A 6 (hs_PI (fun σ z σ1 => GX σ σ1 ∧ FRM PRn σ σ1 ∧ ST σ1 ∧ 0 ≤ z ∧ z ≤ 3) σ) 21 [(0, .ref (ad 27)), (1, vI f), (2, vI en), (3, vI dp), (4, vI x_.1)] [] x_.2) (fun x_ => (61 - x_.1).toNat) ?_ (f, σ) hi21
      rintro ⟨st, σ1⟩ ih21 hinv
      replace hinv : GX σ σ1 ∧ FRM PRn σ σ1 ∧ ST σ1 ∧ 0 ≤ st ∧ st ≤ 60 := hinv
      obtain ⟨hg21, hf21, hp21_ST, hv21⟩ := hinv
      show hs_Wd p l e (3 * n + 13) s m args below meth c D dA SHX ad A 6 (hs_PI (fun σ z σ1 => GX σ σ1 ∧ FRM PRn σ σ1 ∧ ST σ1 ∧ 0 ≤ z ∧ z ≤ 3) σ) 21 [(0, .ref (ad 27)), (1, vI f), (2, vI en), (3, vI dp), (4, vI st)] [] σ1
      refine s_iload (pc := 21) C dX4_runRow_21 4 rfl ?_
      refine s_iload_n (pc := 23) C dX4_runRow_23 2 rfl ?_
      refine s_icmp_ge (pc := 24) C (tgt := 66) dX4_runRow_24 (by decide) ⟨by omega, by omega⟩ ⟨by omega, by omega⟩ (fun h24 => ?_) (fun h24 => ?_)
      · skip
        refine s_iconst (pc := 66) C dX4_runRow_66 ?_
        refine s_iret (pc := 67) C dX4_runRow_67 ?_
        refine ⟨_, rfl, ?_⟩
        exact ⟨hg21, hf21, hp21_ST, by first | omega | assumption | (constructor <;> omega) | (refine ⟨⟨?_, ?_⟩, ?_⟩ <;> omega) | (simp [hs_ss, hs_up]; omega) | (simp [hs_ss, hs_up]; done)⟩
      · skip
        refine s_aload_n (pc := 27) C dX4_runRow_27 0 rfl ?_
        refine s_iload (pc := 28) C dX4_runRow_28 4 rfl ?_
        refine s_iload_n (pc := 30) C dX4_runRow_30 3 rfl ?_
        refine s_callVi (pc := 31) C (r_X4_runStatement l n hn ih st (by omega) dp hd) [vI st, vI dp] [] rfl rfl dX4_runRow_31 wlX4_44 wiX4_runStatement weX4_runStatement wcX4_runStatement wnX4 noX4_runStatement (by omega) (by decide) (Nat.le_of_ble_eq_true rfl) ⟨(gx_self hg21), hp21_ST⟩ rfl rfl ?_
        rintro z31 σ31 k31
        obtain ⟨kg31, kf31, p31_ST, k31⟩ := k31
        have g31 := gx_trans hg21 kg31
        have f31 := frm_tr hf21 (frm_mono (Q := PRn) kf31 (fun _ _ h => h))
        show hs_Wd _ _ _ _ _ _ _ _ _ _ _ _ _ _ _ _ _ 34 _ [vI z31] σ31
        refine s_istore (pc := 34) C [(5, vI z31), (0, .ref (ad 27)), (1, vI f), (2, vI en), (3, vI dp), (4, vI st)] dX4_runRow_34 (by decide) rfl ?_
        refine s_iload (pc := 36) C dX4_runRow_36 0 rfl ?_
        refine s_if_eq (pc := 38) C (tgt := 44) dX4_runRow_38 (by decide) ⟨by omega, by omega⟩ (fun h38 => ?_) (fun h38 => ?_)
        · skip
          refine s_iload (pc := 44) C dX4_runRow_44 5 rfl ?_
          refine s_iconst (pc := 46) C dX4_runRow_46 ?_
          refine s_iadd (pc := 47) C dX4_runRow_47 ?_
          refine s_aload_n (pc := 48) C dX4_runRow_48 1 rfl ?_
          refine s_getr (q := 27) (ci := 4) (N := 7) (CN := RX4) (T := TX4) (pc := 49) C 2 dX4_runRow_49 wlX4_25 rfl rfl rfl wfX4 (by decide) rfl ?_
          refine s_getrN (q := 15) (ci := 3) (N := 15) (CN := RX3) (T := TX3) (pc := 52) C 4 dX4_runRow_52 wlX4_48 rfl rfl rfl wfX3 (by decide) rfl ?_
          refine s_iload (pc := 55) C dX4_runRow_55 5 rfl ?_
          refine s_iald (q := 23) (n := 60) (pc := 57) C (σ31 23 st.toNat) rfl dX4_runRow_57 rfl (by omega) (by omega) (by decide) ?_
          have b57 : (0 : Int) ≤ σ31 23 st.toNat ∧ σ31 23 st.toNat ≤ 60 := g31.1 23 st.toNat
          refine s_callSi (pc := 58) C (c_J9_max_7cf53 l (st + 1) (σ31 23 st.toNat) ⟨by omega, by omega⟩ ⟨by omega, by omega⟩) [vI (st + 1), vI (σ31 23 st.toNat)] [] rfl rfl dX4_runRow_58 wlX4_51 wtJ9_max_7cf53 wcJ9_max_7cf53 wnJ9 noJ9_max_7cf53 (by omega) (by decide) (Nat.le_of_ble_eq_true rfl) (by first | omega | assumption | (constructor <;> omega) | (refine ⟨⟨?_, ?_⟩, ?_⟩ <;> omega) | (simp [hs_ss, hs_up]; omega) | (simp [hs_ss, hs_up]; done)) ?_
          rintro _ _ ⟨rfl, rfl⟩
          show hs_Wd _ _ _ _ _ _ _ _ _ _ _ _ _ _ _ _ _ 61 _ [vI (max (st + 1) (σ31 23 st.toNat))] σ31
          refine s_istore (pc := 61) C [(4, vI (max (st + 1) (σ31 23 st.toNat))), (5, vI z31), (0, .ref (ad 27)), (1, vI f), (2, vI en), (3, vI dp)] dX4_runRow_61 (by decide) rfl ?_
          refine s_goto (pc := 63) C (tgt := 21) dX4_runRow_63 (by decide) ?_
          refine s_sub C [2, 3, 4, 5, 0] [(0, .ref (ad 27)), (1, vI f), (2, vI en), (3, vI dp), (4, vI (max (st + 1) (σ31 23 st.toNat)))] rfl ?_
          have hi21 : GX σ σ31 ∧ FRM PRn σ σ31 ∧ ST σ31 ∧ 0 ≤ (max (st + 1) (σ31 23 st.toNat)) ∧ (max (st + 1) (σ31 23 st.toNat)) ≤ 60 := ⟨g31, f31, p31_ST, by first | omega | assumption | (constructor <;> omega) | (refine ⟨⟨?_, ?_⟩, ?_⟩ <;> omega) | (simp [hs_ss, hs_up]; omega) | (simp [hs_ss, hs_up]; done)⟩
          exact ih21 (max (st + 1) (σ31 23 st.toNat), σ31) (by first | omega | (simp only []; omega)) hi21
        · skip
          refine s_iload (pc := 41) C dX4_runRow_41 0 rfl ?_
          refine s_iret (pc := 43) C dX4_runRow_43 ?_
          refine ⟨_, rfl, ?_⟩
          exact ⟨g31, f31, p31_ST, by first | omega | assumption | (constructor <;> omega) | (refine ⟨⟨?_, ?_⟩, ?_⟩ <;> omega) | (simp [hs_ss, hs_up]; omega) | (simp [hs_ss, hs_up]; done)⟩
    · skip
      refine s_iconst (pc := 16) C dX4_runRow_16 ?_
      refine s_iret (pc := 17) C dX4_runRow_17 ?_
      refine ⟨_, rfl, ?_⟩
      exact ⟨g0, f0, p0_ST, by first | omega | assumption | (constructor <;> omega) | (refine ⟨⟨?_, ?_⟩, ?_⟩ <;> omega) | (simp [hs_ss, hs_up]; omega) | (simp [hs_ss, hs_up]; done)⟩
set_option maxHeartbeats 4000000 in
set_option maxRecDepth 100000 in
theorem b_X4_runRow (l : Launch) (f en dp : Int) (hen : hs_R en) (hd : dp = 6) : hs_Met l yX4_runRow cX4_runRow 6 (some .int) 10 SHX (fun ad => [.ref (ad 27), vI f, vI en, vI dp]) (fun σ => GX σ σ ∧ ST σ) (hs_PI (fun σ z σ1 => GX σ σ1 ∧ FRM PRn σ σ1 ∧ ST σ1 ∧ 0 ≤ z ∧ z ≤ 3)) := by
  refine hs_from pfX4_runRow (fun _ => Nat.le_of_ble_eq_true rfl) ?_
  intro p e s m args below meth c D dA ad A σ C hpre
  have C : hs_C p s m args meth c D dA SHX ad A 6 cX4_runRow RX4 (some .int) := C
  obtain ⟨g0, p0_ST⟩ := hpre
  have f0 : FRM PRn σ σ := frm_rf
  show hs_Wd p l e 10 s m args below meth c D dA SHX ad A 6 (hs_PI (fun σ z σ1 => GX σ σ1 ∧ FRM PRn σ σ1 ∧ ST σ1 ∧ 0 ≤ z ∧ z ≤ 3) σ) 0 [(0, .ref (ad 27)), (1, vI f), (2, vI en), (3, vI dp)] [] σ
  refine s_iload_n (pc := 0) C dX4_runRow_0 3 rfl ?_
  refine s_iconst (pc := 1) C dX4_runRow_1 ?_
  refine s_icmp_gt (pc := 2) C (tgt := 16) dX4_runRow_2 (by decide) ⟨by omega, by omega⟩ ⟨by decide, by decide⟩ (fun h2 => ?_) (fun h2 => ?_)
  · skip
    refine s_iconst (pc := 16) C dX4_runRow_16 ?_
    refine s_iret (pc := 17) C dX4_runRow_17 ?_
    refine ⟨_, rfl, ?_⟩
    exact ⟨g0, f0, p0_ST, by first | omega | assumption | (constructor <;> omega) | (refine ⟨⟨?_, ?_⟩, ?_⟩ <;> omega) | (simp [hs_ss, hs_up]; omega) | (simp [hs_ss, hs_up]; done)⟩
  · skip
    exfalso; omega
theorem c_X4_runRow (l : Launch) : ∀ n : Nat, n ≤ 6 → ∀ f en : Int, (0 ≤ f ∧ f ≤ 60) → hs_R en → hs_Met l yX4_runRow cX4_runRow 6 (some .int) (3 * n + 10) SHX (fun ad => [.ref (ad 27), vI f, vI en, vI (6 - (n : Int))]) (fun σ => GX σ σ ∧ ST σ) (hs_PI (fun σ z σ1 => GX σ σ1 ∧ FRM PRn σ σ1 ∧ ST σ1 ∧ 0 ≤ z ∧ z ≤ 3)) := by
  intro n
  induction n with
  | zero =>
    intro _ f en hf hen
    have h := b_X4_runRow l f en (6 - ((0 : Nat) : Int)) hen (by omega)
    exact h
  | succ n ih =>
    intro hn f en hf hen
    have h := r_X4_runRow l n (by omega) (ih (by omega)) f en hf hen (6 - ((n + 1 : Nat) : Int)) (by omega)
    rw [show 3 * (n + 1) + 10 = 3 * n + 13 by omega]
    exact h
set_option maxHeartbeats 4000000 in
set_option maxRecDepth 100000 in
theorem c_X11_turn (l : Launch) (n : Int) (hn : hs_R n) : hs_Met l yX11_turn cX11_turn 2 (some .int) 31 SHX (fun ad => [.ref (ad 0), vI n]) (fun σ => GX σ σ) (hs_PI (fun σ z σ1 => GX σ1 σ1 ∧ σ1 0 10 = σ 0 10 ∧ σ1 3 3 = σ 3 3 ∧ σ1 3 4 = σ 3 4 ∧ σ1 48 8 = σ 48 8 ∧ (¬ (0 ≤ n ∧ n ≤ σ 0 9) → σ1 0 9 = σ 0 9) ∧ (0 ≤ n ∧ n ≤ σ 0 9 → σ1 0 9 = 0))) := by
  refine hs_from pfX11_turn (fun _ => Nat.le_of_ble_eq_true rfl) ?_
  intro p e s m args below meth c D dA ad A σ C hpre
  have C : hs_C p s m args meth c D dA SHX ad A 2 cX11_turn RX11 (some .int) := C
  have g0 := hpre
  have b09 : (0 : Int) ≤ σ 0 9 ∧ σ 0 9 ≤ 500 := g0.1 0 9
  show hs_Wd p l e 31 s m args below meth c D dA SHX ad A 2 (hs_PI (fun σ z σ1 => GX σ1 σ1 ∧ σ1 0 10 = σ 0 10 ∧ σ1 3 3 = σ 3 3 ∧ σ1 3 4 = σ 3 4 ∧ σ1 48 8 = σ 48 8 ∧ (¬ (0 ≤ n ∧ n ≤ σ 0 9) → σ1 0 9 = σ 0 9) ∧ (0 ≤ n ∧ n ≤ σ 0 9 → σ1 0 9 = 0)) σ) 0 [(0, .ref (ad 0)), (1, vI n)] [] σ
  refine s_iload_n (pc := 0) C dX11_turn_0 1 rfl ?_
  refine s_if_lt (pc := 1) C (tgt := 12) dX11_turn_1 (by decide) ⟨by omega, by omega⟩ (fun h1 => ?_) (fun h1 => ?_)
  · skip
    refine s_bipush (pc := 12) C dX11_turn_12 (by decide) ?_
    refine s_iret (pc := 14) C dX11_turn_14 ?_
    refine ⟨_, rfl, ?_⟩
    exact ⟨g0, rfl, rfl, rfl, rfl, fun _ => rfl, fun q => by exfalso; omega⟩
  · skip
    refine s_iload_n (pc := 4) C dX11_turn_4 1 rfl ?_
    refine s_aload_n (pc := 5) C dX11_turn_5 0 rfl ?_
    refine s_geti (q := 0) (ci := 11) (N := 11) (CN := RX11) (T := TX11) (pc := 6) C 9 dX11_turn_6 wlX11_77 rfl rfl rfl wfX11 (by decide) rfl (σ 0 9) rfl ?_
    have b6 : (0 : Int) ≤ σ 0 9 ∧ σ 0 9 ≤ 500 := g0.1 0 9
    refine s_icmp_le (pc := 9) C (tgt := 15) dX11_turn_9 (by decide) ⟨by omega, by omega⟩ ⟨by omega, by omega⟩ (fun h9 => ?_) (fun h9 => ?_)
    · skip
      refine s_aload_n (pc := 15) C dX11_turn_15 0 rfl ?_
      refine s_iconst (pc := 16) C dX11_turn_16 ?_
      refine s_puti (q := 0) (ci := 11) (N := 11) (CN := RX11) (T := TX11) (ty0 := tyX11) (ty := .int) (pc := 17) C 9 dX11_turn_17 wlX11_77 rfl rfl rfl wfX11 tyX11_ok nmX11 (by decide) rfl rfl rfl (vp_nar_int _) rfl ?_
      have g17 : GX ((hs_ss σ 0 9 0)) ((hs_ss σ 0 9 0)) := ⟨ibx_set (z := 0) g0.1 0 9 0 500 rfl (by omega), kx_rf, g0.2.2⟩
      refine s_aload_n (pc := 20) C dX11_turn_20 0 rfl ?_
      refine s_getr (q := 0) (ci := 11) (N := 11) (CN := RX11) (T := TX11) (pc := 21) C 4 dX11_turn_21 wlX11_39 rfl rfl rfl wfX11 (by decide) rfl ?_
      refine s_callVNv (pc := 24) C (c_X4_forget l) [] [] rfl rfl dX11_turn_24 wlX11_85 wiX4_forget weX4_forget wcX4_forget wnX4 noX4_forget (by decide) (by decide) (Nat.le_of_ble_eq_true rfl) (gx_self g17) rfl rfl ?_
      rintro σ24 k24
      obtain ⟨kg24, kf24, k24⟩ := k24
      have g24 := gx_trans g17 kg24
      show hs_Wd _ _ _ _ _ _ _ _ _ _ _ _ _ _ _ _ _ 27 _ [] σ24
      refine s_aload_n (pc := 27) C dX11_turn_27 0 rfl ?_
      refine s_getr (q := 0) (ci := 11) (N := 11) (CN := RX11) (T := TX11) (pc := 28) C 3 dX11_turn_28 wlX11_30 rfl rfl rfl wfX11 (by decide) rfl ?_
      refine s_aload_n (pc := 31) C dX11_turn_31 0 rfl ?_
      refine s_getr (q := 0) (ci := 11) (N := 11) (CN := RX11) (T := TX11) (pc := 32) C 0 dX11_turn_32 wlX11_9 rfl rfl rfl wfX11 (by decide) rfl ?_
      refine s_iload_n (pc := 35) C dX11_turn_35 1 rfl ?_
      refine s_callVNv (pc := 36) C (c_X3_readText l n (by first | omega | assumption | (constructor <;> omega) | (refine ⟨⟨?_, ?_⟩, ?_⟩ <;> omega) | (simp [hs_ss, hs_up]; omega) | (simp [hs_ss, hs_up]; done))) [.ref (ad 1), vI n] [] rfl rfl dX11_turn_36 wlX11_88 wiX3_readText weX3_readText wcX3_readText wnX3 noX3_readText (by decide) (by decide) (Nat.le_of_ble_eq_true rfl) (gx_self g24) rfl rfl ?_
      rintro σ36 k36
      obtain ⟨kg36, kf36⟩ := k36
      have g36 := gx_trans g24 kg36
      have s36 : ST σ36 := ST_cg (frm_mono (Q := okST) kf36 (fun c j h => by simp [PRt, okST] at h ⊢ <;> omega)) k24
      have b158 : (0 : Int) ≤ σ36 15 8 ∧ σ36 15 8 ≤ 60 := g36.1 15 8
      show hs_Wd _ _ _ _ _ _ _ _ _ _ _ _ _ _ _ _ _ 39 _ [] σ36
      refine s_aload_n (pc := 39) C dX11_turn_39 0 rfl ?_
      refine s_getr (q := 0) (ci := 11) (N := 11) (CN := RX11) (T := TX11) (pc := 40) C 3 dX11_turn_40 wlX11_30 rfl rfl rfl wfX11 (by decide) rfl ?_
      refine s_getiN (q := 15) (ci := 3) (N := 15) (CN := RX3) (T := TX3) (pc := 43) C 13 dX11_turn_43 wlX11_92 rfl rfl rfl wfX3 (by decide) rfl (σ36 15 13) rfl ?_
      have b43 : (0 : Int) ≤ σ36 15 13 ∧ σ36 15 13 ≤ 3 := g36.1 15 13
      refine s_if_ne (pc := 46) C (tgt := 68) dX11_turn_46 (by decide) ⟨by omega, by omega⟩ (fun h46 => ?_) (fun h46 => ?_)
      · skip
        refine s_iconst (pc := 68) C dX11_turn_68 ?_
        refine s_iret (pc := 69) C dX11_turn_69 ?_
        refine ⟨_, rfl, ?_⟩
        have hk := (g36).2.1
        exact ⟨gx_self g36, hk.2.1, hk.2.2.1, hk.2.2.2.1, hk.2.2.2.2, fun q => by exfalso; omega, fun _ => hk.1⟩
      · skip
        refine s_aload_n (pc := 49) C dX11_turn_49 0 rfl ?_
        refine s_getr (q := 0) (ci := 11) (N := 11) (CN := RX11) (T := TX11) (pc := 50) C 4 dX11_turn_50 wlX11_39 rfl rfl rfl wfX11 (by decide) rfl ?_
        refine s_iconst (pc := 53) C dX11_turn_53 ?_
        refine s_aload_n (pc := 54) C dX11_turn_54 0 rfl ?_
        refine s_getr (q := 0) (ci := 11) (N := 11) (CN := RX11) (T := TX11) (pc := 55) C 3 dX11_turn_55 wlX11_30 rfl rfl rfl wfX11 (by decide) rfl ?_
        refine s_getiN (q := 15) (ci := 3) (N := 15) (CN := RX3) (T := TX3) (pc := 58) C 8 dX11_turn_58 wlX11_95 rfl rfl rfl wfX3 (by decide) rfl (σ36 15 8) rfl ?_
        have b58 : (0 : Int) ≤ σ36 15 8 ∧ σ36 15 8 ≤ 60 := g36.1 15 8
        refine s_iconst (pc := 61) C dX11_turn_61 ?_
        refine s_callVNi (pc := 62) C (c_X4_runRow l 6 (by omega) 0 (σ36 15 8) (by omega) ⟨by omega, by omega⟩) [vI 0, vI (σ36 15 8), vI 0] [] rfl rfl dX11_turn_62 wlX11_98 wiX4_runRow weX4_runRow wcX4_runRow wnX4 noX4_runRow (by omega) (by decide) (Nat.le_of_ble_eq_true rfl) ⟨(gx_self g36), s36⟩ rfl rfl ?_
        rintro z62 σ62 k62
        obtain ⟨kg62, kf62, p62_ST, k62⟩ := k62
        have g62 := gx_trans g36 kg62
        show hs_Wd _ _ _ _ _ _ _ _ _ _ _ _ _ _ _ _ _ 65 _ [vI z62] σ62
        refine s_goto (pc := 65) C (tgt := 69) dX11_turn_65 (by decide) ?_
        refine s_iret (pc := 69) C dX11_turn_69 ?_
        refine ⟨_, rfl, ?_⟩
        have hk := (g62).2.1
        exact ⟨gx_self g62, hk.2.1, hk.2.2.1, hk.2.2.2.1, hk.2.2.2.2, fun q => by exfalso; omega, fun _ => hk.1⟩
    · skip
      refine s_bipush (pc := 12) C dX11_turn_12 (by decide) ?_
      refine s_iret (pc := 14) C dX11_turn_14 ?_
      refine ⟨_, rfl, ?_⟩
      exact ⟨g0, rfl, rfl, rfl, rfl, fun _ => rfl, fun q => by exfalso; omega⟩
