def PRf (c j : Nat) : Bool := c == 15 && (j == 13 || j == 14)
def PGo (c j : Nat) : Bool := c == 15 && (j == 11 || j == 12)
def PRs (c j : Nat) : Bool := c == 15 && (j == 11 || j == 12 || j == 13 || j == 14)
def PRp (c j : Nat) : Bool := (c == 15 && (j == 11 || j == 12 || j == 13 || j == 14)) || c == 24 || c == 25
def PRr (c j : Nat) : Bool := (c == 15 && (j == 11 || j == 12 || j == 13 || j == 14)) || c == 21 || c == 22 || c == 24 || c == 25
def PRo (c j : Nat) : Bool := c == 15 || c == 26
def PRc (c j : Nat) : Bool := c == 15 || c == 23
def PRd (c j : Nat) : Bool := c == 15 || c == 20 || c == 21 || c == 22 || c == 23 || c == 24 || c == 25 || c == 26
def PRt (c j : Nat) : Bool := c == 15 || c == 20 || c == 21 || c == 22 || c == 23 || c == 24 || c == 25 || c == 26 || c == 17 || c == 18 || c == 19 || c == 16
set_option maxHeartbeats 4000000 in
set_option maxRecDepth 100000 in
theorem c_X3_refuse (l : Launch) (k : Int) (hk : 1 ≤ k ∧ k ≤ 3) : hs_Met l yX3_refuse cX3_refuse 2 none 1 SHX (fun ad => [.ref (ad 15), vI k]) (fun σ => GX σ σ ∧ TKs σ ∧ RD σ) (hs_PV (fun σ σ1 => GX σ σ1 ∧ FRM PRf σ σ1 ∧ TKs σ1 ∧ RD σ1 ∧ σ1 15 13 ≠ 0)) := by
  refine hs_from pfX3_refuse (fun _ => Nat.le_of_ble_eq_true rfl) ?_
  intro p e s m args below meth c D dA ad A σ C hpre
  have C : hs_C p s m args meth c D dA SHX ad A 2 cX3_refuse RX3 none := C
  obtain ⟨g0, p0_TKs, p0_RD⟩ := hpre
  have f0 : FRM PRf σ σ := frm_rf
  show hs_Wd p l e 1 s m args below meth c D dA SHX ad A 2 (hs_PV (fun σ σ1 => GX σ σ1 ∧ FRM PRf σ σ1 ∧ TKs σ1 ∧ RD σ1 ∧ σ1 15 13 ≠ 0) σ) 0 [(0, .ref (ad 15)), (1, vI k)] [] σ
  refine s_aload_n (pc := 0) C dX3_refuse_0 0 rfl ?_
  refine s_geti (q := 15) (ci := 3) (N := 15) (CN := RX3) (T := TX3) (pc := 1) C 13 dX3_refuse_1 wlX3_57 rfl rfl rfl wfX3 (by decide) rfl (σ 15 13) rfl ?_
  have b1 : (0 : Int) ≤ σ 15 13 ∧ σ 15 13 ≤ 3 := g0.1 15 13
  refine s_if_ne (pc := 4) C (tgt := 28) dX3_refuse_4 (by decide) ⟨by omega, by omega⟩ (fun h4 => ?_) (fun h4 => ?_)
  · skip
    refine s_vret (pc := 28) C dX3_refuse_28 ?_
    refine ⟨rfl, ?_⟩
    exact ⟨g0, f0, p0_TKs, p0_RD, by first | (show ¬ (k = 0); omega) | omega⟩
  · skip
    refine s_aload_n (pc := 7) C dX3_refuse_7 0 rfl ?_
    refine s_iload_n (pc := 8) C dX3_refuse_8 1 rfl ?_
    refine s_puti (q := 15) (ci := 3) (N := 15) (CN := RX3) (T := TX3) (ty0 := tyX3) (ty := .int) (pc := 9) C 13 dX3_refuse_9 wlX3_57 rfl rfl rfl wfX3 tyX3_ok nmX3 (by decide) rfl rfl rfl (vp_nar_int _) rfl ?_
    have g9 := gx_set (z := k) g0 15 13 rfl (0) (3) rfl ⟨by omega, by omega⟩
    have f9 := frm_set (P := PRf) (z := k) f0 15 13 rfl
    have p9_TKs := TKs_cg (frm_one (P := okTKs) (z := k) 15 13 rfl) p0_TKs
    have p9_RD := RD_cg (frm_one (P := okRD) (z := k) 15 13 rfl) p0_RD
    refine s_aload_n (pc := 12) C dX3_refuse_12 0 rfl ?_
    refine s_aload_n (pc := 13) C dX3_refuse_13 0 rfl ?_
    refine s_getr (q := 15) (ci := 3) (N := 15) (CN := RX3) (T := TX3) (pc := 14) C 0 dX3_refuse_14 wlX3_12 rfl rfl rfl wfX3 (by decide) rfl ?_
    refine s_getrN (q := 16) (ci := 7) (N := 5) (CN := RX7) (T := TX7) (pc := 17) C 1 dX3_refuse_17 wlX3_80 rfl rfl rfl wfX7 (by decide) rfl ?_
    refine s_aload_n (pc := 20) C dX3_refuse_20 0 rfl ?_
    refine s_geti (q := 15) (ci := 3) (N := 15) (CN := RX3) (T := TX3) (pc := 21) C 11 dX3_refuse_21 wlX3_60 rfl rfl rfl wfX3 (by decide) rfl (σ 15 11) rfl ?_
    have b21 : (0 : Int) ≤ σ 15 11 ∧ σ 15 11 ≤ 500 := g9.1 15 11
    refine s_iald (q := 18) (n := 501) (pc := 24) C (σ 18 ((σ 15 11).toNat)) rfl dX3_refuse_24 rfl (by omega) (by omega) (by decide) ?_
    have b24 : (0 : Int) ≤ σ 18 ((σ 15 11).toNat) ∧ σ 18 ((σ 15 11).toNat) ≤ 500 := g9.1 18 ((σ 15 11).toNat)
    refine s_puti (q := 15) (ci := 3) (N := 15) (CN := RX3) (T := TX3) (ty0 := tyX3) (ty := .int) (pc := 25) C 14 dX3_refuse_25 wlX3_40 rfl rfl rfl wfX3 tyX3_ok nmX3 (by decide) rfl rfl rfl (vp_nar_int _) rfl ?_
    have g25 := gx_set (z := (σ 18 ((σ 15 11).toNat))) g9 15 14 rfl (-1) (500) rfl ⟨by omega, by omega⟩
    have f25 := frm_set (P := PRf) (z := (σ 18 ((σ 15 11).toNat))) f9 15 14 rfl
    have p25_TKs := TKs_cg (frm_one (P := okTKs) (z := (σ 18 ((σ 15 11).toNat))) 15 14 rfl) p9_TKs
    have p25_RD := RD_cg (frm_one (P := okRD) (z := (σ 18 ((σ 15 11).toNat))) 15 14 rfl) p9_RD
    refine s_vret (pc := 28) C dX3_refuse_28 ?_
    refine ⟨rfl, ?_⟩
    exact ⟨g25, f25, p25_TKs, p25_RD, by first | (show ¬ (k = 0); omega) | omega⟩
set_option maxHeartbeats 4000000 in
set_option maxRecDepth 100000 in
theorem c_X3_goOn (l : Launch)  : hs_Met l yX3_goOn cX3_goOn 1 none 1 SHX (fun ad => [.ref (ad 15)]) (fun σ => GX σ σ ∧ TKs σ ∧ RD σ) (hs_PV (fun σ σ1 => GX σ σ1 ∧ FRM PGo σ σ1 ∧ TKs σ1 ∧ RD σ1)) := by
  refine hs_from pfX3_goOn (fun _ => Nat.le_of_ble_eq_true rfl) ?_
  intro p e s m args below meth c D dA ad A σ C hpre
  have C : hs_C p s m args meth c D dA SHX ad A 1 cX3_goOn RX3 none := C
  obtain ⟨g0, p0_TKs, p0_RD⟩ := hpre
  have f0 : FRM PGo σ σ := frm_rf
  show hs_Wd p l e 1 s m args below meth c D dA SHX ad A 1 (hs_PV (fun σ σ1 => GX σ σ1 ∧ FRM PGo σ σ1 ∧ TKs σ1 ∧ RD σ1) σ) 0 [(0, .ref (ad 15))] [] σ
  refine s_aload_n (pc := 0) C dX3_goOn_0 0 rfl ?_
  refine s_geti (q := 15) (ci := 3) (N := 15) (CN := RX3) (T := TX3) (pc := 1) C 11 dX3_goOn_1 wlX3_60 rfl rfl rfl wfX3 (by decide) rfl (σ 15 11) rfl ?_
  have b1 : (0 : Int) ≤ σ 15 11 ∧ σ 15 11 ≤ 500 := g0.1 15 11
  refine s_iconst (pc := 4) C dX3_goOn_4 ?_
  refine s_iadd (pc := 5) C dX3_goOn_5 ?_
  refine s_aload_n (pc := 6) C dX3_goOn_6 0 rfl ?_
  refine s_getr (q := 15) (ci := 3) (N := 15) (CN := RX3) (T := TX3) (pc := 7) C 0 dX3_goOn_7 wlX3_12 rfl rfl rfl wfX3 (by decide) rfl ?_
  refine s_getiN (q := 16) (ci := 7) (N := 5) (CN := RX7) (T := TX7) (pc := 10) C 3 dX3_goOn_10 wlX3_69 rfl rfl rfl wfX7 (by decide) rfl (σ 16 3) rfl ?_
  have b10 : (0 : Int) ≤ σ 16 3 ∧ σ 16 3 ≤ 501 := g0.1 16 3
  refine s_icmp_ge (pc := 13) C (tgt := 26) dX3_goOn_13 (by decide) ⟨by omega, by omega⟩ ⟨by omega, by omega⟩ (fun h13 => ?_) (fun h13 => ?_)
  · skip
    refine s_aload_n (pc := 26) C dX3_goOn_26 0 rfl ?_
    refine s_aload_n (pc := 27) C dX3_goOn_27 0 rfl ?_
    refine s_getr (q := 15) (ci := 3) (N := 15) (CN := RX3) (T := TX3) (pc := 28) C 0 dX3_goOn_28 wlX3_12 rfl rfl rfl wfX3 (by decide) rfl ?_
    refine s_getrN (q := 16) (ci := 7) (N := 5) (CN := RX7) (T := TX7) (pc := 31) C 0 dX3_goOn_31 wlX3_63 rfl rfl rfl wfX7 (by decide) rfl ?_
    refine s_aload_n (pc := 34) C dX3_goOn_34 0 rfl ?_
    refine s_geti (q := 15) (ci := 3) (N := 15) (CN := RX3) (T := TX3) (pc := 35) C 11 dX3_goOn_35 wlX3_60 rfl rfl rfl wfX3 (by decide) rfl (σ 15 11) rfl ?_
    have b35 : (0 : Int) ≤ σ 15 11 ∧ σ 15 11 ≤ 500 := g0.1 15 11
    refine s_iald (q := 17) (n := 501) (pc := 38) C (σ 17 ((σ 15 11).toNat)) rfl dX3_goOn_38 rfl (by omega) (by omega) (by decide) ?_
    have b38 : (-2147483648 : Int) ≤ σ 17 ((σ 15 11).toNat) ∧ σ 17 ((σ 15 11).toNat) ≤ 2147483647 := g0.1 17 ((σ 15 11).toNat)
    refine s_puti (q := 15) (ci := 3) (N := 15) (CN := RX3) (T := TX3) (ty0 := tyX3) (ty := .int) (pc := 39) C 12 dX3_goOn_39 wlX3_66 rfl rfl rfl wfX3 tyX3_ok nmX3 (by decide) rfl rfl rfl (vp_nar_int _) rfl ?_
    have g39 := gx_set (z := (σ 17 ((σ 15 11).toNat))) g0 15 12 rfl (-2147483648) (2147483647) rfl ⟨by omega, by omega⟩
    have f39 := frm_set (P := PGo) (z := (σ 17 ((σ 15 11).toNat))) f0 15 12 rfl
    have p39_TKs := TKs_cg (frm_one (P := okTKs) (z := (σ 17 ((σ 15 11).toNat))) 15 12 rfl) p0_TKs
    refine s_vret (pc := 42) C dX3_goOn_42 ?_
    refine ⟨rfl, ?_⟩
    exact ⟨g39, f39, p39_TKs, (by have h := p0_RD; unfold RD at *; simp [hs_ss, hs_up]; omega)⟩
  · skip
    refine s_aload_n (pc := 16) C dX3_goOn_16 0 rfl ?_
    refine s_dup (pc := 17) C dX3_goOn_17 rfl ?_
    refine s_geti (q := 15) (ci := 3) (N := 15) (CN := RX3) (T := TX3) (pc := 18) C 11 dX3_goOn_18 wlX3_60 rfl rfl rfl wfX3 (by decide) rfl (σ 15 11) rfl ?_
    have b18 : (0 : Int) ≤ σ 15 11 ∧ σ 15 11 ≤ 500 := g0.1 15 11
    refine s_iconst (pc := 21) C dX3_goOn_21 ?_
    refine s_iadd (pc := 22) C dX3_goOn_22 ?_
    refine s_puti (q := 15) (ci := 3) (N := 15) (CN := RX3) (T := TX3) (ty0 := tyX3) (ty := .int) (pc := 23) C 11 dX3_goOn_23 wlX3_60 rfl rfl rfl wfX3 tyX3_ok nmX3 (by decide) rfl rfl rfl (vp_nar_int _) rfl ?_
    have g23 := gx_set (z := ((σ 15 11) + 1)) g0 15 11 rfl (0) (500) rfl ⟨by omega, by omega⟩
    have f23 := frm_set (P := PGo) (z := ((σ 15 11) + 1)) f0 15 11 rfl
    have p23_TKs := TKs_cg (frm_one (P := okTKs) (z := ((σ 15 11) + 1)) 15 11 rfl) p0_TKs
    refine s_aload_n (pc := 26) C dX3_goOn_26 0 rfl ?_
    refine s_aload_n (pc := 27) C dX3_goOn_27 0 rfl ?_
    refine s_getr (q := 15) (ci := 3) (N := 15) (CN := RX3) (T := TX3) (pc := 28) C 0 dX3_goOn_28 wlX3_12 rfl rfl rfl wfX3 (by decide) rfl ?_
    refine s_getrN (q := 16) (ci := 7) (N := 5) (CN := RX7) (T := TX7) (pc := 31) C 0 dX3_goOn_31 wlX3_63 rfl rfl rfl wfX7 (by decide) rfl ?_
    refine s_aload_n (pc := 34) C dX3_goOn_34 0 rfl ?_
    refine s_geti (q := 15) (ci := 3) (N := 15) (CN := RX3) (T := TX3) (pc := 35) C 11 dX3_goOn_35 wlX3_60 rfl rfl rfl wfX3 (by decide) rfl ((σ 15 11) + 1) rfl ?_
    have b35 : (0 : Int) ≤ (σ 15 11) + 1 ∧ (σ 15 11) + 1 ≤ 500 := g23.1 15 11
    refine s_iald (q := 17) (n := 501) (pc := 38) C (σ 17 (((σ 15 11) + 1).toNat)) rfl dX3_goOn_38 rfl (by omega) (by omega) (by decide) ?_
    have b38 : (-2147483648 : Int) ≤ σ 17 (((σ 15 11) + 1).toNat) ∧ σ 17 (((σ 15 11) + 1).toNat) ≤ 2147483647 := g23.1 17 (((σ 15 11) + 1).toNat)
    refine s_puti (q := 15) (ci := 3) (N := 15) (CN := RX3) (T := TX3) (ty0 := tyX3) (ty := .int) (pc := 39) C 12 dX3_goOn_39 wlX3_66 rfl rfl rfl wfX3 tyX3_ok nmX3 (by decide) rfl rfl rfl (vp_nar_int _) rfl ?_
    have g39 := gx_set (z := (σ 17 (((σ 15 11) + 1).toNat))) g23 15 12 rfl (-2147483648) (2147483647) rfl ⟨by omega, by omega⟩
    have f39 := frm_set (P := PGo) (z := (σ 17 (((σ 15 11) + 1).toNat))) f23 15 12 rfl
    have p39_TKs := TKs_cg (frm_one (P := okTKs) (z := (σ 17 (((σ 15 11) + 1).toNat))) 15 12 rfl) p23_TKs
    refine s_vret (pc := 42) C dX3_goOn_42 ?_
    refine ⟨rfl, ?_⟩
    exact ⟨g39, f39, p39_TKs, (by have h := p0_RD; unfold RD at *; simp [hs_ss, hs_up]; omega)⟩
set_option maxHeartbeats 4000000 in
set_option maxRecDepth 100000 in
theorem c_X3_readSign (l : Launch) (a : Int) (ha : hs_R a) : hs_Met l yX3_readSign cX3_readSign 2 none 2 SHX (fun ad => [.ref (ad 15), vI a]) (fun σ => GX σ σ ∧ TKs σ ∧ RD σ) (hs_PV (fun σ σ1 => GX σ σ1 ∧ FRM PRs σ σ1 ∧ TKs σ1 ∧ RD σ1 ∧ (σ 15 12 = a → σ1 15 13 = σ 15 13) ∧ (σ 15 12 ≠ a → σ1 15 13 ≠ 0))) := by
  refine hs_from pfX3_readSign (fun _ => Nat.le_of_ble_eq_true rfl) ?_
  intro p e s m args below meth c D dA ad A σ C hpre
  have C : hs_C p s m args meth c D dA SHX ad A 2 cX3_readSign RX3 none := C
  obtain ⟨g0, p0_TKs, p0_RD⟩ := hpre
  have f0 : FRM PRs σ σ := frm_rf
  show hs_Wd p l e 2 s m args below meth c D dA SHX ad A 2 (hs_PV (fun σ σ1 => GX σ σ1 ∧ FRM PRs σ σ1 ∧ TKs σ1 ∧ RD σ1 ∧ (σ 15 12 = a → σ1 15 13 = σ 15 13) ∧ (σ 15 12 ≠ a → σ1 15 13 ≠ 0)) σ) 0 [(0, .ref (ad 15)), (1, vI a)] [] σ
  refine s_aload_n (pc := 0) C dX3_readSign_0 0 rfl ?_
  refine s_geti (q := 15) (ci := 3) (N := 15) (CN := RX3) (T := TX3) (pc := 1) C 12 dX3_readSign_1 wlX3_66 rfl rfl rfl wfX3 (by decide) rfl (σ 15 12) rfl ?_
  have b1 : (-2147483648 : Int) ≤ σ 15 12 ∧ σ 15 12 ≤ 2147483647 := g0.1 15 12
  refine s_iload_n (pc := 4) C dX3_readSign_4 1 rfl ?_
  refine s_icmp_eq (pc := 5) C (tgt := 14) dX3_readSign_5 (by decide) ⟨by omega, by omega⟩ ⟨by omega, by omega⟩ (fun h5 => ?_) (fun h5 => ?_)
  · skip
    refine s_aload_n (pc := 14) C dX3_readSign_14 0 rfl ?_
    refine s_callVv (pc := 15) C (c_X3_goOn l) [] [] rfl rfl dX3_readSign_15 wlX3_83 wiX3_goOn weX3_goOn wcX3_goOn wnX3 noX3_goOn (by decide) (by decide) (Nat.le_of_ble_eq_true rfl) ⟨(gx_self g0), p0_TKs, p0_RD⟩ rfl rfl ?_
    rintro σ15 k15
    obtain ⟨kg15, kf15, p15_TKs, p15_RD⟩ := k15
    have g15 := gx_trans g0 kg15
    have f15 := frm_tr f0 (frm_mono (Q := PRs) kf15 (fun c j h => by simp [PGo, PRs] at h ⊢ <;> omega))
    show hs_Wd _ _ _ _ _ _ _ _ _ _ _ _ _ _ _ _ _ 18 _ [] σ15
    refine s_vret (pc := 18) C dX3_readSign_18 ?_
    refine ⟨rfl, ?_⟩
    exact ⟨g15, f15, p15_TKs, p15_RD, ⟨fun _ => kf15 15 13 rfl, fun q => absurd (by omega) q⟩⟩
  · skip
    refine s_aload_n (pc := 8) C dX3_readSign_8 0 rfl ?_
    refine s_iconst (pc := 9) C dX3_readSign_9 ?_
    refine s_callVv (pc := 10) C (c_X3_refuse l 1 (by first | omega | assumption | (constructor <;> omega) | (refine ⟨⟨?_, ?_⟩, ?_⟩ <;> omega) | (simp [hs_ss, hs_up]; omega) | (simp [hs_ss, hs_up]; done))) [vI 1] [] rfl rfl dX3_readSign_10 wlX3_76 wiX3_refuse weX3_refuse wcX3_refuse wnX3 noX3_refuse (by decide) (by decide) (Nat.le_of_ble_eq_true rfl) ⟨(gx_self g0), p0_TKs, p0_RD⟩ rfl rfl ?_
    rintro σ10 k10
    obtain ⟨kg10, kf10, p10_TKs, p10_RD, k10⟩ := k10
    have g10 := gx_trans g0 kg10
    have f10 := frm_tr f0 (frm_mono (Q := PRs) kf10 (fun c j h => by simp [PRf, PRs] at h ⊢ <;> omega))
    show hs_Wd _ _ _ _ _ _ _ _ _ _ _ _ _ _ _ _ _ 13 _ [] σ10
    refine s_vret (pc := 13) C dX3_readSign_13 ?_
    refine ⟨rfl, ?_⟩
    exact ⟨g10, f10, p10_TKs, p10_RD, ⟨fun q => absurd q (by omega), fun _ => k10⟩⟩
set_option maxHeartbeats 4000000 in
set_option maxRecDepth 100000 in
theorem c_X3_readNumber (l : Launch) (a b : Int) (ha : 0 ≤ a ∧ a ≤ b ∧ b ≤ 999) : hs_Met l yX3_readNumber cX3_readNumber 4 (some .int) 2 SHX (fun ad => [.ref (ad 15), vI a, vI b]) (fun σ => GX σ σ ∧ TKs σ ∧ RD σ) (hs_PI (fun σ z σ1 => GX σ σ1 ∧ FRM PRs σ σ1 ∧ TKs σ1 ∧ RD σ1 ∧ a ≤ z ∧ z ≤ b)) := by
  refine hs_from pfX3_readNumber (fun _ => Nat.le_of_ble_eq_true rfl) ?_
  intro p e s m args below meth c D dA ad A σ C hpre
  have C : hs_C p s m args meth c D dA SHX ad A 4 cX3_readNumber RX3 (some .int) := C
  obtain ⟨g0, p0_TKs, p0_RD⟩ := hpre
  have f0 : FRM PRs σ σ := frm_rf
  show hs_Wd p l e 2 s m args below meth c D dA SHX ad A 4 (hs_PI (fun σ z σ1 => GX σ σ1 ∧ FRM PRs σ σ1 ∧ TKs σ1 ∧ RD σ1 ∧ a ≤ z ∧ z ≤ b) σ) 0 [(0, .ref (ad 15)), (1, vI a), (2, vI b)] [] σ
  refine s_aload_n (pc := 0) C dX3_readNumber_0 0 rfl ?_
  refine s_geti (q := 15) (ci := 3) (N := 15) (CN := RX3) (T := TX3) (pc := 1) C 12 dX3_readNumber_1 wlX3_66 rfl rfl rfl wfX3 (by decide) rfl (σ 15 12) rfl ?_
  have b1 : (-2147483648 : Int) ≤ σ 15 12 ∧ σ 15 12 ≤ 2147483647 := g0.1 15 12
  refine s_iconst (pc := 4) C dX3_readNumber_4 ?_
  refine s_icmp_eq (pc := 5) C (tgt := 15) dX3_readNumber_5 (by decide) ⟨by omega, by omega⟩ ⟨by decide, by decide⟩ (fun h5 => ?_) (fun h5 => ?_)
  · skip
    refine s_aload_n (pc := 15) C dX3_readNumber_15 0 rfl ?_
    refine s_getr (q := 15) (ci := 3) (N := 15) (CN := RX3) (T := TX3) (pc := 16) C 0 dX3_readNumber_16 wlX3_12 rfl rfl rfl wfX3 (by decide) rfl ?_
    refine s_getrN (q := 16) (ci := 7) (N := 5) (CN := RX7) (T := TX7) (pc := 19) C 2 dX3_readNumber_19 wlX3_107 rfl rfl rfl wfX7 (by decide) rfl ?_
    refine s_aload_n (pc := 22) C dX3_readNumber_22 0 rfl ?_
    refine s_geti (q := 15) (ci := 3) (N := 15) (CN := RX3) (T := TX3) (pc := 23) C 11 dX3_readNumber_23 wlX3_60 rfl rfl rfl wfX3 (by decide) rfl (σ 15 11) rfl ?_
    have b23 : (0 : Int) ≤ σ 15 11 ∧ σ 15 11 ≤ 500 := g0.1 15 11
    refine s_iald (q := 19) (n := 501) (pc := 26) C (σ 19 ((σ 15 11).toNat)) rfl dX3_readNumber_26 rfl (by omega) (by omega) (by decide) ?_
    have b26 : (0 : Int) ≤ σ 19 ((σ 15 11).toNat) ∧ σ 19 ((σ 15 11).toNat) ≤ 1000 := g0.1 19 ((σ 15 11).toNat)
    refine s_istore_n (pc := 27) C [(3, vI (σ 19 ((σ 15 11).toNat))), (0, .ref (ad 15)), (1, vI a), (2, vI b)] dX3_readNumber_27 (by decide) rfl ?_
    refine s_iload_n (pc := 28) C dX3_readNumber_28 0 rfl ?_
    refine s_iload_n (pc := 29) C dX3_readNumber_29 2 rfl ?_
    refine s_icmp_lt (pc := 30) C (tgt := 38) dX3_readNumber_30 (by decide) ⟨by omega, by omega⟩ ⟨by omega, by omega⟩ (fun h30 => ?_) (fun h30 => ?_)
    · skip
      refine s_aload_n (pc := 38) C dX3_readNumber_38 1 rfl ?_
      refine s_iconst (pc := 39) C dX3_readNumber_39 ?_
      refine s_callVv (pc := 40) C (c_X3_refuse l 2 (by first | omega | assumption | (constructor <;> omega) | (refine ⟨⟨?_, ?_⟩, ?_⟩ <;> omega) | (simp [hs_ss, hs_up]; omega) | (simp [hs_ss, hs_up]; done))) [vI 2] [] rfl rfl dX3_readNumber_40 wlX3_76 wiX3_refuse weX3_refuse wcX3_refuse wnX3 noX3_refuse (by decide) (by decide) (Nat.le_of_ble_eq_true rfl) ⟨(gx_self g0), p0_TKs, p0_RD⟩ rfl rfl ?_
      rintro σ40 k40
      obtain ⟨kg40, kf40, p40_TKs, p40_RD, k40⟩ := k40
      have g40 := gx_trans g0 kg40
      have f40 := frm_tr f0 (frm_mono (Q := PRs) kf40 (fun c j h => by simp [PRf, PRs] at h ⊢ <;> omega))
      show hs_Wd _ _ _ _ _ _ _ _ _ _ _ _ _ _ _ _ _ 43 _ [] σ40
      refine s_iload_n (pc := 43) C dX3_readNumber_43 2 rfl ?_
      refine s_iret (pc := 44) C dX3_readNumber_44 ?_
      refine ⟨_, rfl, ?_⟩
      exact ⟨g40, f40, p40_TKs, p40_RD, by first | omega | assumption | (constructor <;> omega) | (refine ⟨⟨?_, ?_⟩, ?_⟩ <;> omega) | (simp [hs_ss, hs_up]; omega) | (simp [hs_ss, hs_up]; done)⟩
    · skip
      refine s_iload_n (pc := 33) C dX3_readNumber_33 0 rfl ?_
      refine s_iload_n (pc := 34) C dX3_readNumber_34 3 rfl ?_
      refine s_icmp_le (pc := 35) C (tgt := 45) dX3_readNumber_35 (by decide) ⟨by omega, by omega⟩ ⟨by omega, by omega⟩ (fun h35 => ?_) (fun h35 => ?_)
      · skip
        refine s_aload_n (pc := 45) C dX3_readNumber_45 1 rfl ?_
        refine s_callVv (pc := 46) C (c_X3_goOn l) [] [] rfl rfl dX3_readNumber_46 wlX3_83 wiX3_goOn weX3_goOn wcX3_goOn wnX3 noX3_goOn (by decide) (by decide) (Nat.le_of_ble_eq_true rfl) ⟨(gx_self g0), p0_TKs, p0_RD⟩ rfl rfl ?_
        rintro σ46 k46
        obtain ⟨kg46, kf46, p46_TKs, p46_RD⟩ := k46
        have g46 := gx_trans g0 kg46
        have f46 := frm_tr f0 (frm_mono (Q := PRs) kf46 (fun c j h => by simp [PGo, PRs] at h ⊢ <;> omega))
        show hs_Wd _ _ _ _ _ _ _ _ _ _ _ _ _ _ _ _ _ 49 _ [] σ46
        refine s_iload_n (pc := 49) C dX3_readNumber_49 0 rfl ?_
        refine s_iret (pc := 50) C dX3_readNumber_50 ?_
        refine ⟨_, rfl, ?_⟩
        exact ⟨g46, f46, p46_TKs, p46_RD, by first | omega | assumption | (constructor <;> omega) | (refine ⟨⟨?_, ?_⟩, ?_⟩ <;> omega) | (simp [hs_ss, hs_up]; omega) | (simp [hs_ss, hs_up]; done)⟩
      · skip
        refine s_aload_n (pc := 38) C dX3_readNumber_38 1 rfl ?_
        refine s_iconst (pc := 39) C dX3_readNumber_39 ?_
        refine s_callVv (pc := 40) C (c_X3_refuse l 2 (by first | omega | assumption | (constructor <;> omega) | (refine ⟨⟨?_, ?_⟩, ?_⟩ <;> omega) | (simp [hs_ss, hs_up]; omega) | (simp [hs_ss, hs_up]; done))) [vI 2] [] rfl rfl dX3_readNumber_40 wlX3_76 wiX3_refuse weX3_refuse wcX3_refuse wnX3 noX3_refuse (by decide) (by decide) (Nat.le_of_ble_eq_true rfl) ⟨(gx_self g0), p0_TKs, p0_RD⟩ rfl rfl ?_
        rintro σ40 k40
        obtain ⟨kg40, kf40, p40_TKs, p40_RD, k40⟩ := k40
        have g40 := gx_trans g0 kg40
        have f40 := frm_tr f0 (frm_mono (Q := PRs) kf40 (fun c j h => by simp [PRf, PRs] at h ⊢ <;> omega))
        show hs_Wd _ _ _ _ _ _ _ _ _ _ _ _ _ _ _ _ _ 43 _ [] σ40
        refine s_iload_n (pc := 43) C dX3_readNumber_43 2 rfl ?_
        refine s_iret (pc := 44) C dX3_readNumber_44 ?_
        refine ⟨_, rfl, ?_⟩
        exact ⟨g40, f40, p40_TKs, p40_RD, by first | omega | assumption | (constructor <;> omega) | (refine ⟨⟨?_, ?_⟩, ?_⟩ <;> omega) | (simp [hs_ss, hs_up]; omega) | (simp [hs_ss, hs_up]; done)⟩
  · skip
    refine s_aload_n (pc := 8) C dX3_readNumber_8 0 rfl ?_
    refine s_iconst (pc := 9) C dX3_readNumber_9 ?_
    refine s_callVv (pc := 10) C (c_X3_refuse l 1 (by first | omega | assumption | (constructor <;> omega) | (refine ⟨⟨?_, ?_⟩, ?_⟩ <;> omega) | (simp [hs_ss, hs_up]; omega) | (simp [hs_ss, hs_up]; done))) [vI 1] [] rfl rfl dX3_readNumber_10 wlX3_76 wiX3_refuse weX3_refuse wcX3_refuse wnX3 noX3_refuse (by decide) (by decide) (Nat.le_of_ble_eq_true rfl) ⟨(gx_self g0), p0_TKs, p0_RD⟩ rfl rfl ?_
    rintro σ10 k10
    obtain ⟨kg10, kf10, p10_TKs, p10_RD, k10⟩ := k10
    have g10 := gx_trans g0 kg10
    have f10 := frm_tr f0 (frm_mono (Q := PRs) kf10 (fun c j h => by simp [PRf, PRs] at h ⊢ <;> omega))
    show hs_Wd _ _ _ _ _ _ _ _ _ _ _ _ _ _ _ _ _ 13 _ [] σ10
    refine s_iload_n (pc := 13) C dX3_readNumber_13 1 rfl ?_
    refine s_iret (pc := 14) C dX3_readNumber_14 ?_
    refine ⟨_, rfl, ?_⟩
    exact ⟨g10, f10, p10_TKs, p10_RD, by first | omega | assumption | (constructor <;> omega) | (refine ⟨⟨?_, ?_⟩, ?_⟩ <;> omega) | (simp [hs_ss, hs_up]; omega) | (simp [hs_ss, hs_up]; done)⟩
set_option maxHeartbeats 4000000 in
set_option maxRecDepth 100000 in
theorem c_X3_isLetterAround (l : Launch) (a : Int) (ha : hs_R a) : hs_Met l yX3_isLetterAround cX3_isLetterAround 2 (some .boolean) 1 SHX (fun ad => [.ref (ad 15), vI a]) (fun σ => GX σ σ) (hs_PI (fun σ z σ1 => σ = σ1 ∧ (z = 0 ∨ z = 1))) := by
  refine hs_from pfX3_isLetterAround (fun _ => Nat.le_of_ble_eq_true rfl) ?_
  intro p e s m args below meth c D dA ad A σ C hpre
  have C : hs_C p s m args meth c D dA SHX ad A 2 cX3_isLetterAround RX3 (some .boolean) := C
  have g0 := hpre
  show hs_Wd p l e 1 s m args below meth c D dA SHX ad A 2 (hs_PI (fun σ z σ1 => σ = σ1 ∧ (z = 0 ∨ z = 1)) σ) 0 [(0, .ref (ad 15)), (1, vI a)] [] σ
  refine s_aload_n (pc := 0) C dX3_isLetterAround_0 0 rfl ?_
  refine s_geti (q := 15) (ci := 3) (N := 15) (CN := RX3) (T := TX3) (pc := 1) C 10 dX3_isLetterAround_1 wlX3_54 rfl rfl rfl wfX3 (by decide) rfl (σ 15 10) rfl ?_
  have b1 : (-2147483648 : Int) ≤ σ 15 10 ∧ σ 15 10 ≤ 2147483647 := g0.1 15 10
  refine s_iload_n (pc := 4) C dX3_isLetterAround_4 1 rfl ?_
  refine s_ishr (pc := 5) C dX3_isLetterAround_5 (fun z5 hz5 ez5 => ?_)
  refine s_iconst (pc := 6) C dX3_isLetterAround_6 ?_
  refine s_iand (pc := 7) C dX3_isLetterAround_7 (fun z7 hz7 ez7 => ?_)
  refine s_iconst (pc := 8) C dX3_isLetterAround_8 ?_
  refine s_icmp_ne (pc := 9) C (tgt := 16) dX3_isLetterAround_9 (by decide) ⟨by omega, by omega⟩ ⟨by decide, by decide⟩ (fun h9 => ?_) (fun h9 => ?_)
  · skip
    refine s_iconst (pc := 16) C dX3_isLetterAround_16 ?_
    refine s_zret (pc := 17) C (by omega) dX3_isLetterAround_17 ?_
    refine ⟨_, rfl, ?_⟩
    exact ⟨rfl, by first | omega | assumption | (constructor <;> omega) | (refine ⟨⟨?_, ?_⟩, ?_⟩ <;> omega) | (simp [hs_ss, hs_up]; omega) | (simp [hs_ss, hs_up]; done)⟩
  · skip
    refine s_iconst (pc := 12) C dX3_isLetterAround_12 ?_
    refine s_goto (pc := 13) C (tgt := 17) dX3_isLetterAround_13 (by decide) ?_
    refine s_zret (pc := 17) C (by omega) dX3_isLetterAround_17 ?_
    refine ⟨_, rfl, ?_⟩
    exact ⟨rfl, by first | omega | assumption | (constructor <;> omega) | (refine ⟨⟨?_, ?_⟩, ?_⟩ <;> omega) | (simp [hs_ss, hs_up]; omega) | (simp [hs_ss, hs_up]; done)⟩
set_option maxHeartbeats 4000000 in
set_option maxRecDepth 100000 in
theorem c_X3_readNewLetter (l : Launch)  : hs_Met l yX3_readNewLetter cX3_readNewLetter 2 (some .int) 2 SHX (fun ad => [.ref (ad 15)]) (fun σ => GX σ σ ∧ TKs σ ∧ RD σ) (hs_PI (fun σ z σ1 => GX σ σ1 ∧ FRM PRs σ σ1 ∧ TKs σ1 ∧ RD σ1 ∧ 0 ≤ z ∧ z ≤ 7)) := by
  refine hs_from pfX3_readNewLetter (fun _ => Nat.le_of_ble_eq_true rfl) ?_
  intro p e s m args below meth c D dA ad A σ C hpre
  have C : hs_C p s m args meth c D dA SHX ad A 2 cX3_readNewLetter RX3 (some .int) := C
  obtain ⟨g0, p0_TKs, p0_RD⟩ := hpre
  have f0 : FRM PRs σ σ := frm_rf
  show hs_Wd p l e 2 s m args below meth c D dA SHX ad A 2 (hs_PI (fun σ z σ1 => GX σ σ1 ∧ FRM PRs σ σ1 ∧ TKs σ1 ∧ RD σ1 ∧ 0 ≤ z ∧ z ≤ 7) σ) 0 [(0, .ref (ad 15))] [] σ
  refine s_aload_n (pc := 0) C dX3_readNewLetter_0 0 rfl ?_
  refine s_geti (q := 15) (ci := 3) (N := 15) (CN := RX3) (T := TX3) (pc := 1) C 12 dX3_readNewLetter_1 wlX3_66 rfl rfl rfl wfX3 (by decide) rfl (σ 15 12) rfl ?_
  have b1 : (-2147483648 : Int) ≤ σ 15 12 ∧ σ 15 12 ≤ 2147483647 := g0.1 15 12
  refine s_iconst (pc := 4) C dX3_readNewLetter_4 ?_
  refine s_icmp_eq (pc := 5) C (tgt := 15) dX3_readNewLetter_5 (by decide) ⟨by omega, by omega⟩ ⟨by decide, by decide⟩ (fun h5 => ?_) (fun h5 => ?_)
  · skip
    have hl : σ 19 (σ 15 11).toNat ≤ 7 := p0_TKs _ (by have h := p0_RD; unfold RD at h; have b := g0.1 15 11; have b : (0 : Int) ≤ σ 15 11 ∧ σ 15 11 ≤ 500 := b; omega) (by have h := p0_RD; unfold RD at h; omega)
    refine s_aload_n (pc := 15) C dX3_readNewLetter_15 0 rfl ?_
    refine s_getr (q := 15) (ci := 3) (N := 15) (CN := RX3) (T := TX3) (pc := 16) C 0 dX3_readNewLetter_16 wlX3_12 rfl rfl rfl wfX3 (by decide) rfl ?_
    refine s_getrN (q := 16) (ci := 7) (N := 5) (CN := RX7) (T := TX7) (pc := 19) C 2 dX3_readNewLetter_19 wlX3_107 rfl rfl rfl wfX7 (by decide) rfl ?_
    refine s_aload_n (pc := 22) C dX3_readNewLetter_22 0 rfl ?_
    refine s_geti (q := 15) (ci := 3) (N := 15) (CN := RX3) (T := TX3) (pc := 23) C 11 dX3_readNewLetter_23 wlX3_60 rfl rfl rfl wfX3 (by decide) rfl (σ 15 11) rfl ?_
    have b23 : (0 : Int) ≤ σ 15 11 ∧ σ 15 11 ≤ 500 := g0.1 15 11
    refine s_iald (q := 19) (n := 501) (pc := 26) C (σ 19 ((σ 15 11).toNat)) rfl dX3_readNewLetter_26 rfl (by omega) (by omega) (by decide) ?_
    have b26 : (0 : Int) ≤ σ 19 ((σ 15 11).toNat) ∧ σ 19 ((σ 15 11).toNat) ≤ 1000 := g0.1 19 ((σ 15 11).toNat)
    refine s_istore_n (pc := 27) C [(1, vI (σ 19 ((σ 15 11).toNat))), (0, .ref (ad 15))] dX3_readNewLetter_27 (by decide) rfl ?_
    refine s_aload_n (pc := 28) C dX3_readNewLetter_28 1 rfl ?_
    refine s_iload_n (pc := 29) C dX3_readNewLetter_29 0 rfl ?_
    refine s_callVi (pc := 30) C (c_X3_isLetterAround l (σ 19 ((σ 15 11).toNat)) ⟨by omega, by omega⟩) [vI (σ 19 ((σ 15 11).toNat))] [] rfl rfl dX3_readNewLetter_30 wlX3_110 wiX3_isLetterAround weX3_isLetterAround wcX3_isLetterAround wnX3 noX3_isLetterAround (by decide) (by decide) (Nat.le_of_ble_eq_true rfl) (gx_self g0) rfl rfl ?_
    rintro z30 _ ⟨rfl, k30⟩
    show hs_Wd _ _ _ _ _ _ _ _ _ _ _ _ _ _ _ _ _ 33 _ [vI z30] σ
    refine s_if_eq (pc := 33) C (tgt := 41) dX3_readNewLetter_33 (by decide) ⟨by omega, by omega⟩ (fun h33 => ?_) (fun h33 => ?_)
    · skip
      refine s_aload_n (pc := 41) C dX3_readNewLetter_41 1 rfl ?_
      refine s_callVv (pc := 42) C (c_X3_goOn l) [] [] rfl rfl dX3_readNewLetter_42 wlX3_83 wiX3_goOn weX3_goOn wcX3_goOn wnX3 noX3_goOn (by decide) (by decide) (Nat.le_of_ble_eq_true rfl) ⟨(gx_self g0), p0_TKs, p0_RD⟩ rfl rfl ?_
      rintro σ42 k42
      obtain ⟨kg42, kf42, p42_TKs, p42_RD⟩ := k42
      have g42 := gx_trans g0 kg42
      have f42 := frm_tr f0 (frm_mono (Q := PRs) kf42 (fun c j h => by simp [PGo, PRs] at h ⊢ <;> omega))
      show hs_Wd _ _ _ _ _ _ _ _ _ _ _ _ _ _ _ _ _ 45 _ [] σ42
      refine s_iload_n (pc := 45) C dX3_readNewLetter_45 0 rfl ?_
      refine s_iret (pc := 46) C dX3_readNewLetter_46 ?_
      refine ⟨_, rfl, ?_⟩
      exact ⟨g42, f42, p42_TKs, p42_RD, by first | omega | assumption | (constructor <;> omega) | (refine ⟨⟨?_, ?_⟩, ?_⟩ <;> omega) | (simp [hs_ss, hs_up]; omega) | (simp [hs_ss, hs_up]; done)⟩
    · skip
      refine s_aload_n (pc := 36) C dX3_readNewLetter_36 1 rfl ?_
      refine s_iconst (pc := 37) C dX3_readNewLetter_37 ?_
      refine s_callVv (pc := 38) C (c_X3_refuse l 3 (by first | omega | assumption | (constructor <;> omega) | (refine ⟨⟨?_, ?_⟩, ?_⟩ <;> omega) | (simp [hs_ss, hs_up]; omega) | (simp [hs_ss, hs_up]; done))) [vI 3] [] rfl rfl dX3_readNewLetter_38 wlX3_76 wiX3_refuse weX3_refuse wcX3_refuse wnX3 noX3_refuse (by decide) (by decide) (Nat.le_of_ble_eq_true rfl) ⟨(gx_self g0), p0_TKs, p0_RD⟩ rfl rfl ?_
      rintro σ38 k38
      obtain ⟨kg38, kf38, p38_TKs, p38_RD, k38⟩ := k38
      have g38 := gx_trans g0 kg38
      have f38 := frm_tr f0 (frm_mono (Q := PRs) kf38 (fun c j h => by simp [PRf, PRs] at h ⊢ <;> omega))
      show hs_Wd _ _ _ _ _ _ _ _ _ _ _ _ _ _ _ _ _ 41 _ [] σ38
      refine s_aload_n (pc := 41) C dX3_readNewLetter_41 1 rfl ?_
      refine s_callVv (pc := 42) C (c_X3_goOn l) [] [] rfl rfl dX3_readNewLetter_42 wlX3_83 wiX3_goOn weX3_goOn wcX3_goOn wnX3 noX3_goOn (by decide) (by decide) (Nat.le_of_ble_eq_true rfl) ⟨(gx_self g38), p38_TKs, p38_RD⟩ rfl rfl ?_
      rintro σ42 k42
      obtain ⟨kg42, kf42, p42_TKs, p42_RD⟩ := k42
      have g42 := gx_trans g38 kg42
      have f42 := frm_tr f38 (frm_mono (Q := PRs) kf42 (fun c j h => by simp [PGo, PRs] at h ⊢ <;> omega))
      show hs_Wd _ _ _ _ _ _ _ _ _ _ _ _ _ _ _ _ _ 45 _ [] σ42
      refine s_iload_n (pc := 45) C dX3_readNewLetter_45 0 rfl ?_
      refine s_iret (pc := 46) C dX3_readNewLetter_46 ?_
      refine ⟨_, rfl, ?_⟩
      exact ⟨g42, f42, p42_TKs, p42_RD, by first | omega | assumption | (constructor <;> omega) | (refine ⟨⟨?_, ?_⟩, ?_⟩ <;> omega) | (simp [hs_ss, hs_up]; omega) | (simp [hs_ss, hs_up]; done)⟩
  · skip
    refine s_aload_n (pc := 8) C dX3_readNewLetter_8 0 rfl ?_
    refine s_iconst (pc := 9) C dX3_readNewLetter_9 ?_
    refine s_callVv (pc := 10) C (c_X3_refuse l 1 (by first | omega | assumption | (constructor <;> omega) | (refine ⟨⟨?_, ?_⟩, ?_⟩ <;> omega) | (simp [hs_ss, hs_up]; omega) | (simp [hs_ss, hs_up]; done))) [vI 1] [] rfl rfl dX3_readNewLetter_10 wlX3_76 wiX3_refuse weX3_refuse wcX3_refuse wnX3 noX3_refuse (by decide) (by decide) (Nat.le_of_ble_eq_true rfl) ⟨(gx_self g0), p0_TKs, p0_RD⟩ rfl rfl ?_
    rintro σ10 k10
    obtain ⟨kg10, kf10, p10_TKs, p10_RD, k10⟩ := k10
    have g10 := gx_trans g0 kg10
    have f10 := frm_tr f0 (frm_mono (Q := PRs) kf10 (fun c j h => by simp [PRf, PRs] at h ⊢ <;> omega))
    show hs_Wd _ _ _ _ _ _ _ _ _ _ _ _ _ _ _ _ _ 13 _ [] σ10
    refine s_iconst (pc := 13) C dX3_readNewLetter_13 ?_
    refine s_iret (pc := 14) C dX3_readNewLetter_14 ?_
    refine ⟨_, rfl, ?_⟩
    exact ⟨g10, f10, p10_TKs, p10_RD, by first | omega | assumption | (constructor <;> omega) | (refine ⟨⟨?_, ?_⟩, ?_⟩ <;> omega) | (simp [hs_ss, hs_up]; omega) | (simp [hs_ss, hs_up]; done)⟩
set_option maxHeartbeats 4000000 in
set_option maxRecDepth 100000 in
theorem c_X3_readPlace (l : Launch) (q : Int) (hq : 0 ≤ q ∧ q ≤ 119) : hs_Met l yX3_readPlace cX3_readPlace 3 none 3 SHX (fun ad => [.ref (ad 15), vI q]) (fun σ => GX σ σ ∧ TKs σ ∧ RD σ) (hs_PV (fun σ σ1 => GX σ σ1 ∧ FRM PRp σ σ1 ∧ TKs σ1 ∧ RD σ1)) := by
  refine hs_from pfX3_readPlace (fun _ => Nat.le_of_ble_eq_true rfl) ?_
  intro p e s m args below meth c D dA ad A σ C hpre
  have C : hs_C p s m args meth c D dA SHX ad A 3 cX3_readPlace RX3 none := C
  obtain ⟨g0, p0_TKs, p0_RD⟩ := hpre
  have f0 : FRM PRp σ σ := frm_rf
  show hs_Wd p l e 3 s m args below meth c D dA SHX ad A 3 (hs_PV (fun σ σ1 => GX σ σ1 ∧ FRM PRp σ σ1 ∧ TKs σ1 ∧ RD σ1) σ) 0 [(0, .ref (ad 15)), (1, vI q)] [] σ
  refine s_aload_n (pc := 0) C dX3_readPlace_0 0 rfl ?_
  refine s_getr (q := 15) (ci := 3) (N := 15) (CN := RX3) (T := TX3) (pc := 1) C 5 dX3_readPlace_1 wlX3_31 rfl rfl rfl wfX3 (by decide) rfl ?_
  refine s_iload_n (pc := 4) C dX3_readPlace_4 1 rfl ?_
  refine s_iconst (pc := 5) C dX3_readPlace_5 ?_
  refine s_iast (q := 24) (n := 120) (pc := 6) C dX3_readPlace_6 rfl (by omega) (by omega) (by decide) ?_
  have g6 := gx_set (z := ((-1))) g0 24 q.toNat rfl (-1) (7) rfl ⟨by omega, by omega⟩
  have f6 := frm_set (P := PRp) (z := ((-1))) f0 24 q.toNat rfl
  have p6_TKs := TKs_cg (frm_one (P := okTKs) (z := ((-1))) 24 q.toNat rfl) p0_TKs
  have p6_RD := RD_cg (frm_one (P := okRD) (z := ((-1))) 24 q.toNat rfl) p0_RD
  refine s_aload_n (pc := 7) C dX3_readPlace_7 0 rfl ?_
  refine s_geti (q := 15) (ci := 3) (N := 15) (CN := RX3) (T := TX3) (pc := 8) C 12 dX3_readPlace_8 wlX3_66 rfl rfl rfl wfX3 (by decide) rfl (σ 15 12) rfl ?_
  have b8 : (-2147483648 : Int) ≤ σ 15 12 ∧ σ 15 12 ≤ 2147483647 := g6.1 15 12
  refine s_iconst (pc := 11) C dX3_readPlace_11 ?_
  refine s_icmp_eq (pc := 12) C (tgt := 30) dX3_readPlace_12 (by decide) ⟨by omega, by omega⟩ ⟨by decide, by decide⟩ (fun h12 => ?_) (fun h12 => ?_)
  · skip
    have hl : σ 19 (σ 15 11).toNat ≤ 7 := p0_TKs _ (by have h := p0_RD; unfold RD at h; have b := g0.1 15 11; have b : (0 : Int) ≤ σ 15 11 ∧ σ 15 11 ≤ 500 := b; omega) (by have h := p0_RD; unfold RD at h; omega)
    refine s_aload_n (pc := 30) C dX3_readPlace_30 0 rfl ?_
    refine s_getr (q := 15) (ci := 3) (N := 15) (CN := RX3) (T := TX3) (pc := 31) C 0 dX3_readPlace_31 wlX3_12 rfl rfl rfl wfX3 (by decide) rfl ?_
    refine s_getrN (q := 16) (ci := 7) (N := 5) (CN := RX7) (T := TX7) (pc := 34) C 2 dX3_readPlace_34 wlX3_107 rfl rfl rfl wfX7 (by decide) rfl ?_
    refine s_aload_n (pc := 37) C dX3_readPlace_37 0 rfl ?_
    refine s_geti (q := 15) (ci := 3) (N := 15) (CN := RX3) (T := TX3) (pc := 38) C 11 dX3_readPlace_38 wlX3_60 rfl rfl rfl wfX3 (by decide) rfl (σ 15 11) rfl ?_
    have b38 : (0 : Int) ≤ σ 15 11 ∧ σ 15 11 ≤ 500 := g6.1 15 11
    refine s_iald (q := 19) (n := 501) (pc := 41) C (σ 19 ((σ 15 11).toNat)) rfl dX3_readPlace_41 rfl (by omega) (by omega) (by decide) ?_
    have b41 : (0 : Int) ≤ σ 19 ((σ 15 11).toNat) ∧ σ 19 ((σ 15 11).toNat) ≤ 1000 := g6.1 19 ((σ 15 11).toNat)
    refine s_istore_n (pc := 42) C [(2, vI (σ 19 ((σ 15 11).toNat))), (0, .ref (ad 15)), (1, vI q)] dX3_readPlace_42 (by decide) rfl ?_
    refine s_aload_n (pc := 43) C dX3_readPlace_43 1 rfl ?_
    refine s_iload_n (pc := 44) C dX3_readPlace_44 0 rfl ?_
    refine s_callVi (pc := 45) C (c_X3_isLetterAround l (σ 19 ((σ 15 11).toNat)) ⟨by omega, by omega⟩) [vI (σ 19 ((σ 15 11).toNat))] [] rfl rfl dX3_readPlace_45 wlX3_110 wiX3_isLetterAround weX3_isLetterAround wcX3_isLetterAround wnX3 noX3_isLetterAround (by decide) (by decide) (Nat.le_of_ble_eq_true rfl) (gx_self g6) rfl rfl ?_
    rintro z45 _ ⟨rfl, k45⟩
    show hs_Wd _ _ _ _ _ _ _ _ _ _ _ _ _ _ _ _ _ 48 _ [vI z45] (hs_ss σ 24 q.toNat ((-1)))
    refine s_if_ne (pc := 48) C (tgt := 56) dX3_readPlace_48 (by decide) ⟨by omega, by omega⟩ (fun h48 => ?_) (fun h48 => ?_)
    · skip
      refine s_aload_n (pc := 56) C dX3_readPlace_56 1 rfl ?_
      refine s_getr (q := 15) (ci := 3) (N := 15) (CN := RX3) (T := TX3) (pc := 57) C 5 dX3_readPlace_57 wlX3_31 rfl rfl rfl wfX3 (by decide) rfl ?_
      refine s_iload_n (pc := 60) C dX3_readPlace_60 2 rfl ?_
      refine s_iload_n (pc := 61) C dX3_readPlace_61 0 rfl ?_
      refine s_iast (q := 24) (n := 120) (pc := 62) C dX3_readPlace_62 rfl (by omega) (by omega) (by decide) ?_
      have g62 := gx_set (z := (σ 19 ((σ 15 11).toNat))) g6 24 q.toNat rfl (-1) (7) rfl ⟨by omega, by omega⟩
      have f62 := frm_set (P := PRp) (z := (σ 19 ((σ 15 11).toNat))) f6 24 q.toNat rfl
      have p62_TKs := TKs_cg (frm_one (P := okTKs) (z := (σ 19 ((σ 15 11).toNat))) 24 q.toNat rfl) p6_TKs
      have p62_RD := RD_cg (frm_one (P := okRD) (z := (σ 19 ((σ 15 11).toNat))) 24 q.toNat rfl) p6_RD
      refine s_aload_n (pc := 63) C dX3_readPlace_63 1 rfl ?_
      refine s_getr (q := 15) (ci := 3) (N := 15) (CN := RX3) (T := TX3) (pc := 64) C 6 dX3_readPlace_64 wlX3_34 rfl rfl rfl wfX3 (by decide) rfl ?_
      refine s_iload_n (pc := 67) C dX3_readPlace_67 2 rfl ?_
      refine s_iconst (pc := 68) C dX3_readPlace_68 ?_
      refine s_iast (q := 25) (n := 120) (pc := 69) C dX3_readPlace_69 rfl (by omega) (by omega) (by decide) ?_
      have g69 := gx_set (z := 0) g62 25 q.toNat rfl (-999) (999) rfl ⟨by omega, by omega⟩
      have f69 := frm_set (P := PRp) (z := 0) f62 25 q.toNat rfl
      have p69_TKs := TKs_cg (frm_one (P := okTKs) (z := 0) 25 q.toNat rfl) p62_TKs
      have p69_RD := RD_cg (frm_one (P := okRD) (z := 0) 25 q.toNat rfl) p62_RD
      refine s_aload_n (pc := 70) C dX3_readPlace_70 1 rfl ?_
      refine s_callVv (pc := 71) C (c_X3_goOn l) [] [] rfl rfl dX3_readPlace_71 wlX3_83 wiX3_goOn weX3_goOn wcX3_goOn wnX3 noX3_goOn (by decide) (by decide) (Nat.le_of_ble_eq_true rfl) ⟨(gx_self g69), p69_TKs, p69_RD⟩ rfl rfl ?_
      rintro σ71 k71
      obtain ⟨kg71, kf71, p71_TKs, p71_RD⟩ := k71
      have g71 := gx_trans g69 kg71
      have f71 := frm_tr f69 (frm_mono (Q := PRp) kf71 (fun c j h => by simp [PGo, PRp] at h ⊢ <;> omega))
      show hs_Wd _ _ _ _ _ _ _ _ _ _ _ _ _ _ _ _ _ 74 _ [] σ71
      refine s_aload_n (pc := 74) C dX3_readPlace_74 1 rfl ?_
      refine s_geti (q := 15) (ci := 3) (N := 15) (CN := RX3) (T := TX3) (pc := 75) C 12 dX3_readPlace_75 wlX3_66 rfl rfl rfl wfX3 (by decide) rfl (σ71 15 12) rfl ?_
      have b75 : (-2147483648 : Int) ≤ σ71 15 12 ∧ σ71 15 12 ≤ 2147483647 := g71.1 15 12
      refine s_bipush (pc := 78) C dX3_readPlace_78 (by decide) ?_
      refine s_icmp_ne (pc := 80) C (tgt := 104) dX3_readPlace_80 (by decide) ⟨by omega, by omega⟩ ⟨by decide, by decide⟩ (fun h80 => ?_) (fun h80 => ?_)
      · skip
        refine s_aload_n (pc := 104) C dX3_readPlace_104 1 rfl ?_
        refine s_geti (q := 15) (ci := 3) (N := 15) (CN := RX3) (T := TX3) (pc := 105) C 12 dX3_readPlace_105 wlX3_66 rfl rfl rfl wfX3 (by decide) rfl (σ71 15 12) rfl ?_
        have b105 : (-2147483648 : Int) ≤ σ71 15 12 ∧ σ71 15 12 ≤ 2147483647 := g71.1 15 12
        refine s_bipush (pc := 108) C dX3_readPlace_108 (by decide) ?_
        refine s_icmp_ne (pc := 110) C (tgt := 132) dX3_readPlace_110 (by decide) ⟨by omega, by omega⟩ ⟨by decide, by decide⟩ (fun h110 => ?_) (fun h110 => ?_)
        · skip
          refine s_vret (pc := 132) C dX3_readPlace_132 ?_
          refine ⟨rfl, ?_⟩
          exact ⟨g71, f71, p71_TKs, p71_RD⟩
        · skip
          refine s_aload_n (pc := 113) C dX3_readPlace_113 1 rfl ?_
          refine s_callVv (pc := 114) C (c_X3_goOn l) [] [] rfl rfl dX3_readPlace_114 wlX3_83 wiX3_goOn weX3_goOn wcX3_goOn wnX3 noX3_goOn (by decide) (by decide) (Nat.le_of_ble_eq_true rfl) ⟨(gx_self g71), p71_TKs, p71_RD⟩ rfl rfl ?_
          rintro σ114 k114
          obtain ⟨kg114, kf114, p114_TKs, p114_RD⟩ := k114
          have g114 := gx_trans g71 kg114
          have f114 := frm_tr f71 (frm_mono (Q := PRp) kf114 (fun c j h => by simp [PGo, PRp] at h ⊢ <;> omega))
          show hs_Wd _ _ _ _ _ _ _ _ _ _ _ _ _ _ _ _ _ 117 _ [] σ114
          refine s_aload_n (pc := 117) C dX3_readPlace_117 1 rfl ?_
          refine s_getr (q := 15) (ci := 3) (N := 15) (CN := RX3) (T := TX3) (pc := 118) C 6 dX3_readPlace_118 wlX3_34 rfl rfl rfl wfX3 (by decide) rfl ?_
          refine s_iload_n (pc := 121) C dX3_readPlace_121 2 rfl ?_
          refine s_aload_n (pc := 122) C dX3_readPlace_122 1 rfl ?_
          refine s_iconst (pc := 123) C dX3_readPlace_123 ?_
          refine s_sipush (pc := 124) C dX3_readPlace_124 (by decide) ?_
          refine s_callVi (pc := 127) C (c_X3_readNumber l 0 999 (by first | omega | assumption | (constructor <;> omega) | (refine ⟨⟨?_, ?_⟩, ?_⟩ <;> omega) | (simp [hs_ss, hs_up]; omega) | (simp [hs_ss, hs_up]; done))) [vI 0, vI 999] [vI q, .ref (ad 25)] rfl rfl dX3_readPlace_127 wlX3_96 wiX3_readNumber weX3_readNumber wcX3_readNumber wnX3 noX3_readNumber (by decide) (by decide) (Nat.le_of_ble_eq_true rfl) ⟨(gx_self g114), p114_TKs, p114_RD⟩ rfl rfl ?_
          rintro z127 σ127 k127
          obtain ⟨kg127, kf127, p127_TKs, p127_RD, k127⟩ := k127
          have g127 := gx_trans g114 kg127
          have f127 := frm_tr f114 (frm_mono (Q := PRp) kf127 (fun c j h => by simp [PRs, PRp] at h ⊢ <;> omega))
          show hs_Wd _ _ _ _ _ _ _ _ _ _ _ _ _ _ _ _ _ 130 _ [vI z127, vI q, .ref (ad 25)] σ127
          refine s_ineg (pc := 130) C dX3_readPlace_130 ?_
          refine s_iast (q := 25) (n := 120) (pc := 131) C dX3_readPlace_131 rfl (by omega) (by omega) (by decide) ?_
          have g131 := gx_set (z := (-z127)) g127 25 q.toNat rfl (-999) (999) rfl ⟨by omega, by omega⟩
          have f131 := frm_set (P := PRp) (z := (-z127)) f127 25 q.toNat rfl
          have p131_TKs := TKs_cg (frm_one (P := okTKs) (z := (-z127)) 25 q.toNat rfl) p127_TKs
          have p131_RD := RD_cg (frm_one (P := okRD) (z := (-z127)) 25 q.toNat rfl) p127_RD
          refine s_vret (pc := 132) C dX3_readPlace_132 ?_
          refine ⟨rfl, ?_⟩
          exact ⟨g131, f131, p131_TKs, p131_RD⟩
      · skip
        refine s_aload_n (pc := 83) C dX3_readPlace_83 1 rfl ?_
        refine s_callVv (pc := 84) C (c_X3_goOn l) [] [] rfl rfl dX3_readPlace_84 wlX3_83 wiX3_goOn weX3_goOn wcX3_goOn wnX3 noX3_goOn (by decide) (by decide) (Nat.le_of_ble_eq_true rfl) ⟨(gx_self g71), p71_TKs, p71_RD⟩ rfl rfl ?_
        rintro σ84 k84
        obtain ⟨kg84, kf84, p84_TKs, p84_RD⟩ := k84
        have g84 := gx_trans g71 kg84
        have f84 := frm_tr f71 (frm_mono (Q := PRp) kf84 (fun c j h => by simp [PGo, PRp] at h ⊢ <;> omega))
        show hs_Wd _ _ _ _ _ _ _ _ _ _ _ _ _ _ _ _ _ 87 _ [] σ84
        refine s_aload_n (pc := 87) C dX3_readPlace_87 1 rfl ?_
        refine s_getr (q := 15) (ci := 3) (N := 15) (CN := RX3) (T := TX3) (pc := 88) C 6 dX3_readPlace_88 wlX3_34 rfl rfl rfl wfX3 (by decide) rfl ?_
        refine s_iload_n (pc := 91) C dX3_readPlace_91 2 rfl ?_
        refine s_aload_n (pc := 92) C dX3_readPlace_92 1 rfl ?_
        refine s_iconst (pc := 93) C dX3_readPlace_93 ?_
        refine s_sipush (pc := 94) C dX3_readPlace_94 (by decide) ?_
        refine s_callVi (pc := 97) C (c_X3_readNumber l 0 999 (by first | omega | assumption | (constructor <;> omega) | (refine ⟨⟨?_, ?_⟩, ?_⟩ <;> omega) | (simp [hs_ss, hs_up]; omega) | (simp [hs_ss, hs_up]; done))) [vI 0, vI 999] [vI q, .ref (ad 25)] rfl rfl dX3_readPlace_97 wlX3_96 wiX3_readNumber weX3_readNumber wcX3_readNumber wnX3 noX3_readNumber (by decide) (by decide) (Nat.le_of_ble_eq_true rfl) ⟨(gx_self g84), p84_TKs, p84_RD⟩ rfl rfl ?_
        rintro z97 σ97 k97
        obtain ⟨kg97, kf97, p97_TKs, p97_RD, k97⟩ := k97
        have g97 := gx_trans g84 kg97
        have f97 := frm_tr f84 (frm_mono (Q := PRp) kf97 (fun c j h => by simp [PRs, PRp] at h ⊢ <;> omega))
        show hs_Wd _ _ _ _ _ _ _ _ _ _ _ _ _ _ _ _ _ 100 _ [vI z97, vI q, .ref (ad 25)] σ97
        refine s_iast (q := 25) (n := 120) (pc := 100) C dX3_readPlace_100 rfl (by omega) (by omega) (by decide) ?_
        have g100 := gx_set (z := z97) g97 25 q.toNat rfl (-999) (999) rfl ⟨by omega, by omega⟩
        have f100 := frm_set (P := PRp) (z := z97) f97 25 q.toNat rfl
        have p100_TKs := TKs_cg (frm_one (P := okTKs) (z := z97) 25 q.toNat rfl) p97_TKs
        have p100_RD := RD_cg (frm_one (P := okRD) (z := z97) 25 q.toNat rfl) p97_RD
        refine s_goto (pc := 101) C (tgt := 132) dX3_readPlace_101 (by decide) ?_
        refine s_vret (pc := 132) C dX3_readPlace_132 ?_
        refine ⟨rfl, ?_⟩
        exact ⟨g100, f100, p100_TKs, p100_RD⟩
    · skip
      refine s_aload_n (pc := 51) C dX3_readPlace_51 1 rfl ?_
      refine s_iconst (pc := 52) C dX3_readPlace_52 ?_
      refine s_callVv (pc := 53) C (c_X3_refuse l 3 (by first | omega | assumption | (constructor <;> omega) | (refine ⟨⟨?_, ?_⟩, ?_⟩ <;> omega) | (simp [hs_ss, hs_up]; omega) | (simp [hs_ss, hs_up]; done))) [vI 3] [] rfl rfl dX3_readPlace_53 wlX3_76 wiX3_refuse weX3_refuse wcX3_refuse wnX3 noX3_refuse (by decide) (by decide) (Nat.le_of_ble_eq_true rfl) ⟨(gx_self g6), p6_TKs, p6_RD⟩ rfl rfl ?_
      rintro σ53 k53
      obtain ⟨kg53, kf53, p53_TKs, p53_RD, k53⟩ := k53
      have g53 := gx_trans g6 kg53
      have f53 := frm_tr f6 (frm_mono (Q := PRp) kf53 (fun c j h => by simp [PRf, PRp] at h ⊢ <;> omega))
      show hs_Wd _ _ _ _ _ _ _ _ _ _ _ _ _ _ _ _ _ 56 _ [] σ53
      refine s_aload_n (pc := 56) C dX3_readPlace_56 1 rfl ?_
      refine s_getr (q := 15) (ci := 3) (N := 15) (CN := RX3) (T := TX3) (pc := 57) C 5 dX3_readPlace_57 wlX3_31 rfl rfl rfl wfX3 (by decide) rfl ?_
      refine s_iload_n (pc := 60) C dX3_readPlace_60 2 rfl ?_
      refine s_iload_n (pc := 61) C dX3_readPlace_61 0 rfl ?_
      refine s_iast (q := 24) (n := 120) (pc := 62) C dX3_readPlace_62 rfl (by omega) (by omega) (by decide) ?_
      have g62 := gx_set (z := (σ 19 ((σ 15 11).toNat))) g53 24 q.toNat rfl (-1) (7) rfl ⟨by omega, by omega⟩
      have f62 := frm_set (P := PRp) (z := (σ 19 ((σ 15 11).toNat))) f53 24 q.toNat rfl
      have p62_TKs := TKs_cg (frm_one (P := okTKs) (z := (σ 19 ((σ 15 11).toNat))) 24 q.toNat rfl) p53_TKs
      have p62_RD := RD_cg (frm_one (P := okRD) (z := (σ 19 ((σ 15 11).toNat))) 24 q.toNat rfl) p53_RD
      refine s_aload_n (pc := 63) C dX3_readPlace_63 1 rfl ?_
      refine s_getr (q := 15) (ci := 3) (N := 15) (CN := RX3) (T := TX3) (pc := 64) C 6 dX3_readPlace_64 wlX3_34 rfl rfl rfl wfX3 (by decide) rfl ?_
      refine s_iload_n (pc := 67) C dX3_readPlace_67 2 rfl ?_
      refine s_iconst (pc := 68) C dX3_readPlace_68 ?_
      refine s_iast (q := 25) (n := 120) (pc := 69) C dX3_readPlace_69 rfl (by omega) (by omega) (by decide) ?_
      have g69 := gx_set (z := 0) g62 25 q.toNat rfl (-999) (999) rfl ⟨by omega, by omega⟩
      have f69 := frm_set (P := PRp) (z := 0) f62 25 q.toNat rfl
      have p69_TKs := TKs_cg (frm_one (P := okTKs) (z := 0) 25 q.toNat rfl) p62_TKs
      have p69_RD := RD_cg (frm_one (P := okRD) (z := 0) 25 q.toNat rfl) p62_RD
      refine s_aload_n (pc := 70) C dX3_readPlace_70 1 rfl ?_
      refine s_callVv (pc := 71) C (c_X3_goOn l) [] [] rfl rfl dX3_readPlace_71 wlX3_83 wiX3_goOn weX3_goOn wcX3_goOn wnX3 noX3_goOn (by decide) (by decide) (Nat.le_of_ble_eq_true rfl) ⟨(gx_self g69), p69_TKs, p69_RD⟩ rfl rfl ?_
      rintro σ71 k71
      obtain ⟨kg71, kf71, p71_TKs, p71_RD⟩ := k71
      have g71 := gx_trans g69 kg71
      have f71 := frm_tr f69 (frm_mono (Q := PRp) kf71 (fun c j h => by simp [PGo, PRp] at h ⊢ <;> omega))
      show hs_Wd _ _ _ _ _ _ _ _ _ _ _ _ _ _ _ _ _ 74 _ [] σ71
      refine s_aload_n (pc := 74) C dX3_readPlace_74 1 rfl ?_
      refine s_geti (q := 15) (ci := 3) (N := 15) (CN := RX3) (T := TX3) (pc := 75) C 12 dX3_readPlace_75 wlX3_66 rfl rfl rfl wfX3 (by decide) rfl (σ71 15 12) rfl ?_
      have b75 : (-2147483648 : Int) ≤ σ71 15 12 ∧ σ71 15 12 ≤ 2147483647 := g71.1 15 12
      refine s_bipush (pc := 78) C dX3_readPlace_78 (by decide) ?_
      refine s_icmp_ne (pc := 80) C (tgt := 104) dX3_readPlace_80 (by decide) ⟨by omega, by omega⟩ ⟨by decide, by decide⟩ (fun h80 => ?_) (fun h80 => ?_)
      · skip
        refine s_aload_n (pc := 104) C dX3_readPlace_104 1 rfl ?_
        refine s_geti (q := 15) (ci := 3) (N := 15) (CN := RX3) (T := TX3) (pc := 105) C 12 dX3_readPlace_105 wlX3_66 rfl rfl rfl wfX3 (by decide) rfl (σ71 15 12) rfl ?_
        have b105 : (-2147483648 : Int) ≤ σ71 15 12 ∧ σ71 15 12 ≤ 2147483647 := g71.1 15 12
        refine s_bipush (pc := 108) C dX3_readPlace_108 (by decide) ?_
        refine s_icmp_ne (pc := 110) C (tgt := 132) dX3_readPlace_110 (by decide) ⟨by omega, by omega⟩ ⟨by decide, by decide⟩ (fun h110 => ?_) (fun h110 => ?_)
        · skip
          refine s_vret (pc := 132) C dX3_readPlace_132 ?_
          refine ⟨rfl, ?_⟩
          exact ⟨g71, f71, p71_TKs, p71_RD⟩
        · skip
          refine s_aload_n (pc := 113) C dX3_readPlace_113 1 rfl ?_
          refine s_callVv (pc := 114) C (c_X3_goOn l) [] [] rfl rfl dX3_readPlace_114 wlX3_83 wiX3_goOn weX3_goOn wcX3_goOn wnX3 noX3_goOn (by decide) (by decide) (Nat.le_of_ble_eq_true rfl) ⟨(gx_self g71), p71_TKs, p71_RD⟩ rfl rfl ?_
          rintro σ114 k114
          obtain ⟨kg114, kf114, p114_TKs, p114_RD⟩ := k114
          have g114 := gx_trans g71 kg114
          have f114 := frm_tr f71 (frm_mono (Q := PRp) kf114 (fun c j h => by simp [PGo, PRp] at h ⊢ <;> omega))
          show hs_Wd _ _ _ _ _ _ _ _ _ _ _ _ _ _ _ _ _ 117 _ [] σ114
          refine s_aload_n (pc := 117) C dX3_readPlace_117 1 rfl ?_
          refine s_getr (q := 15) (ci := 3) (N := 15) (CN := RX3) (T := TX3) (pc := 118) C 6 dX3_readPlace_118 wlX3_34 rfl rfl rfl wfX3 (by decide) rfl ?_
          refine s_iload_n (pc := 121) C dX3_readPlace_121 2 rfl ?_
          refine s_aload_n (pc := 122) C dX3_readPlace_122 1 rfl ?_
          refine s_iconst (pc := 123) C dX3_readPlace_123 ?_
          refine s_sipush (pc := 124) C dX3_readPlace_124 (by decide) ?_
          refine s_callVi (pc := 127) C (c_X3_readNumber l 0 999 (by first | omega | assumption | (constructor <;> omega) | (refine ⟨⟨?_, ?_⟩, ?_⟩ <;> omega) | (simp [hs_ss, hs_up]; omega) | (simp [hs_ss, hs_up]; done))) [vI 0, vI 999] [vI q, .ref (ad 25)] rfl rfl dX3_readPlace_127 wlX3_96 wiX3_readNumber weX3_readNumber wcX3_readNumber wnX3 noX3_readNumber (by decide) (by decide) (Nat.le_of_ble_eq_true rfl) ⟨(gx_self g114), p114_TKs, p114_RD⟩ rfl rfl ?_
          rintro z127 σ127 k127
          obtain ⟨kg127, kf127, p127_TKs, p127_RD, k127⟩ := k127
          have g127 := gx_trans g114 kg127
          have f127 := frm_tr f114 (frm_mono (Q := PRp) kf127 (fun c j h => by simp [PRs, PRp] at h ⊢ <;> omega))
          show hs_Wd _ _ _ _ _ _ _ _ _ _ _ _ _ _ _ _ _ 130 _ [vI z127, vI q, .ref (ad 25)] σ127
          refine s_ineg (pc := 130) C dX3_readPlace_130 ?_
          refine s_iast (q := 25) (n := 120) (pc := 131) C dX3_readPlace_131 rfl (by omega) (by omega) (by decide) ?_
          have g131 := gx_set (z := (-z127)) g127 25 q.toNat rfl (-999) (999) rfl ⟨by omega, by omega⟩
          have f131 := frm_set (P := PRp) (z := (-z127)) f127 25 q.toNat rfl
          have p131_TKs := TKs_cg (frm_one (P := okTKs) (z := (-z127)) 25 q.toNat rfl) p127_TKs
          have p131_RD := RD_cg (frm_one (P := okRD) (z := (-z127)) 25 q.toNat rfl) p127_RD
          refine s_vret (pc := 132) C dX3_readPlace_132 ?_
          refine ⟨rfl, ?_⟩
          exact ⟨g131, f131, p131_TKs, p131_RD⟩
      · skip
        refine s_aload_n (pc := 83) C dX3_readPlace_83 1 rfl ?_
        refine s_callVv (pc := 84) C (c_X3_goOn l) [] [] rfl rfl dX3_readPlace_84 wlX3_83 wiX3_goOn weX3_goOn wcX3_goOn wnX3 noX3_goOn (by decide) (by decide) (Nat.le_of_ble_eq_true rfl) ⟨(gx_self g71), p71_TKs, p71_RD⟩ rfl rfl ?_
        rintro σ84 k84
        obtain ⟨kg84, kf84, p84_TKs, p84_RD⟩ := k84
        have g84 := gx_trans g71 kg84
        have f84 := frm_tr f71 (frm_mono (Q := PRp) kf84 (fun c j h => by simp [PGo, PRp] at h ⊢ <;> omega))
        show hs_Wd _ _ _ _ _ _ _ _ _ _ _ _ _ _ _ _ _ 87 _ [] σ84
        refine s_aload_n (pc := 87) C dX3_readPlace_87 1 rfl ?_
        refine s_getr (q := 15) (ci := 3) (N := 15) (CN := RX3) (T := TX3) (pc := 88) C 6 dX3_readPlace_88 wlX3_34 rfl rfl rfl wfX3 (by decide) rfl ?_
        refine s_iload_n (pc := 91) C dX3_readPlace_91 2 rfl ?_
        refine s_aload_n (pc := 92) C dX3_readPlace_92 1 rfl ?_
        refine s_iconst (pc := 93) C dX3_readPlace_93 ?_
        refine s_sipush (pc := 94) C dX3_readPlace_94 (by decide) ?_
        refine s_callVi (pc := 97) C (c_X3_readNumber l 0 999 (by first | omega | assumption | (constructor <;> omega) | (refine ⟨⟨?_, ?_⟩, ?_⟩ <;> omega) | (simp [hs_ss, hs_up]; omega) | (simp [hs_ss, hs_up]; done))) [vI 0, vI 999] [vI q, .ref (ad 25)] rfl rfl dX3_readPlace_97 wlX3_96 wiX3_readNumber weX3_readNumber wcX3_readNumber wnX3 noX3_readNumber (by decide) (by decide) (Nat.le_of_ble_eq_true rfl) ⟨(gx_self g84), p84_TKs, p84_RD⟩ rfl rfl ?_
        rintro z97 σ97 k97
        obtain ⟨kg97, kf97, p97_TKs, p97_RD, k97⟩ := k97
        have g97 := gx_trans g84 kg97
        have f97 := frm_tr f84 (frm_mono (Q := PRp) kf97 (fun c j h => by simp [PRs, PRp] at h ⊢ <;> omega))
        show hs_Wd _ _ _ _ _ _ _ _ _ _ _ _ _ _ _ _ _ 100 _ [vI z97, vI q, .ref (ad 25)] σ97
        refine s_iast (q := 25) (n := 120) (pc := 100) C dX3_readPlace_100 rfl (by omega) (by omega) (by decide) ?_
        have g100 := gx_set (z := z97) g97 25 q.toNat rfl (-999) (999) rfl ⟨by omega, by omega⟩
        have f100 := frm_set (P := PRp) (z := z97) f97 25 q.toNat rfl
        have p100_TKs := TKs_cg (frm_one (P := okTKs) (z := z97) 25 q.toNat rfl) p97_TKs
        have p100_RD := RD_cg (frm_one (P := okRD) (z := z97) 25 q.toNat rfl) p97_RD
        refine s_goto (pc := 101) C (tgt := 132) dX3_readPlace_101 (by decide) ?_
        refine s_vret (pc := 132) C dX3_readPlace_132 ?_
        refine ⟨rfl, ?_⟩
        exact ⟨g100, f100, p100_TKs, p100_RD⟩
  · skip
    refine s_aload_n (pc := 15) C dX3_readPlace_15 0 rfl ?_
    refine s_getr (q := 15) (ci := 3) (N := 15) (CN := RX3) (T := TX3) (pc := 16) C 6 dX3_readPlace_16 wlX3_34 rfl rfl rfl wfX3 (by decide) rfl ?_
    refine s_iload_n (pc := 19) C dX3_readPlace_19 1 rfl ?_
    refine s_aload_n (pc := 20) C dX3_readPlace_20 0 rfl ?_
    refine s_iconst (pc := 21) C dX3_readPlace_21 ?_
    refine s_sipush (pc := 22) C dX3_readPlace_22 (by decide) ?_
    refine s_callVi (pc := 25) C (c_X3_readNumber l 0 999 (by first | omega | assumption | (constructor <;> omega) | (refine ⟨⟨?_, ?_⟩, ?_⟩ <;> omega) | (simp [hs_ss, hs_up]; omega) | (simp [hs_ss, hs_up]; done))) [vI 0, vI 999] [vI q, .ref (ad 25)] rfl rfl dX3_readPlace_25 wlX3_96 wiX3_readNumber weX3_readNumber wcX3_readNumber wnX3 noX3_readNumber (by decide) (by decide) (Nat.le_of_ble_eq_true rfl) ⟨(gx_self g6), p6_TKs, p6_RD⟩ rfl rfl ?_
    rintro z25 σ25 k25
    obtain ⟨kg25, kf25, p25_TKs, p25_RD, k25⟩ := k25
    have g25 := gx_trans g6 kg25
    have f25 := frm_tr f6 (frm_mono (Q := PRp) kf25 (fun c j h => by simp [PRs, PRp] at h ⊢ <;> omega))
    show hs_Wd _ _ _ _ _ _ _ _ _ _ _ _ _ _ _ _ _ 28 _ [vI z25, vI q, .ref (ad 25)] σ25
    refine s_iast (q := 25) (n := 120) (pc := 28) C dX3_readPlace_28 rfl (by omega) (by omega) (by decide) ?_
    have g28 := gx_set (z := z25) g25 25 q.toNat rfl (-999) (999) rfl ⟨by omega, by omega⟩
    have f28 := frm_set (P := PRp) (z := z25) f25 25 q.toNat rfl
    have p28_TKs := TKs_cg (frm_one (P := okTKs) (z := z25) 25 q.toNat rfl) p25_TKs
    have p28_RD := RD_cg (frm_one (P := okRD) (z := z25) 25 q.toNat rfl) p25_RD
    refine s_vret (pc := 29) C dX3_readPlace_29 ?_
    refine ⟨rfl, ?_⟩
    exact ⟨g28, f28, p28_TKs, p28_RD⟩
set_option maxHeartbeats 4000000 in
set_option maxRecDepth 100000 in
theorem c_X3_readRest (l : Launch) (u : Int) (hu : 0 ≤ u ∧ u ≤ 59) : hs_Met l yX3_readRest cX3_readRest 2 none 4 SHX (fun ad => [.ref (ad 15), vI u]) (fun σ => GX σ σ ∧ TKs σ ∧ RD σ) (hs_PV (fun σ σ1 => GX σ σ1 ∧ FRM PRr σ σ1 ∧ TKs σ1 ∧ RD σ1)) := by
  refine hs_from pfX3_readRest (fun _ => Nat.le_of_ble_eq_true rfl) ?_
  intro p e s m args below meth c D dA ad A σ C hpre
  have C : hs_C p s m args meth c D dA SHX ad A 2 cX3_readRest RX3 none := C
  obtain ⟨g0, p0_TKs, p0_RD⟩ := hpre
  have f0 : FRM PRr σ σ := frm_rf
  show hs_Wd p l e 4 s m args below meth c D dA SHX ad A 2 (hs_PV (fun σ σ1 => GX σ σ1 ∧ FRM PRr σ σ1 ∧ TKs σ1 ∧ RD σ1) σ) 0 [(0, .ref (ad 15)), (1, vI u)] [] σ
  refine s_aload_n (pc := 0) C dX3_readRest_0 0 rfl ?_
  refine s_getr (q := 15) (ci := 3) (N := 15) (CN := RX3) (T := TX3) (pc := 1) C 1 dX3_readRest_1 wlX3_18 rfl rfl rfl wfX3 (by decide) rfl ?_
  refine s_iload_n (pc := 4) C dX3_readRest_4 1 rfl ?_
  refine s_iald (q := 20) (n := 60) (pc := 5) C (σ 20 u.toNat) rfl dX3_readRest_5 rfl (by omega) (by omega) (by decide) ?_
  have b5 : (0 : Int) ≤ σ 20 u.toNat ∧ σ 20 u.toNat ≤ 10 := g0.1 20 u.toNat
  by_cases sw6 : (σ 20 u.toNat) < 4 ∨ 10 < (σ 20 u.toNat)
  · refine s_swOut (pc := 6) C (tgt := 139) dX3_readRest_6 ⟨by omega, by omega⟩ sw6 (by decide) ?_
    refine s_vret (pc := 139) C dX3_readRest_139 ?_
    refine ⟨rfl, ?_⟩
    exact ⟨g0, f0, p0_TKs, p0_RD⟩
  · rcases (show (σ 20 u.toNat) = 4 ∨ (σ 20 u.toNat) = 5 ∨ (σ 20 u.toNat) = 6 ∨ (σ 20 u.toNat) = 7 ∨ (σ 20 u.toNat) = 8 ∨ (σ 20 u.toNat) = 9 ∨ (σ 20 u.toNat) = 10 by omega) with sv6 | sv6 | sv6 | sv6 | sv6 | sv6 | sv6
    · refine s_swIn (pc := 6) (off := 42) C (tgt := 48) dX3_readRest_6 ⟨by omega, by omega⟩ (by omega) (by omega) (by rw [sv6]; decide) (by decide) ?_
      refine s_aload_n (pc := 48) C dX3_readRest_48 0 rfl ?_
      refine s_getr (q := 15) (ci := 3) (N := 15) (CN := RX3) (T := TX3) (pc := 49) C 2 dX3_readRest_49 wlX3_22 rfl rfl rfl wfX3 (by decide) rfl ?_
      refine s_iload_n (pc := 52) C dX3_readRest_52 1 rfl ?_
      refine s_aload_n (pc := 53) C dX3_readRest_53 0 rfl ?_
      refine s_iconst (pc := 54) C dX3_readRest_54 ?_
      refine s_bipush (pc := 55) C dX3_readRest_55 (by decide) ?_
      refine s_callVi (pc := 57) C (c_X3_readNumber l 1 9 (by first | omega | assumption | (constructor <;> omega) | (refine ⟨⟨?_, ?_⟩, ?_⟩ <;> omega) | (simp [hs_ss, hs_up]; omega) | (simp [hs_ss, hs_up]; done))) [vI 1, vI 9] [vI u, .ref (ad 21)] rfl rfl dX3_readRest_57 wlX3_96 wiX3_readNumber weX3_readNumber wcX3_readNumber wnX3 noX3_readNumber (by decide) (by decide) (Nat.le_of_ble_eq_true rfl) ⟨(gx_self g0), p0_TKs, p0_RD⟩ rfl rfl ?_
      rintro z57 σ57 k57
      obtain ⟨kg57, kf57, p57_TKs, p57_RD, k57⟩ := k57
      have g57 := gx_trans g0 kg57
      have f57 := frm_tr f0 (frm_mono (Q := PRr) kf57 (fun c j h => by simp [PRs, PRr] at h ⊢ <;> omega))
      show hs_Wd _ _ _ _ _ _ _ _ _ _ _ _ _ _ _ _ _ 60 _ [vI z57, vI u, .ref (ad 21)] σ57
      refine s_iast (q := 21) (n := 60) (pc := 60) C dX3_readRest_60 rfl (by omega) (by omega) (by decide) ?_
      have g60 := gx_set (z := z57) g57 21 u.toNat rfl (0) (99) rfl ⟨by omega, by omega⟩
      have f60 := frm_set (P := PRr) (z := z57) f57 21 u.toNat rfl
      have p60_TKs := TKs_cg (frm_one (P := okTKs) (z := z57) 21 u.toNat rfl) p57_TKs
      have p60_RD := RD_cg (frm_one (P := okRD) (z := z57) 21 u.toNat rfl) p57_RD
      refine s_aload_n (pc := 61) C dX3_readRest_61 0 rfl ?_
      refine s_iconst (pc := 62) C dX3_readRest_62 ?_
      refine s_iload_n (pc := 63) C dX3_readRest_63 1 rfl ?_
      refine s_imul (pc := 64) C dX3_readRest_64 ?_
      refine s_callVv (pc := 65) C (c_X3_readPlace l (2 * u) (by first | omega | assumption | (constructor <;> omega) | (refine ⟨⟨?_, ?_⟩, ?_⟩ <;> omega) | (simp [hs_ss, hs_up]; omega) | (simp [hs_ss, hs_up]; done))) [vI (2 * u)] [] rfl rfl dX3_readRest_65 wlX3_100 wiX3_readPlace weX3_readPlace wcX3_readPlace wnX3 noX3_readPlace (by decide) (by decide) (Nat.le_of_ble_eq_true rfl) ⟨(gx_self g60), p60_TKs, p60_RD⟩ rfl rfl ?_
      rintro σ65 k65
      obtain ⟨kg65, kf65, p65_TKs, p65_RD⟩ := k65
      have g65 := gx_trans g60 kg65
      have f65 := frm_tr f60 (frm_mono (Q := PRr) kf65 (fun c j h => by simp [PRp, PRr] at h ⊢ <;> omega))
      show hs_Wd _ _ _ _ _ _ _ _ _ _ _ _ _ _ _ _ _ 68 _ [] σ65
      refine s_goto (pc := 68) C (tgt := 139) dX3_readRest_68 (by decide) ?_
      refine s_vret (pc := 139) C dX3_readRest_139 ?_
      refine ⟨rfl, ?_⟩
      exact ⟨g65, f65, p65_TKs, p65_RD⟩
    · refine s_swIn (pc := 6) (off := 42) C (tgt := 48) dX3_readRest_6 ⟨by omega, by omega⟩ (by omega) (by omega) (by rw [sv6]; decide) (by decide) ?_
      refine s_aload_n (pc := 48) C dX3_readRest_48 0 rfl ?_
      refine s_getr (q := 15) (ci := 3) (N := 15) (CN := RX3) (T := TX3) (pc := 49) C 2 dX3_readRest_49 wlX3_22 rfl rfl rfl wfX3 (by decide) rfl ?_
      refine s_iload_n (pc := 52) C dX3_readRest_52 1 rfl ?_
      refine s_aload_n (pc := 53) C dX3_readRest_53 0 rfl ?_
      refine s_iconst (pc := 54) C dX3_readRest_54 ?_
      refine s_bipush (pc := 55) C dX3_readRest_55 (by decide) ?_
      refine s_callVi (pc := 57) C (c_X3_readNumber l 1 9 (by first | omega | assumption | (constructor <;> omega) | (refine ⟨⟨?_, ?_⟩, ?_⟩ <;> omega) | (simp [hs_ss, hs_up]; omega) | (simp [hs_ss, hs_up]; done))) [vI 1, vI 9] [vI u, .ref (ad 21)] rfl rfl dX3_readRest_57 wlX3_96 wiX3_readNumber weX3_readNumber wcX3_readNumber wnX3 noX3_readNumber (by decide) (by decide) (Nat.le_of_ble_eq_true rfl) ⟨(gx_self g0), p0_TKs, p0_RD⟩ rfl rfl ?_
      rintro z57 σ57 k57
      obtain ⟨kg57, kf57, p57_TKs, p57_RD, k57⟩ := k57
      have g57 := gx_trans g0 kg57
      have f57 := frm_tr f0 (frm_mono (Q := PRr) kf57 (fun c j h => by simp [PRs, PRr] at h ⊢ <;> omega))
      show hs_Wd _ _ _ _ _ _ _ _ _ _ _ _ _ _ _ _ _ 60 _ [vI z57, vI u, .ref (ad 21)] σ57
      refine s_iast (q := 21) (n := 60) (pc := 60) C dX3_readRest_60 rfl (by omega) (by omega) (by decide) ?_
      have g60 := gx_set (z := z57) g57 21 u.toNat rfl (0) (99) rfl ⟨by omega, by omega⟩
      have f60 := frm_set (P := PRr) (z := z57) f57 21 u.toNat rfl
      have p60_TKs := TKs_cg (frm_one (P := okTKs) (z := z57) 21 u.toNat rfl) p57_TKs
      have p60_RD := RD_cg (frm_one (P := okRD) (z := z57) 21 u.toNat rfl) p57_RD
      refine s_aload_n (pc := 61) C dX3_readRest_61 0 rfl ?_
      refine s_iconst (pc := 62) C dX3_readRest_62 ?_
      refine s_iload_n (pc := 63) C dX3_readRest_63 1 rfl ?_
      refine s_imul (pc := 64) C dX3_readRest_64 ?_
      refine s_callVv (pc := 65) C (c_X3_readPlace l (2 * u) (by first | omega | assumption | (constructor <;> omega) | (refine ⟨⟨?_, ?_⟩, ?_⟩ <;> omega) | (simp [hs_ss, hs_up]; omega) | (simp [hs_ss, hs_up]; done))) [vI (2 * u)] [] rfl rfl dX3_readRest_65 wlX3_100 wiX3_readPlace weX3_readPlace wcX3_readPlace wnX3 noX3_readPlace (by decide) (by decide) (Nat.le_of_ble_eq_true rfl) ⟨(gx_self g60), p60_TKs, p60_RD⟩ rfl rfl ?_
      rintro σ65 k65
      obtain ⟨kg65, kf65, p65_TKs, p65_RD⟩ := k65
      have g65 := gx_trans g60 kg65
      have f65 := frm_tr f60 (frm_mono (Q := PRr) kf65 (fun c j h => by simp [PRp, PRr] at h ⊢ <;> omega))
      show hs_Wd _ _ _ _ _ _ _ _ _ _ _ _ _ _ _ _ _ 68 _ [] σ65
      refine s_goto (pc := 68) C (tgt := 139) dX3_readRest_68 (by decide) ?_
      refine s_vret (pc := 139) C dX3_readRest_139 ?_
      refine ⟨rfl, ?_⟩
      exact ⟨g65, f65, p65_TKs, p65_RD⟩
    · refine s_swIn (pc := 6) (off := 65) C (tgt := 71) dX3_readRest_6 ⟨by omega, by omega⟩ (by omega) (by omega) (by rw [sv6]; decide) (by decide) ?_
      refine s_aload_n (pc := 71) C dX3_readRest_71 0 rfl ?_
      refine s_iconst (pc := 72) C dX3_readRest_72 ?_
      refine s_iload_n (pc := 73) C dX3_readRest_73 1 rfl ?_
      refine s_imul (pc := 74) C dX3_readRest_74 ?_
      refine s_callVv (pc := 75) C (c_X3_readPlace l (2 * u) (by first | omega | assumption | (constructor <;> omega) | (refine ⟨⟨?_, ?_⟩, ?_⟩ <;> omega) | (simp [hs_ss, hs_up]; omega) | (simp [hs_ss, hs_up]; done))) [vI (2 * u)] [] rfl rfl dX3_readRest_75 wlX3_100 wiX3_readPlace weX3_readPlace wcX3_readPlace wnX3 noX3_readPlace (by decide) (by decide) (Nat.le_of_ble_eq_true rfl) ⟨(gx_self g0), p0_TKs, p0_RD⟩ rfl rfl ?_
      rintro σ75 k75
      obtain ⟨kg75, kf75, p75_TKs, p75_RD⟩ := k75
      have g75 := gx_trans g0 kg75
      have f75 := frm_tr f0 (frm_mono (Q := PRr) kf75 (fun c j h => by simp [PRp, PRr] at h ⊢ <;> omega))
      show hs_Wd _ _ _ _ _ _ _ _ _ _ _ _ _ _ _ _ _ 78 _ [] σ75
      refine s_goto (pc := 78) C (tgt := 139) dX3_readRest_78 (by decide) ?_
      refine s_vret (pc := 139) C dX3_readRest_139 ?_
      refine ⟨rfl, ?_⟩
      exact ⟨g75, f75, p75_TKs, p75_RD⟩
    · refine s_swIn (pc := 6) (off := 133) C (tgt := 139) dX3_readRest_6 ⟨by omega, by omega⟩ (by omega) (by omega) (by rw [sv6]; decide) (by decide) ?_
      refine s_vret (pc := 139) C dX3_readRest_139 ?_
      refine ⟨rfl, ?_⟩
      exact ⟨g0, f0, p0_TKs, p0_RD⟩
    · refine s_swIn (pc := 6) (off := 133) C (tgt := 139) dX3_readRest_6 ⟨by omega, by omega⟩ (by omega) (by omega) (by rw [sv6]; decide) (by decide) ?_
      refine s_vret (pc := 139) C dX3_readRest_139 ?_
      refine ⟨rfl, ?_⟩
      exact ⟨g0, f0, p0_TKs, p0_RD⟩
    · refine s_swIn (pc := 6) (off := 75) C (tgt := 81) dX3_readRest_6 ⟨by omega, by omega⟩ (by omega) (by omega) (by rw [sv6]; decide) (by decide) ?_
      refine s_aload_n (pc := 81) C dX3_readRest_81 0 rfl ?_
      refine s_getr (q := 15) (ci := 3) (N := 15) (CN := RX3) (T := TX3) (pc := 82) C 2 dX3_readRest_82 wlX3_22 rfl rfl rfl wfX3 (by decide) rfl ?_
      refine s_iload_n (pc := 85) C dX3_readRest_85 1 rfl ?_
      refine s_aload_n (pc := 86) C dX3_readRest_86 0 rfl ?_
      refine s_iconst (pc := 87) C dX3_readRest_87 ?_
      refine s_bipush (pc := 88) C dX3_readRest_88 (by decide) ?_
      refine s_callVi (pc := 90) C (c_X3_readNumber l 0 99 (by first | omega | assumption | (constructor <;> omega) | (refine ⟨⟨?_, ?_⟩, ?_⟩ <;> omega) | (simp [hs_ss, hs_up]; omega) | (simp [hs_ss, hs_up]; done))) [vI 0, vI 99] [vI u, .ref (ad 21)] rfl rfl dX3_readRest_90 wlX3_96 wiX3_readNumber weX3_readNumber wcX3_readNumber wnX3 noX3_readNumber (by decide) (by decide) (Nat.le_of_ble_eq_true rfl) ⟨(gx_self g0), p0_TKs, p0_RD⟩ rfl rfl ?_
      rintro z90 σ90 k90
      obtain ⟨kg90, kf90, p90_TKs, p90_RD, k90⟩ := k90
      have g90 := gx_trans g0 kg90
      have f90 := frm_tr f0 (frm_mono (Q := PRr) kf90 (fun c j h => by simp [PRs, PRr] at h ⊢ <;> omega))
      show hs_Wd _ _ _ _ _ _ _ _ _ _ _ _ _ _ _ _ _ 93 _ [vI z90, vI u, .ref (ad 21)] σ90
      refine s_iast (q := 21) (n := 60) (pc := 93) C dX3_readRest_93 rfl (by omega) (by omega) (by decide) ?_
      have g93 := gx_set (z := z90) g90 21 u.toNat rfl (0) (99) rfl ⟨by omega, by omega⟩
      have f93 := frm_set (P := PRr) (z := z90) f90 21 u.toNat rfl
      have p93_TKs := TKs_cg (frm_one (P := okTKs) (z := z90) 21 u.toNat rfl) p90_TKs
      have p93_RD := RD_cg (frm_one (P := okRD) (z := z90) 21 u.toNat rfl) p90_RD
      refine s_goto (pc := 94) C (tgt := 139) dX3_readRest_94 (by decide) ?_
      refine s_vret (pc := 139) C dX3_readRest_139 ?_
      refine ⟨rfl, ?_⟩
      exact ⟨g93, f93, p93_TKs, p93_RD⟩
    · refine s_swIn (pc := 6) (off := 91) C (tgt := 97) dX3_readRest_6 ⟨by omega, by omega⟩ (by omega) (by omega) (by rw [sv6]; decide) (by decide) ?_
      refine s_aload_n (pc := 97) C dX3_readRest_97 0 rfl ?_
      refine s_getr (q := 15) (ci := 3) (N := 15) (CN := RX3) (T := TX3) (pc := 98) C 3 dX3_readRest_98 wlX3_25 rfl rfl rfl wfX3 (by decide) rfl ?_
      refine s_iload_n (pc := 101) C dX3_readRest_101 1 rfl ?_
      refine s_aload_n (pc := 102) C dX3_readRest_102 0 rfl ?_
      refine s_callVi (pc := 103) C (c_X3_readNewLetter l) [] [vI u, .ref (ad 22)] rfl rfl dX3_readRest_103 wlX3_103 wiX3_readNewLetter weX3_readNewLetter wcX3_readNewLetter wnX3 noX3_readNewLetter (by decide) (by decide) (Nat.le_of_ble_eq_true rfl) ⟨(gx_self g0), p0_TKs, p0_RD⟩ rfl rfl ?_
      rintro z103 σ103 k103
      obtain ⟨kg103, kf103, p103_TKs, p103_RD, k103⟩ := k103
      have g103 := gx_trans g0 kg103
      have f103 := frm_tr f0 (frm_mono (Q := PRr) kf103 (fun c j h => by simp [PRs, PRr] at h ⊢ <;> omega))
      show hs_Wd _ _ _ _ _ _ _ _ _ _ _ _ _ _ _ _ _ 106 _ [vI z103, vI u, .ref (ad 22)] σ103
      refine s_iast (q := 22) (n := 60) (pc := 106) C dX3_readRest_106 rfl (by omega) (by omega) (by decide) ?_
      have g106 := gx_set (z := z103) g103 22 u.toNat rfl (0) (7) rfl ⟨by omega, by omega⟩
      have f106 := frm_set (P := PRr) (z := z103) f103 22 u.toNat rfl
      have p106_TKs := TKs_cg (frm_one (P := okTKs) (z := z103) 22 u.toNat rfl) p103_TKs
      have p106_RD := RD_cg (frm_one (P := okRD) (z := z103) 22 u.toNat rfl) p103_RD
      refine s_aload_n (pc := 107) C dX3_readRest_107 0 rfl ?_
      refine s_iconst (pc := 108) C dX3_readRest_108 ?_
      refine s_iload_n (pc := 109) C dX3_readRest_109 1 rfl ?_
      refine s_imul (pc := 110) C dX3_readRest_110 ?_
      refine s_callVv (pc := 111) C (c_X3_readPlace l (2 * u) (by first | omega | assumption | (constructor <;> omega) | (refine ⟨⟨?_, ?_⟩, ?_⟩ <;> omega) | (simp [hs_ss, hs_up]; omega) | (simp [hs_ss, hs_up]; done))) [vI (2 * u)] [] rfl rfl dX3_readRest_111 wlX3_100 wiX3_readPlace weX3_readPlace wcX3_readPlace wnX3 noX3_readPlace (by decide) (by decide) (Nat.le_of_ble_eq_true rfl) ⟨(gx_self g106), p106_TKs, p106_RD⟩ rfl rfl ?_
      rintro σ111 k111
      obtain ⟨kg111, kf111, p111_TKs, p111_RD⟩ := k111
      have g111 := gx_trans g106 kg111
      have f111 := frm_tr f106 (frm_mono (Q := PRr) kf111 (fun c j h => by simp [PRp, PRr] at h ⊢ <;> omega))
      show hs_Wd _ _ _ _ _ _ _ _ _ _ _ _ _ _ _ _ _ 114 _ [] σ111
      refine s_aload_n (pc := 114) C dX3_readRest_114 0 rfl ?_
      refine s_iconst (pc := 115) C dX3_readRest_115 ?_
      refine s_iload_n (pc := 116) C dX3_readRest_116 1 rfl ?_
      refine s_imul (pc := 117) C dX3_readRest_117 ?_
      refine s_iconst (pc := 118) C dX3_readRest_118 ?_
      refine s_iadd (pc := 119) C dX3_readRest_119 ?_
      refine s_callVv (pc := 120) C (c_X3_readPlace l ((2 * u) + 1) (by first | omega | assumption | (constructor <;> omega) | (refine ⟨⟨?_, ?_⟩, ?_⟩ <;> omega) | (simp [hs_ss, hs_up]; omega) | (simp [hs_ss, hs_up]; done))) [vI ((2 * u) + 1)] [] rfl rfl dX3_readRest_120 wlX3_100 wiX3_readPlace weX3_readPlace wcX3_readPlace wnX3 noX3_readPlace (by decide) (by decide) (Nat.le_of_ble_eq_true rfl) ⟨(gx_self g111), p111_TKs, p111_RD⟩ rfl rfl ?_
      rintro σ120 k120
      obtain ⟨kg120, kf120, p120_TKs, p120_RD⟩ := k120
      have g120 := gx_trans g111 kg120
      have f120 := frm_tr f111 (frm_mono (Q := PRr) kf120 (fun c j h => by simp [PRp, PRr] at h ⊢ <;> omega))
      show hs_Wd _ _ _ _ _ _ _ _ _ _ _ _ _ _ _ _ _ 123 _ [] σ120
      refine s_aload_n (pc := 123) C dX3_readRest_123 0 rfl ?_
      refine s_getr (q := 15) (ci := 3) (N := 15) (CN := RX3) (T := TX3) (pc := 124) C 2 dX3_readRest_124 wlX3_22 rfl rfl rfl wfX3 (by decide) rfl ?_
      refine s_iload_n (pc := 127) C dX3_readRest_127 1 rfl ?_
      refine s_aload_n (pc := 128) C dX3_readRest_128 0 rfl ?_
      refine s_iconst (pc := 129) C dX3_readRest_129 ?_
      refine s_bipush (pc := 130) C dX3_readRest_130 (by decide) ?_
      refine s_callVi (pc := 132) C (c_X3_readNumber l 1 99 (by first | omega | assumption | (constructor <;> omega) | (refine ⟨⟨?_, ?_⟩, ?_⟩ <;> omega) | (simp [hs_ss, hs_up]; omega) | (simp [hs_ss, hs_up]; done))) [vI 1, vI 99] [vI u, .ref (ad 21)] rfl rfl dX3_readRest_132 wlX3_96 wiX3_readNumber weX3_readNumber wcX3_readNumber wnX3 noX3_readNumber (by decide) (by decide) (Nat.le_of_ble_eq_true rfl) ⟨(gx_self g120), p120_TKs, p120_RD⟩ rfl rfl ?_
      rintro z132 σ132 k132
      obtain ⟨kg132, kf132, p132_TKs, p132_RD, k132⟩ := k132
      have g132 := gx_trans g120 kg132
      have f132 := frm_tr f120 (frm_mono (Q := PRr) kf132 (fun c j h => by simp [PRs, PRr] at h ⊢ <;> omega))
      show hs_Wd _ _ _ _ _ _ _ _ _ _ _ _ _ _ _ _ _ 135 _ [vI z132, vI u, .ref (ad 21)] σ132
      refine s_iast (q := 21) (n := 60) (pc := 135) C dX3_readRest_135 rfl (by omega) (by omega) (by decide) ?_
      have g135 := gx_set (z := z132) g132 21 u.toNat rfl (0) (99) rfl ⟨by omega, by omega⟩
      have f135 := frm_set (P := PRr) (z := z132) f132 21 u.toNat rfl
      have p135_TKs := TKs_cg (frm_one (P := okTKs) (z := z132) 21 u.toNat rfl) p132_TKs
      have p135_RD := RD_cg (frm_one (P := okRD) (z := z132) 21 u.toNat rfl) p132_RD
      refine s_goto (pc := 136) C (tgt := 139) dX3_readRest_136 (by decide) ?_
      refine s_vret (pc := 139) C dX3_readRest_139 ?_
      refine ⟨rfl, ?_⟩
      exact ⟨g135, f135, p135_TKs, p135_RD⟩
set_option maxHeartbeats 4000000 in
set_option maxRecDepth 100000 in
theorem c_X3_readOpening (l : Launch) (u : Int) (hu : 0 ≤ u ∧ u ≤ 59) : hs_Met l yX3_readOpening cX3_readOpening 2 none 4 SHX (fun ad => [.ref (ad 15), vI u]) (fun σ => GX σ σ ∧ TKs σ ∧ RD σ) (hs_PV (fun σ σ1 => GX σ σ1 ∧ FRM PRo σ σ1 ∧ TKs σ1 ∧ RD σ1)) := by
  refine hs_from pfX3_readOpening (fun _ => Nat.le_of_ble_eq_true rfl) ?_
  intro p e s m args below meth c D dA ad A σ C hpre
  have C : hs_C p s m args meth c D dA SHX ad A 2 cX3_readOpening RX3 none := C
  obtain ⟨g0, p0_TKs, p0_RD⟩ := hpre
  have f0 : FRM PRo σ σ := frm_rf
  show hs_Wd p l e 4 s m args below meth c D dA SHX ad A 2 (hs_PV (fun σ σ1 => GX σ σ1 ∧ FRM PRo σ σ1 ∧ TKs σ1 ∧ RD σ1) σ) 0 [(0, .ref (ad 15)), (1, vI u)] [] σ
  refine s_aload_n (pc := 0) C dX3_readOpening_0 0 rfl ?_
  refine s_geti (q := 15) (ci := 3) (N := 15) (CN := RX3) (T := TX3) (pc := 1) C 12 dX3_readOpening_1 wlX3_66 rfl rfl rfl wfX3 (by decide) rfl (σ 15 12) rfl ?_
  have b1 : (-2147483648 : Int) ≤ σ 15 12 ∧ σ 15 12 ≤ 2147483647 := g0.1 15 12
  refine s_bipush (pc := 4) C dX3_readOpening_4 (by decide) ?_
  refine s_icmp_ne (pc := 6) C (tgt := 22) dX3_readOpening_6 (by decide) ⟨by omega, by omega⟩ ⟨by decide, by decide⟩ (fun h6 => ?_) (fun h6 => ?_)
  · skip
    refine s_aload_n (pc := 22) C dX3_readOpening_22 0 rfl ?_
    refine s_bipush (pc := 23) C dX3_readOpening_23 (by decide) ?_
    refine s_callVv (pc := 25) C (c_X3_readSign l 40 ⟨by omega, by omega⟩) [vI 40] [] rfl rfl dX3_readOpening_25 wlX3_89 wiX3_readSign weX3_readSign wcX3_readSign wnX3 noX3_readSign (by decide) (by decide) (Nat.le_of_ble_eq_true rfl) ⟨(gx_self g0), p0_TKs, p0_RD⟩ rfl rfl ?_
    rintro σ25 k25
    obtain ⟨kg25, kf25, p25_TKs, p25_RD, k25⟩ := k25
    have g25 := gx_trans g0 kg25
    have f25 := frm_tr f0 (frm_mono (Q := PRo) kf25 (fun c j h => by simp [PRs, PRo] at h ⊢ <;> omega))
    have e25 := kf25 15 9 rfl
    show hs_Wd _ _ _ _ _ _ _ _ _ _ _ _ _ _ _ _ _ 28 _ [] σ25
    refine s_aload_n (pc := 28) C dX3_readOpening_28 0 rfl ?_
    refine s_geti (q := 15) (ci := 3) (N := 15) (CN := RX3) (T := TX3) (pc := 29) C 13 dX3_readOpening_29 wlX3_57 rfl rfl rfl wfX3 (by decide) rfl (σ25 15 13) rfl ?_
    have b29 : (0 : Int) ≤ σ25 15 13 ∧ σ25 15 13 ≤ 3 := g25.1 15 13
    refine s_if_eq (pc := 32) C (tgt := 36) dX3_readOpening_32 (by decide) ⟨by omega, by omega⟩ (fun h32 => ?_) (fun h32 => ?_)
    · skip
      refine s_aload_n (pc := 36) C dX3_readOpening_36 0 rfl ?_
      refine s_getr (q := 15) (ci := 3) (N := 15) (CN := RX3) (T := TX3) (pc := 37) C 7 dX3_readOpening_37 wlX3_37 rfl rfl rfl wfX3 (by decide) rfl ?_
      refine s_aload_n (pc := 40) C dX3_readOpening_40 0 rfl ?_
      refine s_geti (q := 15) (ci := 3) (N := 15) (CN := RX3) (T := TX3) (pc := 41) C 9 dX3_readOpening_41 wlX3_51 rfl rfl rfl wfX3 (by decide) rfl (σ25 15 9) rfl ?_
      have b41 : (0 : Int) ≤ σ25 15 9 ∧ σ25 15 9 ≤ 5 := g25.1 15 9
      refine s_iload_n (pc := 44) C dX3_readOpening_44 1 rfl ?_
      refine s_iast (q := 26) (n := 5) (pc := 45) C dX3_readOpening_45 rfl (by omega) (by omega) (by decide) ?_
      have g45 := gx_set (z := u) g25 26 ((σ25 15 9).toNat) rfl (0) (59) rfl ⟨by omega, by omega⟩
      have f45 := frm_set (P := PRo) (z := u) f25 26 ((σ25 15 9).toNat) rfl
      have p45_TKs := TKs_cg (frm_one (P := okTKs) (z := u) 26 ((σ25 15 9).toNat) rfl) p25_TKs
      have p45_RD := RD_cg (frm_one (P := okRD) (z := u) 26 ((σ25 15 9).toNat) rfl) p25_RD
      refine s_aload_n (pc := 46) C dX3_readOpening_46 0 rfl ?_
      refine s_dup (pc := 47) C dX3_readOpening_47 rfl ?_
      refine s_geti (q := 15) (ci := 3) (N := 15) (CN := RX3) (T := TX3) (pc := 48) C 9 dX3_readOpening_48 wlX3_51 rfl rfl rfl wfX3 (by decide) rfl (σ25 15 9) rfl ?_
      have b48 : (0 : Int) ≤ σ25 15 9 ∧ σ25 15 9 ≤ 5 := g45.1 15 9
      refine s_iconst (pc := 51) C dX3_readOpening_51 ?_
      refine s_iadd (pc := 52) C dX3_readOpening_52 ?_
      refine s_puti (q := 15) (ci := 3) (N := 15) (CN := RX3) (T := TX3) (ty0 := tyX3) (ty := .int) (pc := 53) C 9 dX3_readOpening_53 wlX3_51 rfl rfl rfl wfX3 tyX3_ok nmX3 (by decide) rfl rfl rfl (vp_nar_int _) rfl ?_
      have g53 := gx_set (z := ((σ25 15 9) + 1)) g45 15 9 rfl (0) (5) rfl ⟨by omega, by omega⟩
      have f53 := frm_set (P := PRo) (z := ((σ25 15 9) + 1)) f45 15 9 rfl
      have p53_TKs := TKs_cg (frm_one (P := okTKs) (z := ((σ25 15 9) + 1)) 15 9 rfl) p45_TKs
      have p53_RD := RD_cg (frm_one (P := okRD) (z := ((σ25 15 9) + 1)) 15 9 rfl) p45_RD
      refine s_aload_n (pc := 56) C dX3_readOpening_56 0 rfl ?_
      refine s_getr (q := 15) (ci := 3) (N := 15) (CN := RX3) (T := TX3) (pc := 57) C 1 dX3_readOpening_57 wlX3_18 rfl rfl rfl wfX3 (by decide) rfl ?_
      refine s_iload_n (pc := 60) C dX3_readOpening_60 1 rfl ?_
      refine s_iald (q := 20) (n := 60) (pc := 61) C (σ25 20 u.toNat) rfl dX3_readOpening_61 rfl (by omega) (by omega) (by decide) ?_
      have b61 : (0 : Int) ≤ σ25 20 u.toNat ∧ σ25 20 u.toNat ≤ 10 := g53.1 20 u.toNat
      refine s_bipush (pc := 62) C dX3_readOpening_62 (by decide) ?_
      refine s_icmp_ne (pc := 64) C (tgt := 84) dX3_readOpening_64 (by decide) ⟨by omega, by omega⟩ ⟨by decide, by decide⟩ (fun h64 => ?_) (fun h64 => ?_)
      · skip
        refine s_vret (pc := 84) C dX3_readOpening_84 ?_
        refine ⟨rfl, ?_⟩
        exact ⟨g53, f53, p53_TKs, p53_RD⟩
      · skip
        refine s_aload_n (pc := 67) C dX3_readOpening_67 0 rfl ?_
        refine s_dup (pc := 68) C dX3_readOpening_68 rfl ?_
        refine s_geti (q := 15) (ci := 3) (N := 15) (CN := RX3) (T := TX3) (pc := 69) C 10 dX3_readOpening_69 wlX3_54 rfl rfl rfl wfX3 (by decide) rfl (σ25 15 10) rfl ?_
        have b69 : (-2147483648 : Int) ≤ σ25 15 10 ∧ σ25 15 10 ≤ 2147483647 := g53.1 15 10
        refine s_iconst (pc := 72) C dX3_readOpening_72 ?_
        refine s_aload_n (pc := 73) C dX3_readOpening_73 0 rfl ?_
        refine s_getr (q := 15) (ci := 3) (N := 15) (CN := RX3) (T := TX3) (pc := 74) C 3 dX3_readOpening_74 wlX3_25 rfl rfl rfl wfX3 (by decide) rfl ?_
        refine s_iload_n (pc := 77) C dX3_readOpening_77 1 rfl ?_
        refine s_iald (q := 22) (n := 60) (pc := 78) C (σ25 22 u.toNat) rfl dX3_readOpening_78 rfl (by omega) (by omega) (by decide) ?_
        have b78 : (0 : Int) ≤ σ25 22 u.toNat ∧ σ25 22 u.toNat ≤ 7 := g53.1 22 u.toNat
        refine s_ishl (pc := 79) C dX3_readOpening_79 (fun z79 hz79 ez79 => ?_)
        refine s_ior (pc := 80) C dX3_readOpening_80 (fun z80 hz80 ez80 => ?_)
        refine s_puti (q := 15) (ci := 3) (N := 15) (CN := RX3) (T := TX3) (ty0 := tyX3) (ty := .int) (pc := 81) C 10 dX3_readOpening_81 wlX3_54 rfl rfl rfl wfX3 tyX3_ok nmX3 (by decide) rfl rfl rfl (vp_nar_int _) rfl ?_
        have g81 := gx_set (z := z80) g53 15 10 rfl (-2147483648) (2147483647) rfl ⟨by omega, by omega⟩
        have f81 := frm_set (P := PRo) (z := z80) f53 15 10 rfl
        have p81_TKs := TKs_cg (frm_one (P := okTKs) (z := z80) 15 10 rfl) p53_TKs
        have p81_RD := RD_cg (frm_one (P := okRD) (z := z80) 15 10 rfl) p53_RD
        refine s_vret (pc := 84) C dX3_readOpening_84 ?_
        refine ⟨rfl, ?_⟩
        exact ⟨g81, f81, p81_TKs, p81_RD⟩
    · skip
      refine s_vret (pc := 35) C dX3_readOpening_35 ?_
      refine ⟨rfl, ?_⟩
      exact ⟨g25, f25, p25_TKs, p25_RD⟩
  · skip
    refine s_aload_n (pc := 9) C dX3_readOpening_9 0 rfl ?_
    refine s_geti (q := 15) (ci := 3) (N := 15) (CN := RX3) (T := TX3) (pc := 10) C 9 dX3_readOpening_10 wlX3_51 rfl rfl rfl wfX3 (by decide) rfl (σ 15 9) rfl ?_
    have b10 : (0 : Int) ≤ σ 15 9 ∧ σ 15 9 ≤ 5 := g0.1 15 9
    refine s_iconst (pc := 13) C dX3_readOpening_13 ?_
    refine s_icmp_lt (pc := 14) C (tgt := 22) dX3_readOpening_14 (by decide) ⟨by omega, by omega⟩ ⟨by decide, by decide⟩ (fun h14 => ?_) (fun h14 => ?_)
    · skip
      refine s_aload_n (pc := 22) C dX3_readOpening_22 0 rfl ?_
      refine s_bipush (pc := 23) C dX3_readOpening_23 (by decide) ?_
      refine s_callVv (pc := 25) C (c_X3_readSign l 40 ⟨by omega, by omega⟩) [vI 40] [] rfl rfl dX3_readOpening_25 wlX3_89 wiX3_readSign weX3_readSign wcX3_readSign wnX3 noX3_readSign (by decide) (by decide) (Nat.le_of_ble_eq_true rfl) ⟨(gx_self g0), p0_TKs, p0_RD⟩ rfl rfl ?_
      rintro σ25 k25
      obtain ⟨kg25, kf25, p25_TKs, p25_RD, k25⟩ := k25
      have g25 := gx_trans g0 kg25
      have f25 := frm_tr f0 (frm_mono (Q := PRo) kf25 (fun c j h => by simp [PRs, PRo] at h ⊢ <;> omega))
      have e25 := kf25 15 9 rfl
      show hs_Wd _ _ _ _ _ _ _ _ _ _ _ _ _ _ _ _ _ 28 _ [] σ25
      refine s_aload_n (pc := 28) C dX3_readOpening_28 0 rfl ?_
      refine s_geti (q := 15) (ci := 3) (N := 15) (CN := RX3) (T := TX3) (pc := 29) C 13 dX3_readOpening_29 wlX3_57 rfl rfl rfl wfX3 (by decide) rfl (σ25 15 13) rfl ?_
      have b29 : (0 : Int) ≤ σ25 15 13 ∧ σ25 15 13 ≤ 3 := g25.1 15 13
      refine s_if_eq (pc := 32) C (tgt := 36) dX3_readOpening_32 (by decide) ⟨by omega, by omega⟩ (fun h32 => ?_) (fun h32 => ?_)
      · skip
        refine s_aload_n (pc := 36) C dX3_readOpening_36 0 rfl ?_
        refine s_getr (q := 15) (ci := 3) (N := 15) (CN := RX3) (T := TX3) (pc := 37) C 7 dX3_readOpening_37 wlX3_37 rfl rfl rfl wfX3 (by decide) rfl ?_
        refine s_aload_n (pc := 40) C dX3_readOpening_40 0 rfl ?_
        refine s_geti (q := 15) (ci := 3) (N := 15) (CN := RX3) (T := TX3) (pc := 41) C 9 dX3_readOpening_41 wlX3_51 rfl rfl rfl wfX3 (by decide) rfl (σ25 15 9) rfl ?_
        have b41 : (0 : Int) ≤ σ25 15 9 ∧ σ25 15 9 ≤ 5 := g25.1 15 9
        refine s_iload_n (pc := 44) C dX3_readOpening_44 1 rfl ?_
        refine s_iast (q := 26) (n := 5) (pc := 45) C dX3_readOpening_45 rfl (by omega) (by omega) (by decide) ?_
        have g45 := gx_set (z := u) g25 26 ((σ25 15 9).toNat) rfl (0) (59) rfl ⟨by omega, by omega⟩
        have f45 := frm_set (P := PRo) (z := u) f25 26 ((σ25 15 9).toNat) rfl
        have p45_TKs := TKs_cg (frm_one (P := okTKs) (z := u) 26 ((σ25 15 9).toNat) rfl) p25_TKs
        have p45_RD := RD_cg (frm_one (P := okRD) (z := u) 26 ((σ25 15 9).toNat) rfl) p25_RD
        refine s_aload_n (pc := 46) C dX3_readOpening_46 0 rfl ?_
        refine s_dup (pc := 47) C dX3_readOpening_47 rfl ?_
        refine s_geti (q := 15) (ci := 3) (N := 15) (CN := RX3) (T := TX3) (pc := 48) C 9 dX3_readOpening_48 wlX3_51 rfl rfl rfl wfX3 (by decide) rfl (σ25 15 9) rfl ?_
        have b48 : (0 : Int) ≤ σ25 15 9 ∧ σ25 15 9 ≤ 5 := g45.1 15 9
        refine s_iconst (pc := 51) C dX3_readOpening_51 ?_
        refine s_iadd (pc := 52) C dX3_readOpening_52 ?_
        refine s_puti (q := 15) (ci := 3) (N := 15) (CN := RX3) (T := TX3) (ty0 := tyX3) (ty := .int) (pc := 53) C 9 dX3_readOpening_53 wlX3_51 rfl rfl rfl wfX3 tyX3_ok nmX3 (by decide) rfl rfl rfl (vp_nar_int _) rfl ?_
        have g53 := gx_set (z := ((σ25 15 9) + 1)) g45 15 9 rfl (0) (5) rfl ⟨by omega, by omega⟩
        have f53 := frm_set (P := PRo) (z := ((σ25 15 9) + 1)) f45 15 9 rfl
        have p53_TKs := TKs_cg (frm_one (P := okTKs) (z := ((σ25 15 9) + 1)) 15 9 rfl) p45_TKs
        have p53_RD := RD_cg (frm_one (P := okRD) (z := ((σ25 15 9) + 1)) 15 9 rfl) p45_RD
        refine s_aload_n (pc := 56) C dX3_readOpening_56 0 rfl ?_
        refine s_getr (q := 15) (ci := 3) (N := 15) (CN := RX3) (T := TX3) (pc := 57) C 1 dX3_readOpening_57 wlX3_18 rfl rfl rfl wfX3 (by decide) rfl ?_
        refine s_iload_n (pc := 60) C dX3_readOpening_60 1 rfl ?_
        refine s_iald (q := 20) (n := 60) (pc := 61) C (σ25 20 u.toNat) rfl dX3_readOpening_61 rfl (by omega) (by omega) (by decide) ?_
        have b61 : (0 : Int) ≤ σ25 20 u.toNat ∧ σ25 20 u.toNat ≤ 10 := g53.1 20 u.toNat
        refine s_bipush (pc := 62) C dX3_readOpening_62 (by decide) ?_
        refine s_icmp_ne (pc := 64) C (tgt := 84) dX3_readOpening_64 (by decide) ⟨by omega, by omega⟩ ⟨by decide, by decide⟩ (fun h64 => ?_) (fun h64 => ?_)
        · skip
          refine s_vret (pc := 84) C dX3_readOpening_84 ?_
          refine ⟨rfl, ?_⟩
          exact ⟨g53, f53, p53_TKs, p53_RD⟩
        · skip
          refine s_aload_n (pc := 67) C dX3_readOpening_67 0 rfl ?_
          refine s_dup (pc := 68) C dX3_readOpening_68 rfl ?_
          refine s_geti (q := 15) (ci := 3) (N := 15) (CN := RX3) (T := TX3) (pc := 69) C 10 dX3_readOpening_69 wlX3_54 rfl rfl rfl wfX3 (by decide) rfl (σ25 15 10) rfl ?_
          have b69 : (-2147483648 : Int) ≤ σ25 15 10 ∧ σ25 15 10 ≤ 2147483647 := g53.1 15 10
          refine s_iconst (pc := 72) C dX3_readOpening_72 ?_
          refine s_aload_n (pc := 73) C dX3_readOpening_73 0 rfl ?_
          refine s_getr (q := 15) (ci := 3) (N := 15) (CN := RX3) (T := TX3) (pc := 74) C 3 dX3_readOpening_74 wlX3_25 rfl rfl rfl wfX3 (by decide) rfl ?_
          refine s_iload_n (pc := 77) C dX3_readOpening_77 1 rfl ?_
          refine s_iald (q := 22) (n := 60) (pc := 78) C (σ25 22 u.toNat) rfl dX3_readOpening_78 rfl (by omega) (by omega) (by decide) ?_
          have b78 : (0 : Int) ≤ σ25 22 u.toNat ∧ σ25 22 u.toNat ≤ 7 := g53.1 22 u.toNat
          refine s_ishl (pc := 79) C dX3_readOpening_79 (fun z79 hz79 ez79 => ?_)
          refine s_ior (pc := 80) C dX3_readOpening_80 (fun z80 hz80 ez80 => ?_)
          refine s_puti (q := 15) (ci := 3) (N := 15) (CN := RX3) (T := TX3) (ty0 := tyX3) (ty := .int) (pc := 81) C 10 dX3_readOpening_81 wlX3_54 rfl rfl rfl wfX3 tyX3_ok nmX3 (by decide) rfl rfl rfl (vp_nar_int _) rfl ?_
          have g81 := gx_set (z := z80) g53 15 10 rfl (-2147483648) (2147483647) rfl ⟨by omega, by omega⟩
          have f81 := frm_set (P := PRo) (z := z80) f53 15 10 rfl
          have p81_TKs := TKs_cg (frm_one (P := okTKs) (z := z80) 15 10 rfl) p53_TKs
          have p81_RD := RD_cg (frm_one (P := okRD) (z := z80) 15 10 rfl) p53_RD
          refine s_vret (pc := 84) C dX3_readOpening_84 ?_
          refine ⟨rfl, ?_⟩
          exact ⟨g81, f81, p81_TKs, p81_RD⟩
      · skip
        refine s_vret (pc := 35) C dX3_readOpening_35 ?_
        refine ⟨rfl, ?_⟩
        exact ⟨g25, f25, p25_TKs, p25_RD⟩
    · skip
      refine s_aload_n (pc := 17) C dX3_readOpening_17 0 rfl ?_
      refine s_iconst (pc := 18) C dX3_readOpening_18 ?_
      refine s_callVv (pc := 19) C (c_X3_refuse l 2 (by first | omega | assumption | (constructor <;> omega) | (refine ⟨⟨?_, ?_⟩, ?_⟩ <;> omega) | (simp [hs_ss, hs_up]; omega) | (simp [hs_ss, hs_up]; done))) [vI 2] [] rfl rfl dX3_readOpening_19 wlX3_76 wiX3_refuse weX3_refuse wcX3_refuse wnX3 noX3_refuse (by decide) (by decide) (Nat.le_of_ble_eq_true rfl) ⟨(gx_self g0), p0_TKs, p0_RD⟩ rfl rfl ?_
      rintro σ19 k19
      obtain ⟨kg19, kf19, p19_TKs, p19_RD, k19⟩ := k19
      have g19 := gx_trans g0 kg19
      have f19 := frm_tr f0 (frm_mono (Q := PRo) kf19 (fun c j h => by simp [PRf, PRo] at h ⊢ <;> omega))
      have e19a : σ19 15 12 = σ 15 12 := kf19 15 12 rfl
      have e19b : σ19 15 9 = σ 15 9 := kf19 15 9 rfl
      show hs_Wd _ _ _ _ _ _ _ _ _ _ _ _ _ _ _ _ _ 22 _ [] σ19
      refine s_aload_n (pc := 22) C dX3_readOpening_22 0 rfl ?_
      refine s_bipush (pc := 23) C dX3_readOpening_23 (by decide) ?_
      refine s_callVv (pc := 25) C (c_X3_readSign l 40 ⟨by omega, by omega⟩) [vI 40] [] rfl rfl dX3_readOpening_25 wlX3_89 wiX3_readSign weX3_readSign wcX3_readSign wnX3 noX3_readSign (by decide) (by decide) (Nat.le_of_ble_eq_true rfl) ⟨(gx_self g19), p19_TKs, p19_RD⟩ rfl rfl ?_
      rintro σ25 k25
      obtain ⟨kg25, kf25, p25_TKs, p25_RD, k25⟩ := k25
      have g25 := gx_trans g19 kg25
      have f25 := frm_tr f19 (frm_mono (Q := PRo) kf25 (fun c j h => by simp [PRs, PRo] at h ⊢ <;> omega))
      have e25 := kf25 15 9 rfl
      show hs_Wd _ _ _ _ _ _ _ _ _ _ _ _ _ _ _ _ _ 28 _ [] σ25
      refine s_aload_n (pc := 28) C dX3_readOpening_28 0 rfl ?_
      refine s_geti (q := 15) (ci := 3) (N := 15) (CN := RX3) (T := TX3) (pc := 29) C 13 dX3_readOpening_29 wlX3_57 rfl rfl rfl wfX3 (by decide) rfl (σ25 15 13) rfl ?_
      have b29 : (0 : Int) ≤ σ25 15 13 ∧ σ25 15 13 ≤ 3 := g25.1 15 13
      refine s_if_eq (pc := 32) C (tgt := 36) dX3_readOpening_32 (by decide) ⟨by omega, by omega⟩ (fun h32 => ?_) (fun h32 => ?_)
      · skip
        refine s_aload_n (pc := 36) C dX3_readOpening_36 0 rfl ?_
        refine s_getr (q := 15) (ci := 3) (N := 15) (CN := RX3) (T := TX3) (pc := 37) C 7 dX3_readOpening_37 wlX3_37 rfl rfl rfl wfX3 (by decide) rfl ?_
        refine s_aload_n (pc := 40) C dX3_readOpening_40 0 rfl ?_
        refine s_geti (q := 15) (ci := 3) (N := 15) (CN := RX3) (T := TX3) (pc := 41) C 9 dX3_readOpening_41 wlX3_51 rfl rfl rfl wfX3 (by decide) rfl (σ25 15 9) rfl ?_
        have b41 : (0 : Int) ≤ σ25 15 9 ∧ σ25 15 9 ≤ 5 := g25.1 15 9
        refine s_iload_n (pc := 44) C dX3_readOpening_44 1 rfl ?_
        refine s_iast (q := 26) (n := 5) (pc := 45) C dX3_readOpening_45 rfl (by omega) (by omega) (by decide) ?_
        have g45 := gx_set (z := u) g25 26 ((σ25 15 9).toNat) rfl (0) (59) rfl ⟨by omega, by omega⟩
        have f45 := frm_set (P := PRo) (z := u) f25 26 ((σ25 15 9).toNat) rfl
        have p45_TKs := TKs_cg (frm_one (P := okTKs) (z := u) 26 ((σ25 15 9).toNat) rfl) p25_TKs
        have p45_RD := RD_cg (frm_one (P := okRD) (z := u) 26 ((σ25 15 9).toNat) rfl) p25_RD
        refine s_aload_n (pc := 46) C dX3_readOpening_46 0 rfl ?_
        refine s_dup (pc := 47) C dX3_readOpening_47 rfl ?_
        refine s_geti (q := 15) (ci := 3) (N := 15) (CN := RX3) (T := TX3) (pc := 48) C 9 dX3_readOpening_48 wlX3_51 rfl rfl rfl wfX3 (by decide) rfl (σ25 15 9) rfl ?_
        have b48 : (0 : Int) ≤ σ25 15 9 ∧ σ25 15 9 ≤ 5 := g45.1 15 9
        refine s_iconst (pc := 51) C dX3_readOpening_51 ?_
        refine s_iadd (pc := 52) C dX3_readOpening_52 ?_
        refine s_puti (q := 15) (ci := 3) (N := 15) (CN := RX3) (T := TX3) (ty0 := tyX3) (ty := .int) (pc := 53) C 9 dX3_readOpening_53 wlX3_51 rfl rfl rfl wfX3 tyX3_ok nmX3 (by decide) rfl rfl rfl (vp_nar_int _) rfl ?_
        have g53 := gx_set (z := ((σ25 15 9) + 1)) g45 15 9 rfl (0) (5) rfl ⟨by omega, by omega⟩
        have f53 := frm_set (P := PRo) (z := ((σ25 15 9) + 1)) f45 15 9 rfl
        have p53_TKs := TKs_cg (frm_one (P := okTKs) (z := ((σ25 15 9) + 1)) 15 9 rfl) p45_TKs
        have p53_RD := RD_cg (frm_one (P := okRD) (z := ((σ25 15 9) + 1)) 15 9 rfl) p45_RD
        refine s_aload_n (pc := 56) C dX3_readOpening_56 0 rfl ?_
        refine s_getr (q := 15) (ci := 3) (N := 15) (CN := RX3) (T := TX3) (pc := 57) C 1 dX3_readOpening_57 wlX3_18 rfl rfl rfl wfX3 (by decide) rfl ?_
        refine s_iload_n (pc := 60) C dX3_readOpening_60 1 rfl ?_
        refine s_iald (q := 20) (n := 60) (pc := 61) C (σ25 20 u.toNat) rfl dX3_readOpening_61 rfl (by omega) (by omega) (by decide) ?_
        have b61 : (0 : Int) ≤ σ25 20 u.toNat ∧ σ25 20 u.toNat ≤ 10 := g53.1 20 u.toNat
        refine s_bipush (pc := 62) C dX3_readOpening_62 (by decide) ?_
        refine s_icmp_ne (pc := 64) C (tgt := 84) dX3_readOpening_64 (by decide) ⟨by omega, by omega⟩ ⟨by decide, by decide⟩ (fun h64 => ?_) (fun h64 => ?_)
        · skip
          refine s_vret (pc := 84) C dX3_readOpening_84 ?_
          refine ⟨rfl, ?_⟩
          exact ⟨g53, f53, p53_TKs, p53_RD⟩
        · skip
          refine s_aload_n (pc := 67) C dX3_readOpening_67 0 rfl ?_
          refine s_dup (pc := 68) C dX3_readOpening_68 rfl ?_
          refine s_geti (q := 15) (ci := 3) (N := 15) (CN := RX3) (T := TX3) (pc := 69) C 10 dX3_readOpening_69 wlX3_54 rfl rfl rfl wfX3 (by decide) rfl (σ25 15 10) rfl ?_
          have b69 : (-2147483648 : Int) ≤ σ25 15 10 ∧ σ25 15 10 ≤ 2147483647 := g53.1 15 10
          refine s_iconst (pc := 72) C dX3_readOpening_72 ?_
          refine s_aload_n (pc := 73) C dX3_readOpening_73 0 rfl ?_
          refine s_getr (q := 15) (ci := 3) (N := 15) (CN := RX3) (T := TX3) (pc := 74) C 3 dX3_readOpening_74 wlX3_25 rfl rfl rfl wfX3 (by decide) rfl ?_
          refine s_iload_n (pc := 77) C dX3_readOpening_77 1 rfl ?_
          refine s_iald (q := 22) (n := 60) (pc := 78) C (σ25 22 u.toNat) rfl dX3_readOpening_78 rfl (by omega) (by omega) (by decide) ?_
          have b78 : (0 : Int) ≤ σ25 22 u.toNat ∧ σ25 22 u.toNat ≤ 7 := g53.1 22 u.toNat
          refine s_ishl (pc := 79) C dX3_readOpening_79 (fun z79 hz79 ez79 => ?_)
          refine s_ior (pc := 80) C dX3_readOpening_80 (fun z80 hz80 ez80 => ?_)
          refine s_puti (q := 15) (ci := 3) (N := 15) (CN := RX3) (T := TX3) (ty0 := tyX3) (ty := .int) (pc := 81) C 10 dX3_readOpening_81 wlX3_54 rfl rfl rfl wfX3 tyX3_ok nmX3 (by decide) rfl rfl rfl (vp_nar_int _) rfl ?_
          have g81 := gx_set (z := z80) g53 15 10 rfl (-2147483648) (2147483647) rfl ⟨by omega, by omega⟩
          have f81 := frm_set (P := PRo) (z := z80) f53 15 10 rfl
          have p81_TKs := TKs_cg (frm_one (P := okTKs) (z := z80) 15 10 rfl) p53_TKs
          have p81_RD := RD_cg (frm_one (P := okRD) (z := z80) 15 10 rfl) p53_RD
          refine s_vret (pc := 84) C dX3_readOpening_84 ?_
          refine ⟨rfl, ?_⟩
          exact ⟨g81, f81, p81_TKs, p81_RD⟩
      · skip
        refine s_vret (pc := 35) C dX3_readOpening_35 ?_
        refine ⟨rfl, ?_⟩
        exact ⟨g25, f25, p25_TKs, p25_RD⟩
set_option maxHeartbeats 4000000 in
set_option maxRecDepth 100000 in
theorem c_X3_readClosing (l : Launch)  : hs_Met l yX3_readClosing cX3_readClosing 2 none 4 SHX (fun ad => [.ref (ad 15)]) (fun σ => GX σ σ ∧ TKs σ ∧ RD σ) (hs_PV (fun σ σ1 => GX σ σ1 ∧ FRM PRc σ σ1 ∧ TKs σ1 ∧ RD σ1)) := by
  refine hs_from pfX3_readClosing (fun _ => Nat.le_of_ble_eq_true rfl) ?_
  intro p e s m args below meth c D dA ad A σ C hpre
  have C : hs_C p s m args meth c D dA SHX ad A 2 cX3_readClosing RX3 none := C
  obtain ⟨g0, p0_TKs, p0_RD⟩ := hpre
  have f0 : FRM PRc σ σ := frm_rf
  show hs_Wd p l e 4 s m args below meth c D dA SHX ad A 2 (hs_PV (fun σ σ1 => GX σ σ1 ∧ FRM PRc σ σ1 ∧ TKs σ1 ∧ RD σ1) σ) 0 [(0, .ref (ad 15))] [] σ
  refine s_aload_n (pc := 0) C dX3_readClosing_0 0 rfl ?_
  refine s_geti (q := 15) (ci := 3) (N := 15) (CN := RX3) (T := TX3) (pc := 1) C 9 dX3_readClosing_1 wlX3_51 rfl rfl rfl wfX3 (by decide) rfl (σ 15 9) rfl ?_
  have b1 : (0 : Int) ≤ σ 15 9 ∧ σ 15 9 ≤ 5 := g0.1 15 9
  refine s_if_ne (pc := 4) C (tgt := 13) dX3_readClosing_4 (by decide) ⟨by omega, by omega⟩ (fun h4 => ?_) (fun h4 => ?_)
  · skip
    refine s_aload_n (pc := 13) C dX3_readClosing_13 0 rfl ?_
    refine s_dup (pc := 14) C dX3_readClosing_14 rfl ?_
    refine s_geti (q := 15) (ci := 3) (N := 15) (CN := RX3) (T := TX3) (pc := 15) C 9 dX3_readClosing_15 wlX3_51 rfl rfl rfl wfX3 (by decide) rfl (σ 15 9) rfl ?_
    have b15 : (0 : Int) ≤ σ 15 9 ∧ σ 15 9 ≤ 5 := g0.1 15 9
    refine s_iconst (pc := 18) C dX3_readClosing_18 ?_
    refine s_isub (pc := 19) C dX3_readClosing_19 ?_
    refine s_puti (q := 15) (ci := 3) (N := 15) (CN := RX3) (T := TX3) (ty0 := tyX3) (ty := .int) (pc := 20) C 9 dX3_readClosing_20 wlX3_51 rfl rfl rfl wfX3 tyX3_ok nmX3 (by decide) rfl rfl rfl (vp_nar_int _) rfl ?_
    have g20 := gx_set (z := ((σ 15 9) - 1)) g0 15 9 rfl (0) (5) rfl ⟨by omega, by omega⟩
    have f20 := frm_set (P := PRc) (z := ((σ 15 9) - 1)) f0 15 9 rfl
    have p20_TKs := TKs_cg (frm_one (P := okTKs) (z := ((σ 15 9) - 1)) 15 9 rfl) p0_TKs
    have p20_RD := RD_cg (frm_one (P := okRD) (z := ((σ 15 9) - 1)) 15 9 rfl) p0_RD
    refine s_aload_n (pc := 23) C dX3_readClosing_23 0 rfl ?_
    refine s_getr (q := 15) (ci := 3) (N := 15) (CN := RX3) (T := TX3) (pc := 24) C 7 dX3_readClosing_24 wlX3_37 rfl rfl rfl wfX3 (by decide) rfl ?_
    refine s_aload_n (pc := 27) C dX3_readClosing_27 0 rfl ?_
    refine s_geti (q := 15) (ci := 3) (N := 15) (CN := RX3) (T := TX3) (pc := 28) C 9 dX3_readClosing_28 wlX3_51 rfl rfl rfl wfX3 (by decide) rfl ((σ 15 9) - 1) rfl ?_
    have b28 : (0 : Int) ≤ (σ 15 9) - 1 ∧ (σ 15 9) - 1 ≤ 5 := g20.1 15 9
    refine s_iald (q := 26) (n := 5) (pc := 31) C (σ 26 (((σ 15 9) - 1).toNat)) rfl dX3_readClosing_31 rfl (by omega) (by omega) (by decide) ?_
    have b31 : (0 : Int) ≤ σ 26 (((σ 15 9) - 1).toNat) ∧ σ 26 (((σ 15 9) - 1).toNat) ≤ 59 := g20.1 26 (((σ 15 9) - 1).toNat)
    refine s_istore_n (pc := 32) C [(1, vI (σ 26 (((σ 15 9) - 1).toNat))), (0, .ref (ad 15))] dX3_readClosing_32 (by decide) rfl ?_
    refine s_aload_n (pc := 33) C dX3_readClosing_33 1 rfl ?_
    refine s_getr (q := 15) (ci := 3) (N := 15) (CN := RX3) (T := TX3) (pc := 34) C 4 dX3_readClosing_34 wlX3_28 rfl rfl rfl wfX3 (by decide) rfl ?_
    refine s_iload_n (pc := 37) C dX3_readClosing_37 0 rfl ?_
    refine s_aload_n (pc := 38) C dX3_readClosing_38 1 rfl ?_
    refine s_geti (q := 15) (ci := 3) (N := 15) (CN := RX3) (T := TX3) (pc := 39) C 8 dX3_readClosing_39 wlX3_48 rfl rfl rfl wfX3 (by decide) rfl (σ 15 8) rfl ?_
    have b39 : (0 : Int) ≤ σ 15 8 ∧ σ 15 8 ≤ 60 := g20.1 15 8
    refine s_iast (q := 23) (n := 60) (pc := 42) C dX3_readClosing_42 rfl (by omega) (by omega) (by decide) ?_
    have g42 := gx_set (z := (σ 15 8)) g20 23 ((σ 26 (((σ 15 9) - 1).toNat)).toNat) rfl (0) (60) rfl ⟨by omega, by omega⟩
    have f42 := frm_set (P := PRc) (z := (σ 15 8)) f20 23 ((σ 26 (((σ 15 9) - 1).toNat)).toNat) rfl
    have p42_TKs := TKs_cg (frm_one (P := okTKs) (z := (σ 15 8)) 23 ((σ 26 (((σ 15 9) - 1).toNat)).toNat) rfl) p20_TKs
    have p42_RD := RD_cg (frm_one (P := okRD) (z := (σ 15 8)) 23 ((σ 26 (((σ 15 9) - 1).toNat)).toNat) rfl) p20_RD
    refine s_aload_n (pc := 43) C dX3_readClosing_43 1 rfl ?_
    refine s_getr (q := 15) (ci := 3) (N := 15) (CN := RX3) (T := TX3) (pc := 44) C 1 dX3_readClosing_44 wlX3_18 rfl rfl rfl wfX3 (by decide) rfl ?_
    refine s_iload_n (pc := 47) C dX3_readClosing_47 0 rfl ?_
    refine s_iald (q := 20) (n := 60) (pc := 48) C (σ 20 ((σ 26 (((σ 15 9) - 1).toNat)).toNat)) rfl dX3_readClosing_48 rfl (by omega) (by omega) (by decide) ?_
    have b48 : (0 : Int) ≤ σ 20 ((σ 26 (((σ 15 9) - 1).toNat)).toNat) ∧ σ 20 ((σ 26 (((σ 15 9) - 1).toNat)).toNat) ≤ 10 := g42.1 20 ((σ 26 (((σ 15 9) - 1).toNat)).toNat)
    refine s_bipush (pc := 49) C dX3_readClosing_49 (by decide) ?_
    refine s_icmp_ne (pc := 51) C (tgt := 73) dX3_readClosing_51 (by decide) ⟨by omega, by omega⟩ ⟨by decide, by decide⟩ (fun h51 => ?_) (fun h51 => ?_)
    · skip
      refine s_aload_n (pc := 73) C dX3_readClosing_73 1 rfl ?_
      refine s_callVv (pc := 74) C (c_X3_goOn l) [] [] rfl rfl dX3_readClosing_74 wlX3_83 wiX3_goOn weX3_goOn wcX3_goOn wnX3 noX3_goOn (by decide) (by decide) (Nat.le_of_ble_eq_true rfl) ⟨(gx_self g42), p42_TKs, p42_RD⟩ rfl rfl ?_
      rintro σ74 k74
      obtain ⟨kg74, kf74, p74_TKs, p74_RD⟩ := k74
      have g74 := gx_trans g42 kg74
      have f74 := frm_tr f42 (frm_mono (Q := PRc) kf74 (fun c j h => by simp [PGo, PRc] at h ⊢ <;> omega))
      show hs_Wd _ _ _ _ _ _ _ _ _ _ _ _ _ _ _ _ _ 77 _ [] σ74
      refine s_vret (pc := 77) C dX3_readClosing_77 ?_
      refine ⟨rfl, ?_⟩
      exact ⟨g74, f74, p74_TKs, p74_RD⟩
    · skip
      refine s_aload_n (pc := 54) C dX3_readClosing_54 1 rfl ?_
      refine s_dup (pc := 55) C dX3_readClosing_55 rfl ?_
      refine s_geti (q := 15) (ci := 3) (N := 15) (CN := RX3) (T := TX3) (pc := 56) C 10 dX3_readClosing_56 wlX3_54 rfl rfl rfl wfX3 (by decide) rfl (σ 15 10) rfl ?_
      have b56 : (-2147483648 : Int) ≤ σ 15 10 ∧ σ 15 10 ≤ 2147483647 := g42.1 15 10
      refine s_iconst (pc := 59) C dX3_readClosing_59 ?_
      refine s_aload_n (pc := 60) C dX3_readClosing_60 1 rfl ?_
      refine s_getr (q := 15) (ci := 3) (N := 15) (CN := RX3) (T := TX3) (pc := 61) C 3 dX3_readClosing_61 wlX3_25 rfl rfl rfl wfX3 (by decide) rfl ?_
      refine s_iload_n (pc := 64) C dX3_readClosing_64 0 rfl ?_
      refine s_iald (q := 22) (n := 60) (pc := 65) C (σ 22 ((σ 26 (((σ 15 9) - 1).toNat)).toNat)) rfl dX3_readClosing_65 rfl (by omega) (by omega) (by decide) ?_
      have b65 : (0 : Int) ≤ σ 22 ((σ 26 (((σ 15 9) - 1).toNat)).toNat) ∧ σ 22 ((σ 26 (((σ 15 9) - 1).toNat)).toNat) ≤ 7 := g42.1 22 ((σ 26 (((σ 15 9) - 1).toNat)).toNat)
      refine s_ishl (pc := 66) C dX3_readClosing_66 (fun z66 hz66 ez66 => ?_)
      refine s_iconst (pc := 67) C dX3_readClosing_67 ?_
      refine s_ixor (pc := 68) C dX3_readClosing_68 (fun z68 hz68 ez68 => ?_)
      refine s_iand (pc := 69) C dX3_readClosing_69 (fun z69 hz69 ez69 => ?_)
      refine s_puti (q := 15) (ci := 3) (N := 15) (CN := RX3) (T := TX3) (ty0 := tyX3) (ty := .int) (pc := 70) C 10 dX3_readClosing_70 wlX3_54 rfl rfl rfl wfX3 tyX3_ok nmX3 (by decide) rfl rfl rfl (vp_nar_int _) rfl ?_
      have g70 := gx_set (z := z69) g42 15 10 rfl (-2147483648) (2147483647) rfl ⟨by omega, by omega⟩
      have f70 := frm_set (P := PRc) (z := z69) f42 15 10 rfl
      have p70_TKs := TKs_cg (frm_one (P := okTKs) (z := z69) 15 10 rfl) p42_TKs
      have p70_RD := RD_cg (frm_one (P := okRD) (z := z69) 15 10 rfl) p42_RD
      refine s_aload_n (pc := 73) C dX3_readClosing_73 1 rfl ?_
      refine s_callVv (pc := 74) C (c_X3_goOn l) [] [] rfl rfl dX3_readClosing_74 wlX3_83 wiX3_goOn weX3_goOn wcX3_goOn wnX3 noX3_goOn (by decide) (by decide) (Nat.le_of_ble_eq_true rfl) ⟨(gx_self g70), p70_TKs, p70_RD⟩ rfl rfl ?_
      rintro σ74 k74
      obtain ⟨kg74, kf74, p74_TKs, p74_RD⟩ := k74
      have g74 := gx_trans g70 kg74
      have f74 := frm_tr f70 (frm_mono (Q := PRc) kf74 (fun c j h => by simp [PGo, PRc] at h ⊢ <;> omega))
      show hs_Wd _ _ _ _ _ _ _ _ _ _ _ _ _ _ _ _ _ 77 _ [] σ74
      refine s_vret (pc := 77) C dX3_readClosing_77 ?_
      refine ⟨rfl, ?_⟩
      exact ⟨g74, f74, p74_TKs, p74_RD⟩
  · skip
    refine s_aload_n (pc := 7) C dX3_readClosing_7 0 rfl ?_
    refine s_iconst (pc := 8) C dX3_readClosing_8 ?_
    refine s_callVv (pc := 9) C (c_X3_refuse l 1 (by first | omega | assumption | (constructor <;> omega) | (refine ⟨⟨?_, ?_⟩, ?_⟩ <;> omega) | (simp [hs_ss, hs_up]; omega) | (simp [hs_ss, hs_up]; done))) [vI 1] [] rfl rfl dX3_readClosing_9 wlX3_76 wiX3_refuse weX3_refuse wcX3_refuse wnX3 noX3_refuse (by decide) (by decide) (Nat.le_of_ble_eq_true rfl) ⟨(gx_self g0), p0_TKs, p0_RD⟩ rfl rfl ?_
    rintro σ9 k9
    obtain ⟨kg9, kf9, p9_TKs, p9_RD, k9⟩ := k9
    have g9 := gx_trans g0 kg9
    have f9 := frm_tr f0 (frm_mono (Q := PRc) kf9 (fun c j h => by simp [PRf, PRc] at h ⊢ <;> omega))
    show hs_Wd _ _ _ _ _ _ _ _ _ _ _ _ _ _ _ _ _ 12 _ [] σ9
    refine s_vret (pc := 12) C dX3_readClosing_12 ?_
    refine ⟨rfl, ?_⟩
    exact ⟨g9, f9, p9_TKs, p9_RD⟩
set_option maxHeartbeats 4000000 in
set_option maxRecDepth 100000 in
theorem c_X3_readStatement (l : Launch)  : hs_Met l yX3_readStatement cX3_readStatement 2 none 6 SHX (fun ad => [.ref (ad 15)]) (fun σ => GX σ σ ∧ TKs σ ∧ RD σ) (hs_PV (fun σ σ1 => GX σ σ1 ∧ FRM PRd σ σ1 ∧ TKs σ1 ∧ RD σ1)) := by
  refine hs_from pfX3_readStatement (fun _ => Nat.le_of_ble_eq_true rfl) ?_
  intro p e s m args below meth c D dA ad A σ C hpre
  have C : hs_C p s m args meth c D dA SHX ad A 2 cX3_readStatement RX3 none := C
  obtain ⟨g0, p0_TKs, p0_RD⟩ := hpre
  have f0 : FRM PRd σ σ := frm_rf
  show hs_Wd p l e 6 s m args below meth c D dA SHX ad A 2 (hs_PV (fun σ σ1 => GX σ σ1 ∧ FRM PRd σ σ1 ∧ TKs σ1 ∧ RD σ1) σ) 0 [(0, .ref (ad 15))] [] σ
  refine s_aload_n (pc := 0) C dX3_readStatement_0 0 rfl ?_
  refine s_geti (q := 15) (ci := 3) (N := 15) (CN := RX3) (T := TX3) (pc := 1) C 12 dX3_readStatement_1 wlX3_66 rfl rfl rfl wfX3 (by decide) rfl (σ 15 12) rfl ?_
  have b1 : (-2147483648 : Int) ≤ σ 15 12 ∧ σ 15 12 ≤ 2147483647 := g0.1 15 12
  refine s_iconst (pc := 4) C dX3_readStatement_4 ?_
  refine s_icmp_lt (pc := 5) C (tgt := 17) dX3_readStatement_5 (by decide) ⟨by omega, by omega⟩ ⟨by decide, by decide⟩ (fun h5 => ?_) (fun h5 => ?_)
  · skip
    refine s_aload_n (pc := 17) C dX3_readStatement_17 0 rfl ?_
    refine s_iconst (pc := 18) C dX3_readStatement_18 ?_
    refine s_callVv (pc := 19) C (c_X3_refuse l 1 (by first | omega | assumption | (constructor <;> omega) | (refine ⟨⟨?_, ?_⟩, ?_⟩ <;> omega) | (simp [hs_ss, hs_up]; omega) | (simp [hs_ss, hs_up]; done))) [vI 1] [] rfl rfl dX3_readStatement_19 wlX3_76 wiX3_refuse weX3_refuse wcX3_refuse wnX3 noX3_refuse (by decide) (by decide) (Nat.le_of_ble_eq_true rfl) ⟨(gx_self g0), p0_TKs, p0_RD⟩ rfl rfl ?_
    rintro σ19 k19
    obtain ⟨kg19, kf19, p19_TKs, p19_RD, k19⟩ := k19
    have g19 := gx_trans g0 kg19
    have f19 := frm_tr f0 (frm_mono (Q := PRd) kf19 (fun c j h => by simp [PRf, PRd] at h ⊢ <;> omega))
    show hs_Wd _ _ _ _ _ _ _ _ _ _ _ _ _ _ _ _ _ 22 _ [] σ19
    refine s_vret (pc := 22) C dX3_readStatement_22 ?_
    refine ⟨rfl, ?_⟩
    exact ⟨g19, f19, p19_TKs, p19_RD⟩
  · skip
    refine s_aload_n (pc := 8) C dX3_readStatement_8 0 rfl ?_
    refine s_geti (q := 15) (ci := 3) (N := 15) (CN := RX3) (T := TX3) (pc := 9) C 12 dX3_readStatement_9 wlX3_66 rfl rfl rfl wfX3 (by decide) rfl (σ 15 12) rfl ?_
    have b9 : (-2147483648 : Int) ≤ σ 15 12 ∧ σ 15 12 ≤ 2147483647 := g0.1 15 12
    refine s_bipush (pc := 12) C dX3_readStatement_12 (by decide) ?_
    refine s_icmp_le (pc := 14) C (tgt := 23) dX3_readStatement_14 (by decide) ⟨by omega, by omega⟩ ⟨by decide, by decide⟩ (fun h14 => ?_) (fun h14 => ?_)
    · skip
      refine s_aload_n (pc := 23) C dX3_readStatement_23 0 rfl ?_
      refine s_geti (q := 15) (ci := 3) (N := 15) (CN := RX3) (T := TX3) (pc := 24) C 8 dX3_readStatement_24 wlX3_48 rfl rfl rfl wfX3 (by decide) rfl (σ 15 8) rfl ?_
      have b24 : (0 : Int) ≤ σ 15 8 ∧ σ 15 8 ≤ 60 := g0.1 15 8
      refine s_bipush (pc := 27) C dX3_readStatement_27 (by decide) ?_
      refine s_icmp_lt (pc := 29) C (tgt := 38) dX3_readStatement_29 (by decide) ⟨by omega, by omega⟩ ⟨by decide, by decide⟩ (fun h29 => ?_) (fun h29 => ?_)
      · skip
        refine s_aload_n (pc := 38) C dX3_readStatement_38 0 rfl ?_
        refine s_geti (q := 15) (ci := 3) (N := 15) (CN := RX3) (T := TX3) (pc := 39) C 8 dX3_readStatement_39 wlX3_48 rfl rfl rfl wfX3 (by decide) rfl (σ 15 8) rfl ?_
        have b39 : (0 : Int) ≤ σ 15 8 ∧ σ 15 8 ≤ 60 := g0.1 15 8
        refine s_istore_n (pc := 42) C [(1, vI (σ 15 8)), (0, .ref (ad 15))] dX3_readStatement_42 (by decide) rfl ?_
        refine s_aload_n (pc := 43) C dX3_readStatement_43 1 rfl ?_
        refine s_getr (q := 15) (ci := 3) (N := 15) (CN := RX3) (T := TX3) (pc := 44) C 1 dX3_readStatement_44 wlX3_18 rfl rfl rfl wfX3 (by decide) rfl ?_
        refine s_iload_n (pc := 47) C dX3_readStatement_47 0 rfl ?_
        refine s_aload_n (pc := 48) C dX3_readStatement_48 1 rfl ?_
        refine s_geti (q := 15) (ci := 3) (N := 15) (CN := RX3) (T := TX3) (pc := 49) C 12 dX3_readStatement_49 wlX3_66 rfl rfl rfl wfX3 (by decide) rfl (σ 15 12) rfl ?_
        have b49 : (-2147483648 : Int) ≤ σ 15 12 ∧ σ 15 12 ≤ 2147483647 := g0.1 15 12
        refine s_iast (q := 20) (n := 60) (pc := 52) C dX3_readStatement_52 rfl (by omega) (by omega) (by decide) ?_
        have g52 := gx_set (z := (σ 15 12)) g0 20 ((σ 15 8).toNat) rfl (0) (10) rfl ⟨by omega, by omega⟩
        have f52 := frm_set (P := PRd) (z := (σ 15 12)) f0 20 ((σ 15 8).toNat) rfl
        have p52_TKs := TKs_cg (frm_one (P := okTKs) (z := (σ 15 12)) 20 ((σ 15 8).toNat) rfl) p0_TKs
        have p52_RD := RD_cg (frm_one (P := okRD) (z := (σ 15 12)) 20 ((σ 15 8).toNat) rfl) p0_RD
        refine s_aload_n (pc := 53) C dX3_readStatement_53 1 rfl ?_
        refine s_dup (pc := 54) C dX3_readStatement_54 rfl ?_
        refine s_geti (q := 15) (ci := 3) (N := 15) (CN := RX3) (T := TX3) (pc := 55) C 8 dX3_readStatement_55 wlX3_48 rfl rfl rfl wfX3 (by decide) rfl (σ 15 8) rfl ?_
        have b55 : (0 : Int) ≤ σ 15 8 ∧ σ 15 8 ≤ 60 := g52.1 15 8
        refine s_iconst (pc := 58) C dX3_readStatement_58 ?_
        refine s_iadd (pc := 59) C dX3_readStatement_59 ?_
        refine s_puti (q := 15) (ci := 3) (N := 15) (CN := RX3) (T := TX3) (ty0 := tyX3) (ty := .int) (pc := 60) C 8 dX3_readStatement_60 wlX3_48 rfl rfl rfl wfX3 tyX3_ok nmX3 (by decide) rfl rfl rfl (vp_nar_int _) rfl ?_
        have g60 := gx_set (z := ((σ 15 8) + 1)) g52 15 8 rfl (0) (60) rfl ⟨by omega, by omega⟩
        have f60 := frm_set (P := PRd) (z := ((σ 15 8) + 1)) f52 15 8 rfl
        have p60_TKs := TKs_cg (frm_one (P := okTKs) (z := ((σ 15 8) + 1)) 15 8 rfl) p52_TKs
        have p60_RD := RD_cg (frm_one (P := okRD) (z := ((σ 15 8) + 1)) 15 8 rfl) p52_RD
        refine s_aload_n (pc := 63) C dX3_readStatement_63 1 rfl ?_
        refine s_getr (q := 15) (ci := 3) (N := 15) (CN := RX3) (T := TX3) (pc := 64) C 4 dX3_readStatement_64 wlX3_28 rfl rfl rfl wfX3 (by decide) rfl ?_
        refine s_iload_n (pc := 67) C dX3_readStatement_67 0 rfl ?_
        refine s_aload_n (pc := 68) C dX3_readStatement_68 1 rfl ?_
        refine s_geti (q := 15) (ci := 3) (N := 15) (CN := RX3) (T := TX3) (pc := 69) C 8 dX3_readStatement_69 wlX3_48 rfl rfl rfl wfX3 (by decide) rfl ((σ 15 8) + 1) rfl ?_
        have b69 : (0 : Int) ≤ (σ 15 8) + 1 ∧ (σ 15 8) + 1 ≤ 60 := g60.1 15 8
        refine s_iast (q := 23) (n := 60) (pc := 72) C dX3_readStatement_72 rfl (by omega) (by omega) (by decide) ?_
        have g72 := gx_set (z := ((σ 15 8) + 1)) g60 23 ((σ 15 8).toNat) rfl (0) (60) rfl ⟨by omega, by omega⟩
        have f72 := frm_set (P := PRd) (z := ((σ 15 8) + 1)) f60 23 ((σ 15 8).toNat) rfl
        have p72_TKs := TKs_cg (frm_one (P := okTKs) (z := ((σ 15 8) + 1)) 23 ((σ 15 8).toNat) rfl) p60_TKs
        have p72_RD := RD_cg (frm_one (P := okRD) (z := ((σ 15 8) + 1)) 23 ((σ 15 8).toNat) rfl) p60_RD
        refine s_aload_n (pc := 73) C dX3_readStatement_73 1 rfl ?_
        refine s_callVv (pc := 74) C (c_X3_goOn l) [] [] rfl rfl dX3_readStatement_74 wlX3_83 wiX3_goOn weX3_goOn wcX3_goOn wnX3 noX3_goOn (by decide) (by decide) (Nat.le_of_ble_eq_true rfl) ⟨(gx_self g72), p72_TKs, p72_RD⟩ rfl rfl ?_
        rintro σ74 k74
        obtain ⟨kg74, kf74, p74_TKs, p74_RD⟩ := k74
        have g74 := gx_trans g72 kg74
        have f74 := frm_tr f72 (frm_mono (Q := PRd) kf74 (fun c j h => by simp [PGo, PRd] at h ⊢ <;> omega))
        show hs_Wd _ _ _ _ _ _ _ _ _ _ _ _ _ _ _ _ _ 77 _ [] σ74
        refine s_aload_n (pc := 77) C dX3_readStatement_77 1 rfl ?_
        refine s_iload_n (pc := 78) C dX3_readStatement_78 0 rfl ?_
        refine s_callVv (pc := 79) C (c_X3_readRest l (σ 15 8) (by first | omega | assumption | (constructor <;> omega) | (refine ⟨⟨?_, ?_⟩, ?_⟩ <;> omega) | (simp [hs_ss, hs_up]; omega) | (simp [hs_ss, hs_up]; done))) [vI (σ 15 8)] [] rfl rfl dX3_readStatement_79 wlX3_86 wiX3_readRest weX3_readRest wcX3_readRest wnX3 noX3_readRest (by decide) (by decide) (Nat.le_of_ble_eq_true rfl) ⟨(gx_self g74), p74_TKs, p74_RD⟩ rfl rfl ?_
        rintro σ79 k79
        obtain ⟨kg79, kf79, p79_TKs, p79_RD⟩ := k79
        have g79 := gx_trans g74 kg79
        have f79 := frm_tr f74 (frm_mono (Q := PRd) kf79 (fun c j h => by simp [PRr, PRd] at h ⊢ <;> omega))
        show hs_Wd _ _ _ _ _ _ _ _ _ _ _ _ _ _ _ _ _ 82 _ [] σ79
        refine s_aload_n (pc := 82) C dX3_readStatement_82 1 rfl ?_
        refine s_getr (q := 15) (ci := 3) (N := 15) (CN := RX3) (T := TX3) (pc := 83) C 1 dX3_readStatement_83 wlX3_18 rfl rfl rfl wfX3 (by decide) rfl ?_
        refine s_iload_n (pc := 86) C dX3_readStatement_86 0 rfl ?_
        refine s_iald (q := 20) (n := 60) (pc := 87) C (σ79 20 ((σ 15 8).toNat)) rfl dX3_readStatement_87 rfl (by omega) (by omega) (by decide) ?_
        have b87 : (0 : Int) ≤ σ79 20 ((σ 15 8).toNat) ∧ σ79 20 ((σ 15 8).toNat) ≤ 10 := g79.1 20 ((σ 15 8).toNat)
        refine s_bipush (pc := 88) C dX3_readStatement_88 (by decide) ?_
        refine s_icmp_ge (pc := 90) C (tgt := 102) dX3_readStatement_90 (by decide) ⟨by omega, by omega⟩ ⟨by decide, by decide⟩ (fun h90 => ?_) (fun h90 => ?_)
        · skip
          refine s_aload_n (pc := 102) C dX3_readStatement_102 1 rfl ?_
          refine s_iload_n (pc := 103) C dX3_readStatement_103 0 rfl ?_
          refine s_callVv (pc := 104) C (c_X3_readOpening l (σ 15 8) (by first | omega | assumption | (constructor <;> omega) | (refine ⟨⟨?_, ?_⟩, ?_⟩ <;> omega) | (simp [hs_ss, hs_up]; omega) | (simp [hs_ss, hs_up]; done))) [vI (σ 15 8)] [] rfl rfl dX3_readStatement_104 wlX3_93 wiX3_readOpening weX3_readOpening wcX3_readOpening wnX3 noX3_readOpening (by decide) (by decide) (Nat.le_of_ble_eq_true rfl) ⟨(gx_self g79), p79_TKs, p79_RD⟩ rfl rfl ?_
          rintro σ104 k104
          obtain ⟨kg104, kf104, p104_TKs, p104_RD⟩ := k104
          have g104 := gx_trans g79 kg104
          have f104 := frm_tr f79 (frm_mono (Q := PRd) kf104 (fun c j h => by simp [PRo, PRd] at h ⊢ <;> omega))
          show hs_Wd _ _ _ _ _ _ _ _ _ _ _ _ _ _ _ _ _ 107 _ [] σ104
          refine s_vret (pc := 107) C dX3_readStatement_107 ?_
          refine ⟨rfl, ?_⟩
          exact ⟨g104, f104, p104_TKs, p104_RD⟩
        · skip
          refine s_aload_n (pc := 93) C dX3_readStatement_93 1 rfl ?_
          refine s_bipush (pc := 94) C dX3_readStatement_94 (by decide) ?_
          refine s_callVv (pc := 96) C (c_X3_readSign l 59 ⟨by omega, by omega⟩) [vI 59] [] rfl rfl dX3_readStatement_96 wlX3_89 wiX3_readSign weX3_readSign wcX3_readSign wnX3 noX3_readSign (by decide) (by decide) (Nat.le_of_ble_eq_true rfl) ⟨(gx_self g79), p79_TKs, p79_RD⟩ rfl rfl ?_
          rintro σ96 k96
          obtain ⟨kg96, kf96, p96_TKs, p96_RD, k96⟩ := k96
          have g96 := gx_trans g79 kg96
          have f96 := frm_tr f79 (frm_mono (Q := PRd) kf96 (fun c j h => by simp [PRs, PRd] at h ⊢ <;> omega))
          show hs_Wd _ _ _ _ _ _ _ _ _ _ _ _ _ _ _ _ _ 99 _ [] σ96
          refine s_goto (pc := 99) C (tgt := 107) dX3_readStatement_99 (by decide) ?_
          refine s_vret (pc := 107) C dX3_readStatement_107 ?_
          refine ⟨rfl, ?_⟩
          exact ⟨g96, f96, p96_TKs, p96_RD⟩
      · skip
        refine s_aload_n (pc := 32) C dX3_readStatement_32 0 rfl ?_
        refine s_iconst (pc := 33) C dX3_readStatement_33 ?_
        refine s_callVv (pc := 34) C (c_X3_refuse l 2 (by first | omega | assumption | (constructor <;> omega) | (refine ⟨⟨?_, ?_⟩, ?_⟩ <;> omega) | (simp [hs_ss, hs_up]; omega) | (simp [hs_ss, hs_up]; done))) [vI 2] [] rfl rfl dX3_readStatement_34 wlX3_76 wiX3_refuse weX3_refuse wcX3_refuse wnX3 noX3_refuse (by decide) (by decide) (Nat.le_of_ble_eq_true rfl) ⟨(gx_self g0), p0_TKs, p0_RD⟩ rfl rfl ?_
        rintro σ34 k34
        obtain ⟨kg34, kf34, p34_TKs, p34_RD, k34⟩ := k34
        have g34 := gx_trans g0 kg34
        have f34 := frm_tr f0 (frm_mono (Q := PRd) kf34 (fun c j h => by simp [PRf, PRd] at h ⊢ <;> omega))
        show hs_Wd _ _ _ _ _ _ _ _ _ _ _ _ _ _ _ _ _ 37 _ [] σ34
        refine s_vret (pc := 37) C dX3_readStatement_37 ?_
        refine ⟨rfl, ?_⟩
        exact ⟨g34, f34, p34_TKs, p34_RD⟩
    · skip
      refine s_aload_n (pc := 17) C dX3_readStatement_17 0 rfl ?_
      refine s_iconst (pc := 18) C dX3_readStatement_18 ?_
      refine s_callVv (pc := 19) C (c_X3_refuse l 1 (by first | omega | assumption | (constructor <;> omega) | (refine ⟨⟨?_, ?_⟩, ?_⟩ <;> omega) | (simp [hs_ss, hs_up]; omega) | (simp [hs_ss, hs_up]; done))) [vI 1] [] rfl rfl dX3_readStatement_19 wlX3_76 wiX3_refuse weX3_refuse wcX3_refuse wnX3 noX3_refuse (by decide) (by decide) (Nat.le_of_ble_eq_true rfl) ⟨(gx_self g0), p0_TKs, p0_RD⟩ rfl rfl ?_
      rintro σ19 k19
      obtain ⟨kg19, kf19, p19_TKs, p19_RD, k19⟩ := k19
      have g19 := gx_trans g0 kg19
      have f19 := frm_tr f0 (frm_mono (Q := PRd) kf19 (fun c j h => by simp [PRf, PRd] at h ⊢ <;> omega))
      show hs_Wd _ _ _ _ _ _ _ _ _ _ _ _ _ _ _ _ _ 22 _ [] σ19
      refine s_vret (pc := 22) C dX3_readStatement_22 ?_
      refine ⟨rfl, ?_⟩
      exact ⟨g19, f19, p19_TKs, p19_RD⟩
set_option maxHeartbeats 4000000 in
set_option maxRecDepth 100000 in
theorem c_X3_readText (l : Launch) (n : Int) (hn : 0 ≤ n ∧ n ≤ 500) : hs_Met l yX3_readText cX3_readText 4 none 10 SHX (fun ad => [.ref (ad 15), .ref (ad 1), vI n]) (fun σ => GX σ σ) (hs_PV (fun σ σ1 => GX σ σ1 ∧ FRM PRt σ σ1)) := by
  refine hs_from pfX3_readText (fun _ => Nat.le_of_ble_eq_true rfl) ?_
  intro p e s m args below meth c D dA ad A σ C hpre
  have C : hs_C p s m args meth c D dA SHX ad A 4 cX3_readText RX3 none := C
  have g0 := hpre
  have f0 : FRM PRt σ σ := frm_rf
  show hs_Wd p l e 10 s m args below meth c D dA SHX ad A 4 (hs_PV (fun σ σ1 => GX σ σ1 ∧ FRM PRt σ σ1) σ) 0 [(0, .ref (ad 15)), (1, .ref (ad 1)), (2, vI n)] [] σ
  refine s_aload_n (pc := 0) C dX3_readText_0 0 rfl ?_
  refine s_getr (q := 15) (ci := 3) (N := 15) (CN := RX3) (T := TX3) (pc := 1) C 0 dX3_readText_1 wlX3_12 rfl rfl rfl wfX3 (by decide) rfl ?_
  refine s_aload_n (pc := 4) C dX3_readText_4 1 rfl ?_
  refine s_iload_n (pc := 5) C dX3_readText_5 2 rfl ?_
  refine s_callVNv (pc := 6) C (c_X7_split l n (by first | omega | assumption | (constructor <;> omega) | (refine ⟨⟨?_, ?_⟩, ?_⟩ <;> omega) | (simp [hs_ss, hs_up]; omega) | (simp [hs_ss, hs_up]; done))) [.ref (ad 1), vI n] [] rfl rfl dX3_readText_6 wlX3_44 wiX7_split weX7_split wcX7_split wnX7 noX7_split (by decide) (by decide) (Nat.le_of_ble_eq_true rfl) (gx_self g0) rfl rfl ?_
  rintro σ6 k6
  obtain ⟨kg6, kf6, k6⟩ := k6
  have g6 := gx_trans g0 kg6
  have f6 := frm_tr f0 (frm_mono (Q := PRt) kf6 (fun c j h => by simp [PTk, PRt] at h ⊢ <;> omega))
  show hs_Wd _ _ _ _ _ _ _ _ _ _ _ _ _ _ _ _ _ 9 _ [] σ6
  refine s_aload_n (pc := 9) C dX3_readText_9 0 rfl ?_
  refine s_iconst (pc := 10) C dX3_readText_10 ?_
  refine s_puti (q := 15) (ci := 3) (N := 15) (CN := RX3) (T := TX3) (ty0 := tyX3) (ty := .int) (pc := 11) C 8 dX3_readText_11 wlX3_48 rfl rfl rfl wfX3 tyX3_ok nmX3 (by decide) rfl rfl rfl (vp_nar_int _) rfl ?_
  have g11 := gx_set (z := 0) g6 15 8 rfl (0) (60) rfl ⟨by omega, by omega⟩
  have f11 := frm_set (P := PRt) (z := 0) f6 15 8 rfl
  refine s_aload_n (pc := 14) C dX3_readText_14 0 rfl ?_
  refine s_iconst (pc := 15) C dX3_readText_15 ?_
  refine s_puti (q := 15) (ci := 3) (N := 15) (CN := RX3) (T := TX3) (ty0 := tyX3) (ty := .int) (pc := 16) C 9 dX3_readText_16 wlX3_51 rfl rfl rfl wfX3 tyX3_ok nmX3 (by decide) rfl rfl rfl (vp_nar_int _) rfl ?_
  have g16 := gx_set (z := 0) g11 15 9 rfl (0) (5) rfl ⟨by omega, by omega⟩
  have f16 := frm_set (P := PRt) (z := 0) f11 15 9 rfl
  refine s_aload_n (pc := 19) C dX3_readText_19 0 rfl ?_
  refine s_iconst (pc := 20) C dX3_readText_20 ?_
  refine s_puti (q := 15) (ci := 3) (N := 15) (CN := RX3) (T := TX3) (ty0 := tyX3) (ty := .int) (pc := 21) C 10 dX3_readText_21 wlX3_54 rfl rfl rfl wfX3 tyX3_ok nmX3 (by decide) rfl rfl rfl (vp_nar_int _) rfl ?_
  have g21 := gx_set (z := 0) g16 15 10 rfl (-2147483648) (2147483647) rfl ⟨by omega, by omega⟩
  have f21 := frm_set (P := PRt) (z := 0) f16 15 10 rfl
  refine s_aload_n (pc := 24) C dX3_readText_24 0 rfl ?_
  refine s_iconst (pc := 25) C dX3_readText_25 ?_
  refine s_puti (q := 15) (ci := 3) (N := 15) (CN := RX3) (T := TX3) (ty0 := tyX3) (ty := .int) (pc := 26) C 13 dX3_readText_26 wlX3_57 rfl rfl rfl wfX3 tyX3_ok nmX3 (by decide) rfl rfl rfl (vp_nar_int _) rfl ?_
  have g26 := gx_set (z := 0) g21 15 13 rfl (0) (3) rfl ⟨by omega, by omega⟩
  have f26 := frm_set (P := PRt) (z := 0) f21 15 13 rfl
  refine s_aload_n (pc := 29) C dX3_readText_29 0 rfl ?_
  refine s_iconst (pc := 30) C dX3_readText_30 ?_
  refine s_puti (q := 15) (ci := 3) (N := 15) (CN := RX3) (T := TX3) (ty0 := tyX3) (ty := .int) (pc := 31) C 14 dX3_readText_31 wlX3_40 rfl rfl rfl wfX3 tyX3_ok nmX3 (by decide) rfl rfl rfl (vp_nar_int _) rfl ?_
  have g31 := gx_set (z := ((-1))) g26 15 14 rfl (-1) (500) rfl ⟨by omega, by omega⟩
  have f31 := frm_set (P := PRt) (z := ((-1))) f26 15 14 rfl
  refine s_aload_n (pc := 34) C dX3_readText_34 0 rfl ?_
  refine s_iconst (pc := 35) C dX3_readText_35 ?_
  refine s_puti (q := 15) (ci := 3) (N := 15) (CN := RX3) (T := TX3) (ty0 := tyX3) (ty := .int) (pc := 36) C 11 dX3_readText_36 wlX3_60 rfl rfl rfl wfX3 tyX3_ok nmX3 (by decide) rfl rfl rfl (vp_nar_int _) rfl ?_
  have g36 := gx_set (z := 0) g31 15 11 rfl (0) (500) rfl ⟨by omega, by omega⟩
  have f36 := frm_set (P := PRt) (z := 0) f31 15 11 rfl
  refine s_aload_n (pc := 39) C dX3_readText_39 0 rfl ?_
  refine s_aload_n (pc := 40) C dX3_readText_40 0 rfl ?_
  refine s_getr (q := 15) (ci := 3) (N := 15) (CN := RX3) (T := TX3) (pc := 41) C 0 dX3_readText_41 wlX3_12 rfl rfl rfl wfX3 (by decide) rfl ?_
  refine s_getrN (q := 16) (ci := 7) (N := 5) (CN := RX7) (T := TX7) (pc := 44) C 0 dX3_readText_44 wlX3_63 rfl rfl rfl wfX7 (by decide) rfl ?_
  refine s_iconst (pc := 47) C dX3_readText_47 ?_
  refine s_iald (q := 17) (n := 501) (pc := 48) C (σ6 17 0) rfl dX3_readText_48 rfl (by omega) (by omega) (by decide) ?_
  have b48 : (-2147483648 : Int) ≤ σ6 17 0 ∧ σ6 17 0 ≤ 2147483647 := g36.1 17 0
  refine s_puti (q := 15) (ci := 3) (N := 15) (CN := RX3) (T := TX3) (ty0 := tyX3) (ty := .int) (pc := 49) C 12 dX3_readText_49 wlX3_66 rfl rfl rfl wfX3 tyX3_ok nmX3 (by decide) rfl rfl rfl (vp_nar_int _) rfl ?_
  have g49 := gx_set (z := (σ6 17 0)) g36 15 12 rfl (-2147483648) (2147483647) rfl ⟨by omega, by omega⟩
  have f49 := frm_set (P := PRt) (z := (σ6 17 0)) f36 15 12 rfl
  refine s_iconst (pc := 52) C dX3_readText_52 ?_
  refine s_istore_n (pc := 53) C [(3, vI 0), (0, .ref (ad 15)), (1, .ref (ad 1)), (2, vI n)] dX3_readText_53 (by decide) rfl ?_
  refine s_sub C [1, 2, 3, 0] [(0, .ref (ad 15)), (1, .ref (ad 1)), (2, vI n), (3, vI 0)] rfl ?_
  have hi54 : GX σ ((hs_ss (hs_ss (hs_ss (hs_ss (hs_ss (hs_ss (hs_ss σ6 15 8 0) 15 9 0) 15 10 0) 15 13 0) 15 14 ((-1))) 15 11 0) 15 12 (σ6 17 0))) ∧ FRM PRt σ ((hs_ss (hs_ss (hs_ss (hs_ss (hs_ss (hs_ss (hs_ss σ6 15 8 0) 15 9 0) 15 10 0) 15 13 0) 15 14 ((-1))) 15 11 0) 15 12 (σ6 17 0))) ∧ 0 ≤ (0 : Int) ∧ (0 : Int) ≤ 501 ∧ TKs ((hs_ss (hs_ss (hs_ss (hs_ss (hs_ss (hs_ss (hs_ss σ6 15 8 0) 15 9 0) 15 10 0) 15 13 0) 15 14 ((-1))) 15 11 0) 15 12 (σ6 17 0))) ∧ RD ((hs_ss (hs_ss (hs_ss (hs_ss (hs_ss (hs_ss (hs_ss σ6 15 8 0) 15 9 0) 15 10 0) 15 13 0) 15 14 ((-1))) 15 11 0) 15 12 (σ6 17 0))) := ⟨g49, f49, ⟨by omega, by omega, TKs_cg (frm_one (P := okTKs) 15 12 rfl) (TKs_cg (frm_one (P := okTKs) 15 11 rfl) (TKs_cg (frm_one (P := okTKs) 15 14 rfl) (TKs_cg (frm_one (P := okTKs) 15 13 rfl) (TKs_cg (frm_one (P := okTKs) 15 10 rfl) (TKs_cg (frm_one (P := okTKs) 15 9 rfl) (TKs_cg (frm_one (P := okTKs) 15 8 rfl) k6.1)))))), by show σ6 17 0 = σ6 17 (0 : Int).toNat ∧ (0 : Int) < σ6 16 3; exact ⟨rfl, by omega⟩⟩⟩
  refine hs_loop (α := Int × hs_S) (fun x_ => (GX σ x_.2 ∧ FRM PRt σ x_.2 ∧ 0 ≤ x_.1 ∧ x_.1 ≤ 501 ∧ TKs x_.2 ∧ RD x_.2) → hs_Wd p l e 10 s m args below meth c D dA SHX ad A 4 (hs_PV (fun σ σ1 => GX σ σ1 ∧ FRM PRt σ σ1) σ) 54 [(0, .ref (ad 15)), (1, .ref (ad 1)), (2, vI n), (3, vI x_.1)] [] x_.2) (fun x_ => (502 - x_.1).toNat) ?_ (0, (hs_ss (hs_ss (hs_ss (hs_ss (hs_ss (hs_ss (hs_ss σ6 15 8 0) 15 9 0) 15 10 0) 15 13 0) 15 14 ((-1))) 15 11 0) 15 12 (σ6 17 0))) hi54
  rintro ⟨k, σ1⟩ ih54 hinv
  replace hinv : GX σ σ1 ∧ FRM PRt σ σ1 ∧ 0 ≤ k ∧ k ≤ 501 ∧ TKs σ1 ∧ RD σ1 := hinv
  obtain ⟨hg54, hf54, hv54⟩ := hinv
  show hs_Wd p l e 10 s m args below meth c D dA SHX ad A 4 (hs_PV (fun σ σ1 => GX σ σ1 ∧ FRM PRt σ σ1) σ) 54 [(0, .ref (ad 15)), (1, .ref (ad 1)), (2, vI n), (3, vI k)] [] σ1
  refine s_iload_n (pc := 54) C dX3_readText_54 3 rfl ?_
  refine s_aload_n (pc := 55) C dX3_readText_55 0 rfl ?_
  refine s_getr (q := 15) (ci := 3) (N := 15) (CN := RX3) (T := TX3) (pc := 56) C 0 dX3_readText_56 wlX3_12 rfl rfl rfl wfX3 (by decide) rfl ?_
  refine s_getiN (q := 16) (ci := 7) (N := 5) (CN := RX7) (T := TX7) (pc := 59) C 3 dX3_readText_59 wlX3_69 rfl rfl rfl wfX7 (by decide) rfl (σ1 16 3) rfl ?_
  have b59 : (0 : Int) ≤ σ1 16 3 ∧ σ1 16 3 ≤ 501 := hg54.1 16 3
  refine s_icmp_ge (pc := 62) C (tgt := 105) dX3_readText_62 (by decide) ⟨by omega, by omega⟩ ⟨by omega, by omega⟩ (fun h62 => ?_) (fun h62 => ?_)
  · skip
    refine s_aload_n (pc := 105) C dX3_readText_105 0 rfl ?_
    refine s_geti (q := 15) (ci := 3) (N := 15) (CN := RX3) (T := TX3) (pc := 106) C 9 dX3_readText_106 wlX3_51 rfl rfl rfl wfX3 (by decide) rfl (σ1 15 9) rfl ?_
    have b106 : (0 : Int) ≤ σ1 15 9 ∧ σ1 15 9 ≤ 5 := hg54.1 15 9
    refine s_if_le (pc := 109) C (tgt := 117) dX3_readText_109 (by decide) ⟨by omega, by omega⟩ (fun h109 => ?_) (fun h109 => ?_)
    · skip
      refine s_vret (pc := 117) C dX3_readText_117 ?_
      refine ⟨rfl, ?_⟩
      exact ⟨hg54, hf54⟩
    · skip
      refine s_aload_n (pc := 112) C dX3_readText_112 0 rfl ?_
      refine s_iconst (pc := 113) C dX3_readText_113 ?_
      refine s_callVv (pc := 114) C (c_X3_refuse l 1 (by first | omega | assumption | (constructor <;> omega) | (refine ⟨⟨?_, ?_⟩, ?_⟩ <;> omega) | (simp [hs_ss, hs_up]; omega) | (simp [hs_ss, hs_up]; done))) [vI 1] [] rfl rfl dX3_readText_114 wlX3_76 wiX3_refuse weX3_refuse wcX3_refuse wnX3 noX3_refuse (by decide) (by decide) (Nat.le_of_ble_eq_true rfl) ⟨(gx_self hg54), hv54.2.2.1, hv54.2.2.2⟩ rfl rfl ?_
      rintro σ114 k114
      obtain ⟨kg114, kf114, p114_TKs, p114_RD, k114⟩ := k114
      have g114 := gx_trans hg54 kg114
      have f114 := frm_tr hf54 (frm_mono (Q := PRt) kf114 (fun c j h => by simp [PRf, PRt] at h ⊢ <;> omega))
      show hs_Wd _ _ _ _ _ _ _ _ _ _ _ _ _ _ _ _ _ 117 _ [] σ114
      refine s_vret (pc := 117) C dX3_readText_117 ?_
      refine ⟨rfl, ?_⟩
      exact ⟨g114, f114⟩
  · skip
    refine s_aload_n (pc := 65) C dX3_readText_65 0 rfl ?_
    refine s_geti (q := 15) (ci := 3) (N := 15) (CN := RX3) (T := TX3) (pc := 66) C 13 dX3_readText_66 wlX3_57 rfl rfl rfl wfX3 (by decide) rfl (σ1 15 13) rfl ?_
    have b66 : (0 : Int) ≤ σ1 15 13 ∧ σ1 15 13 ≤ 3 := hg54.1 15 13
    refine s_if_ne (pc := 69) C (tgt := 105) dX3_readText_69 (by decide) ⟨by omega, by omega⟩ (fun h69 => ?_) (fun h69 => ?_)
    · skip
      refine s_aload_n (pc := 105) C dX3_readText_105 0 rfl ?_
      refine s_geti (q := 15) (ci := 3) (N := 15) (CN := RX3) (T := TX3) (pc := 106) C 9 dX3_readText_106 wlX3_51 rfl rfl rfl wfX3 (by decide) rfl (σ1 15 9) rfl ?_
      have b106 : (0 : Int) ≤ σ1 15 9 ∧ σ1 15 9 ≤ 5 := hg54.1 15 9
      refine s_if_le (pc := 109) C (tgt := 117) dX3_readText_109 (by decide) ⟨by omega, by omega⟩ (fun h109 => ?_) (fun h109 => ?_)
      · skip
        refine s_vret (pc := 117) C dX3_readText_117 ?_
        refine ⟨rfl, ?_⟩
        exact ⟨hg54, hf54⟩
      · skip
        refine s_aload_n (pc := 112) C dX3_readText_112 0 rfl ?_
        refine s_iconst (pc := 113) C dX3_readText_113 ?_
        refine s_callVv (pc := 114) C (c_X3_refuse l 1 (by first | omega | assumption | (constructor <;> omega) | (refine ⟨⟨?_, ?_⟩, ?_⟩ <;> omega) | (simp [hs_ss, hs_up]; omega) | (simp [hs_ss, hs_up]; done))) [vI 1] [] rfl rfl dX3_readText_114 wlX3_76 wiX3_refuse weX3_refuse wcX3_refuse wnX3 noX3_refuse (by decide) (by decide) (Nat.le_of_ble_eq_true rfl) ⟨(gx_self hg54), hv54.2.2.1, hv54.2.2.2⟩ rfl rfl ?_
        rintro σ114 k114
        obtain ⟨kg114, kf114, p114_TKs, p114_RD, k114⟩ := k114
        have g114 := gx_trans hg54 kg114
        have f114 := frm_tr hf54 (frm_mono (Q := PRt) kf114 (fun c j h => by simp [PRf, PRt] at h ⊢ <;> omega))
        show hs_Wd _ _ _ _ _ _ _ _ _ _ _ _ _ _ _ _ _ 117 _ [] σ114
        refine s_vret (pc := 117) C dX3_readText_117 ?_
        refine ⟨rfl, ?_⟩
        exact ⟨g114, f114⟩
    · skip
      refine s_aload_n (pc := 72) C dX3_readText_72 0 rfl ?_
      refine s_geti (q := 15) (ci := 3) (N := 15) (CN := RX3) (T := TX3) (pc := 73) C 12 dX3_readText_73 wlX3_66 rfl rfl rfl wfX3 (by decide) rfl (σ1 15 12) rfl ?_
      have b73 : (-2147483648 : Int) ≤ σ1 15 12 ∧ σ1 15 12 ≤ 2147483647 := hg54.1 15 12
      refine s_if_eq (pc := 76) C (tgt := 105) dX3_readText_76 (by decide) ⟨by omega, by omega⟩ (fun h76 => ?_) (fun h76 => ?_)
      · skip
        refine s_aload_n (pc := 105) C dX3_readText_105 0 rfl ?_
        refine s_geti (q := 15) (ci := 3) (N := 15) (CN := RX3) (T := TX3) (pc := 106) C 9 dX3_readText_106 wlX3_51 rfl rfl rfl wfX3 (by decide) rfl (σ1 15 9) rfl ?_
        have b106 : (0 : Int) ≤ σ1 15 9 ∧ σ1 15 9 ≤ 5 := hg54.1 15 9
        refine s_if_le (pc := 109) C (tgt := 117) dX3_readText_109 (by decide) ⟨by omega, by omega⟩ (fun h109 => ?_) (fun h109 => ?_)
        · skip
          refine s_vret (pc := 117) C dX3_readText_117 ?_
          refine ⟨rfl, ?_⟩
          exact ⟨hg54, hf54⟩
        · skip
          refine s_aload_n (pc := 112) C dX3_readText_112 0 rfl ?_
          refine s_iconst (pc := 113) C dX3_readText_113 ?_
          refine s_callVv (pc := 114) C (c_X3_refuse l 1 (by first | omega | assumption | (constructor <;> omega) | (refine ⟨⟨?_, ?_⟩, ?_⟩ <;> omega) | (simp [hs_ss, hs_up]; omega) | (simp [hs_ss, hs_up]; done))) [vI 1] [] rfl rfl dX3_readText_114 wlX3_76 wiX3_refuse weX3_refuse wcX3_refuse wnX3 noX3_refuse (by decide) (by decide) (Nat.le_of_ble_eq_true rfl) ⟨(gx_self hg54), hv54.2.2.1, hv54.2.2.2⟩ rfl rfl ?_
          rintro σ114 k114
          obtain ⟨kg114, kf114, p114_TKs, p114_RD, k114⟩ := k114
          have g114 := gx_trans hg54 kg114
          have f114 := frm_tr hf54 (frm_mono (Q := PRt) kf114 (fun c j h => by simp [PRf, PRt] at h ⊢ <;> omega))
          show hs_Wd _ _ _ _ _ _ _ _ _ _ _ _ _ _ _ _ _ 117 _ [] σ114
          refine s_vret (pc := 117) C dX3_readText_117 ?_
          refine ⟨rfl, ?_⟩
          exact ⟨g114, f114⟩
      · skip
        refine s_aload_n (pc := 79) C dX3_readText_79 0 rfl ?_
        refine s_geti (q := 15) (ci := 3) (N := 15) (CN := RX3) (T := TX3) (pc := 80) C 12 dX3_readText_80 wlX3_66 rfl rfl rfl wfX3 (by decide) rfl (σ1 15 12) rfl ?_
        have b80 : (-2147483648 : Int) ≤ σ1 15 12 ∧ σ1 15 12 ≤ 2147483647 := hg54.1 15 12
        refine s_bipush (pc := 83) C dX3_readText_83 (by decide) ?_
        refine s_icmp_ne (pc := 85) C (tgt := 95) dX3_readText_85 (by decide) ⟨by omega, by omega⟩ ⟨by decide, by decide⟩ (fun h85 => ?_) (fun h85 => ?_)
        · skip
          refine s_aload_n (pc := 95) C dX3_readText_95 0 rfl ?_
          refine s_callVv (pc := 96) C (c_X3_readStatement l) [] [] rfl rfl dX3_readText_96 wlX3_73 wiX3_readStatement weX3_readStatement wcX3_readStatement wnX3 noX3_readStatement (by decide) (by decide) (Nat.le_of_ble_eq_true rfl) ⟨(gx_self hg54), hv54.2.2.1, hv54.2.2.2⟩ rfl rfl ?_
          rintro σ96 k96
          obtain ⟨kg96, kf96, p96_TKs, p96_RD⟩ := k96
          have g96 := gx_trans hg54 kg96
          have f96 := frm_tr hf54 (frm_mono (Q := PRt) kf96 (fun c j h => by simp [PRd, PRt] at h ⊢ <;> omega))
          show hs_Wd _ _ _ _ _ _ _ _ _ _ _ _ _ _ _ _ _ 99 _ [] σ96
          refine s_iinc (pc := 99) C [(3, vI (k + 1)), (0, .ref (ad 15)), (1, .ref (ad 1)), (2, vI n)] dX3_readText_99 3 rfl (by decide) rfl ?_
          refine s_goto (pc := 102) C (tgt := 54) dX3_readText_102 (by decide) ?_
          refine s_sub C [1, 2, 3, 0] [(0, .ref (ad 15)), (1, .ref (ad 1)), (2, vI n), (3, vI (k + 1))] rfl ?_
          have hi54 : GX σ σ96 ∧ FRM PRt σ σ96 ∧ 0 ≤ (k + 1) ∧ (k + 1) ≤ 501 ∧ TKs σ96 ∧ RD σ96 := ⟨g96, f96, ⟨by omega, by omega, p96_TKs, p96_RD⟩⟩
          exact ih54 (k + 1, σ96) (by first | omega | (simp only []; omega)) hi54
        · skip
          refine s_aload_n (pc := 88) C dX3_readText_88 0 rfl ?_
          refine s_callVv (pc := 89) C (c_X3_readClosing l) [] [] rfl rfl dX3_readText_89 wlX3_70 wiX3_readClosing weX3_readClosing wcX3_readClosing wnX3 noX3_readClosing (by decide) (by decide) (Nat.le_of_ble_eq_true rfl) ⟨(gx_self hg54), hv54.2.2.1, hv54.2.2.2⟩ rfl rfl ?_
          rintro σ89 k89
          obtain ⟨kg89, kf89, p89_TKs, p89_RD⟩ := k89
          have g89 := gx_trans hg54 kg89
          have f89 := frm_tr hf54 (frm_mono (Q := PRt) kf89 (fun c j h => by simp [PRc, PRt] at h ⊢ <;> omega))
          show hs_Wd _ _ _ _ _ _ _ _ _ _ _ _ _ _ _ _ _ 92 _ [] σ89
          refine s_goto (pc := 92) C (tgt := 99) dX3_readText_92 (by decide) ?_
          refine s_iinc (pc := 99) C [(3, vI (k + 1)), (0, .ref (ad 15)), (1, .ref (ad 1)), (2, vI n)] dX3_readText_99 3 rfl (by decide) rfl ?_
          refine s_goto (pc := 102) C (tgt := 54) dX3_readText_102 (by decide) ?_
          refine s_sub C [1, 2, 3, 0] [(0, .ref (ad 15)), (1, .ref (ad 1)), (2, vI n), (3, vI (k + 1))] rfl ?_
          have hi54 : GX σ σ89 ∧ FRM PRt σ σ89 ∧ 0 ≤ (k + 1) ∧ (k + 1) ≤ 501 ∧ TKs σ89 ∧ RD σ89 := ⟨g89, f89, ⟨by omega, by omega, p89_TKs, p89_RD⟩⟩
          exact ih54 (k + 1, σ89) (by first | omega | (simp only []; omega)) hi54
