set_option maxHeartbeats 4000000 in
set_option maxRecDepth 100000 in
theorem c_X8_wrap (l : Launch) (t : Nat) (ht : hs_T t) (x : Int) (hx : hs_R x) : hs_Met l yX8_wrap cX8_wrap 2 (some .int) 2 SHX (fun ad => [.ref (ad t), vI x]) (fun σ => GX σ σ) (hs_PI (fun σ z σ1 => σ = σ1 ∧ 0 ≤ z ∧ z ≤ 99 ∧ z < σ t 3 ∧ z = x % (σ t 3))) := by
  refine hs_from pfX8_wrap (fun _ => Nat.le_of_ble_eq_true rfl) ?_
  intro p e s m args below meth c D dA ad A σ C hpre
  have C : hs_C p s m args meth c D dA SHX ad A 2 cX8_wrap RX8 (some .int) := C
  have g0 := hpre
  show hs_Wd p l e 2 s m args below meth c D dA SHX ad A 2 (hs_PI (fun σ z σ1 => σ = σ1 ∧ 0 ≤ z ∧ z ≤ 99 ∧ z < σ t 3 ∧ z = x % (σ t 3)) σ) 0 [(0, .ref (ad t)), (1, vI x)] [] σ
  refine s_iload_n (pc := 0) C dX8_wrap_0 1 rfl ?_
  refine s_iconst (pc := 1) C dX8_wrap_1 ?_
  refine s_aload_n (pc := 2) C dX8_wrap_2 0 rfl ?_
  refine s_geti (q := t) (ci := 8) (N := 7) (CN := RX8) (T := TX8) (pc := 3) C 3 dX8_wrap_3 wlX8_21 (sh_T ht) rfl rfl wfX8 (by decide) rfl (σ t 3) rfl ?_
  have b3 : (10 : Int) ≤ σ t 3 ∧ σ t 3 ≤ 100 := gx_t g0 ht 3
  refine s_callSi (pc := 6) C (c_J9_max_7cf53 l 1 (σ t 3) ⟨by omega, by omega⟩ ⟨by omega, by omega⟩) [vI 1, vI (σ t 3)] [vI x] rfl rfl dX8_wrap_6 wlX8_31 wtJ9_max_7cf53 wcJ9_max_7cf53 wnJ9 noJ9_max_7cf53 (by decide) (by decide) (Nat.le_of_ble_eq_true rfl) (by first | omega | assumption | (constructor <;> omega) | (refine ⟨⟨?_, ?_⟩, ?_⟩ <;> omega) | (simp [hs_ss, hs_up]; omega) | (simp [hs_ss, hs_up]; done)) ?_
  rintro _ _ ⟨rfl, rfl⟩
  rw [show max 1 (σ t 3) = σ t 3 by omega]
  show hs_Wd _ _ _ _ _ _ _ _ _ _ _ _ _ _ _ _ _ 9 _ [vI (σ t 3), vI x] σ
  refine s_callSi (pc := 9) C (c_J9_floorMod_7cf53 l x (σ t 3) ⟨by omega, by omega⟩ ⟨by omega, by omega⟩ (by first | omega | assumption | (constructor <;> omega) | (refine ⟨⟨?_, ?_⟩, ?_⟩ <;> omega) | (simp [hs_ss, hs_up]; omega) | (simp [hs_ss, hs_up]; done))) [vI x, vI (σ t 3)] [] rfl rfl dX8_wrap_9 wlX8_37 wtJ9_floorMod_7cf53 wcJ9_floorMod_7cf53 wnJ9 noJ9_floorMod_7cf53 (by decide) (by decide) (Nat.le_of_ble_eq_true rfl) (by first | omega | assumption | (constructor <;> omega) | (refine ⟨⟨?_, ?_⟩, ?_⟩ <;> omega) | (simp [hs_ss, hs_up]; omega) | (simp [hs_ss, hs_up]; done)) ?_
  rintro _ _ ⟨rfl, rfl⟩
  show hs_Wd _ _ _ _ _ _ _ _ _ _ _ _ _ _ _ _ _ 12 _ [vI (x % ((σ t 3)))] σ
  refine s_iret (pc := 12) C dX8_wrap_12 ?_
  refine ⟨_, rfl, ?_⟩
  have h1 := Int.emod_nonneg x (show σ t 3 ≠ 0 by omega)
  have h2 := Int.emod_lt_of_pos x (show 0 < σ t 3 by omega)
  exact ⟨rfl, h1, by omega, h2, rfl⟩
set_option maxHeartbeats 4000000 in
set_option maxRecDepth 100000 in
theorem c_X8_far (l : Launch) (t : Nat) (ht : hs_T t) (a b : Int) (ha : -1000 ≤ a ∧ a ≤ 1000) (hb : -1000 ≤ b ∧ b ≤ 1000) : hs_Met l yX8_far cX8_far 4 (some .int) 1 SHX (fun ad => [.ref (ad t), vI a, vI b]) (fun σ => GX σ σ) (hs_PI (fun σ z σ1 => σ = σ1 ∧ -4000 ≤ z ∧ z ≤ 4000 ∧ (-1 ≤ a → a ≤ 99 → -1 ≤ b → b ≤ 99 → -110 ≤ z ∧ z ≤ 110))) := by
  refine hs_from pfX8_far (fun _ => Nat.le_of_ble_eq_true rfl) ?_
  intro p e s m args below meth c D dA ad A σ C hpre
  have C : hs_C p s m args meth c D dA SHX ad A 4 cX8_far RX8 (some .int) := C
  have g0 := hpre
  show hs_Wd p l e 1 s m args below meth c D dA SHX ad A 4 (hs_PI (fun σ z σ1 => σ = σ1 ∧ -4000 ≤ z ∧ z ≤ 4000 ∧ (-1 ≤ a → a ≤ 99 → -1 ≤ b → b ≤ 99 → -110 ≤ z ∧ z ≤ 110)) σ) 0 [(0, .ref (ad t)), (1, vI a), (2, vI b)] [] σ
  refine s_iload_n (pc := 0) C dX8_far_0 1 rfl ?_
  refine s_iload_n (pc := 1) C dX8_far_1 2 rfl ?_
  refine s_icmp_ge (pc := 2) C (tgt := 11) dX8_far_2 (by decide) ⟨by omega, by omega⟩ ⟨by omega, by omega⟩ (fun h2 => ?_) (fun h2 => ?_)
  · skip
    refine s_iload_n (pc := 11) C dX8_far_11 1 rfl ?_
    refine s_iload_n (pc := 12) C dX8_far_12 2 rfl ?_
    refine s_isub (pc := 13) C dX8_far_13 ?_
    refine s_istore_n (pc := 14) C [(3, vI (a - b)), (0, .ref (ad t)), (1, vI a), (2, vI b)] dX8_far_14 (by decide) rfl ?_
    refine s_iconst (pc := 15) C dX8_far_15 ?_
    refine s_iload_n (pc := 16) C dX8_far_16 0 rfl ?_
    refine s_imul (pc := 17) C dX8_far_17 ?_
    refine s_aload_n (pc := 18) C dX8_far_18 1 rfl ?_
    refine s_geti (q := t) (ci := 8) (N := 7) (CN := RX8) (T := TX8) (pc := 19) C 3 dX8_far_19 wlX8_21 (sh_T ht) rfl rfl wfX8 (by decide) rfl (σ t 3) rfl ?_
    have b19 : (10 : Int) ≤ σ t 3 ∧ σ t 3 ≤ 100 := gx_t g0 ht 3
    refine s_icmp_le (pc := 22) C (tgt := 34) dX8_far_22 (by decide) ⟨by omega, by omega⟩ ⟨by omega, by omega⟩ (fun h22 => ?_) (fun h22 => ?_)
    · skip
      refine s_iload_n (pc := 34) C dX8_far_34 0 rfl ?_
      refine s_iret (pc := 35) C dX8_far_35 ?_
      refine ⟨_, rfl, ?_⟩
      exact ⟨rfl, by first | omega | assumption | (constructor <;> omega) | (refine ⟨⟨?_, ?_⟩, ?_⟩ <;> omega) | (simp [hs_ss, hs_up]; omega) | (simp [hs_ss, hs_up]; done)⟩
    · skip
      refine s_aload_n (pc := 25) C dX8_far_25 1 rfl ?_
      refine s_geti (q := t) (ci := 8) (N := 7) (CN := RX8) (T := TX8) (pc := 26) C 3 dX8_far_26 wlX8_21 (sh_T ht) rfl rfl wfX8 (by decide) rfl (σ t 3) rfl ?_
      have b26 : (10 : Int) ≤ σ t 3 ∧ σ t 3 ≤ 100 := gx_t g0 ht 3
      refine s_iload_n (pc := 29) C dX8_far_29 0 rfl ?_
      refine s_isub (pc := 30) C dX8_far_30 ?_
      refine s_goto (pc := 31) C (tgt := 35) dX8_far_31 (by decide) ?_
      refine s_iret (pc := 35) C dX8_far_35 ?_
      refine ⟨_, rfl, ?_⟩
      exact ⟨rfl, by first | omega | assumption | (constructor <;> omega) | (refine ⟨⟨?_, ?_⟩, ?_⟩ <;> omega) | (simp [hs_ss, hs_up]; omega) | (simp [hs_ss, hs_up]; done)⟩
  · skip
    refine s_iload_n (pc := 5) C dX8_far_5 2 rfl ?_
    refine s_iload_n (pc := 6) C dX8_far_6 1 rfl ?_
    refine s_isub (pc := 7) C dX8_far_7 ?_
    refine s_goto (pc := 8) C (tgt := 14) dX8_far_8 (by decide) ?_
    refine s_istore_n (pc := 14) C [(3, vI (b - a)), (0, .ref (ad t)), (1, vI a), (2, vI b)] dX8_far_14 (by decide) rfl ?_
    refine s_iconst (pc := 15) C dX8_far_15 ?_
    refine s_iload_n (pc := 16) C dX8_far_16 0 rfl ?_
    refine s_imul (pc := 17) C dX8_far_17 ?_
    refine s_aload_n (pc := 18) C dX8_far_18 1 rfl ?_
    refine s_geti (q := t) (ci := 8) (N := 7) (CN := RX8) (T := TX8) (pc := 19) C 3 dX8_far_19 wlX8_21 (sh_T ht) rfl rfl wfX8 (by decide) rfl (σ t 3) rfl ?_
    have b19 : (10 : Int) ≤ σ t 3 ∧ σ t 3 ≤ 100 := gx_t g0 ht 3
    refine s_icmp_le (pc := 22) C (tgt := 34) dX8_far_22 (by decide) ⟨by omega, by omega⟩ ⟨by omega, by omega⟩ (fun h22 => ?_) (fun h22 => ?_)
    · skip
      refine s_iload_n (pc := 34) C dX8_far_34 0 rfl ?_
      refine s_iret (pc := 35) C dX8_far_35 ?_
      refine ⟨_, rfl, ?_⟩
      exact ⟨rfl, by first | omega | assumption | (constructor <;> omega) | (refine ⟨⟨?_, ?_⟩, ?_⟩ <;> omega) | (simp [hs_ss, hs_up]; omega) | (simp [hs_ss, hs_up]; done)⟩
    · skip
      refine s_aload_n (pc := 25) C dX8_far_25 1 rfl ?_
      refine s_geti (q := t) (ci := 8) (N := 7) (CN := RX8) (T := TX8) (pc := 26) C 3 dX8_far_26 wlX8_21 (sh_T ht) rfl rfl wfX8 (by decide) rfl (σ t 3) rfl ?_
      have b26 : (10 : Int) ≤ σ t 3 ∧ σ t 3 ≤ 100 := gx_t g0 ht 3
      refine s_iload_n (pc := 29) C dX8_far_29 0 rfl ?_
      refine s_isub (pc := 30) C dX8_far_30 ?_
      refine s_goto (pc := 31) C (tgt := 35) dX8_far_31 (by decide) ?_
      refine s_iret (pc := 35) C dX8_far_35 ?_
      refine ⟨_, rfl, ?_⟩
      exact ⟨rfl, by first | omega | assumption | (constructor <;> omega) | (refine ⟨⟨?_, ?_⟩, ?_⟩ <;> omega) | (simp [hs_ss, hs_up]; omega) | (simp [hs_ss, hs_up]; done)⟩
set_option maxHeartbeats 4000000 in
set_option maxRecDepth 100000 in
theorem c_X8_play (l : Launch) (t : Nat) (ht : hs_T t) (w b : Int) (hw : 0 ≤ w ∧ w < 4) (hb : b = 0 ∨ b = 1) : hs_Met l yX8_play cX8_play 3 (some .int) 1 SHX (fun ad => [.ref (ad t), vI w, vI b]) (fun σ => GX σ σ) (hs_PI (fun σ z σ1 => σ = σ1 ∧ 0 ≤ z ∧ z ≤ 99 ∧ (b = 0 → z = σ (t + 2) w.toNat) ∧ (b = 1 → z = σ (t + 1) w.toNat - σ (t + 2) w.toNat))) := by
  refine hs_from pfX8_play (fun _ => Nat.le_of_ble_eq_true rfl) ?_
  intro p e s m args below meth c D dA ad A σ C hpre
  have C : hs_C p s m args meth c D dA SHX ad A 3 cX8_play RX8 (some .int) := C
  have g0 := hpre
  have hl := gx_lag g0 ht (show w.toNat < 4 by omega)
  show hs_Wd p l e 1 s m args below meth c D dA SHX ad A 3 (hs_PI (fun σ z σ1 => σ = σ1 ∧ 0 ≤ z ∧ z ≤ 99 ∧ (b = 0 → z = σ (t + 2) w.toNat) ∧ (b = 1 → z = σ (t + 1) w.toNat - σ (t + 2) w.toNat)) σ) 0 [(0, .ref (ad t)), (1, vI w), (2, vI b)] [] σ
  refine s_iload_n (pc := 0) C dX8_play_0 2 rfl ?_
  refine s_if_eq (pc := 1) C (tgt := 20) dX8_play_1 (by decide) ⟨by omega, by omega⟩ (fun h1 => ?_) (fun h1 => ?_)
  · skip
    refine s_aload_n (pc := 20) C dX8_play_20 0 rfl ?_
    refine s_getr (q := t) (ci := 8) (N := 7) (CN := RX8) (T := TX8) (pc := 21) C 1 dX8_play_21 wlX8_15 (sh_T ht) rfl rfl wfX8 (by decide) rfl ?_
    refine s_iload_n (pc := 24) C dX8_play_24 1 rfl ?_
    refine s_iald (q := (t + 2)) (n := 4) (pc := 25) C (σ (t + 2) w.toNat) rfl dX8_play_25 (sh_T2 ht) (by omega) (by omega) (by decide) ?_
    have b25 : (0 : Int) ≤ σ (t + 2) w.toNat ∧ σ (t + 2) w.toNat ≤ 99 := gx_t2 g0 ht w.toNat
    refine s_iret (pc := 26) C dX8_play_26 ?_
    refine ⟨_, rfl, ?_⟩
    exact ⟨rfl, by first | omega | assumption | (constructor <;> omega) | (refine ⟨⟨?_, ?_⟩, ?_⟩ <;> omega) | (simp [hs_ss, hs_up]; omega) | (simp [hs_ss, hs_up]; done)⟩
  · skip
    refine s_aload_n (pc := 4) C dX8_play_4 0 rfl ?_
    refine s_getr (q := t) (ci := 8) (N := 7) (CN := RX8) (T := TX8) (pc := 5) C 0 dX8_play_5 wlX8_9 (sh_T ht) rfl rfl wfX8 (by decide) rfl ?_
    refine s_iload_n (pc := 8) C dX8_play_8 1 rfl ?_
    refine s_iald (q := (t + 1)) (n := 4) (pc := 9) C (σ (t + 1) w.toNat) rfl dX8_play_9 (sh_T1 ht) (by omega) (by omega) (by decide) ?_
    have b9 : (0 : Int) ≤ σ (t + 1) w.toNat ∧ σ (t + 1) w.toNat ≤ 99 := gx_t1 g0 ht w.toNat
    refine s_aload_n (pc := 10) C dX8_play_10 0 rfl ?_
    refine s_getr (q := t) (ci := 8) (N := 7) (CN := RX8) (T := TX8) (pc := 11) C 1 dX8_play_11 wlX8_15 (sh_T ht) rfl rfl wfX8 (by decide) rfl ?_
    refine s_iload_n (pc := 14) C dX8_play_14 1 rfl ?_
    refine s_iald (q := (t + 2)) (n := 4) (pc := 15) C (σ (t + 2) w.toNat) rfl dX8_play_15 (sh_T2 ht) (by omega) (by omega) (by decide) ?_
    have b15 : (0 : Int) ≤ σ (t + 2) w.toNat ∧ σ (t + 2) w.toNat ≤ 99 := gx_t2 g0 ht w.toNat
    refine s_isub (pc := 16) C dX8_play_16 ?_
    refine s_goto (pc := 17) C (tgt := 26) dX8_play_17 (by decide) ?_
    refine s_iret (pc := 26) C dX8_play_26 ?_
    refine ⟨_, rfl, ?_⟩
    exact ⟨rfl, by first | omega | assumption | (constructor <;> omega) | (refine ⟨⟨?_, ?_⟩, ?_⟩ <;> omega) | (simp [hs_ss, hs_up]; omega) | (simp [hs_ss, hs_up]; done)⟩
set_option maxHeartbeats 4000000 in
set_option maxRecDepth 100000 in
theorem c_X8_spin (l : Launch) (t : Nat) (ht : hs_T t) (n b : Int) (hn : -1000 ≤ n ∧ n ≤ 1000000) (hb : b = 0 ∨ b = 1) : hs_Met l yX8_spin cX8_spin 6 none 4 SHX (fun ad => [.ref (ad t), vI n, vI b]) (fun σ => GX σ σ) (hs_PV (fun σ σ1 => GX σ σ1 ∧ FRM (PSp t) σ σ1 ∧ (1 ≤ n → σ1 t 5 = (if b = 0 then σ t 5 - n else σ t 5 + n) % (σ t 3)) ∧ (n < 1 → σ1 = σ))) := by
  refine hs_from pfX8_spin (fun _ => Nat.le_of_ble_eq_true rfl) ?_
  intro p e s m args below meth c D dA ad A σ C hpre
  have C : hs_C p s m args meth c D dA SHX ad A 6 cX8_spin RX8 none := C
  have g0 := hpre
  have f0 : FRM (PSp t) σ σ := frm_rf
  show hs_Wd p l e 4 s m args below meth c D dA SHX ad A 6 (hs_PV (fun σ σ1 => GX σ σ1 ∧ FRM (PSp t) σ σ1 ∧ (1 ≤ n → σ1 t 5 = (if b = 0 then σ t 5 - n else σ t 5 + n) % (σ t 3)) ∧ (n < 1 → σ1 = σ)) σ) 0 [(0, .ref (ad t)), (1, vI n), (2, vI b)] [] σ
  refine s_iload_n (pc := 0) C dX8_spin_0 1 rfl ?_
  refine s_iconst (pc := 1) C dX8_spin_1 ?_
  refine s_icmp_ge (pc := 2) C (tgt := 6) dX8_spin_2 (by decide) ⟨by omega, by omega⟩ ⟨by decide, by decide⟩ (fun h2 => ?_) (fun h2 => ?_)
  · skip
    refine s_aload_n (pc := 6) C dX8_spin_6 0 rfl ?_
    refine s_iload_n (pc := 7) C dX8_spin_7 2 rfl ?_
    refine s_puti (q := t) (ci := 8) (N := 7) (CN := RX8) (T := TX8) (ty0 := tyX8) (ty := .boolean) (pc := 8) C 6 dX8_spin_8 wlX8_40 (sh_T ht) rfl rfl wfX8 tyX8_ok nmX8 (by decide) rfl rfl rfl (hs_nz (by omega)) (hs_fz (by omega)) ?_
    have g8 := gx_sett (z := b) g0 ht 6 (0) (1) rfl ⟨by omega, by omega⟩ rfl
    have f8 := frm_set (P := (PSp t)) (z := b) f0 t 6 (by simp [PSp] <;> omega)
    refine s_aload_n (pc := 11) C dX8_spin_11 0 rfl ?_
    refine s_aload_n (pc := 12) C dX8_spin_12 0 rfl ?_
    refine s_iload_n (pc := 13) C dX8_spin_13 2 rfl ?_
    refine s_if_eq (pc := 14) C (tgt := 26) dX8_spin_14 (by decide) ⟨by omega, by omega⟩ (fun h14 => ?_) (fun h14 => ?_)
    · skip
      refine s_aload_n (pc := 26) C dX8_spin_26 0 rfl ?_
      refine s_geti (q := t) (ci := 8) (N := 7) (CN := RX8) (T := TX8) (pc := 27) C 5 dX8_spin_27 wlX8_28 (sh_T ht) rfl rfl wfX8 (by decide) rfl (σ t 5) (by simp [hs_ss, hs_up]) ?_
      have b27 : (0 : Int) ≤ σ t 5 ∧ σ t 5 ≤ 99 := by have h := gx_t g8 ht 5; rw [show (hs_ss σ t 6 b) t 5 = σ t 5 from by simp [hs_ss, hs_up]] at h; exact h
      refine s_iload_n (pc := 30) C dX8_spin_30 1 rfl ?_
      refine s_isub (pc := 31) C dX8_spin_31 ?_
      refine s_callVi (pc := 32) C (c_X8_wrap l t ht ((σ t 5) - n) ⟨by omega, by omega⟩) [vI ((σ t 5) - n)] [.ref (ad t)] rfl rfl dX8_spin_32 wlX8_44 wiX8_wrap weX8_wrap wcX8_wrap wnX8 noX8_wrap (by decide) (by decide) (Nat.le_of_ble_eq_true rfl) (gx_self g8) (sh_T ht) rfl ?_
      rintro z32 _ ⟨rfl, k32⟩
      show hs_Wd _ _ _ _ _ _ _ _ _ _ _ _ _ _ _ _ _ 35 _ [vI z32, .ref (ad t)] (hs_ss σ t 6 b)
      refine s_puti (q := t) (ci := 8) (N := 7) (CN := RX8) (T := TX8) (ty0 := tyX8) (ty := .int) (pc := 35) C 5 dX8_spin_35 wlX8_28 (sh_T ht) rfl rfl wfX8 tyX8_ok nmX8 (by decide) rfl rfl rfl (vp_nar_int _) rfl ?_
      have g35 := gx_sett (z := z32) g8 ht 5 (0) (99) rfl ⟨by omega, by omega⟩ rfl
      have f35 := frm_set (P := (PSp t)) (z := z32) f8 t 5 (by simp [PSp] <;> omega)
      refine s_iload_n (pc := 38) C dX8_spin_38 1 rfl ?_
      refine s_istore_n (pc := 39) C [(3, vI n), (0, .ref (ad t)), (1, vI n), (2, vI b)] dX8_spin_39 (by decide) rfl ?_
      refine s_iconst (pc := 40) C dX8_spin_40 ?_
      refine s_istore (pc := 41) C [(4, vI 0), (3, vI n), (0, .ref (ad t)), (1, vI n), (2, vI b)] dX8_spin_41 (by decide) rfl ?_
      refine s_sub C [2, 3, 4, 1, 0] [(0, .ref (ad t)), (1, vI n), (2, vI b), (3, vI n), (4, vI 0)] rfl ?_
      have hi43 : GX σ ((hs_ss (hs_ss σ t 6 b) t 5 z32)) ∧ FRM (PSp t) σ ((hs_ss (hs_ss σ t 6 b) t 5 z32)) ∧ 0 ≤ (0 : Int) ∧ (0 : Int) ≤ 4 ∧ 0 ≤ n ∧ n ≤ n ∧ ((hs_ss (hs_ss σ t 6 b) t 5 z32)) t 5 = (if b = 0 then σ t 5 - n else σ t 5 + n) % (σ t 3) := ⟨g35, f35, ⟨by omega, by omega, by omega, by omega, by rw [hs_ss_at, k32.2.2.2, hs_ss_j (by decide)]; split <;> first | rfl | (exfalso; omega)⟩⟩
      refine hs_loop (α := Int × Int × hs_S) (fun x_ => (GX σ x_.2.2 ∧ FRM (PSp t) σ x_.2.2 ∧ 0 ≤ x_.1 ∧ x_.1 ≤ 4 ∧ 0 ≤ x_.2.1 ∧ x_.2.1 ≤ n ∧ x_.2.2 t 5 = (if b = 0 then σ t 5 - n else σ t 5 + n) % (σ t 3)) → hs_Wd p l e 4 s m args below meth c D dA SHX ad A 6 (hs_PV (fun σ σ1 => GX σ σ1 ∧ FRM (PSp t) σ σ1 ∧ (1 ≤ n → σ1 t 5 = (if b = 0 then σ t 5 - n else σ t 5 + n) % (σ t 3)) ∧ (n < 1 → σ1 = σ)) σ) 43 [(0, .ref (ad t)), (1, vI n), (2, vI b), (3, vI x_.2.1), (4, vI x_.1)] [] x_.2.2) (fun x_ => (4 - x_.1).toNat) ?_ (0, n, (hs_ss (hs_ss σ t 6 b) t 5 z32)) hi43
      rintro ⟨w, mv, σ1⟩ ih43 hinv
      replace hinv : GX σ σ1 ∧ FRM (PSp t) σ σ1 ∧ 0 ≤ w ∧ w ≤ 4 ∧ 0 ≤ mv ∧ mv ≤ n ∧ σ1 t 5 = (if b = 0 then σ t 5 - n else σ t 5 + n) % (σ t 3) := hinv
      obtain ⟨hg43, hf43, hv43⟩ := hinv
      show hs_Wd p l e 4 s m args below meth c D dA SHX ad A 6 (hs_PV (fun σ σ1 => GX σ σ1 ∧ FRM (PSp t) σ σ1 ∧ (1 ≤ n → σ1 t 5 = (if b = 0 then σ t 5 - n else σ t 5 + n) % (σ t 3)) ∧ (n < 1 → σ1 = σ)) σ) 43 [(0, .ref (ad t)), (1, vI n), (2, vI b), (3, vI mv), (4, vI w)] [] σ1
      obtain ⟨hw0, hw4, hm0, hm1, h5⟩ := hv43
      refine s_iload (pc := 43) C dX8_spin_43 4 rfl ?_
      refine s_aload_n (pc := 45) C dX8_spin_45 0 rfl ?_
      refine s_geti (q := t) (ci := 8) (N := 7) (CN := RX8) (T := TX8) (pc := 46) C 4 dX8_spin_46 wlX8_25 (sh_T ht) rfl rfl wfX8 (by decide) rfl (σ1 t 4) rfl ?_
      have b46 : (0 : Int) ≤ σ1 t 4 ∧ σ1 t 4 ≤ 4 := gx_t hg43 ht 4
      refine s_icmp_ge (pc := 49) C (tgt := 134) dX8_spin_49 (by decide) ⟨by omega, by omega⟩ ⟨by omega, by omega⟩ (fun h49 => ?_) (fun h49 => ?_)
      · skip
        refine s_vret (pc := 134) C dX8_spin_134 ?_
        refine ⟨rfl, ?_⟩
        exact ⟨hg43, hf43, ⟨fun _ => h5, fun q => absurd q (by omega)⟩⟩
      · skip
        have hl := gx_lag hg43 ht (show w.toNat < 4 by omega)
        refine s_iload_n (pc := 52) C dX8_spin_52 3 rfl ?_
        refine s_aload_n (pc := 53) C dX8_spin_53 0 rfl ?_
        refine s_iload (pc := 54) C dX8_spin_54 4 rfl ?_
        refine s_iload_n (pc := 56) C dX8_spin_56 2 rfl ?_
        refine s_callVi (pc := 57) C (c_X8_play l t ht w b (by first | omega | assumption | (constructor <;> omega) | (refine ⟨⟨?_, ?_⟩, ?_⟩ <;> omega) | (simp [hs_ss, hs_up]; omega) | (simp [hs_ss, hs_up]; done)) (by first | omega | assumption | (constructor <;> omega) | (refine ⟨⟨?_, ?_⟩, ?_⟩ <;> omega) | (simp [hs_ss, hs_up]; omega) | (simp [hs_ss, hs_up]; done))) [vI w, vI b] [vI mv] rfl rfl dX8_spin_57 wlX8_48 wiX8_play weX8_play wcX8_play wnX8 noX8_play (by decide) (by decide) (Nat.le_of_ble_eq_true rfl) (gx_self hg43) (sh_T ht) rfl ?_
        rintro z57 _ ⟨rfl, k57⟩
        show hs_Wd _ _ _ _ _ _ _ _ _ _ _ _ _ _ _ _ _ 60 _ [vI z57, vI mv] σ1
        refine s_callSi (pc := 60) C (c_J9_min_7cf53 l mv z57 ⟨by omega, by omega⟩ ⟨by omega, by omega⟩) [vI mv, vI z57] [] rfl rfl dX8_spin_60 wlX8_52 wtJ9_min_7cf53 wcJ9_min_7cf53 wnJ9 noJ9_min_7cf53 (by decide) (by decide) (Nat.le_of_ble_eq_true rfl) (by first | omega | assumption | (constructor <;> omega) | (refine ⟨⟨?_, ?_⟩, ?_⟩ <;> omega) | (simp [hs_ss, hs_up]; omega) | (simp [hs_ss, hs_up]; done)) ?_
        rintro _ _ ⟨rfl, rfl⟩
        show hs_Wd _ _ _ _ _ _ _ _ _ _ _ _ _ _ _ _ _ 63 _ [vI (min mv z57)] σ1
        refine s_istore (pc := 63) C [(5, vI (min mv z57)), (0, .ref (ad t)), (1, vI n), (2, vI b), (3, vI mv), (4, vI w)] dX8_spin_63 (by decide) rfl ?_
        refine s_iload_n (pc := 65) C dX8_spin_65 4 rfl ?_
        refine s_iload (pc := 66) C dX8_spin_66 0 rfl ?_
        refine s_isub (pc := 68) C dX8_spin_68 ?_
        refine s_istore_n (pc := 69) C [(3, vI (mv - (min mv z57))), (5, vI (min mv z57)), (0, .ref (ad t)), (1, vI n), (2, vI b), (4, vI w)] dX8_spin_69 (by decide) rfl ?_
        refine s_aload_n (pc := 70) C dX8_spin_70 2 rfl ?_
        refine s_getr (q := t) (ci := 8) (N := 7) (CN := RX8) (T := TX8) (pc := 71) C 1 dX8_spin_71 wlX8_15 (sh_T ht) rfl rfl wfX8 (by decide) rfl ?_
        refine s_iload (pc := 74) C dX8_spin_74 5 rfl ?_
        refine s_dup2 (pc := 76) C dX8_spin_76 rfl rfl ?_
        refine s_iald (q := (t + 2)) (n := 4) (pc := 77) C (σ1 (t + 2) w.toNat) rfl dX8_spin_77 (sh_T2 ht) (by omega) (by omega) (by decide) ?_
        have b77 : (0 : Int) ≤ σ1 (t + 2) w.toNat ∧ σ1 (t + 2) w.toNat ≤ 99 := gx_t2 hg43 ht w.toNat
        refine s_iload_n (pc := 78) C dX8_spin_78 4 rfl ?_
        refine s_if_eq (pc := 79) C (tgt := 87) dX8_spin_79 (by decide) ⟨by omega, by omega⟩ (fun h79 => ?_) (fun h79 => ?_)
        · skip
          refine s_iload (pc := 87) C dX8_spin_87 1 rfl ?_
          refine s_ineg (pc := 89) C dX8_spin_89 ?_
          refine s_iadd (pc := 90) C dX8_spin_90 ?_
          refine s_iast (q := (t + 2)) (n := 4) (pc := 91) C dX8_spin_91 (sh_T2 ht) (by omega) (by omega) (by decide) ?_
          have g91 := gx_setlag (z := ((σ1 (t + 2) w.toNat) + (-(min mv z57)))) hg43 ht (show w.toNat < 4 by omega) ⟨by omega, by omega⟩
          have f91 := frm_set (P := (PSp t)) (z := ((σ1 (t + 2) w.toNat) + (-(min mv z57)))) hf43 (t + 2) w.toNat (by simp [PSp] <;> omega)
          refine s_aload_n (pc := 92) C dX8_spin_92 2 rfl ?_
          refine s_getr (q := t) (ci := 8) (N := 7) (CN := RX8) (T := TX8) (pc := 93) C 2 dX8_spin_93 wlX8_18 (sh_T ht) rfl rfl wfX8 (by decide) rfl ?_
          refine s_iload (pc := 96) C dX8_spin_96 5 rfl ?_
          refine s_aload_n (pc := 98) C dX8_spin_98 2 rfl ?_
          refine s_iload_n (pc := 99) C dX8_spin_99 4 rfl ?_
          refine s_if_eq (pc := 100) C (tgt := 115) dX8_spin_100 (by decide) ⟨by omega, by omega⟩ (fun h100 => ?_) (fun h100 => ?_)
          · skip
            refine s_aload_n (pc := 115) C dX8_spin_115 2 rfl ?_
            refine s_getr (q := t) (ci := 8) (N := 7) (CN := RX8) (T := TX8) (pc := 116) C 2 dX8_spin_116 wlX8_18 (sh_T ht) rfl rfl wfX8 (by decide) rfl ?_
            refine s_iload (pc := 119) C dX8_spin_119 5 rfl ?_
            refine s_iald (q := (t + 3)) (n := 4) (pc := 121) C ((hs_ss σ1 (t + 2) w.toNat ((σ1 (t + 2) w.toNat) + (-(min mv z57)))) (t + 3) w.toNat) rfl dX8_spin_121 (sh_T3 ht) (by omega) (by omega) (by decide) ?_
            have b121 : (0 : Int) ≤ (hs_ss σ1 (t + 2) w.toNat ((σ1 (t + 2) w.toNat) + (-(min mv z57)))) (t + 3) w.toNat ∧ (hs_ss σ1 (t + 2) w.toNat ((σ1 (t + 2) w.toNat) + (-(min mv z57)))) (t + 3) w.toNat ≤ 99 := gx_t3 g91 ht w.toNat
            refine s_iload_n (pc := 122) C dX8_spin_122 0 rfl ?_
            refine s_isub (pc := 123) C dX8_spin_123 ?_
            refine s_callVi (pc := 124) C (c_X8_wrap l t ht (((hs_ss σ1 (t + 2) w.toNat ((σ1 (t + 2) w.toNat) + (-(min mv z57)))) (t + 3) w.toNat) - (mv - (min mv z57))) ⟨by omega, by omega⟩) [vI (((hs_ss σ1 (t + 2) w.toNat ((σ1 (t + 2) w.toNat) + (-(min mv z57)))) (t + 3) w.toNat) - (mv - (min mv z57)))] [vI w, .ref (ad (t + 3))] rfl rfl dX8_spin_124 wlX8_44 wiX8_wrap weX8_wrap wcX8_wrap wnX8 noX8_wrap (by decide) (by decide) (Nat.le_of_ble_eq_true rfl) (gx_self g91) (sh_T ht) rfl ?_
            rintro z124 _ ⟨rfl, k124⟩
            show hs_Wd _ _ _ _ _ _ _ _ _ _ _ _ _ _ _ _ _ 127 _ [vI z124, vI w, .ref (ad (t + 3))] (hs_ss σ1 (t + 2) w.toNat ((σ1 (t + 2) w.toNat) + (-(min mv z57))))
            refine s_iast (q := (t + 3)) (n := 4) (pc := 127) C dX8_spin_127 (sh_T3 ht) (by omega) (by omega) (by decide) ?_
            have g127 := gx_sett3 (z := z124) g91 ht w.toNat (0) (99) rfl ⟨by omega, by omega⟩
            have f127 := frm_set (P := (PSp t)) (z := z124) f91 (t + 3) w.toNat (by simp [PSp] <;> omega)
            refine s_iinc (pc := 128) C [(4, vI (w + 1)), (3, vI (mv - (min mv z57))), (5, vI (min mv z57)), (0, .ref (ad t)), (1, vI n), (2, vI b)] dX8_spin_128 5 rfl (by decide) rfl ?_
            refine s_goto (pc := 131) C (tgt := 43) dX8_spin_131 (by decide) ?_
            refine s_sub C [3, 4, 5, 1, 0] [(0, .ref (ad t)), (1, vI n), (2, vI b), (3, vI (mv - (min mv z57))), (4, vI (w + 1))] rfl ?_
            have hi43 : GX σ ((hs_ss (hs_ss σ1 (t + 2) w.toNat ((σ1 (t + 2) w.toNat) + (-(min mv z57)))) (t + 3) w.toNat z124)) ∧ FRM (PSp t) σ ((hs_ss (hs_ss σ1 (t + 2) w.toNat ((σ1 (t + 2) w.toNat) + (-(min mv z57)))) (t + 3) w.toNat z124)) ∧ 0 ≤ (w + 1) ∧ (w + 1) ≤ 4 ∧ 0 ≤ (mv - (min mv z57)) ∧ (mv - (min mv z57)) ≤ n ∧ ((hs_ss (hs_ss σ1 (t + 2) w.toNat ((σ1 (t + 2) w.toNat) + (-(min mv z57)))) (t + 3) w.toNat z124)) t 5 = (if b = 0 then σ t 5 - n else σ t 5 + n) % (σ t 3) := ⟨g127, f127, ⟨by omega, by omega, by omega, by omega, by simp only [hs_ss, hs_up]; simp [h5]⟩⟩
            exact ih43 (w + 1, mv - (min mv z57), (hs_ss (hs_ss σ1 (t + 2) w.toNat ((σ1 (t + 2) w.toNat) + (-(min mv z57)))) (t + 3) w.toNat z124)) (by first | omega | (simp only []; omega)) hi43
          · skip
            refine s_aload_n (pc := 103) C dX8_spin_103 2 rfl ?_
            refine s_getr (q := t) (ci := 8) (N := 7) (CN := RX8) (T := TX8) (pc := 104) C 2 dX8_spin_104 wlX8_18 (sh_T ht) rfl rfl wfX8 (by decide) rfl ?_
            refine s_iload (pc := 107) C dX8_spin_107 5 rfl ?_
            refine s_iald (q := (t + 3)) (n := 4) (pc := 109) C ((hs_ss σ1 (t + 2) w.toNat ((σ1 (t + 2) w.toNat) + (-(min mv z57)))) (t + 3) w.toNat) rfl dX8_spin_109 (sh_T3 ht) (by omega) (by omega) (by decide) ?_
            have b109 : (0 : Int) ≤ (hs_ss σ1 (t + 2) w.toNat ((σ1 (t + 2) w.toNat) + (-(min mv z57)))) (t + 3) w.toNat ∧ (hs_ss σ1 (t + 2) w.toNat ((σ1 (t + 2) w.toNat) + (-(min mv z57)))) (t + 3) w.toNat ≤ 99 := gx_t3 g91 ht w.toNat
            refine s_iload_n (pc := 110) C dX8_spin_110 0 rfl ?_
            refine s_iadd (pc := 111) C dX8_spin_111 ?_
            refine s_goto (pc := 112) C (tgt := 124) dX8_spin_112 (by decide) ?_
            refine s_callVi (pc := 124) C (c_X8_wrap l t ht (((hs_ss σ1 (t + 2) w.toNat ((σ1 (t + 2) w.toNat) + (-(min mv z57)))) (t + 3) w.toNat) + (mv - (min mv z57))) ⟨by omega, by omega⟩) [vI (((hs_ss σ1 (t + 2) w.toNat ((σ1 (t + 2) w.toNat) + (-(min mv z57)))) (t + 3) w.toNat) + (mv - (min mv z57)))] [vI w, .ref (ad (t + 3))] rfl rfl dX8_spin_124 wlX8_44 wiX8_wrap weX8_wrap wcX8_wrap wnX8 noX8_wrap (by decide) (by decide) (Nat.le_of_ble_eq_true rfl) (gx_self g91) (sh_T ht) rfl ?_
            rintro z124 _ ⟨rfl, k124⟩
            show hs_Wd _ _ _ _ _ _ _ _ _ _ _ _ _ _ _ _ _ 127 _ [vI z124, vI w, .ref (ad (t + 3))] (hs_ss σ1 (t + 2) w.toNat ((σ1 (t + 2) w.toNat) + (-(min mv z57))))
            refine s_iast (q := (t + 3)) (n := 4) (pc := 127) C dX8_spin_127 (sh_T3 ht) (by omega) (by omega) (by decide) ?_
            have g127 := gx_sett3 (z := z124) g91 ht w.toNat (0) (99) rfl ⟨by omega, by omega⟩
            have f127 := frm_set (P := (PSp t)) (z := z124) f91 (t + 3) w.toNat (by simp [PSp] <;> omega)
            refine s_iinc (pc := 128) C [(4, vI (w + 1)), (3, vI (mv - (min mv z57))), (5, vI (min mv z57)), (0, .ref (ad t)), (1, vI n), (2, vI b)] dX8_spin_128 5 rfl (by decide) rfl ?_
            refine s_goto (pc := 131) C (tgt := 43) dX8_spin_131 (by decide) ?_
            refine s_sub C [3, 4, 5, 1, 0] [(0, .ref (ad t)), (1, vI n), (2, vI b), (3, vI (mv - (min mv z57))), (4, vI (w + 1))] rfl ?_
            have hi43 : GX σ ((hs_ss (hs_ss σ1 (t + 2) w.toNat ((σ1 (t + 2) w.toNat) + (-(min mv z57)))) (t + 3) w.toNat z124)) ∧ FRM (PSp t) σ ((hs_ss (hs_ss σ1 (t + 2) w.toNat ((σ1 (t + 2) w.toNat) + (-(min mv z57)))) (t + 3) w.toNat z124)) ∧ 0 ≤ (w + 1) ∧ (w + 1) ≤ 4 ∧ 0 ≤ (mv - (min mv z57)) ∧ (mv - (min mv z57)) ≤ n ∧ ((hs_ss (hs_ss σ1 (t + 2) w.toNat ((σ1 (t + 2) w.toNat) + (-(min mv z57)))) (t + 3) w.toNat z124)) t 5 = (if b = 0 then σ t 5 - n else σ t 5 + n) % (σ t 3) := ⟨g127, f127, ⟨by omega, by omega, by omega, by omega, by simp only [hs_ss, hs_up]; simp [h5]⟩⟩
            exact ih43 (w + 1, mv - (min mv z57), (hs_ss (hs_ss σ1 (t + 2) w.toNat ((σ1 (t + 2) w.toNat) + (-(min mv z57)))) (t + 3) w.toNat z124)) (by first | omega | (simp only []; omega)) hi43
        · skip
          refine s_iload (pc := 82) C dX8_spin_82 1 rfl ?_
          refine s_goto (pc := 84) C (tgt := 90) dX8_spin_84 (by decide) ?_
          refine s_iadd (pc := 90) C dX8_spin_90 ?_
          refine s_iast (q := (t + 2)) (n := 4) (pc := 91) C dX8_spin_91 (sh_T2 ht) (by omega) (by omega) (by decide) ?_
          have g91 := gx_setlag (z := ((σ1 (t + 2) w.toNat) + (min mv z57))) hg43 ht (show w.toNat < 4 by omega) ⟨by omega, by omega⟩
          have f91 := frm_set (P := (PSp t)) (z := ((σ1 (t + 2) w.toNat) + (min mv z57))) hf43 (t + 2) w.toNat (by simp [PSp] <;> omega)
          refine s_aload_n (pc := 92) C dX8_spin_92 2 rfl ?_
          refine s_getr (q := t) (ci := 8) (N := 7) (CN := RX8) (T := TX8) (pc := 93) C 2 dX8_spin_93 wlX8_18 (sh_T ht) rfl rfl wfX8 (by decide) rfl ?_
          refine s_iload (pc := 96) C dX8_spin_96 5 rfl ?_
          refine s_aload_n (pc := 98) C dX8_spin_98 2 rfl ?_
          refine s_iload_n (pc := 99) C dX8_spin_99 4 rfl ?_
          refine s_if_eq (pc := 100) C (tgt := 115) dX8_spin_100 (by decide) ⟨by omega, by omega⟩ (fun h100 => ?_) (fun h100 => ?_)
          · skip
            refine s_aload_n (pc := 115) C dX8_spin_115 2 rfl ?_
            refine s_getr (q := t) (ci := 8) (N := 7) (CN := RX8) (T := TX8) (pc := 116) C 2 dX8_spin_116 wlX8_18 (sh_T ht) rfl rfl wfX8 (by decide) rfl ?_
            refine s_iload (pc := 119) C dX8_spin_119 5 rfl ?_
            refine s_iald (q := (t + 3)) (n := 4) (pc := 121) C ((hs_ss σ1 (t + 2) w.toNat ((σ1 (t + 2) w.toNat) + (min mv z57))) (t + 3) w.toNat) rfl dX8_spin_121 (sh_T3 ht) (by omega) (by omega) (by decide) ?_
            have b121 : (0 : Int) ≤ (hs_ss σ1 (t + 2) w.toNat ((σ1 (t + 2) w.toNat) + (min mv z57))) (t + 3) w.toNat ∧ (hs_ss σ1 (t + 2) w.toNat ((σ1 (t + 2) w.toNat) + (min mv z57))) (t + 3) w.toNat ≤ 99 := gx_t3 g91 ht w.toNat
            refine s_iload_n (pc := 122) C dX8_spin_122 0 rfl ?_
            refine s_isub (pc := 123) C dX8_spin_123 ?_
            refine s_callVi (pc := 124) C (c_X8_wrap l t ht (((hs_ss σ1 (t + 2) w.toNat ((σ1 (t + 2) w.toNat) + (min mv z57))) (t + 3) w.toNat) - (mv - (min mv z57))) ⟨by omega, by omega⟩) [vI (((hs_ss σ1 (t + 2) w.toNat ((σ1 (t + 2) w.toNat) + (min mv z57))) (t + 3) w.toNat) - (mv - (min mv z57)))] [vI w, .ref (ad (t + 3))] rfl rfl dX8_spin_124 wlX8_44 wiX8_wrap weX8_wrap wcX8_wrap wnX8 noX8_wrap (by decide) (by decide) (Nat.le_of_ble_eq_true rfl) (gx_self g91) (sh_T ht) rfl ?_
            rintro z124 _ ⟨rfl, k124⟩
            show hs_Wd _ _ _ _ _ _ _ _ _ _ _ _ _ _ _ _ _ 127 _ [vI z124, vI w, .ref (ad (t + 3))] (hs_ss σ1 (t + 2) w.toNat ((σ1 (t + 2) w.toNat) + (min mv z57)))
            refine s_iast (q := (t + 3)) (n := 4) (pc := 127) C dX8_spin_127 (sh_T3 ht) (by omega) (by omega) (by decide) ?_
            have g127 := gx_sett3 (z := z124) g91 ht w.toNat (0) (99) rfl ⟨by omega, by omega⟩
            have f127 := frm_set (P := (PSp t)) (z := z124) f91 (t + 3) w.toNat (by simp [PSp] <;> omega)
            refine s_iinc (pc := 128) C [(4, vI (w + 1)), (3, vI (mv - (min mv z57))), (5, vI (min mv z57)), (0, .ref (ad t)), (1, vI n), (2, vI b)] dX8_spin_128 5 rfl (by decide) rfl ?_
            refine s_goto (pc := 131) C (tgt := 43) dX8_spin_131 (by decide) ?_
            refine s_sub C [3, 4, 5, 1, 0] [(0, .ref (ad t)), (1, vI n), (2, vI b), (3, vI (mv - (min mv z57))), (4, vI (w + 1))] rfl ?_
            have hi43 : GX σ ((hs_ss (hs_ss σ1 (t + 2) w.toNat ((σ1 (t + 2) w.toNat) + (min mv z57))) (t + 3) w.toNat z124)) ∧ FRM (PSp t) σ ((hs_ss (hs_ss σ1 (t + 2) w.toNat ((σ1 (t + 2) w.toNat) + (min mv z57))) (t + 3) w.toNat z124)) ∧ 0 ≤ (w + 1) ∧ (w + 1) ≤ 4 ∧ 0 ≤ (mv - (min mv z57)) ∧ (mv - (min mv z57)) ≤ n ∧ ((hs_ss (hs_ss σ1 (t + 2) w.toNat ((σ1 (t + 2) w.toNat) + (min mv z57))) (t + 3) w.toNat z124)) t 5 = (if b = 0 then σ t 5 - n else σ t 5 + n) % (σ t 3) := ⟨g127, f127, ⟨by omega, by omega, by omega, by omega, by simp only [hs_ss, hs_up]; simp [h5]⟩⟩
            exact ih43 (w + 1, mv - (min mv z57), (hs_ss (hs_ss σ1 (t + 2) w.toNat ((σ1 (t + 2) w.toNat) + (min mv z57))) (t + 3) w.toNat z124)) (by first | omega | (simp only []; omega)) hi43
          · skip
            refine s_aload_n (pc := 103) C dX8_spin_103 2 rfl ?_
            refine s_getr (q := t) (ci := 8) (N := 7) (CN := RX8) (T := TX8) (pc := 104) C 2 dX8_spin_104 wlX8_18 (sh_T ht) rfl rfl wfX8 (by decide) rfl ?_
            refine s_iload (pc := 107) C dX8_spin_107 5 rfl ?_
            refine s_iald (q := (t + 3)) (n := 4) (pc := 109) C ((hs_ss σ1 (t + 2) w.toNat ((σ1 (t + 2) w.toNat) + (min mv z57))) (t + 3) w.toNat) rfl dX8_spin_109 (sh_T3 ht) (by omega) (by omega) (by decide) ?_
            have b109 : (0 : Int) ≤ (hs_ss σ1 (t + 2) w.toNat ((σ1 (t + 2) w.toNat) + (min mv z57))) (t + 3) w.toNat ∧ (hs_ss σ1 (t + 2) w.toNat ((σ1 (t + 2) w.toNat) + (min mv z57))) (t + 3) w.toNat ≤ 99 := gx_t3 g91 ht w.toNat
            refine s_iload_n (pc := 110) C dX8_spin_110 0 rfl ?_
            refine s_iadd (pc := 111) C dX8_spin_111 ?_
            refine s_goto (pc := 112) C (tgt := 124) dX8_spin_112 (by decide) ?_
            refine s_callVi (pc := 124) C (c_X8_wrap l t ht (((hs_ss σ1 (t + 2) w.toNat ((σ1 (t + 2) w.toNat) + (min mv z57))) (t + 3) w.toNat) + (mv - (min mv z57))) ⟨by omega, by omega⟩) [vI (((hs_ss σ1 (t + 2) w.toNat ((σ1 (t + 2) w.toNat) + (min mv z57))) (t + 3) w.toNat) + (mv - (min mv z57)))] [vI w, .ref (ad (t + 3))] rfl rfl dX8_spin_124 wlX8_44 wiX8_wrap weX8_wrap wcX8_wrap wnX8 noX8_wrap (by decide) (by decide) (Nat.le_of_ble_eq_true rfl) (gx_self g91) (sh_T ht) rfl ?_
            rintro z124 _ ⟨rfl, k124⟩
            show hs_Wd _ _ _ _ _ _ _ _ _ _ _ _ _ _ _ _ _ 127 _ [vI z124, vI w, .ref (ad (t + 3))] (hs_ss σ1 (t + 2) w.toNat ((σ1 (t + 2) w.toNat) + (min mv z57)))
            refine s_iast (q := (t + 3)) (n := 4) (pc := 127) C dX8_spin_127 (sh_T3 ht) (by omega) (by omega) (by decide) ?_
            have g127 := gx_sett3 (z := z124) g91 ht w.toNat (0) (99) rfl ⟨by omega, by omega⟩
            have f127 := frm_set (P := (PSp t)) (z := z124) f91 (t + 3) w.toNat (by simp [PSp] <;> omega)
            refine s_iinc (pc := 128) C [(4, vI (w + 1)), (3, vI (mv - (min mv z57))), (5, vI (min mv z57)), (0, .ref (ad t)), (1, vI n), (2, vI b)] dX8_spin_128 5 rfl (by decide) rfl ?_
            refine s_goto (pc := 131) C (tgt := 43) dX8_spin_131 (by decide) ?_
            refine s_sub C [3, 4, 5, 1, 0] [(0, .ref (ad t)), (1, vI n), (2, vI b), (3, vI (mv - (min mv z57))), (4, vI (w + 1))] rfl ?_
            have hi43 : GX σ ((hs_ss (hs_ss σ1 (t + 2) w.toNat ((σ1 (t + 2) w.toNat) + (min mv z57))) (t + 3) w.toNat z124)) ∧ FRM (PSp t) σ ((hs_ss (hs_ss σ1 (t + 2) w.toNat ((σ1 (t + 2) w.toNat) + (min mv z57))) (t + 3) w.toNat z124)) ∧ 0 ≤ (w + 1) ∧ (w + 1) ≤ 4 ∧ 0 ≤ (mv - (min mv z57)) ∧ (mv - (min mv z57)) ≤ n ∧ ((hs_ss (hs_ss σ1 (t + 2) w.toNat ((σ1 (t + 2) w.toNat) + (min mv z57))) (t + 3) w.toNat z124)) t 5 = (if b = 0 then σ t 5 - n else σ t 5 + n) % (σ t 3) := ⟨g127, f127, ⟨by omega, by omega, by omega, by omega, by simp only [hs_ss, hs_up]; simp [h5]⟩⟩
            exact ih43 (w + 1, mv - (min mv z57), (hs_ss (hs_ss σ1 (t + 2) w.toNat ((σ1 (t + 2) w.toNat) + (min mv z57))) (t + 3) w.toNat z124)) (by first | omega | (simp only []; omega)) hi43
    · skip
      refine s_aload_n (pc := 17) C dX8_spin_17 0 rfl ?_
      refine s_geti (q := t) (ci := 8) (N := 7) (CN := RX8) (T := TX8) (pc := 18) C 5 dX8_spin_18 wlX8_28 (sh_T ht) rfl rfl wfX8 (by decide) rfl (σ t 5) (by simp [hs_ss, hs_up]) ?_
      have b18 : (0 : Int) ≤ σ t 5 ∧ σ t 5 ≤ 99 := by have h := gx_t g8 ht 5; rw [show (hs_ss σ t 6 b) t 5 = σ t 5 from by simp [hs_ss, hs_up]] at h; exact h
      refine s_iload_n (pc := 21) C dX8_spin_21 1 rfl ?_
      refine s_iadd (pc := 22) C dX8_spin_22 ?_
      refine s_goto (pc := 23) C (tgt := 32) dX8_spin_23 (by decide) ?_
      refine s_callVi (pc := 32) C (c_X8_wrap l t ht ((σ t 5) + n) ⟨by omega, by omega⟩) [vI ((σ t 5) + n)] [.ref (ad t)] rfl rfl dX8_spin_32 wlX8_44 wiX8_wrap weX8_wrap wcX8_wrap wnX8 noX8_wrap (by decide) (by decide) (Nat.le_of_ble_eq_true rfl) (gx_self g8) (sh_T ht) rfl ?_
      rintro z32 _ ⟨rfl, k32⟩
      show hs_Wd _ _ _ _ _ _ _ _ _ _ _ _ _ _ _ _ _ 35 _ [vI z32, .ref (ad t)] (hs_ss σ t 6 b)
      refine s_puti (q := t) (ci := 8) (N := 7) (CN := RX8) (T := TX8) (ty0 := tyX8) (ty := .int) (pc := 35) C 5 dX8_spin_35 wlX8_28 (sh_T ht) rfl rfl wfX8 tyX8_ok nmX8 (by decide) rfl rfl rfl (vp_nar_int _) rfl ?_
      have g35 := gx_sett (z := z32) g8 ht 5 (0) (99) rfl ⟨by omega, by omega⟩ rfl
      have f35 := frm_set (P := (PSp t)) (z := z32) f8 t 5 (by simp [PSp] <;> omega)
      refine s_iload_n (pc := 38) C dX8_spin_38 1 rfl ?_
      refine s_istore_n (pc := 39) C [(3, vI n), (0, .ref (ad t)), (1, vI n), (2, vI b)] dX8_spin_39 (by decide) rfl ?_
      refine s_iconst (pc := 40) C dX8_spin_40 ?_
      refine s_istore (pc := 41) C [(4, vI 0), (3, vI n), (0, .ref (ad t)), (1, vI n), (2, vI b)] dX8_spin_41 (by decide) rfl ?_
      refine s_sub C [2, 3, 4, 1, 0] [(0, .ref (ad t)), (1, vI n), (2, vI b), (3, vI n), (4, vI 0)] rfl ?_
      have hi43 : GX σ ((hs_ss (hs_ss σ t 6 b) t 5 z32)) ∧ FRM (PSp t) σ ((hs_ss (hs_ss σ t 6 b) t 5 z32)) ∧ 0 ≤ (0 : Int) ∧ (0 : Int) ≤ 4 ∧ 0 ≤ n ∧ n ≤ n ∧ ((hs_ss (hs_ss σ t 6 b) t 5 z32)) t 5 = (if b = 0 then σ t 5 - n else σ t 5 + n) % (σ t 3) := ⟨g35, f35, ⟨by omega, by omega, by omega, by omega, by rw [hs_ss_at, k32.2.2.2, hs_ss_j (by decide)]; split <;> first | rfl | (exfalso; omega)⟩⟩
      refine hs_loop (α := Int × Int × hs_S) (fun x_ => (GX σ x_.2.2 ∧ FRM (PSp t) σ x_.2.2 ∧ 0 ≤ x_.1 ∧ x_.1 ≤ 4 ∧ 0 ≤ x_.2.1 ∧ x_.2.1 ≤ n ∧ x_.2.2 t 5 = (if b = 0 then σ t 5 - n else σ t 5 + n) % (σ t 3)) → hs_Wd p l e 4 s m args below meth c D dA SHX ad A 6 (hs_PV (fun σ σ1 => GX σ σ1 ∧ FRM (PSp t) σ σ1 ∧ (1 ≤ n → σ1 t 5 = (if b = 0 then σ t 5 - n else σ t 5 + n) % (σ t 3)) ∧ (n < 1 → σ1 = σ)) σ) 43 [(0, .ref (ad t)), (1, vI n), (2, vI b), (3, vI x_.2.1), (4, vI x_.1)] [] x_.2.2) (fun x_ => (4 - x_.1).toNat) ?_ (0, n, (hs_ss (hs_ss σ t 6 b) t 5 z32)) hi43
      rintro ⟨w, mv, σ1⟩ ih43 hinv
      replace hinv : GX σ σ1 ∧ FRM (PSp t) σ σ1 ∧ 0 ≤ w ∧ w ≤ 4 ∧ 0 ≤ mv ∧ mv ≤ n ∧ σ1 t 5 = (if b = 0 then σ t 5 - n else σ t 5 + n) % (σ t 3) := hinv
      obtain ⟨hg43, hf43, hv43⟩ := hinv
      show hs_Wd p l e 4 s m args below meth c D dA SHX ad A 6 (hs_PV (fun σ σ1 => GX σ σ1 ∧ FRM (PSp t) σ σ1 ∧ (1 ≤ n → σ1 t 5 = (if b = 0 then σ t 5 - n else σ t 5 + n) % (σ t 3)) ∧ (n < 1 → σ1 = σ)) σ) 43 [(0, .ref (ad t)), (1, vI n), (2, vI b), (3, vI mv), (4, vI w)] [] σ1
      obtain ⟨hw0, hw4, hm0, hm1, h5⟩ := hv43
      refine s_iload (pc := 43) C dX8_spin_43 4 rfl ?_
      refine s_aload_n (pc := 45) C dX8_spin_45 0 rfl ?_
      refine s_geti (q := t) (ci := 8) (N := 7) (CN := RX8) (T := TX8) (pc := 46) C 4 dX8_spin_46 wlX8_25 (sh_T ht) rfl rfl wfX8 (by decide) rfl (σ1 t 4) rfl ?_
      have b46 : (0 : Int) ≤ σ1 t 4 ∧ σ1 t 4 ≤ 4 := gx_t hg43 ht 4
      refine s_icmp_ge (pc := 49) C (tgt := 134) dX8_spin_49 (by decide) ⟨by omega, by omega⟩ ⟨by omega, by omega⟩ (fun h49 => ?_) (fun h49 => ?_)
      · skip
        refine s_vret (pc := 134) C dX8_spin_134 ?_
        refine ⟨rfl, ?_⟩
        exact ⟨hg43, hf43, ⟨fun _ => h5, fun q => absurd q (by omega)⟩⟩
      · skip
        have hl := gx_lag hg43 ht (show w.toNat < 4 by omega)
        refine s_iload_n (pc := 52) C dX8_spin_52 3 rfl ?_
        refine s_aload_n (pc := 53) C dX8_spin_53 0 rfl ?_
        refine s_iload (pc := 54) C dX8_spin_54 4 rfl ?_
        refine s_iload_n (pc := 56) C dX8_spin_56 2 rfl ?_
        refine s_callVi (pc := 57) C (c_X8_play l t ht w b (by first | omega | assumption | (constructor <;> omega) | (refine ⟨⟨?_, ?_⟩, ?_⟩ <;> omega) | (simp [hs_ss, hs_up]; omega) | (simp [hs_ss, hs_up]; done)) (by first | omega | assumption | (constructor <;> omega) | (refine ⟨⟨?_, ?_⟩, ?_⟩ <;> omega) | (simp [hs_ss, hs_up]; omega) | (simp [hs_ss, hs_up]; done))) [vI w, vI b] [vI mv] rfl rfl dX8_spin_57 wlX8_48 wiX8_play weX8_play wcX8_play wnX8 noX8_play (by decide) (by decide) (Nat.le_of_ble_eq_true rfl) (gx_self hg43) (sh_T ht) rfl ?_
        rintro z57 _ ⟨rfl, k57⟩
        show hs_Wd _ _ _ _ _ _ _ _ _ _ _ _ _ _ _ _ _ 60 _ [vI z57, vI mv] σ1
        refine s_callSi (pc := 60) C (c_J9_min_7cf53 l mv z57 ⟨by omega, by omega⟩ ⟨by omega, by omega⟩) [vI mv, vI z57] [] rfl rfl dX8_spin_60 wlX8_52 wtJ9_min_7cf53 wcJ9_min_7cf53 wnJ9 noJ9_min_7cf53 (by decide) (by decide) (Nat.le_of_ble_eq_true rfl) (by first | omega | assumption | (constructor <;> omega) | (refine ⟨⟨?_, ?_⟩, ?_⟩ <;> omega) | (simp [hs_ss, hs_up]; omega) | (simp [hs_ss, hs_up]; done)) ?_
        rintro _ _ ⟨rfl, rfl⟩
        show hs_Wd _ _ _ _ _ _ _ _ _ _ _ _ _ _ _ _ _ 63 _ [vI (min mv z57)] σ1
        refine s_istore (pc := 63) C [(5, vI (min mv z57)), (0, .ref (ad t)), (1, vI n), (2, vI b), (3, vI mv), (4, vI w)] dX8_spin_63 (by decide) rfl ?_
        refine s_iload_n (pc := 65) C dX8_spin_65 4 rfl ?_
        refine s_iload (pc := 66) C dX8_spin_66 0 rfl ?_
        refine s_isub (pc := 68) C dX8_spin_68 ?_
        refine s_istore_n (pc := 69) C [(3, vI (mv - (min mv z57))), (5, vI (min mv z57)), (0, .ref (ad t)), (1, vI n), (2, vI b), (4, vI w)] dX8_spin_69 (by decide) rfl ?_
        refine s_aload_n (pc := 70) C dX8_spin_70 2 rfl ?_
        refine s_getr (q := t) (ci := 8) (N := 7) (CN := RX8) (T := TX8) (pc := 71) C 1 dX8_spin_71 wlX8_15 (sh_T ht) rfl rfl wfX8 (by decide) rfl ?_
        refine s_iload (pc := 74) C dX8_spin_74 5 rfl ?_
        refine s_dup2 (pc := 76) C dX8_spin_76 rfl rfl ?_
        refine s_iald (q := (t + 2)) (n := 4) (pc := 77) C (σ1 (t + 2) w.toNat) rfl dX8_spin_77 (sh_T2 ht) (by omega) (by omega) (by decide) ?_
        have b77 : (0 : Int) ≤ σ1 (t + 2) w.toNat ∧ σ1 (t + 2) w.toNat ≤ 99 := gx_t2 hg43 ht w.toNat
        refine s_iload_n (pc := 78) C dX8_spin_78 4 rfl ?_
        refine s_if_eq (pc := 79) C (tgt := 87) dX8_spin_79 (by decide) ⟨by omega, by omega⟩ (fun h79 => ?_) (fun h79 => ?_)
        · skip
          refine s_iload (pc := 87) C dX8_spin_87 1 rfl ?_
          refine s_ineg (pc := 89) C dX8_spin_89 ?_
          refine s_iadd (pc := 90) C dX8_spin_90 ?_
          refine s_iast (q := (t + 2)) (n := 4) (pc := 91) C dX8_spin_91 (sh_T2 ht) (by omega) (by omega) (by decide) ?_
          have g91 := gx_setlag (z := ((σ1 (t + 2) w.toNat) + (-(min mv z57)))) hg43 ht (show w.toNat < 4 by omega) ⟨by omega, by omega⟩
          have f91 := frm_set (P := (PSp t)) (z := ((σ1 (t + 2) w.toNat) + (-(min mv z57)))) hf43 (t + 2) w.toNat (by simp [PSp] <;> omega)
          refine s_aload_n (pc := 92) C dX8_spin_92 2 rfl ?_
          refine s_getr (q := t) (ci := 8) (N := 7) (CN := RX8) (T := TX8) (pc := 93) C 2 dX8_spin_93 wlX8_18 (sh_T ht) rfl rfl wfX8 (by decide) rfl ?_
          refine s_iload (pc := 96) C dX8_spin_96 5 rfl ?_
          refine s_aload_n (pc := 98) C dX8_spin_98 2 rfl ?_
          refine s_iload_n (pc := 99) C dX8_spin_99 4 rfl ?_
          refine s_if_eq (pc := 100) C (tgt := 115) dX8_spin_100 (by decide) ⟨by omega, by omega⟩ (fun h100 => ?_) (fun h100 => ?_)
          · skip
            refine s_aload_n (pc := 115) C dX8_spin_115 2 rfl ?_
            refine s_getr (q := t) (ci := 8) (N := 7) (CN := RX8) (T := TX8) (pc := 116) C 2 dX8_spin_116 wlX8_18 (sh_T ht) rfl rfl wfX8 (by decide) rfl ?_
            refine s_iload (pc := 119) C dX8_spin_119 5 rfl ?_
            refine s_iald (q := (t + 3)) (n := 4) (pc := 121) C ((hs_ss σ1 (t + 2) w.toNat ((σ1 (t + 2) w.toNat) + (-(min mv z57)))) (t + 3) w.toNat) rfl dX8_spin_121 (sh_T3 ht) (by omega) (by omega) (by decide) ?_
            have b121 : (0 : Int) ≤ (hs_ss σ1 (t + 2) w.toNat ((σ1 (t + 2) w.toNat) + (-(min mv z57)))) (t + 3) w.toNat ∧ (hs_ss σ1 (t + 2) w.toNat ((σ1 (t + 2) w.toNat) + (-(min mv z57)))) (t + 3) w.toNat ≤ 99 := gx_t3 g91 ht w.toNat
            refine s_iload_n (pc := 122) C dX8_spin_122 0 rfl ?_
            refine s_isub (pc := 123) C dX8_spin_123 ?_
            refine s_callVi (pc := 124) C (c_X8_wrap l t ht (((hs_ss σ1 (t + 2) w.toNat ((σ1 (t + 2) w.toNat) + (-(min mv z57)))) (t + 3) w.toNat) - (mv - (min mv z57))) ⟨by omega, by omega⟩) [vI (((hs_ss σ1 (t + 2) w.toNat ((σ1 (t + 2) w.toNat) + (-(min mv z57)))) (t + 3) w.toNat) - (mv - (min mv z57)))] [vI w, .ref (ad (t + 3))] rfl rfl dX8_spin_124 wlX8_44 wiX8_wrap weX8_wrap wcX8_wrap wnX8 noX8_wrap (by decide) (by decide) (Nat.le_of_ble_eq_true rfl) (gx_self g91) (sh_T ht) rfl ?_
            rintro z124 _ ⟨rfl, k124⟩
            show hs_Wd _ _ _ _ _ _ _ _ _ _ _ _ _ _ _ _ _ 127 _ [vI z124, vI w, .ref (ad (t + 3))] (hs_ss σ1 (t + 2) w.toNat ((σ1 (t + 2) w.toNat) + (-(min mv z57))))
            refine s_iast (q := (t + 3)) (n := 4) (pc := 127) C dX8_spin_127 (sh_T3 ht) (by omega) (by omega) (by decide) ?_
            have g127 := gx_sett3 (z := z124) g91 ht w.toNat (0) (99) rfl ⟨by omega, by omega⟩
            have f127 := frm_set (P := (PSp t)) (z := z124) f91 (t + 3) w.toNat (by simp [PSp] <;> omega)
            refine s_iinc (pc := 128) C [(4, vI (w + 1)), (3, vI (mv - (min mv z57))), (5, vI (min mv z57)), (0, .ref (ad t)), (1, vI n), (2, vI b)] dX8_spin_128 5 rfl (by decide) rfl ?_
            refine s_goto (pc := 131) C (tgt := 43) dX8_spin_131 (by decide) ?_
            refine s_sub C [3, 4, 5, 1, 0] [(0, .ref (ad t)), (1, vI n), (2, vI b), (3, vI (mv - (min mv z57))), (4, vI (w + 1))] rfl ?_
            have hi43 : GX σ ((hs_ss (hs_ss σ1 (t + 2) w.toNat ((σ1 (t + 2) w.toNat) + (-(min mv z57)))) (t + 3) w.toNat z124)) ∧ FRM (PSp t) σ ((hs_ss (hs_ss σ1 (t + 2) w.toNat ((σ1 (t + 2) w.toNat) + (-(min mv z57)))) (t + 3) w.toNat z124)) ∧ 0 ≤ (w + 1) ∧ (w + 1) ≤ 4 ∧ 0 ≤ (mv - (min mv z57)) ∧ (mv - (min mv z57)) ≤ n ∧ ((hs_ss (hs_ss σ1 (t + 2) w.toNat ((σ1 (t + 2) w.toNat) + (-(min mv z57)))) (t + 3) w.toNat z124)) t 5 = (if b = 0 then σ t 5 - n else σ t 5 + n) % (σ t 3) := ⟨g127, f127, ⟨by omega, by omega, by omega, by omega, by simp only [hs_ss, hs_up]; simp [h5]⟩⟩
            exact ih43 (w + 1, mv - (min mv z57), (hs_ss (hs_ss σ1 (t + 2) w.toNat ((σ1 (t + 2) w.toNat) + (-(min mv z57)))) (t + 3) w.toNat z124)) (by first | omega | (simp only []; omega)) hi43
          · skip
            refine s_aload_n (pc := 103) C dX8_spin_103 2 rfl ?_
            refine s_getr (q := t) (ci := 8) (N := 7) (CN := RX8) (T := TX8) (pc := 104) C 2 dX8_spin_104 wlX8_18 (sh_T ht) rfl rfl wfX8 (by decide) rfl ?_
            refine s_iload (pc := 107) C dX8_spin_107 5 rfl ?_
            refine s_iald (q := (t + 3)) (n := 4) (pc := 109) C ((hs_ss σ1 (t + 2) w.toNat ((σ1 (t + 2) w.toNat) + (-(min mv z57)))) (t + 3) w.toNat) rfl dX8_spin_109 (sh_T3 ht) (by omega) (by omega) (by decide) ?_
            have b109 : (0 : Int) ≤ (hs_ss σ1 (t + 2) w.toNat ((σ1 (t + 2) w.toNat) + (-(min mv z57)))) (t + 3) w.toNat ∧ (hs_ss σ1 (t + 2) w.toNat ((σ1 (t + 2) w.toNat) + (-(min mv z57)))) (t + 3) w.toNat ≤ 99 := gx_t3 g91 ht w.toNat
            refine s_iload_n (pc := 110) C dX8_spin_110 0 rfl ?_
            refine s_iadd (pc := 111) C dX8_spin_111 ?_
            refine s_goto (pc := 112) C (tgt := 124) dX8_spin_112 (by decide) ?_
            refine s_callVi (pc := 124) C (c_X8_wrap l t ht (((hs_ss σ1 (t + 2) w.toNat ((σ1 (t + 2) w.toNat) + (-(min mv z57)))) (t + 3) w.toNat) + (mv - (min mv z57))) ⟨by omega, by omega⟩) [vI (((hs_ss σ1 (t + 2) w.toNat ((σ1 (t + 2) w.toNat) + (-(min mv z57)))) (t + 3) w.toNat) + (mv - (min mv z57)))] [vI w, .ref (ad (t + 3))] rfl rfl dX8_spin_124 wlX8_44 wiX8_wrap weX8_wrap wcX8_wrap wnX8 noX8_wrap (by decide) (by decide) (Nat.le_of_ble_eq_true rfl) (gx_self g91) (sh_T ht) rfl ?_
            rintro z124 _ ⟨rfl, k124⟩
            show hs_Wd _ _ _ _ _ _ _ _ _ _ _ _ _ _ _ _ _ 127 _ [vI z124, vI w, .ref (ad (t + 3))] (hs_ss σ1 (t + 2) w.toNat ((σ1 (t + 2) w.toNat) + (-(min mv z57))))
            refine s_iast (q := (t + 3)) (n := 4) (pc := 127) C dX8_spin_127 (sh_T3 ht) (by omega) (by omega) (by decide) ?_
            have g127 := gx_sett3 (z := z124) g91 ht w.toNat (0) (99) rfl ⟨by omega, by omega⟩
            have f127 := frm_set (P := (PSp t)) (z := z124) f91 (t + 3) w.toNat (by simp [PSp] <;> omega)
            refine s_iinc (pc := 128) C [(4, vI (w + 1)), (3, vI (mv - (min mv z57))), (5, vI (min mv z57)), (0, .ref (ad t)), (1, vI n), (2, vI b)] dX8_spin_128 5 rfl (by decide) rfl ?_
            refine s_goto (pc := 131) C (tgt := 43) dX8_spin_131 (by decide) ?_
            refine s_sub C [3, 4, 5, 1, 0] [(0, .ref (ad t)), (1, vI n), (2, vI b), (3, vI (mv - (min mv z57))), (4, vI (w + 1))] rfl ?_
            have hi43 : GX σ ((hs_ss (hs_ss σ1 (t + 2) w.toNat ((σ1 (t + 2) w.toNat) + (-(min mv z57)))) (t + 3) w.toNat z124)) ∧ FRM (PSp t) σ ((hs_ss (hs_ss σ1 (t + 2) w.toNat ((σ1 (t + 2) w.toNat) + (-(min mv z57)))) (t + 3) w.toNat z124)) ∧ 0 ≤ (w + 1) ∧ (w + 1) ≤ 4 ∧ 0 ≤ (mv - (min mv z57)) ∧ (mv - (min mv z57)) ≤ n ∧ ((hs_ss (hs_ss σ1 (t + 2) w.toNat ((σ1 (t + 2) w.toNat) + (-(min mv z57)))) (t + 3) w.toNat z124)) t 5 = (if b = 0 then σ t 5 - n else σ t 5 + n) % (σ t 3) := ⟨g127, f127, ⟨by omega, by omega, by omega, by omega, by simp only [hs_ss, hs_up]; simp [h5]⟩⟩
            exact ih43 (w + 1, mv - (min mv z57), (hs_ss (hs_ss σ1 (t + 2) w.toNat ((σ1 (t + 2) w.toNat) + (-(min mv z57)))) (t + 3) w.toNat z124)) (by first | omega | (simp only []; omega)) hi43
        · skip
          refine s_iload (pc := 82) C dX8_spin_82 1 rfl ?_
          refine s_goto (pc := 84) C (tgt := 90) dX8_spin_84 (by decide) ?_
          refine s_iadd (pc := 90) C dX8_spin_90 ?_
          refine s_iast (q := (t + 2)) (n := 4) (pc := 91) C dX8_spin_91 (sh_T2 ht) (by omega) (by omega) (by decide) ?_
          have g91 := gx_setlag (z := ((σ1 (t + 2) w.toNat) + (min mv z57))) hg43 ht (show w.toNat < 4 by omega) ⟨by omega, by omega⟩
          have f91 := frm_set (P := (PSp t)) (z := ((σ1 (t + 2) w.toNat) + (min mv z57))) hf43 (t + 2) w.toNat (by simp [PSp] <;> omega)
          refine s_aload_n (pc := 92) C dX8_spin_92 2 rfl ?_
          refine s_getr (q := t) (ci := 8) (N := 7) (CN := RX8) (T := TX8) (pc := 93) C 2 dX8_spin_93 wlX8_18 (sh_T ht) rfl rfl wfX8 (by decide) rfl ?_
          refine s_iload (pc := 96) C dX8_spin_96 5 rfl ?_
          refine s_aload_n (pc := 98) C dX8_spin_98 2 rfl ?_
          refine s_iload_n (pc := 99) C dX8_spin_99 4 rfl ?_
          refine s_if_eq (pc := 100) C (tgt := 115) dX8_spin_100 (by decide) ⟨by omega, by omega⟩ (fun h100 => ?_) (fun h100 => ?_)
          · skip
            refine s_aload_n (pc := 115) C dX8_spin_115 2 rfl ?_
            refine s_getr (q := t) (ci := 8) (N := 7) (CN := RX8) (T := TX8) (pc := 116) C 2 dX8_spin_116 wlX8_18 (sh_T ht) rfl rfl wfX8 (by decide) rfl ?_
            refine s_iload (pc := 119) C dX8_spin_119 5 rfl ?_
            refine s_iald (q := (t + 3)) (n := 4) (pc := 121) C ((hs_ss σ1 (t + 2) w.toNat ((σ1 (t + 2) w.toNat) + (min mv z57))) (t + 3) w.toNat) rfl dX8_spin_121 (sh_T3 ht) (by omega) (by omega) (by decide) ?_
            have b121 : (0 : Int) ≤ (hs_ss σ1 (t + 2) w.toNat ((σ1 (t + 2) w.toNat) + (min mv z57))) (t + 3) w.toNat ∧ (hs_ss σ1 (t + 2) w.toNat ((σ1 (t + 2) w.toNat) + (min mv z57))) (t + 3) w.toNat ≤ 99 := gx_t3 g91 ht w.toNat
            refine s_iload_n (pc := 122) C dX8_spin_122 0 rfl ?_
            refine s_isub (pc := 123) C dX8_spin_123 ?_
            refine s_callVi (pc := 124) C (c_X8_wrap l t ht (((hs_ss σ1 (t + 2) w.toNat ((σ1 (t + 2) w.toNat) + (min mv z57))) (t + 3) w.toNat) - (mv - (min mv z57))) ⟨by omega, by omega⟩) [vI (((hs_ss σ1 (t + 2) w.toNat ((σ1 (t + 2) w.toNat) + (min mv z57))) (t + 3) w.toNat) - (mv - (min mv z57)))] [vI w, .ref (ad (t + 3))] rfl rfl dX8_spin_124 wlX8_44 wiX8_wrap weX8_wrap wcX8_wrap wnX8 noX8_wrap (by decide) (by decide) (Nat.le_of_ble_eq_true rfl) (gx_self g91) (sh_T ht) rfl ?_
            rintro z124 _ ⟨rfl, k124⟩
            show hs_Wd _ _ _ _ _ _ _ _ _ _ _ _ _ _ _ _ _ 127 _ [vI z124, vI w, .ref (ad (t + 3))] (hs_ss σ1 (t + 2) w.toNat ((σ1 (t + 2) w.toNat) + (min mv z57)))
            refine s_iast (q := (t + 3)) (n := 4) (pc := 127) C dX8_spin_127 (sh_T3 ht) (by omega) (by omega) (by decide) ?_
            have g127 := gx_sett3 (z := z124) g91 ht w.toNat (0) (99) rfl ⟨by omega, by omega⟩
            have f127 := frm_set (P := (PSp t)) (z := z124) f91 (t + 3) w.toNat (by simp [PSp] <;> omega)
            refine s_iinc (pc := 128) C [(4, vI (w + 1)), (3, vI (mv - (min mv z57))), (5, vI (min mv z57)), (0, .ref (ad t)), (1, vI n), (2, vI b)] dX8_spin_128 5 rfl (by decide) rfl ?_
            refine s_goto (pc := 131) C (tgt := 43) dX8_spin_131 (by decide) ?_
            refine s_sub C [3, 4, 5, 1, 0] [(0, .ref (ad t)), (1, vI n), (2, vI b), (3, vI (mv - (min mv z57))), (4, vI (w + 1))] rfl ?_
            have hi43 : GX σ ((hs_ss (hs_ss σ1 (t + 2) w.toNat ((σ1 (t + 2) w.toNat) + (min mv z57))) (t + 3) w.toNat z124)) ∧ FRM (PSp t) σ ((hs_ss (hs_ss σ1 (t + 2) w.toNat ((σ1 (t + 2) w.toNat) + (min mv z57))) (t + 3) w.toNat z124)) ∧ 0 ≤ (w + 1) ∧ (w + 1) ≤ 4 ∧ 0 ≤ (mv - (min mv z57)) ∧ (mv - (min mv z57)) ≤ n ∧ ((hs_ss (hs_ss σ1 (t + 2) w.toNat ((σ1 (t + 2) w.toNat) + (min mv z57))) (t + 3) w.toNat z124)) t 5 = (if b = 0 then σ t 5 - n else σ t 5 + n) % (σ t 3) := ⟨g127, f127, ⟨by omega, by omega, by omega, by omega, by simp only [hs_ss, hs_up]; simp [h5]⟩⟩
            exact ih43 (w + 1, mv - (min mv z57), (hs_ss (hs_ss σ1 (t + 2) w.toNat ((σ1 (t + 2) w.toNat) + (min mv z57))) (t + 3) w.toNat z124)) (by first | omega | (simp only []; omega)) hi43
          · skip
            refine s_aload_n (pc := 103) C dX8_spin_103 2 rfl ?_
            refine s_getr (q := t) (ci := 8) (N := 7) (CN := RX8) (T := TX8) (pc := 104) C 2 dX8_spin_104 wlX8_18 (sh_T ht) rfl rfl wfX8 (by decide) rfl ?_
            refine s_iload (pc := 107) C dX8_spin_107 5 rfl ?_
            refine s_iald (q := (t + 3)) (n := 4) (pc := 109) C ((hs_ss σ1 (t + 2) w.toNat ((σ1 (t + 2) w.toNat) + (min mv z57))) (t + 3) w.toNat) rfl dX8_spin_109 (sh_T3 ht) (by omega) (by omega) (by decide) ?_
            have b109 : (0 : Int) ≤ (hs_ss σ1 (t + 2) w.toNat ((σ1 (t + 2) w.toNat) + (min mv z57))) (t + 3) w.toNat ∧ (hs_ss σ1 (t + 2) w.toNat ((σ1 (t + 2) w.toNat) + (min mv z57))) (t + 3) w.toNat ≤ 99 := gx_t3 g91 ht w.toNat
            refine s_iload_n (pc := 110) C dX8_spin_110 0 rfl ?_
            refine s_iadd (pc := 111) C dX8_spin_111 ?_
            refine s_goto (pc := 112) C (tgt := 124) dX8_spin_112 (by decide) ?_
            refine s_callVi (pc := 124) C (c_X8_wrap l t ht (((hs_ss σ1 (t + 2) w.toNat ((σ1 (t + 2) w.toNat) + (min mv z57))) (t + 3) w.toNat) + (mv - (min mv z57))) ⟨by omega, by omega⟩) [vI (((hs_ss σ1 (t + 2) w.toNat ((σ1 (t + 2) w.toNat) + (min mv z57))) (t + 3) w.toNat) + (mv - (min mv z57)))] [vI w, .ref (ad (t + 3))] rfl rfl dX8_spin_124 wlX8_44 wiX8_wrap weX8_wrap wcX8_wrap wnX8 noX8_wrap (by decide) (by decide) (Nat.le_of_ble_eq_true rfl) (gx_self g91) (sh_T ht) rfl ?_
            rintro z124 _ ⟨rfl, k124⟩
            show hs_Wd _ _ _ _ _ _ _ _ _ _ _ _ _ _ _ _ _ 127 _ [vI z124, vI w, .ref (ad (t + 3))] (hs_ss σ1 (t + 2) w.toNat ((σ1 (t + 2) w.toNat) + (min mv z57)))
            refine s_iast (q := (t + 3)) (n := 4) (pc := 127) C dX8_spin_127 (sh_T3 ht) (by omega) (by omega) (by decide) ?_
            have g127 := gx_sett3 (z := z124) g91 ht w.toNat (0) (99) rfl ⟨by omega, by omega⟩
            have f127 := frm_set (P := (PSp t)) (z := z124) f91 (t + 3) w.toNat (by simp [PSp] <;> omega)
            refine s_iinc (pc := 128) C [(4, vI (w + 1)), (3, vI (mv - (min mv z57))), (5, vI (min mv z57)), (0, .ref (ad t)), (1, vI n), (2, vI b)] dX8_spin_128 5 rfl (by decide) rfl ?_
            refine s_goto (pc := 131) C (tgt := 43) dX8_spin_131 (by decide) ?_
            refine s_sub C [3, 4, 5, 1, 0] [(0, .ref (ad t)), (1, vI n), (2, vI b), (3, vI (mv - (min mv z57))), (4, vI (w + 1))] rfl ?_
            have hi43 : GX σ ((hs_ss (hs_ss σ1 (t + 2) w.toNat ((σ1 (t + 2) w.toNat) + (min mv z57))) (t + 3) w.toNat z124)) ∧ FRM (PSp t) σ ((hs_ss (hs_ss σ1 (t + 2) w.toNat ((σ1 (t + 2) w.toNat) + (min mv z57))) (t + 3) w.toNat z124)) ∧ 0 ≤ (w + 1) ∧ (w + 1) ≤ 4 ∧ 0 ≤ (mv - (min mv z57)) ∧ (mv - (min mv z57)) ≤ n ∧ ((hs_ss (hs_ss σ1 (t + 2) w.toNat ((σ1 (t + 2) w.toNat) + (min mv z57))) (t + 3) w.toNat z124)) t 5 = (if b = 0 then σ t 5 - n else σ t 5 + n) % (σ t 3) := ⟨g127, f127, ⟨by omega, by omega, by omega, by omega, by simp only [hs_ss, hs_up]; simp [h5]⟩⟩
            exact ih43 (w + 1, mv - (min mv z57), (hs_ss (hs_ss σ1 (t + 2) w.toNat ((σ1 (t + 2) w.toNat) + (min mv z57))) (t + 3) w.toNat z124)) (by first | omega | (simp only []; omega)) hi43
  · skip
    refine s_vret (pc := 5) C dX8_spin_5 ?_
    refine ⟨rfl, ?_⟩
    exact ⟨g0, f0, ⟨fun q => absurd q (by omega), fun _ => rfl⟩⟩
set_option maxHeartbeats 4000000 in
set_option maxRecDepth 100000 in
theorem c_X8_stepsTo (l : Launch) (t : Nat) (ht : hs_T t) (a b n : Int) (ha : 0 ≤ a ∧ a ≤ 1000) (hb : b = 0 ∨ b = 1) (hn : 0 ≤ n ∧ n ≤ 99) : hs_Met l yX8_stepsTo cX8_stepsTo 5 (some .int) 4 SHX (fun ad => [.ref (ad t), vI a, vI b, vI n]) (fun σ => GX σ σ) (hs_PI (fun σ z σ1 => σ = σ1 ∧ -100 ≤ z ∧ z ≤ 10000 ∧ (1 ≤ n → 1 ≤ z))) := by
  refine hs_from pfX8_stepsTo (fun _ => Nat.le_of_ble_eq_true rfl) ?_
  intro p e s m args below meth c D dA ad A σ C hpre
  have C : hs_C p s m args meth c D dA SHX ad A 5 cX8_stepsTo RX8 (some .int) := C
  have g0 := hpre
  show hs_Wd p l e 4 s m args below meth c D dA SHX ad A 5 (hs_PI (fun σ z σ1 => σ = σ1 ∧ -100 ≤ z ∧ z ≤ 10000 ∧ (1 ≤ n → 1 ≤ z)) σ) 0 [(0, .ref (ad t)), (1, vI a), (2, vI b), (3, vI n)] [] σ
  refine s_iload_n (pc := 0) C dX8_stepsTo_0 2 rfl ?_
  refine s_if_eq (pc := 1) C (tgt := 13) dX8_stepsTo_1 (by decide) ⟨by omega, by omega⟩ (fun h1 => ?_) (fun h1 => ?_)
  · skip
    refine s_aload_n (pc := 13) C dX8_stepsTo_13 0 rfl ?_
    refine s_geti (q := t) (ci := 8) (N := 7) (CN := RX8) (T := TX8) (pc := 14) C 5 dX8_stepsTo_14 wlX8_28 (sh_T ht) rfl rfl wfX8 (by decide) rfl (σ t 5) rfl ?_
    have b14 : (0 : Int) ≤ σ t 5 ∧ σ t 5 ≤ 99 := gx_t g0 ht 5
    refine s_iload_n (pc := 17) C dX8_stepsTo_17 1 rfl ?_
    refine s_isub (pc := 18) C dX8_stepsTo_18 ?_
    refine s_istore (pc := 19) C [(4, vI ((σ t 5) - a)), (0, .ref (ad t)), (1, vI a), (2, vI b), (3, vI n)] dX8_stepsTo_19 (by decide) rfl ?_
    refine s_iconst (pc := 21) C dX8_stepsTo_21 ?_
    refine s_aload_n (pc := 22) C dX8_stepsTo_22 1 rfl ?_
    refine s_iload (pc := 23) C dX8_stepsTo_23 0 rfl ?_
    refine s_iconst (pc := 25) C dX8_stepsTo_25 ?_
    refine s_isub (pc := 26) C dX8_stepsTo_26 ?_
    refine s_callVi (pc := 27) C (c_X8_wrap l t ht (((σ t 5) - a) - 1) ⟨by omega, by omega⟩) [vI (((σ t 5) - a) - 1)] [vI 1] rfl rfl dX8_stepsTo_27 wlX8_44 wiX8_wrap weX8_wrap wcX8_wrap wnX8 noX8_wrap (by decide) (by decide) (Nat.le_of_ble_eq_true rfl) (gx_self g0) (sh_T ht) rfl ?_
    rintro z27 _ ⟨rfl, k27⟩
    show hs_Wd _ _ _ _ _ _ _ _ _ _ _ _ _ _ _ _ _ 30 _ [vI z27, vI 1] σ
    refine s_iadd (pc := 30) C dX8_stepsTo_30 ?_
    refine s_iload_n (pc := 31) C dX8_stepsTo_31 4 rfl ?_
    refine s_iconst (pc := 32) C dX8_stepsTo_32 ?_
    refine s_isub (pc := 33) C dX8_stepsTo_33 ?_
    refine s_aload_n (pc := 34) C dX8_stepsTo_34 1 rfl ?_
    refine s_geti (q := t) (ci := 8) (N := 7) (CN := RX8) (T := TX8) (pc := 35) C 3 dX8_stepsTo_35 wlX8_21 (sh_T ht) rfl rfl wfX8 (by decide) rfl (σ t 3) rfl ?_
    have b35 : (10 : Int) ≤ σ t 3 ∧ σ t 3 ≤ 100 := gx_t g0 ht 3
    refine s_imul (pc := 38) C dX8_stepsTo_38 ?_
    refine s_iadd (pc := 39) C dX8_stepsTo_39 ?_
    refine s_iret (pc := 40) C dX8_stepsTo_40 ?_
    refine ⟨_, rfl, ?_⟩
    have hN : (10 : Int) ≤ σ t 3 ∧ σ t 3 ≤ 100 := gx_t g0 ht 3
    have hm := hs_mulb (a := n - 1) (b := σ t 3) (lo := -1) (hi := 98) (B := 100) (by omega) (by omega) (by omega) (by omega) (by omega) (by omega)
    have hm2 : 1 ≤ n → 0 ≤ (n - 1) * σ t 3 := fun q => Int.mul_nonneg (by omega) (by omega)
    exact ⟨rfl, by omega, by omega, fun q => by have := hm2 q; omega⟩
  · skip
    refine s_iload_n (pc := 4) C dX8_stepsTo_4 1 rfl ?_
    refine s_aload_n (pc := 5) C dX8_stepsTo_5 0 rfl ?_
    refine s_geti (q := t) (ci := 8) (N := 7) (CN := RX8) (T := TX8) (pc := 6) C 5 dX8_stepsTo_6 wlX8_28 (sh_T ht) rfl rfl wfX8 (by decide) rfl (σ t 5) rfl ?_
    have b6 : (0 : Int) ≤ σ t 5 ∧ σ t 5 ≤ 99 := gx_t g0 ht 5
    refine s_isub (pc := 9) C dX8_stepsTo_9 ?_
    refine s_goto (pc := 10) C (tgt := 19) dX8_stepsTo_10 (by decide) ?_
    refine s_istore (pc := 19) C [(4, vI (a - (σ t 5))), (0, .ref (ad t)), (1, vI a), (2, vI b), (3, vI n)] dX8_stepsTo_19 (by decide) rfl ?_
    refine s_iconst (pc := 21) C dX8_stepsTo_21 ?_
    refine s_aload_n (pc := 22) C dX8_stepsTo_22 1 rfl ?_
    refine s_iload (pc := 23) C dX8_stepsTo_23 0 rfl ?_
    refine s_iconst (pc := 25) C dX8_stepsTo_25 ?_
    refine s_isub (pc := 26) C dX8_stepsTo_26 ?_
    refine s_callVi (pc := 27) C (c_X8_wrap l t ht ((a - (σ t 5)) - 1) ⟨by omega, by omega⟩) [vI ((a - (σ t 5)) - 1)] [vI 1] rfl rfl dX8_stepsTo_27 wlX8_44 wiX8_wrap weX8_wrap wcX8_wrap wnX8 noX8_wrap (by decide) (by decide) (Nat.le_of_ble_eq_true rfl) (gx_self g0) (sh_T ht) rfl ?_
    rintro z27 _ ⟨rfl, k27⟩
    show hs_Wd _ _ _ _ _ _ _ _ _ _ _ _ _ _ _ _ _ 30 _ [vI z27, vI 1] σ
    refine s_iadd (pc := 30) C dX8_stepsTo_30 ?_
    refine s_iload_n (pc := 31) C dX8_stepsTo_31 4 rfl ?_
    refine s_iconst (pc := 32) C dX8_stepsTo_32 ?_
    refine s_isub (pc := 33) C dX8_stepsTo_33 ?_
    refine s_aload_n (pc := 34) C dX8_stepsTo_34 1 rfl ?_
    refine s_geti (q := t) (ci := 8) (N := 7) (CN := RX8) (T := TX8) (pc := 35) C 3 dX8_stepsTo_35 wlX8_21 (sh_T ht) rfl rfl wfX8 (by decide) rfl (σ t 3) rfl ?_
    have b35 : (10 : Int) ≤ σ t 3 ∧ σ t 3 ≤ 100 := gx_t g0 ht 3
    refine s_imul (pc := 38) C dX8_stepsTo_38 ?_
    refine s_iadd (pc := 39) C dX8_stepsTo_39 ?_
    refine s_iret (pc := 40) C dX8_stepsTo_40 ?_
    refine ⟨_, rfl, ?_⟩
    have hN : (10 : Int) ≤ σ t 3 ∧ σ t 3 ≤ 100 := gx_t g0 ht 3
    have hm := hs_mulb (a := n - 1) (b := σ t 3) (lo := -1) (hi := 98) (B := 100) (by omega) (by omega) (by omega) (by omega) (by omega) (by omega)
    have hm2 : 1 ≤ n → 0 ≤ (n - 1) * σ t 3 := fun q => Int.mul_nonneg (by omega) (by omega)
    exact ⟨rfl, by omega, by omega, fun q => by have := hm2 q; omega⟩
