/-! how far a seeking wheel has to go yet -/
def DST (b N goal num : Int) : Int := (if b = 0 then (num - goal - 1) % N else (goal - num - 1) % N) + 1
def MUS (b w goal : Int) (σ : hs_S) : Int := 101 * PLS b w σ + (if PLS b w σ = 0 then DST b (σ 0 3) goal (σ 0 4) else 101)
theorem dst_b {b N goal num : Int} (hN : 0 < N) (hN2 : N ≤ 100) : 1 ≤ DST b N goal num ∧ DST b N goal num ≤ 100 := by
  unfold DST
  split
  · have h1 := Int.emod_nonneg (num - goal - 1) (show N ≠ 0 by omega)
    have h2 := Int.emod_lt_of_pos (num - goal - 1) hN
    omega
  · have h1 := Int.emod_nonneg (goal - num - 1) (show N ≠ 0 by omega)
    have h2 := Int.emod_lt_of_pos (goal - num - 1) hN
    omega
theorem emod_pm {N d q : Int} (hN : 0 < N) (h : d = q ∨ d = q - N) (h0 : 0 ≤ q) (h1 : q < N) : d % N = q := by
  rcases h with rfl | rfl
  · exact Int.emod_eq_of_lt h0 h1
  · rw [Int.sub_emod_right]
    exact Int.emod_eq_of_lt h0 h1
theorem emod_two {N u v : Int} (hN : 0 < N) (hu : -N < u ∧ u < N) (h : u % N = v) : u = v ∨ u = v - N := by
  rcases Int.lt_or_le u 0 with q | q
  · right
    have : (u + N) % N = u + N := Int.emod_eq_of_lt (by omega) (by omega)
    rw [Int.add_emod_right] at this
    omega
  · left
    have : u % N = u := Int.emod_eq_of_lt q hu.2
    omega
theorem dst_dec {b N goal num num' : Int} (hN : 0 < N) (hg : 0 ≤ goal ∧ goal < N) (hn : 0 ≤ num' ∧ num' < N) (hb : b = 0 ∨ b = 1) (h : num' = (if b = 0 then num - 1 else num + 1) % N) (hne : ¬ num' = goal) : DST b N goal num' < DST b N goal num := by
  unfold DST
  rcases hb with rfl | rfl
  · rw [if_pos rfl] at h
    rw [if_pos rfl, if_pos rfl]
    have e1 : (num' - goal) % N = (num - goal - 1) % N := by
      rw [h, Int.emod_sub_emod, show num - 1 - goal = num - goal - 1 by omega]
    have e2 := emod_two hN (u := num' - goal) (by omega) e1
    have q0 := Int.emod_nonneg (num - goal - 1) (show N ≠ 0 by omega)
    have q1 := Int.emod_lt_of_pos (num - goal - 1) hN
    have e3 : (num' - goal - 1) % N = (num - goal - 1) % N - 1 := emod_pm hN (by omega) (by omega) (by omega)
    omega
  · rw [if_neg (by decide)] at h
    rw [if_neg (by decide), if_neg (by decide)]
    have e1 : (goal - num') % N = (goal - num - 1) % N := by
      rw [h, Int.sub_emod, Int.emod_emod_of_dvd _ (Int.dvd_refl N), ← Int.sub_emod, show goal - (num + 1) = goal - num - 1 by omega]
    have e2 := emod_two hN (u := goal - num') (by omega) e1
    have q0 := Int.emod_nonneg (goal - num - 1) (show N ≠ 0 by omega)
    have q1 := Int.emod_lt_of_pos (goal - num - 1) hN
    have e3 : (goal - num' - 1) % N = (goal - num - 1) % N - 1 := emod_pm hN (by omega) (by omega) (by omega)
    omega
theorem mus_dec {b w goal : Int} {σ σ1 : hs_S} (h3 : σ1 0 3 = σ 0 3) (hN : 10 ≤ σ 0 3 ∧ σ 0 3 ≤ 100) (hg : 0 ≤ goal ∧ goal < σ 0 3) (hb : b = 0 ∨ b = 1) (hn0 : 0 ≤ σ1 0 4) (h4 : σ1 0 4 = (if b = 0 then σ 0 4 - 1 else σ 0 4 + 1) % (σ 0 3)) (h4b : σ1 0 4 < σ 0 3) (hnn : 0 ≤ PLS b w σ) (hp : (0 < PLS b w σ → PLS b w σ1 = PLS b w σ - 1 ∧ σ1 0 23 = 0) ∧ (PLS b w σ = 0 → PLS b w σ1 = 0 ∧ σ1 0 23 = 1)) (hx : σ1 0 23 = 0 ∨ ¬ σ1 0 4 = goal) : (MUS b w goal σ1).toNat < (MUS b w goal σ).toNat := by
  unfold MUS
  have d1 := dst_b (b := b) (N := σ1 0 3) (goal := goal) (num := σ1 0 4) (by omega) (by omega)
  have d2 := dst_b (b := b) (N := σ 0 3) (goal := goal) (num := σ 0 4) (by omega) (by omega)
  rcases Int.lt_or_le 0 (PLS b w σ) with q | q
  · have h := hp.1 q
    rw [if_neg (show ¬ PLS b w σ = 0 by omega)]
    split <;> omega
  · have q0 : PLS b w σ = 0 := by omega
    have h := hp.2 q0
    rw [if_pos q0, if_pos h.1]
    have d := dst_dec (b := b) (num := σ 0 4) (show 0 < σ 0 3 by omega) hg (num' := σ1 0 4) ⟨hn0, h4b⟩ hb h4 (by omega)
    rw [h3] at *
    omega
set_option maxHeartbeats 4000000 in
set_option maxRecDepth 100000 in
theorem c_X12_soughtIn (l : Launch) (r : Int) (hr : 0 ≤ r ∧ r ≤ 1000) (w : Int) (hw : 0 ≤ w ∧ w < 4) (f : Int) (hf : hs_R f) : hs_Met l yX12_soughtIn cX12_soughtIn 6 (some .int) 1 SHY (fun ad => [.ref (ad 0), vI r, vI w, vI f]) (fun σ => GY σ σ ∧ ∀ j : Nat, (j : Int) ≤ w → 1 ≤ σ 29 j) (hs_PI (fun σ z σ1 => σ = σ1 ∧ 0 ≤ z ∧ z ≤ 1000)) := by
  refine hs_from pfX12_soughtIn (fun _ => Nat.le_of_ble_eq_true rfl) ?_
  intro p e s m args below meth c D dA ad A σ C hpre
  have C : hs_C p s m args meth c D dA SHY ad A 6 cX12_soughtIn RX12 (some .int) := C
  obtain ⟨g0, hpre⟩ := hpre
  show hs_Wd p l e 1 s m args below meth c D dA SHY ad A 6 (hs_PI (fun σ z σ1 => σ = σ1 ∧ 0 ≤ z ∧ z ≤ 1000) σ) 0 [(0, .ref (ad 0)), (1, vI r), (2, vI w), (3, vI f)] [] σ
  refine s_iload_n (pc := 0) C dX12_soughtIn_0 1 rfl ?_
  refine s_istore (pc := 1) C [(4, vI r), (0, .ref (ad 0)), (1, vI r), (2, vI w), (3, vI f)] dX12_soughtIn_1 (by decide) rfl ?_
  refine s_iconst (pc := 3) C dX12_soughtIn_3 ?_
  refine s_istore (pc := 4) C [(5, vI 0), (4, vI r), (0, .ref (ad 0)), (1, vI r), (2, vI w), (3, vI f)] dX12_soughtIn_4 (by decide) rfl ?_
  refine s_sub C [2, 3, 4, 5, 1, 0] [(0, .ref (ad 0)), (1, vI r), (2, vI w), (3, vI f), (4, vI r), (5, vI 0)] rfl ?_
  have hi6 : 0 ≤ (0 : Int) ∧ (0 : Int) ≤ w ∧ 0 ≤ r ∧ r ≤ 1000 := (by first | omega | assumption | (constructor <;> omega) | (refine ⟨⟨?_, ?_⟩, ?_⟩ <;> omega) | (simp [hs_ss, hs_up]; omega) | (simp [hs_ss, hs_up]; done))
  refine hs_loop (α := Int × Int) (fun x_ => (0 ≤ x_.1 ∧ x_.1 ≤ w ∧ 0 ≤ x_.2 ∧ x_.2 ≤ 1000) → hs_Wd p l e 1 s m args below meth c D dA SHY ad A 6 (hs_PI (fun σ z σ1 => σ = σ1 ∧ 0 ≤ z ∧ z ≤ 1000) σ) 6 [(0, .ref (ad 0)), (1, vI r), (2, vI w), (3, vI f), (4, vI x_.2), (5, vI x_.1)] [] σ) (fun x_ => (5 - x_.1).toNat) ?_ (0, r) hi6
  rintro ⟨k, n⟩ ih6 hinv
  replace hinv : 0 ≤ k ∧ k ≤ w ∧ 0 ≤ n ∧ n ≤ 1000 := hinv
  show hs_Wd p l e 1 s m args below meth c D dA SHY ad A 6 (hs_PI (fun σ z σ1 => σ = σ1 ∧ 0 ≤ z ∧ z ≤ 1000) σ) 6 [(0, .ref (ad 0)), (1, vI r), (2, vI w), (3, vI f), (4, vI n), (5, vI k)] [] σ
  refine s_iload (pc := 6) C dX12_soughtIn_6 5 rfl ?_
  refine s_iload_n (pc := 8) C dX12_soughtIn_8 2 rfl ?_
  refine s_icmp_ge (pc := 9) C (tgt := 30) dX12_soughtIn_9 (by decide) ⟨by omega, by omega⟩ ⟨by omega, by omega⟩ (fun h9 => ?_) (fun h9 => ?_)
  · skip
    have hmw := hpre w.toNat (by omega)
    refine s_iload (pc := 30) C dX12_soughtIn_30 4 rfl ?_
    refine s_aload_n (pc := 32) C dX12_soughtIn_32 0 rfl ?_
    refine s_getr (q := 0) (ci := 12) (N := 68) (CN := RX12) (T := TX12) (pc := 33) C 55 dX12_soughtIn_33 wlX12_102 rfl rfl rfl wfX12 (by decide) rfl ?_
    refine s_iload_n (pc := 36) C dX12_soughtIn_36 2 rfl ?_
    refine s_iald (q := 29) (n := 4) (pc := 37) C (σ 29 w.toNat) rfl dX12_soughtIn_37 rfl (by omega) (by omega) (by decide) ?_
    have b37 : (0 : Int) ≤ σ 29 w.toNat ∧ σ 29 w.toNat ≤ 100 := g0.1 29 w.toNat
    refine s_irem (pc := 38) C dX12_soughtIn_38 ⟨by omega, by omega⟩ ⟨by omega, by omega⟩ (by omega) ?_
    have ht0 := Int.tmod_nonneg (σ 29 w.toNat) (show 0 ≤ n by omega)
    have ht1 := hs_tm_hi n (show 0 < σ 29 w.toNat by omega)
    have b29 : (0 : Int) ≤ σ 29 w.toNat ∧ σ 29 w.toNat ≤ 100 := g0.1 29 w.toNat
    refine s_istore (pc := 39) C [(5, vI (n.tmod (σ 29 w.toNat))), (0, .ref (ad 0)), (1, vI r), (2, vI w), (3, vI f), (4, vI n)] dX12_soughtIn_39 (by decide) rfl ?_
    refine s_aload_n (pc := 41) C dX12_soughtIn_41 1 rfl ?_
    refine s_getr (q := 0) (ci := 12) (N := 68) (CN := RX12) (T := TX12) (pc := 42) C 56 dX12_soughtIn_42 wlX12_105 rfl rfl rfl wfX12 (by decide) rfl ?_
    refine s_bipush (pc := 45) C dX12_soughtIn_45 (by decide) ?_
    refine s_iload_n (pc := 47) C dX12_soughtIn_47 3 rfl ?_
    refine s_imul (pc := 48) C dX12_soughtIn_48 ?_
    refine s_iload_n (pc := 49) C dX12_soughtIn_49 4 rfl ?_
    refine s_iload_n (pc := 50) C dX12_soughtIn_50 3 rfl ?_
    refine s_ishr (pc := 51) C dX12_soughtIn_51 (fun z51 hz51 ez51 => ?_)
    refine s_iconst (pc := 52) C dX12_soughtIn_52 ?_
    refine s_iand (pc := 53) C dX12_soughtIn_53 (fun z53 hz53 ez53 => ?_)
    refine s_iconst (pc := 54) C dX12_soughtIn_54 ?_
    refine s_icmp_ne (pc := 55) C (tgt := 72) dX12_soughtIn_55 (by decide) ⟨by omega, by omega⟩ ⟨by decide, by decide⟩ (fun h55 => ?_) (fun h55 => ?_)
    · skip
      refine s_iload (pc := 72) C dX12_soughtIn_72 0 rfl ?_
      refine s_iadd (pc := 74) C dX12_soughtIn_74 ?_
      refine s_iald (q := 30) (n := 400) (pc := 75) C (σ 30 (((100 * w) + (n.tmod (σ 29 w.toNat))).toNat)) rfl dX12_soughtIn_75 rfl (by omega) (by omega) (by decide) ?_
      have b75 : (0 : Int) ≤ σ 30 (((100 * w) + (n.tmod (σ 29 w.toNat))).toNat) ∧ σ 30 (((100 * w) + (n.tmod (σ 29 w.toNat))).toNat) ≤ 1000 := g0.1 30 (((100 * w) + (n.tmod (σ 29 w.toNat))).toNat)
      refine s_iret (pc := 76) C dX12_soughtIn_76 ?_
      refine ⟨_, rfl, ?_⟩
      exact ⟨rfl, by first | omega | assumption | (constructor <;> omega) | (refine ⟨⟨?_, ?_⟩, ?_⟩ <;> omega) | (simp [hs_ss, hs_up]; omega) | (simp [hs_ss, hs_up]; done)⟩
    · skip
      refine s_aload_n (pc := 58) C dX12_soughtIn_58 1 rfl ?_
      refine s_getr (q := 0) (ci := 12) (N := 68) (CN := RX12) (T := TX12) (pc := 59) C 55 dX12_soughtIn_59 wlX12_102 rfl rfl rfl wfX12 (by decide) rfl ?_
      refine s_iload_n (pc := 62) C dX12_soughtIn_62 3 rfl ?_
      refine s_iald (q := 29) (n := 4) (pc := 63) C (σ 29 w.toNat) rfl dX12_soughtIn_63 rfl (by omega) (by omega) (by decide) ?_
      have b63 : (0 : Int) ≤ σ 29 w.toNat ∧ σ 29 w.toNat ≤ 100 := g0.1 29 w.toNat
      refine s_iconst (pc := 64) C dX12_soughtIn_64 ?_
      refine s_isub (pc := 65) C dX12_soughtIn_65 ?_
      refine s_iload (pc := 66) C dX12_soughtIn_66 0 rfl ?_
      refine s_isub (pc := 68) C dX12_soughtIn_68 ?_
      refine s_goto (pc := 69) C (tgt := 74) dX12_soughtIn_69 (by decide) ?_
      refine s_iadd (pc := 74) C dX12_soughtIn_74 ?_
      refine s_iald (q := 30) (n := 400) (pc := 75) C (σ 30 (((100 * w) + (((σ 29 w.toNat) - 1) - (n.tmod (σ 29 w.toNat)))).toNat)) rfl dX12_soughtIn_75 rfl (by omega) (by omega) (by decide) ?_
      have b75 : (0 : Int) ≤ σ 30 (((100 * w) + (((σ 29 w.toNat) - 1) - (n.tmod (σ 29 w.toNat)))).toNat) ∧ σ 30 (((100 * w) + (((σ 29 w.toNat) - 1) - (n.tmod (σ 29 w.toNat)))).toNat) ≤ 1000 := g0.1 30 (((100 * w) + (((σ 29 w.toNat) - 1) - (n.tmod (σ 29 w.toNat)))).toNat)
      refine s_iret (pc := 76) C dX12_soughtIn_76 ?_
      refine ⟨_, rfl, ?_⟩
      exact ⟨rfl, by first | omega | assumption | (constructor <;> omega) | (refine ⟨⟨?_, ?_⟩, ?_⟩ <;> omega) | (simp [hs_ss, hs_up]; omega) | (simp [hs_ss, hs_up]; done)⟩
  · skip
    have hmk := hpre k.toNat (by omega)
    refine s_iload (pc := 12) C dX12_soughtIn_12 4 rfl ?_
    refine s_aload_n (pc := 14) C dX12_soughtIn_14 0 rfl ?_
    refine s_getr (q := 0) (ci := 12) (N := 68) (CN := RX12) (T := TX12) (pc := 15) C 55 dX12_soughtIn_15 wlX12_102 rfl rfl rfl wfX12 (by decide) rfl ?_
    refine s_iload (pc := 18) C dX12_soughtIn_18 5 rfl ?_
    refine s_iald (q := 29) (n := 4) (pc := 20) C (σ 29 k.toNat) rfl dX12_soughtIn_20 rfl (by omega) (by omega) (by decide) ?_
    have b20 : (0 : Int) ≤ σ 29 k.toNat ∧ σ 29 k.toNat ≤ 100 := g0.1 29 k.toNat
    refine s_idiv (pc := 21) C dX12_soughtIn_21 ⟨by omega, by omega⟩ ⟨by omega, by omega⟩ (by omega) ?_
    have hq := hs_tdivb (a := n) (b := σ 29 k.toNat) (M := 1000) (by omega) (by omega) (by omega)
    have hq0 := Int.tdiv_nonneg (a := n) (b := σ 29 k.toNat) (by omega) (by omega)
    refine s_istore (pc := 22) C [(4, vI (n.tdiv (σ 29 k.toNat))), (0, .ref (ad 0)), (1, vI r), (2, vI w), (3, vI f), (5, vI k)] dX12_soughtIn_22 (by decide) rfl ?_
    refine s_iinc (pc := 24) C [(5, vI (k + 1)), (4, vI (n.tdiv (σ 29 k.toNat))), (0, .ref (ad 0)), (1, vI r), (2, vI w), (3, vI f)] dX12_soughtIn_24 5 rfl (by decide) rfl ?_
    refine s_goto (pc := 27) C (tgt := 6) dX12_soughtIn_27 (by decide) ?_
    refine s_sub C [2, 3, 4, 5, 1, 0] [(0, .ref (ad 0)), (1, vI r), (2, vI w), (3, vI f), (4, vI (n.tdiv (σ 29 k.toNat))), (5, vI (k + 1))] rfl ?_
    have hi6 : 0 ≤ (k + 1) ∧ (k + 1) ≤ w ∧ 0 ≤ (n.tdiv (σ 29 k.toNat)) ∧ (n.tdiv (σ 29 k.toNat)) ≤ 1000 := (by first | omega | assumption | (constructor <;> omega) | (refine ⟨⟨?_, ?_⟩, ?_⟩ <;> omega) | (simp [hs_ss, hs_up]; omega) | (simp [hs_ss, hs_up]; done))
    exact ih6 (k + 1, n.tdiv (σ 29 k.toNat)) (by first | omega | (simp only []; omega)) hi6
set_option maxHeartbeats 4000000 in
set_option maxRecDepth 100000 in
theorem c_X12_sets (l : Launch) (w : Int) (hw : 0 ≤ w ∧ w < 4) (q : Int) (hq : 0 ≤ q ∧ q ≤ 1000) : hs_Met l yX12_sets cX12_sets 6 (some .int) 4 SHY (fun ad => [.ref (ad 0), vI w, vI q]) (fun σ => GY σ σ ∧ w < σ 0 6) (hs_PI (fun σ z σ1 => GY σ σ1 ∧ FRM PGs σ σ1 ∧ hs_R z)) := by
  refine hs_from pfX12_sets (fun _ => Nat.le_of_ble_eq_true rfl) ?_
  intro p e s m args below meth c D dA ad A σ C hpre
  have C : hs_C p s m args meth c D dA SHY ad A 6 cX12_sets RX12 (some .int) := C
  obtain ⟨g0, hpre⟩ := hpre
  have f0 : FRM PGs σ σ := frm_rf
  show hs_Wd p l e 4 s m args below meth c D dA SHY ad A 6 (hs_PI (fun σ z σ1 => GY σ σ1 ∧ FRM PGs σ σ1 ∧ hs_R z) σ) 0 [(0, .ref (ad 0)), (1, vI w), (2, vI q)] [] σ
  have j19 : ∀ (b : Int), (b = 0 ∨ b = 1) → hs_Wd p l e 4 s m args below meth c D dA SHY ad A 6 (hs_PI (fun σ z σ1 => GY σ σ1 ∧ FRM PGs σ σ1 ∧ hs_R z) σ) 19 [(0, .ref (ad 0)), (1, vI w), (2, vI q), (3, vI b)] [] σ := by
    intro b hj19
    refine s_aload_n (pc := 19) C dX12_sets_19 0 rfl ?_
    refine s_iload_n (pc := 20) C dX12_sets_20 1 rfl ?_
    refine s_iload_n (pc := 21) C dX12_sets_21 2 rfl ?_
    refine s_iload_n (pc := 22) C dX12_sets_22 3 rfl ?_
    refine s_callVi (pc := 23) C (c_X12_comesAt l w q b (by first | omega | assumption | (constructor <;> omega) | (refine ⟨⟨?_, ?_⟩, ?_⟩ <;> omega) | (simp [hs_ss, hs_up]; omega) | (simp [hs_ss, hs_up]; done)) (by first | omega | assumption | (constructor <;> omega) | (refine ⟨⟨?_, ?_⟩, ?_⟩ <;> omega) | (simp [hs_ss, hs_up]; omega) | (simp [hs_ss, hs_up]; done)) (by first | omega | assumption | (constructor <;> omega) | (refine ⟨⟨?_, ?_⟩, ?_⟩ <;> omega) | (simp [hs_ss, hs_up]; omega) | (simp [hs_ss, hs_up]; done))) [vI w, vI q, vI b] [] rfl rfl dX12_sets_23 wlX12_220 wiX12_comesAt weX12_comesAt wcX12_comesAt wnX12 noX12_comesAt (by decide) (by decide) (Nat.le_of_ble_eq_true rfl) (gy_self g0) rfl rfl ?_
    rintro z23 _ ⟨rfl, k23⟩
    show hs_Wd _ _ _ _ _ _ _ _ _ _ _ _ _ _ _ _ _ 26 _ [vI z23] σ
    refine s_istore (pc := 26) C [(4, vI z23), (0, .ref (ad 0)), (1, vI w), (2, vI q), (3, vI b)] dX12_sets_26 (by decide) rfl ?_
    refine s_iconst (pc := 28) C dX12_sets_28 ?_
    refine s_istore (pc := 29) C [(5, vI 0), (4, vI z23), (0, .ref (ad 0)), (1, vI w), (2, vI q), (3, vI b)] dX12_sets_29 (by decide) rfl ?_
    refine s_sub C [2, 3, 4, 5, 1, 0] [(0, .ref (ad 0)), (1, vI w), (2, vI q), (3, vI b), (4, vI z23), (5, vI 0)] rfl ?_
    have hi31 : GY σ σ ∧ FRM PGs σ σ := ⟨g0, f0⟩
    refine hs_loop (α := Int × hs_S) (fun x_ => (GY σ x_.2 ∧ FRM PGs σ x_.2) → hs_Wd p l e 4 s m args below meth c D dA SHY ad A 6 (hs_PI (fun σ z σ1 => GY σ σ1 ∧ FRM PGs σ σ1 ∧ hs_R z) σ) 31 [(0, .ref (ad 0)), (1, vI w), (2, vI q), (3, vI b), (4, vI z23), (5, vI x_.1)] [] x_.2) (fun x_ => (MUS b w z23 x_.2).toNat) ?_ (0, σ) hi31
    rintro ⟨n, σ1⟩ ih31 hinv
    replace hinv : GY σ σ1 ∧ FRM PGs σ σ1 := hinv
    obtain ⟨hg31, hf31⟩ := hinv
    show hs_Wd p l e 4 s m args below meth c D dA SHY ad A 6 (hs_PI (fun σ z σ1 => GY σ σ1 ∧ FRM PGs σ σ1 ∧ hs_R z) σ) 31 [(0, .ref (ad 0)), (1, vI w), (2, vI q), (3, vI b), (4, vI z23), (5, vI n)] [] σ1
    have e3 : σ1 0 3 = σ 0 3 := hf31 0 3 rfl
    have e6 : σ1 0 6 = σ 0 6 := hf31 0 6 rfl
    have b03 : (10 : Int) ≤ σ1 0 3 ∧ σ1 0 3 ≤ 100 := hg31.1 0 3
    refine s_aload_n (pc := 31) C dX12_sets_31 0 rfl ?_
    refine s_iload_n (pc := 32) C dX12_sets_32 3 rfl ?_
    refine s_iload_n (pc := 33) C dX12_sets_33 1 rfl ?_
    refine s_callVv (pc := 34) C (c_X12_goes l b w (by first | omega | assumption | (constructor <;> omega) | (refine ⟨⟨?_, ?_⟩, ?_⟩ <;> omega) | (simp [hs_ss, hs_up]; omega) | (simp [hs_ss, hs_up]; done)) ⟨by omega, by omega⟩) [vI b, vI w] [] rfl rfl dX12_sets_34 wlX12_213 wiX12_goes weX12_goes wcX12_goes wnX12 noX12_goes (by decide) (by decide) (Nat.le_of_ble_eq_true rfl) (gy_self hg31) rfl rfl ?_
    rintro σ34 k34
    obtain ⟨kg34, kf34, k34⟩ := k34
    have g34 := gy_trans hg31 kg34
    have f34 := frm_tr hf31 (frm_mono (Q := PGs) kf34 (fun _ _ h => h))
    show hs_Wd _ _ _ _ _ _ _ _ _ _ _ _ _ _ _ _ _ 37 _ [] σ34
    refine s_iinc (pc := 37) C [(5, vI (n + 1)), (0, .ref (ad 0)), (1, vI w), (2, vI q), (3, vI b), (4, vI z23)] dX12_sets_37 5 rfl (by decide) rfl ?_
    refine s_aload_n (pc := 40) C dX12_sets_40 1 rfl ?_
    refine s_geti (q := 0) (ci := 12) (N := 68) (CN := RX12) (T := TX12) (pc := 41) C 23 dX12_sets_41 wlX12_154 rfl rfl rfl wfX12 (by decide) rfl (σ34 0 23) rfl ?_
    have b41 : (0 : Int) ≤ σ34 0 23 ∧ σ34 0 23 ≤ 1 := g34.1 0 23
    refine s_if_eq (pc := 44) C (tgt := 31) dX12_sets_44 (by decide) ⟨by omega, by omega⟩ (fun h44 => ?_) (fun h44 => ?_)
    · skip
      refine s_sub C [1, 2, 3, 4, 5, 0] [(0, .ref (ad 0)), (1, vI w), (2, vI q), (3, vI b), (4, vI z23), (5, vI (n + 1))] rfl ?_
      have hi31 : GY σ σ34 ∧ FRM PGs σ σ34 := ⟨g34, f34⟩
      exact ih31 (n + 1, σ34) (by have b4 : (0 : Int) ≤ σ34 0 4 ∧ σ34 0 4 ≤ 99 := g34.1 0 4; exact mus_dec (σ := σ1) (σ1 := σ34) (kf34 0 3 rfl) b03 (by omega) hj19 b4.1 k34.1 k34.2.1 (pls_nn (fun k => plk_nn hg31 k)) (k34.2.2 (by omega)) (by omega)) hi31
    · skip
      refine s_aload_n (pc := 47) C dX12_sets_47 1 rfl ?_
      refine s_geti (q := 0) (ci := 12) (N := 68) (CN := RX12) (T := TX12) (pc := 48) C 4 dX12_sets_48 wlX12_148 rfl rfl rfl wfX12 (by decide) rfl (σ34 0 4) rfl ?_
      have b48 : (0 : Int) ≤ σ34 0 4 ∧ σ34 0 4 ≤ 99 := g34.1 0 4
      refine s_iload (pc := 51) C dX12_sets_51 5 rfl ?_
      refine s_icmp_ne (pc := 53) C (tgt := 31) dX12_sets_53 (by decide) ⟨by omega, by omega⟩ ⟨by omega, by omega⟩ (fun h53 => ?_) (fun h53 => ?_)
      · skip
        refine s_sub C [1, 2, 3, 4, 5, 0] [(0, .ref (ad 0)), (1, vI w), (2, vI q), (3, vI b), (4, vI z23), (5, vI (n + 1))] rfl ?_
        have hi31 : GY σ σ34 ∧ FRM PGs σ σ34 := ⟨g34, f34⟩
        exact ih31 (n + 1, σ34) (by have b4 : (0 : Int) ≤ σ34 0 4 ∧ σ34 0 4 ≤ 99 := g34.1 0 4; exact mus_dec (σ := σ1) (σ1 := σ34) (kf34 0 3 rfl) b03 (by omega) hj19 b4.1 k34.1 k34.2.1 (pls_nn (fun k => plk_nn hg31 k)) (k34.2.2 (by omega)) (by omega)) hi31
      · skip
        refine s_iload (pc := 56) C dX12_sets_56 0 rfl ?_
        refine s_nrmI (pc := 58) C (fun zz hzz ezz => ?_)
        refine s_iret (pc := 58) C dX12_sets_58 ?_
        refine ⟨_, rfl, ?_⟩
        exact ⟨g34, f34, ⟨by omega, by omega⟩⟩
  refine s_aload_n (pc := 0) C dX12_sets_0 0 rfl ?_
  refine s_geti (q := 0) (ci := 12) (N := 68) (CN := RX12) (T := TX12) (pc := 1) C 6 dX12_sets_1 wlX12_141 rfl rfl rfl wfX12 (by decide) rfl (σ 0 6) rfl ?_
  have b1 : (0 : Int) ≤ σ 0 6 ∧ σ 0 6 ≤ 4 := g0.1 0 6
  refine s_iconst (pc := 4) C dX12_sets_4 ?_
  refine s_isub (pc := 5) C dX12_sets_5 ?_
  refine s_iload_n (pc := 6) C dX12_sets_6 1 rfl ?_
  refine s_isub (pc := 7) C dX12_sets_7 ?_
  refine s_iconst (pc := 8) C dX12_sets_8 ?_
  refine s_irem (pc := 9) C dX12_sets_9 ⟨by omega, by omega⟩ ⟨by decide, by decide⟩ (by omega) ?_
  have tl9 := hs_tm_lo (((σ 0 6) - 1) - w) (show (0 : Int) < 2 by omega)
  have th9 := hs_tm_hi (((σ 0 6) - 1) - w) (show (0 : Int) < 2 by omega)
  refine s_if_ne (pc := 10) C (tgt := 17) dX12_sets_10 (by decide) ⟨by omega, by omega⟩ (fun h10 => ?_) (fun h10 => ?_)
  · skip
    refine s_iconst (pc := 17) C dX12_sets_17 ?_
    refine s_istore_n (pc := 18) C [(3, vI 0), (0, .ref (ad 0)), (1, vI w), (2, vI q)] dX12_sets_18 (by decide) rfl ?_
    refine s_sub C [1, 2, 3, 0] [(0, .ref (ad 0)), (1, vI w), (2, vI q), (3, vI 0)] rfl ?_
    exact j19 0 (by first | omega | assumption | (constructor <;> omega) | (refine ⟨⟨?_, ?_⟩, ?_⟩ <;> omega) | (simp [hs_ss, hs_up]; omega) | (simp [hs_ss, hs_up]; done))
  · skip
    refine s_iconst (pc := 13) C dX12_sets_13 ?_
    refine s_goto (pc := 14) C (tgt := 18) dX12_sets_14 (by decide) ?_
    refine s_istore_n (pc := 18) C [(3, vI 1), (0, .ref (ad 0)), (1, vI w), (2, vI q)] dX12_sets_18 (by decide) rfl ?_
    refine s_sub C [1, 2, 3, 0] [(0, .ref (ad 0)), (1, vI w), (2, vI q), (3, vI 1)] rfl ?_
    exact j19 1 (by first | omega | assumption | (constructor <;> omega) | (refine ⟨⟨?_, ?_⟩, ?_⟩ <;> omega) | (simp [hs_ss, hs_up]; omega) | (simp [hs_ss, hs_up]; done))
set_option maxHeartbeats 4000000 in
set_option maxRecDepth 100000 in
theorem c_X12_triesNow (l : Launch)  : hs_Met l yX12_triesNow cX12_triesNow 4 (some .int) 3 SHY (fun ad => [.ref (ad 0)]) (fun σ => GY σ σ ∧ MNY σ) (hs_PI (fun σ z σ1 => σ = σ1 ∧ 0 ≤ z ∧ z ≤ σ 0 58)) := by
  refine hs_from pfX12_triesNow (fun _ => Nat.le_of_ble_eq_true rfl) ?_
  intro p e s m args below meth c D dA ad A σ C hpre
  have C : hs_C p s m args meth c D dA SHY ad A 4 cX12_triesNow RX12 (some .int) := C
  obtain ⟨g0, p0_MNY⟩ := hpre
  have hm := p0_MNY
  unfold MNY at hm
  have hm1 := hm.1
  show hs_Wd p l e 3 s m args below meth c D dA SHY ad A 4 (hs_PI (fun σ z σ1 => σ = σ1 ∧ 0 ≤ z ∧ z ≤ σ 0 58) σ) 0 [(0, .ref (ad 0))] [] σ
  refine s_iconst (pc := 0) C dX12_triesNow_0 ?_
  refine s_istore_n (pc := 1) C [(1, vI 0), (0, .ref (ad 0))] dX12_triesNow_1 (by decide) rfl ?_
  refine s_sub C [1, 0] [(0, .ref (ad 0)), (1, vI 0)] rfl ?_
  have hi2 : 0 ≤ (0 : Int) ∧ (0 : Int) ≤ 400 := (by first | omega | assumption | (constructor <;> omega) | (refine ⟨⟨?_, ?_⟩, ?_⟩ <;> omega) | (simp [hs_ss, hs_up]; omega) | (simp [hs_ss, hs_up]; done))
  refine hs_loop (α := Int) (fun x_ => (0 ≤ x_ ∧ x_ ≤ 400) → hs_Wd p l e 3 s m args below meth c D dA SHY ad A 4 (hs_PI (fun σ z σ1 => σ = σ1 ∧ 0 ≤ z ∧ z ≤ σ 0 58) σ) 2 [(0, .ref (ad 0)), (1, vI x_)] [] σ) (fun x_ => (401 - x_).toNat) ?_ (0) hi2
  rintro r ih2 hinv
  replace hinv : 0 ≤ r ∧ r ≤ 400 := hinv
  show hs_Wd p l e 3 s m args below meth c D dA SHY ad A 4 (hs_PI (fun σ z σ1 => σ = σ1 ∧ 0 ≤ z ∧ z ≤ σ 0 58) σ) 2 [(0, .ref (ad 0)), (1, vI r)] [] σ
  refine s_iload_n (pc := 2) C dX12_triesNow_2 1 rfl ?_
  refine s_i2l (pc := 3) C dX12_triesNow_3 ⟨by omega, by omega⟩ ?_
  refine s_aload_n (pc := 4) C dX12_triesNow_4 0 rfl ?_
  refine s_getl (q := 0) (ci := 12) (N := 68) (CN := RX12) (T := TX12) (pc := 5) C 58 dX12_triesNow_5 wlX12_349 rfl rfl rfl wfX12 (by decide) rfl (σ 0 58) rfl ?_
  have b5 : (-9223372036854775808 : Int) ≤ σ 0 58 ∧ σ 0 58 ≤ 9223372036854775807 := g0.1 0 58
  refine s_lcmp (pc := 8) C dX12_triesNow_8 ⟨by omega, by omega⟩ ⟨by omega, by omega⟩ (fun z8 hz8 n8 e8 p8 => ?_)
  refine s_if_ge (pc := 9) C (tgt := 80) dX12_triesNow_9 (by decide) ⟨by omega, by omega⟩ (fun h9 => ?_) (fun h9 => ?_)
  · skip
    refine s_aload_n (pc := 80) C dX12_triesNow_80 0 rfl ?_
    refine s_getl (q := 0) (ci := 12) (N := 68) (CN := RX12) (T := TX12) (pc := 81) C 58 dX12_triesNow_81 wlX12_349 rfl rfl rfl wfX12 (by decide) rfl (σ 0 58) rfl ?_
    have b81 : (-9223372036854775808 : Int) ≤ σ 0 58 ∧ σ 0 58 ≤ 9223372036854775807 := g0.1 0 58
    refine s_l2i (pc := 84) C dX12_triesNow_84 ?_
    refine s_iret (pc := 85) C dX12_triesNow_85 ?_
    refine ⟨_, rfl, ?_⟩
    exact ⟨rfl, by first | omega | assumption | (constructor <;> omega) | (refine ⟨⟨?_, ?_⟩, ?_⟩ <;> omega) | (simp [hs_ss, hs_up]; omega) | (simp [hs_ss, hs_up]; done)⟩
  · skip
    refine s_iconst (pc := 12) C dX12_triesNow_12 ?_
    refine s_istore_n (pc := 13) C [(2, vI 1), (0, .ref (ad 0)), (1, vI r)] dX12_triesNow_13 (by decide) rfl ?_
    refine s_iconst (pc := 14) C dX12_triesNow_14 ?_
    refine s_istore_n (pc := 15) C [(3, vI 0), (2, vI 1), (0, .ref (ad 0)), (1, vI r)] dX12_triesNow_15 (by decide) rfl ?_
    refine s_sub C [2, 3, 1, 0] [(0, .ref (ad 0)), (1, vI r), (2, vI 1), (3, vI 0)] rfl ?_
    have hi16 : 0 ≤ (0 : Int) ∧ (0 : Int) ≤ 4 ∧ ((1 : Int) = 0 ∨ (1 : Int) = 1) := (by first | omega | assumption | (constructor <;> omega) | (refine ⟨⟨?_, ?_⟩, ?_⟩ <;> omega) | (simp [hs_ss, hs_up]; omega) | (simp [hs_ss, hs_up]; done))
    refine hs_loop (α := Int × Int) (fun x_ => (0 ≤ x_.1 ∧ x_.1 ≤ 4 ∧ (x_.2 = 0 ∨ x_.2 = 1)) → hs_Wd p l e 3 s m args below meth c D dA SHY ad A 4 (hs_PI (fun σ z σ1 => σ = σ1 ∧ 0 ≤ z ∧ z ≤ σ 0 58) σ) 16 [(0, .ref (ad 0)), (1, vI r), (2, vI x_.2), (3, vI x_.1)] [] σ) (fun x_ => (5 - x_.1).toNat) ?_ (0, 1) hi16
    rintro ⟨w, b2⟩ ih16 hinv
    replace hinv : 0 ≤ w ∧ w ≤ 4 ∧ (b2 = 0 ∨ b2 = 1) := hinv
    show hs_Wd p l e 3 s m args below meth c D dA SHY ad A 4 (hs_PI (fun σ z σ1 => σ = σ1 ∧ 0 ≤ z ∧ z ≤ σ 0 58) σ) 16 [(0, .ref (ad 0)), (1, vI r), (2, vI b2), (3, vI w)] [] σ
    refine s_iload_n (pc := 16) C dX12_triesNow_16 3 rfl ?_
    refine s_aload_n (pc := 17) C dX12_triesNow_17 0 rfl ?_
    refine s_geti (q := 0) (ci := 12) (N := 68) (CN := RX12) (T := TX12) (pc := 18) C 6 dX12_triesNow_18 wlX12_141 rfl rfl rfl wfX12 (by decide) rfl (σ 0 6) rfl ?_
    have b18 : (0 : Int) ≤ σ 0 6 ∧ σ 0 6 ≤ 4 := g0.1 0 6
    refine s_icmp_ge (pc := 21) C (tgt := 66) dX12_triesNow_21 (by decide) ⟨by omega, by omega⟩ ⟨by omega, by omega⟩ (fun h21 => ?_) (fun h21 => ?_)
    · skip
      refine s_iload_n (pc := 66) C dX12_triesNow_66 2 rfl ?_
      refine s_if_eq (pc := 67) C (tgt := 74) dX12_triesNow_67 (by decide) ⟨by omega, by omega⟩ (fun h67 => ?_) (fun h67 => ?_)
      · skip
        refine s_iinc (pc := 74) C [(1, vI (r + 1)), (0, .ref (ad 0)), (2, vI b2), (3, vI w)] dX12_triesNow_74 1 rfl (by decide) rfl ?_
        refine s_goto (pc := 77) C (tgt := 2) dX12_triesNow_77 (by decide) ?_
        refine s_sub C [1, 0] [(0, .ref (ad 0)), (1, vI (r + 1))] rfl ?_
        have hi2 : 0 ≤ (r + 1) ∧ (r + 1) ≤ 400 := (by first | omega | assumption | (constructor <;> omega) | (refine ⟨⟨?_, ?_⟩, ?_⟩ <;> omega) | (simp [hs_ss, hs_up]; omega) | (simp [hs_ss, hs_up]; done))
        exact ih2 (r + 1) (by first | omega | (simp only []; omega)) hi2
      · skip
        refine s_iload_n (pc := 70) C dX12_triesNow_70 1 rfl ?_
        refine s_iconst (pc := 71) C dX12_triesNow_71 ?_
        refine s_iadd (pc := 72) C dX12_triesNow_72 ?_
        refine s_iret (pc := 73) C dX12_triesNow_73 ?_
        refine ⟨_, rfl, ?_⟩
        exact ⟨rfl, by first | omega | assumption | (constructor <;> omega) | (refine ⟨⟨?_, ?_⟩, ?_⟩ <;> omega) | (simp [hs_ss, hs_up]; omega) | (simp [hs_ss, hs_up]; done)⟩
    · skip
      refine s_iload_n (pc := 24) C dX12_triesNow_24 2 rfl ?_
      refine s_if_eq (pc := 25) C (tgt := 58) dX12_triesNow_25 (by decide) ⟨by omega, by omega⟩ (fun h25 => ?_) (fun h25 => ?_)
      · skip
        refine s_iconst (pc := 58) C dX12_triesNow_58 ?_
        refine s_istore_n (pc := 59) C [(2, vI 0), (0, .ref (ad 0)), (1, vI r), (3, vI w)] dX12_triesNow_59 (by decide) rfl ?_
        refine s_iinc (pc := 60) C [(3, vI (w + 1)), (2, vI 0), (0, .ref (ad 0)), (1, vI r)] dX12_triesNow_60 3 rfl (by decide) rfl ?_
        refine s_goto (pc := 63) C (tgt := 16) dX12_triesNow_63 (by decide) ?_
        refine s_sub C [2, 3, 1, 0] [(0, .ref (ad 0)), (1, vI r), (2, vI 0), (3, vI (w + 1))] rfl ?_
        have hi16 : 0 ≤ (w + 1) ∧ (w + 1) ≤ 4 ∧ ((0 : Int) = 0 ∨ (0 : Int) = 1) := (by first | omega | assumption | (constructor <;> omega) | (refine ⟨⟨?_, ?_⟩, ?_⟩ <;> omega) | (simp [hs_ss, hs_up]; omega) | (simp [hs_ss, hs_up]; done))
        exact ih16 (w + 1, 0) (by first | omega | (simp only []; omega)) hi16
      · skip
        refine s_aload_n (pc := 28) C dX12_triesNow_28 0 rfl ?_
        refine s_aload_n (pc := 29) C dX12_triesNow_29 0 rfl ?_
        refine s_getr (q := 0) (ci := 12) (N := 68) (CN := RX12) (T := TX12) (pc := 30) C 8 dX12_triesNow_30 wlX12_20 rfl rfl rfl wfX12 (by decide) rfl ?_
        refine s_iload_n (pc := 33) C dX12_triesNow_33 3 rfl ?_
        refine s_iald (q := 3) (n := 4) (pc := 34) C (σ 3 w.toNat) rfl dX12_triesNow_34 rfl (by omega) (by omega) (by decide) ?_
        have b34 : (0 : Int) ≤ σ 3 w.toNat ∧ σ 3 w.toNat ≤ 99 := g0.1 3 w.toNat
        refine s_aload_n (pc := 35) C dX12_triesNow_35 0 rfl ?_
        refine s_iload_n (pc := 36) C dX12_triesNow_36 1 rfl ?_
        refine s_iload_n (pc := 37) C dX12_triesNow_37 3 rfl ?_
        refine s_iconst (pc := 38) C dX12_triesNow_38 ?_
        refine s_callVi (pc := 39) C (c_X12_soughtIn l r (by first | omega | assumption | (constructor <;> omega) | (refine ⟨⟨?_, ?_⟩, ?_⟩ <;> omega) | (simp [hs_ss, hs_up]; omega) | (simp [hs_ss, hs_up]; done)) w (by first | omega | assumption | (constructor <;> omega) | (refine ⟨⟨?_, ?_⟩, ?_⟩ <;> omega) | (simp [hs_ss, hs_up]; omega) | (simp [hs_ss, hs_up]; done)) 0 ⟨by omega, by omega⟩) [vI r, vI w, vI 0] [vI (σ 3 w.toNat), .ref (ad 0)] rfl rfl dX12_triesNow_39 wlX12_355 wiX12_soughtIn weX12_soughtIn wcX12_soughtIn wnX12 noX12_soughtIn (by decide) (by decide) (Nat.le_of_ble_eq_true rfl) ⟨(gy_self g0), fun j hj => hm.2 (by omega) j (by omega)⟩ rfl rfl ?_
        rintro z39 _ ⟨rfl, k39⟩
        show hs_Wd _ _ _ _ _ _ _ _ _ _ _ _ _ _ _ _ _ 42 _ [vI z39, vI (σ 3 w.toNat), .ref (ad 0)] σ
        refine s_callVi (pc := 42) C (c_X12_far l (σ 3 w.toNat) z39 (by first | omega | assumption | (constructor <;> omega) | (refine ⟨⟨?_, ?_⟩, ?_⟩ <;> omega) | (simp [hs_ss, hs_up]; omega) | (simp [hs_ss, hs_up]; done)) (by first | omega | assumption | (constructor <;> omega) | (refine ⟨⟨?_, ?_⟩, ?_⟩ <;> omega) | (simp [hs_ss, hs_up]; omega) | (simp [hs_ss, hs_up]; done))) [vI (σ 3 w.toNat), vI z39] [] rfl rfl dX12_triesNow_42 wlX12_158 wiX12_far weX12_far wcX12_far wnX12 noX12_far (by decide) (by decide) (Nat.le_of_ble_eq_true rfl) (gy_self g0) rfl rfl ?_
        rintro z42 _ ⟨rfl, k42⟩
        show hs_Wd _ _ _ _ _ _ _ _ _ _ _ _ _ _ _ _ _ 45 _ [vI z42] σ
        refine s_aload_n (pc := 45) C dX12_triesNow_45 0 rfl ?_
        refine s_getr (q := 0) (ci := 12) (N := 68) (CN := RX12) (T := TX12) (pc := 46) C 10 dX12_triesNow_46 wlX12_26 rfl rfl rfl wfX12 (by decide) rfl ?_
        refine s_iload_n (pc := 49) C dX12_triesNow_49 3 rfl ?_
        refine s_iald (q := 5) (n := 4) (pc := 50) C (σ 5 w.toNat) rfl dX12_triesNow_50 rfl (by omega) (by omega) (by decide) ?_
        have b50 : (0 : Int) ≤ σ 5 w.toNat ∧ σ 5 w.toNat ≤ 3 := g0.1 5 w.toNat
        refine s_icmp_gt (pc := 51) C (tgt := 58) dX12_triesNow_51 (by decide) ⟨by omega, by omega⟩ ⟨by omega, by omega⟩ (fun h51 => ?_) (fun h51 => ?_)
        · skip
          refine s_iconst (pc := 58) C dX12_triesNow_58 ?_
          refine s_istore_n (pc := 59) C [(2, vI 0), (0, .ref (ad 0)), (1, vI r), (3, vI w)] dX12_triesNow_59 (by decide) rfl ?_
          refine s_iinc (pc := 60) C [(3, vI (w + 1)), (2, vI 0), (0, .ref (ad 0)), (1, vI r)] dX12_triesNow_60 3 rfl (by decide) rfl ?_
          refine s_goto (pc := 63) C (tgt := 16) dX12_triesNow_63 (by decide) ?_
          refine s_sub C [2, 3, 1, 0] [(0, .ref (ad 0)), (1, vI r), (2, vI 0), (3, vI (w + 1))] rfl ?_
          have hi16 : 0 ≤ (w + 1) ∧ (w + 1) ≤ 4 ∧ ((0 : Int) = 0 ∨ (0 : Int) = 1) := (by first | omega | assumption | (constructor <;> omega) | (refine ⟨⟨?_, ?_⟩, ?_⟩ <;> omega) | (simp [hs_ss, hs_up]; omega) | (simp [hs_ss, hs_up]; done))
          exact ih16 (w + 1, 0) (by first | omega | (simp only []; omega)) hi16
        · skip
          refine s_iconst (pc := 54) C dX12_triesNow_54 ?_
          refine s_goto (pc := 55) C (tgt := 59) dX12_triesNow_55 (by decide) ?_
          refine s_istore_n (pc := 59) C [(2, vI 1), (0, .ref (ad 0)), (1, vI r), (3, vI w)] dX12_triesNow_59 (by decide) rfl ?_
          refine s_iinc (pc := 60) C [(3, vI (w + 1)), (2, vI 1), (0, .ref (ad 0)), (1, vI r)] dX12_triesNow_60 3 rfl (by decide) rfl ?_
          refine s_goto (pc := 63) C (tgt := 16) dX12_triesNow_63 (by decide) ?_
          refine s_sub C [2, 3, 1, 0] [(0, .ref (ad 0)), (1, vI r), (2, vI 1), (3, vI (w + 1))] rfl ?_
          have hi16 : 0 ≤ (w + 1) ∧ (w + 1) ≤ 4 ∧ ((1 : Int) = 0 ∨ (1 : Int) = 1) := (by first | omega | assumption | (constructor <;> omega) | (refine ⟨⟨?_, ?_⟩, ?_⟩ <;> omega) | (simp [hs_ss, hs_up]; omega) | (simp [hs_ss, hs_up]; done))
          exact ih16 (w + 1, 1) (by first | omega | (simp only []; omega)) hi16
set_option maxHeartbeats 4000000 in
set_option maxRecDepth 100000 in
theorem c_X12_stepsOver (l : Launch) (a f : Int) (ha : 0 ≤ a ∧ a ≤ 400) (hf : hs_R f) : hs_Met l yX12_stepsOver cX12_stepsOver 10 (some .long) 6 SHY (fun ad => [.ref (ad 0), vI a, vI f]) (fun σ => GY σ σ ∧ MNY σ ∧ a ≤ σ 0 58) (hs_PL (fun σ z σ1 => GY σ σ1 ∧ FRM PSo σ σ1 ∧ MNY σ1 ∧ -9223372036854775808 ≤ z ∧ z ≤ 9223372036854775807)) := by
  refine hs_from pfX12_stepsOver (fun _ => Nat.le_of_ble_eq_true rfl) ?_
  intro p e s m args below meth c D dA ad A σ C hpre
  have C : hs_C p s m args meth c D dA SHY ad A 10 cX12_stepsOver RX12 (some .long) := C
  obtain ⟨g0, p0_MNY, hpre⟩ := hpre
  have f0 : FRM PSo σ σ := frm_rf
  show hs_Wd p l e 6 s m args below meth c D dA SHY ad A 10 (hs_PL (fun σ z σ1 => GY σ σ1 ∧ FRM PSo σ σ1 ∧ MNY σ1 ∧ -9223372036854775808 ≤ z ∧ z ≤ 9223372036854775807) σ) 0 [(0, .ref (ad 0)), (1, vI a), (2, vI f)] [] σ
  refine s_aload_n (pc := 0) C dX12_stepsOver_0 0 rfl ?_
  refine s_geti (q := 0) (ci := 12) (N := 68) (CN := RX12) (T := TX12) (pc := 1) C 4 dX12_stepsOver_1 wlX12_148 rfl rfl rfl wfX12 (by decide) rfl (σ 0 4) rfl ?_
  have b1 : (0 : Int) ≤ σ 0 4 ∧ σ 0 4 ≤ 99 := g0.1 0 4
  refine s_istore_n (pc := 4) C [(3, vI (σ 0 4)), (0, .ref (ad 0)), (1, vI a), (2, vI f)] dX12_stepsOver_4 (by decide) rfl ?_
  refine s_aload_n (pc := 5) C dX12_stepsOver_5 1 rfl ?_
  refine s_geti (q := 0) (ci := 12) (N := 68) (CN := RX12) (T := TX12) (pc := 6) C 5 dX12_stepsOver_6 wlX12_151 rfl rfl rfl wfX12 (by decide) rfl (σ 0 5) rfl ?_
  have b6 : (0 : Int) ≤ σ 0 5 ∧ σ 0 5 ≤ 2 := g0.1 0 5
  refine s_istore (pc := 9) C [(4, vI (σ 0 5)), (3, vI (σ 0 4)), (0, .ref (ad 0)), (1, vI a), (2, vI f)] dX12_stepsOver_9 (by decide) rfl ?_
  refine s_iconst (pc := 11) C dX12_stepsOver_11 ?_
  refine s_istore (pc := 12) C [(5, vI 0), (4, vI (σ 0 5)), (3, vI (σ 0 4)), (0, .ref (ad 0)), (1, vI a), (2, vI f)] dX12_stepsOver_12 (by decide) rfl ?_
  refine s_sub C [3, 4, 5, 2, 1, 0] [(0, .ref (ad 0)), (1, vI a), (2, vI f), (3, vI (σ 0 4)), (4, vI (σ 0 5)), (5, vI 0)] rfl ?_
  have hi14 : GY σ σ ∧ FRM PSo σ σ ∧ MNY σ ∧ 0 ≤ (0 : Int) ∧ (0 : Int) ≤ 4 := ⟨g0, f0, p0_MNY, by first | omega | assumption | (constructor <;> omega) | (refine ⟨⟨?_, ?_⟩, ?_⟩ <;> omega) | (simp [hs_ss, hs_up]; omega) | (simp [hs_ss, hs_up]; done)⟩
  refine hs_loop (α := Int × hs_S) (fun x_ => (GY σ x_.2 ∧ FRM PSo σ x_.2 ∧ MNY x_.2 ∧ 0 ≤ x_.1 ∧ x_.1 ≤ 4) → hs_Wd p l e 6 s m args below meth c D dA SHY ad A 10 (hs_PL (fun σ z σ1 => GY σ σ1 ∧ FRM PSo σ σ1 ∧ MNY σ1 ∧ -9223372036854775808 ≤ z ∧ z ≤ 9223372036854775807) σ) 14 [(0, .ref (ad 0)), (1, vI a), (2, vI f), (3, vI (σ 0 4)), (4, vI (σ 0 5)), (5, vI x_.1)] [] x_.2) (fun x_ => (5 - x_.1).toNat) ?_ (0, σ) hi14
  rintro ⟨w, σ1⟩ ih14 hinv
  replace hinv : GY σ σ1 ∧ FRM PSo σ σ1 ∧ MNY σ1 ∧ 0 ≤ w ∧ w ≤ 4 := hinv
  obtain ⟨hg14, hf14, hp14_MNY, hv14⟩ := hinv
  show hs_Wd p l e 6 s m args below meth c D dA SHY ad A 10 (hs_PL (fun σ z σ1 => GY σ σ1 ∧ FRM PSo σ σ1 ∧ MNY σ1 ∧ -9223372036854775808 ≤ z ∧ z ≤ 9223372036854775807) σ) 14 [(0, .ref (ad 0)), (1, vI a), (2, vI f), (3, vI (σ 0 4)), (4, vI (σ 0 5)), (5, vI w)] [] σ1
  refine s_iload (pc := 14) C dX12_stepsOver_14 5 rfl ?_
  refine s_aload_n (pc := 16) C dX12_stepsOver_16 0 rfl ?_
  refine s_geti (q := 0) (ci := 12) (N := 68) (CN := RX12) (T := TX12) (pc := 17) C 6 dX12_stepsOver_17 wlX12_141 rfl rfl rfl wfX12 (by decide) rfl (σ1 0 6) rfl ?_
  have b17 : (0 : Int) ≤ σ1 0 6 ∧ σ1 0 6 ≤ 4 := hg14.1 0 6
  refine s_icmp_ge (pc := 20) C (tgt := 73) dX12_stepsOver_20 (by decide) ⟨by omega, by omega⟩ ⟨by omega, by omega⟩ (fun h20 => ?_) (fun h20 => ?_)
  · skip
    refine s_aload_n (pc := 73) C dX12_stepsOver_73 0 rfl ?_
    refine s_iconst (pc := 74) C dX12_stepsOver_74 ?_
    refine s_puti (q := 0) (ci := 12) (N := 68) (CN := RX12) (T := TX12) (ty0 := tyX12) (ty := .int) (pc := 75) C 4 dX12_stepsOver_75 wlX12_148 rfl rfl rfl wfX12 tyX12_ok nmX12 (by decide) rfl rfl rfl (vp_nar_int _) rfl ?_
    have g75 := gy_set (z := 0) hg14 0 4 rfl (0) (99) rfl ⟨by omega, by omega⟩
    have f75 := frm_set (P := PSo) (z := 0) hf14 0 4 rfl
    have p75_MNY := MNY_cg (frm_one (P := okMNY) (z := 0) 0 4 rfl) hp14_MNY
    refine s_lconst (z := 0) (pc := 78) C dX12_stepsOver_78 (by decide) ?_
    refine s_lstore (pc := 79) C [(5, vL 0), (0, .ref (ad 0)), (1, vI a), (2, vI f), (3, vI (σ 0 4)), (4, vI (σ 0 5))] dX12_stepsOver_79 (by decide) rfl ?_
    refine s_iconst (pc := 81) C dX12_stepsOver_81 ?_
    refine s_istore (pc := 82) C [(7, vI 0), (5, vL 0), (0, .ref (ad 0)), (1, vI a), (2, vI f), (3, vI (σ 0 4)), (4, vI (σ 0 5))] dX12_stepsOver_82 (by decide) rfl ?_
    refine s_sub C [2, 3, 4, 5, 6, 1, 0] [(0, .ref (ad 0)), (1, vI a), (2, vI f), (3, vI (σ 0 4)), (4, vI (σ 0 5)), (5, vL 0), (7, vI 0)] rfl ?_
    have hi84 : GY σ ((hs_ss σ1 0 4 0)) ∧ FRM PSo σ ((hs_ss σ1 0 4 0)) ∧ MNY ((hs_ss σ1 0 4 0)) ∧ 0 ≤ (0 : Int) ∧ (0 : Int) ≤ a := ⟨g75, f75, p75_MNY, by first | omega | assumption | (constructor <;> omega) | (refine ⟨⟨?_, ?_⟩, ?_⟩ <;> omega) | (simp [hs_ss, hs_up]; omega) | (simp [hs_ss, hs_up]; done)⟩
    refine hs_loop (α := Int × Int × hs_S) (fun x_ => (GY σ x_.2.2 ∧ FRM PSo σ x_.2.2 ∧ MNY x_.2.2 ∧ 0 ≤ x_.1 ∧ x_.1 ≤ a) → hs_Wd p l e 6 s m args below meth c D dA SHY ad A 10 (hs_PL (fun σ z σ1 => GY σ σ1 ∧ FRM PSo σ σ1 ∧ MNY σ1 ∧ -9223372036854775808 ≤ z ∧ z ≤ 9223372036854775807) σ) 84 [(0, .ref (ad 0)), (1, vI a), (2, vI f), (3, vI (σ 0 4)), (4, vI (σ 0 5)), (5, vL x_.2.1), (7, vI x_.1)] [] x_.2.2) (fun x_ => (402 - x_.1).toNat) ?_ (0, 0, (hs_ss σ1 0 4 0)) hi84
    rintro ⟨r, nn, σ2⟩ ih84 hinv
    replace hinv : GY σ σ2 ∧ FRM PSo σ σ2 ∧ MNY σ2 ∧ 0 ≤ r ∧ r ≤ a := hinv
    obtain ⟨hg84, hf84, hp84_MNY, hv84⟩ := hinv
    show hs_Wd p l e 6 s m args below meth c D dA SHY ad A 10 (hs_PL (fun σ z σ1 => GY σ σ1 ∧ FRM PSo σ σ1 ∧ MNY σ1 ∧ -9223372036854775808 ≤ z ∧ z ≤ 9223372036854775807) σ) 84 [(0, .ref (ad 0)), (1, vI a), (2, vI f), (3, vI (σ 0 4)), (4, vI (σ 0 5)), (5, vL nn), (7, vI r)] [] σ2
    have b62 : (0 : Int) ≤ σ2 0 6 ∧ σ2 0 6 ≤ 4 := hg84.1 0 6
    refine s_iload (pc := 84) C dX12_stepsOver_84 6 rfl ?_
    refine s_iload_n (pc := 86) C dX12_stepsOver_86 1 rfl ?_
    refine s_icmp_ge (pc := 87) C (tgt := 188) dX12_stepsOver_87 (by decide) ⟨by omega, by omega⟩ ⟨by omega, by omega⟩ (fun h87 => ?_) (fun h87 => ?_)
    · skip
      refine s_aload_n (pc := 188) C dX12_stepsOver_188 0 rfl ?_
      refine s_iload_n (pc := 189) C dX12_stepsOver_189 3 rfl ?_
      refine s_puti (q := 0) (ci := 12) (N := 68) (CN := RX12) (T := TX12) (ty0 := tyX12) (ty := .int) (pc := 190) C 4 dX12_stepsOver_190 wlX12_148 rfl rfl rfl wfX12 tyX12_ok nmX12 (by decide) rfl rfl rfl (vp_nar_int _) rfl ?_
      have g190 := gy_set (z := (σ 0 4)) hg84 0 4 rfl (0) (99) rfl ⟨by omega, by omega⟩
      have f190 := frm_set (P := PSo) (z := (σ 0 4)) hf84 0 4 rfl
      have p190_MNY := MNY_cg (frm_one (P := okMNY) (z := (σ 0 4)) 0 4 rfl) hp84_MNY
      refine s_aload_n (pc := 193) C dX12_stepsOver_193 0 rfl ?_
      refine s_iload (pc := 194) C dX12_stepsOver_194 4 rfl ?_
      refine s_puti (q := 0) (ci := 12) (N := 68) (CN := RX12) (T := TX12) (ty0 := tyX12) (ty := .int) (pc := 196) C 5 dX12_stepsOver_196 wlX12_151 rfl rfl rfl wfX12 tyX12_ok nmX12 (by decide) rfl rfl rfl (vp_nar_int _) rfl ?_
      have g196 := gy_set (z := (σ 0 5)) g190 0 5 rfl (0) (2) rfl ⟨by omega, by omega⟩
      have f196 := frm_set (P := PSo) (z := (σ 0 5)) f190 0 5 rfl
      have p196_MNY := MNY_cg (frm_one (P := okMNY) (z := (σ 0 5)) 0 5 rfl) p190_MNY
      refine s_iconst (pc := 199) C dX12_stepsOver_199 ?_
      refine s_istore (pc := 200) C [(7, vI 0), (0, .ref (ad 0)), (1, vI a), (2, vI f), (3, vI (σ 0 4)), (4, vI (σ 0 5)), (5, vL nn)] dX12_stepsOver_200 (by decide) rfl ?_
      refine s_sub C [1, 2, 3, 4, 5, 6, 0] [(0, .ref (ad 0)), (1, vI a), (2, vI f), (3, vI (σ 0 4)), (4, vI (σ 0 5)), (5, vL nn), (7, vI 0)] rfl ?_
      have hi202 : GY σ ((hs_ss (hs_ss σ2 0 4 (σ 0 4)) 0 5 (σ 0 5))) ∧ FRM PSo σ ((hs_ss (hs_ss σ2 0 4 (σ 0 4)) 0 5 (σ 0 5))) ∧ MNY ((hs_ss (hs_ss σ2 0 4 (σ 0 4)) 0 5 (σ 0 5))) ∧ 0 ≤ (0 : Int) ∧ (0 : Int) ≤ 4 := ⟨g196, f196, p196_MNY, by first | omega | assumption | (constructor <;> omega) | (refine ⟨⟨?_, ?_⟩, ?_⟩ <;> omega) | (simp [hs_ss, hs_up]; omega) | (simp [hs_ss, hs_up]; done)⟩
      refine hs_loop (α := Int × hs_S) (fun x_ => (GY σ x_.2 ∧ FRM PSo σ x_.2 ∧ MNY x_.2 ∧ 0 ≤ x_.1 ∧ x_.1 ≤ 4) → hs_Wd p l e 6 s m args below meth c D dA SHY ad A 10 (hs_PL (fun σ z σ1 => GY σ σ1 ∧ FRM PSo σ σ1 ∧ MNY σ1 ∧ -9223372036854775808 ≤ z ∧ z ≤ 9223372036854775807) σ) 202 [(0, .ref (ad 0)), (1, vI a), (2, vI f), (3, vI (σ 0 4)), (4, vI (σ 0 5)), (5, vL nn), (7, vI x_.1)] [] x_.2) (fun x_ => (5 - x_.1).toNat) ?_ (0, (hs_ss (hs_ss σ2 0 4 (σ 0 4)) 0 5 (σ 0 5))) hi202
      rintro ⟨w3, σ4⟩ ih202 hinv
      replace hinv : GY σ σ4 ∧ FRM PSo σ σ4 ∧ MNY σ4 ∧ 0 ≤ w3 ∧ w3 ≤ 4 := hinv
      obtain ⟨hg202, hf202, hp202_MNY, hv202⟩ := hinv
      show hs_Wd p l e 6 s m args below meth c D dA SHY ad A 10 (hs_PL (fun σ z σ1 => GY σ σ1 ∧ FRM PSo σ σ1 ∧ MNY σ1 ∧ -9223372036854775808 ≤ z ∧ z ≤ 9223372036854775807) σ) 202 [(0, .ref (ad 0)), (1, vI a), (2, vI f), (3, vI (σ 0 4)), (4, vI (σ 0 5)), (5, vL nn), (7, vI w3)] [] σ4
      refine s_iload (pc := 202) C dX12_stepsOver_202 6 rfl ?_
      refine s_aload_n (pc := 204) C dX12_stepsOver_204 0 rfl ?_
      refine s_geti (q := 0) (ci := 12) (N := 68) (CN := RX12) (T := TX12) (pc := 205) C 6 dX12_stepsOver_205 wlX12_141 rfl rfl rfl wfX12 (by decide) rfl (σ4 0 6) rfl ?_
      have b205 : (0 : Int) ≤ σ4 0 6 ∧ σ4 0 6 ≤ 4 := hg202.1 0 6
      refine s_icmp_ge (pc := 208) C (tgt := 245) dX12_stepsOver_208 (by decide) ⟨by omega, by omega⟩ ⟨by omega, by omega⟩ (fun h208 => ?_) (fun h208 => ?_)
      · skip
        refine s_lload (pc := 245) C dX12_stepsOver_245 5 rfl ?_
        refine s_nrmL (pc := 247) C (fun zz hzz => ?_)
        refine s_lret (pc := 247) C dX12_stepsOver_247 ?_
        refine ⟨_, rfl, ?_⟩
        exact ⟨hg202, hf202, hp202_MNY, hzz⟩
      · skip
        refine s_aload_n (pc := 211) C dX12_stepsOver_211 0 rfl ?_
        refine s_getr (q := 0) (ci := 12) (N := 68) (CN := RX12) (T := TX12) (pc := 212) C 15 dX12_stepsOver_212 wlX12_41 rfl rfl rfl wfX12 (by decide) rfl ?_
        refine s_iload (pc := 215) C dX12_stepsOver_215 6 rfl ?_
        refine s_aload_n (pc := 217) C dX12_stepsOver_217 0 rfl ?_
        refine s_getr (q := 0) (ci := 12) (N := 68) (CN := RX12) (T := TX12) (pc := 218) C 59 dX12_stepsOver_218 wlX12_111 rfl rfl rfl wfX12 (by decide) rfl ?_
        refine s_iload (pc := 221) C dX12_stepsOver_221 6 rfl ?_
        refine s_iald (q := 32) (n := 4) (pc := 223) C (σ4 32 w3.toNat) rfl dX12_stepsOver_223 rfl (by omega) (by omega) (by decide) ?_
        have b223 : (0 : Int) ≤ σ4 32 w3.toNat ∧ σ4 32 w3.toNat ≤ 99 := hg202.1 32 w3.toNat
        refine s_iast (q := 10) (n := 4) (pc := 224) C dX12_stepsOver_224 rfl (by omega) (by omega) (by decide) ?_
        have g224 := gy_set (z := (σ4 32 w3.toNat)) hg202 10 w3.toNat rfl (0) (99) rfl ⟨by omega, by omega⟩
        have f224 := frm_set (P := PSo) (z := (σ4 32 w3.toNat)) hf202 10 w3.toNat rfl
        have p224_MNY := MNY_cg (frm_one (P := okMNY) (z := (σ4 32 w3.toNat)) 10 w3.toNat rfl) hp202_MNY
        refine s_aload_n (pc := 225) C dX12_stepsOver_225 0 rfl ?_
        refine s_getr (q := 0) (ci := 12) (N := 68) (CN := RX12) (T := TX12) (pc := 226) C 16 dX12_stepsOver_226 wlX12_44 rfl rfl rfl wfX12 (by decide) rfl ?_
        refine s_iload (pc := 229) C dX12_stepsOver_229 6 rfl ?_
        refine s_aload_n (pc := 231) C dX12_stepsOver_231 0 rfl ?_
        refine s_getr (q := 0) (ci := 12) (N := 68) (CN := RX12) (T := TX12) (pc := 232) C 60 dX12_stepsOver_232 wlX12_114 rfl rfl rfl wfX12 (by decide) rfl ?_
        refine s_iload (pc := 235) C dX12_stepsOver_235 6 rfl ?_
        refine s_iald (q := 33) (n := 4) (pc := 237) C (σ4 33 w3.toNat) rfl dX12_stepsOver_237 rfl (by omega) (by omega) (by decide) ?_
        have b237 : (0 : Int) ≤ σ4 33 w3.toNat ∧ σ4 33 w3.toNat ≤ 100 := g224.1 33 w3.toNat
        refine s_iast (q := 11) (n := 4) (pc := 238) C dX12_stepsOver_238 rfl (by omega) (by omega) (by decide) ?_
        have g238 := gy_set (z := (σ4 33 w3.toNat)) g224 11 w3.toNat rfl (0) (100) rfl ⟨by omega, by omega⟩
        have f238 := frm_set (P := PSo) (z := (σ4 33 w3.toNat)) f224 11 w3.toNat rfl
        have p238_MNY := MNY_cg (frm_one (P := okMNY) (z := (σ4 33 w3.toNat)) 11 w3.toNat rfl) p224_MNY
        refine s_iinc (pc := 239) C [(7, vI (w3 + 1)), (0, .ref (ad 0)), (1, vI a), (2, vI f), (3, vI (σ 0 4)), (4, vI (σ 0 5)), (5, vL nn)] dX12_stepsOver_239 6 rfl (by decide) rfl ?_
        refine s_goto (pc := 242) C (tgt := 202) dX12_stepsOver_242 (by decide) ?_
        refine s_sub C [1, 2, 3, 4, 5, 6, 0] [(0, .ref (ad 0)), (1, vI a), (2, vI f), (3, vI (σ 0 4)), (4, vI (σ 0 5)), (5, vL nn), (7, vI (w3 + 1))] rfl ?_
        have hi202 : GY σ ((hs_ss (hs_ss σ4 10 w3.toNat (σ4 32 w3.toNat)) 11 w3.toNat (σ4 33 w3.toNat))) ∧ FRM PSo σ ((hs_ss (hs_ss σ4 10 w3.toNat (σ4 32 w3.toNat)) 11 w3.toNat (σ4 33 w3.toNat))) ∧ MNY ((hs_ss (hs_ss σ4 10 w3.toNat (σ4 32 w3.toNat)) 11 w3.toNat (σ4 33 w3.toNat))) ∧ 0 ≤ (w3 + 1) ∧ (w3 + 1) ≤ 4 := ⟨g238, f238, p238_MNY, by first | omega | assumption | (constructor <;> omega) | (refine ⟨⟨?_, ?_⟩, ?_⟩ <;> omega) | (simp [hs_ss, hs_up]; omega) | (simp [hs_ss, hs_up]; done)⟩
        exact ih202 (w3 + 1, (hs_ss (hs_ss σ4 10 w3.toNat (σ4 32 w3.toNat)) 11 w3.toNat (σ4 33 w3.toNat))) (by first | omega | (simp only []; omega)) hi202
    · skip
      refine s_iload (pc := 90) C dX12_stepsOver_90 6 rfl ?_
      refine s_if_ne (pc := 92) C (tgt := 99) dX12_stepsOver_92 (by decide) ⟨by omega, by omega⟩ (fun h92 => ?_) (fun h92 => ?_)
      · skip
        refine s_iconst (pc := 99) C dX12_stepsOver_99 ?_
        refine s_istore (pc := 100) C [(8, vI 0), (0, .ref (ad 0)), (1, vI a), (2, vI f), (3, vI (σ 0 4)), (4, vI (σ 0 5)), (5, vL nn), (7, vI r)] dX12_stepsOver_100 (by decide) rfl ?_
        refine s_aload_n (pc := 102) C dX12_stepsOver_102 1 rfl ?_
        refine s_geti (q := 0) (ci := 12) (N := 68) (CN := RX12) (T := TX12) (pc := 103) C 6 dX12_stepsOver_103 wlX12_141 rfl rfl rfl wfX12 (by decide) rfl (σ2 0 6) rfl ?_
        have b103 : (0 : Int) ≤ σ2 0 6 ∧ σ2 0 6 ≤ 4 := hg84.1 0 6
        refine s_iconst (pc := 106) C dX12_stepsOver_106 ?_
        refine s_isub (pc := 107) C dX12_stepsOver_107 ?_
        refine s_istore (pc := 108) C [(9, vI ((σ2 0 6) - 1)), (8, vI 0), (0, .ref (ad 0)), (1, vI a), (2, vI f), (3, vI (σ 0 4)), (4, vI (σ 0 5)), (5, vL nn), (7, vI r)] dX12_stepsOver_108 (by decide) rfl ?_
        refine s_sub C [2, 3, 4, 5, 6, 7, 8, 1, 0] [(0, .ref (ad 0)), (1, vI a), (2, vI f), (3, vI (σ 0 4)), (4, vI (σ 0 5)), (5, vL nn), (7, vI r), (8, vI 0), (9, vI ((σ2 0 6) - 1))] rfl ?_
        have e62 : σ2 0 6 = σ 0 6 := hg84.2.2.2.1
        have hi110 : GY σ σ2 ∧ FRM PSo σ σ2 ∧ MNY σ2 ∧ -1 ≤ ((σ2 0 6) - 1) ∧ ((σ2 0 6) - 1) < σ 0 6 ∧ ((σ2 0 6) - 1) ≤ 3 ∧ ((0 : Int) = 0 ∨ (0 : Int) = 1) ∧ (r = 0 → (0 : Int) = 1) := ⟨hg84, hf84, hp84_MNY, by first | omega | assumption | (constructor <;> omega) | (refine ⟨⟨?_, ?_⟩, ?_⟩ <;> omega) | (simp [hs_ss, hs_up]; omega) | (simp [hs_ss, hs_up]; done)⟩
        refine hs_loop (α := Int × Int × Int × hs_S) (fun x_ => (GY σ x_.2.2.2 ∧ FRM PSo σ x_.2.2.2 ∧ MNY x_.2.2.2 ∧ -1 ≤ x_.1 ∧ x_.1 < σ 0 6 ∧ x_.1 ≤ 3 ∧ (x_.2.1 = 0 ∨ x_.2.1 = 1) ∧ (r = 0 → x_.2.1 = 1)) → hs_Wd p l e 6 s m args below meth c D dA SHY ad A 10 (hs_PL (fun σ z σ1 => GY σ σ1 ∧ FRM PSo σ σ1 ∧ MNY σ1 ∧ -9223372036854775808 ≤ z ∧ z ≤ 9223372036854775807) σ) 110 [(0, .ref (ad 0)), (1, vI a), (2, vI f), (3, vI (σ 0 4)), (4, vI (σ 0 5)), (5, vL x_.2.2.1), (7, vI r), (8, vI x_.2.1), (9, vI x_.1)] [] x_.2.2.2) (fun x_ => (x_.1 + 1).toNat) ?_ ((σ2 0 6) - 1, 0, nn, σ2) hi110
        rintro ⟨w2, sm, n2, σ3⟩ ih110 hinv
        replace hinv : GY σ σ3 ∧ FRM PSo σ σ3 ∧ MNY σ3 ∧ -1 ≤ w2 ∧ w2 < σ 0 6 ∧ w2 ≤ 3 ∧ (sm = 0 ∨ sm = 1) ∧ (r = 0 → sm = 1) := hinv
        obtain ⟨hg110, hf110, hp110_MNY, hv110⟩ := hinv
        show hs_Wd p l e 6 s m args below meth c D dA SHY ad A 10 (hs_PL (fun σ z σ1 => GY σ σ1 ∧ FRM PSo σ σ1 ∧ MNY σ1 ∧ -9223372036854775808 ≤ z ∧ z ≤ 9223372036854775807) σ) 110 [(0, .ref (ad 0)), (1, vI a), (2, vI f), (3, vI (σ 0 4)), (4, vI (σ 0 5)), (5, vL n2), (7, vI r), (8, vI sm), (9, vI w2)] [] σ3
        have e63 : σ3 0 6 = σ 0 6 := hg110.2.2.2.1
        have e58 : σ3 0 58 = σ 0 58 := hf110 0 58 rfl
        refine s_iload (pc := 110) C dX12_stepsOver_110 8 rfl ?_
        refine s_if_lt (pc := 112) C (tgt := 182) dX12_stepsOver_112 (by decide) ⟨by omega, by omega⟩ (fun h112 => ?_) (fun h112 => ?_)
        · skip
          refine s_iinc (pc := 182) C [(7, vI (r + 1)), (0, .ref (ad 0)), (1, vI a), (2, vI f), (3, vI (σ 0 4)), (4, vI (σ 0 5)), (5, vL n2), (8, vI sm), (9, vI w2)] dX12_stepsOver_182 6 rfl (by decide) rfl ?_
          refine s_goto (pc := 185) C (tgt := 84) dX12_stepsOver_185 (by decide) ?_
          refine s_sub C [1, 2, 3, 4, 5, 6, 0] [(0, .ref (ad 0)), (1, vI a), (2, vI f), (3, vI (σ 0 4)), (4, vI (σ 0 5)), (5, vL n2), (7, vI (r + 1))] rfl ?_
          have hi84 : GY σ σ3 ∧ FRM PSo σ σ3 ∧ MNY σ3 ∧ 0 ≤ (r + 1) ∧ (r + 1) ≤ a := ⟨hg110, hf110, hp110_MNY, by first | omega | assumption | (constructor <;> omega) | (refine ⟨⟨?_, ?_⟩, ?_⟩ <;> omega) | (simp [hs_ss, hs_up]; omega) | (simp [hs_ss, hs_up]; done)⟩
          exact ih84 (r + 1, n2, σ3) (by first | omega | (simp only []; omega)) hi84
        · skip
          have hmn : ∀ j : Nat, (j : Int) ≤ w2 → 1 ≤ σ3 29 j := fun j hj => hp110_MNY.2 (by omega) j (by omega)
          refine s_iload (pc := 115) C dX12_stepsOver_115 7 rfl ?_
          refine s_if_ne (pc := 117) C (tgt := 143) dX12_stepsOver_117 (by decide) ⟨by omega, by omega⟩ (fun h117 => ?_) (fun h117 => ?_)
          · skip
            refine s_iconst (pc := 143) C dX12_stepsOver_143 ?_
            refine s_goto (pc := 144) C (tgt := 148) dX12_stepsOver_144 (by decide) ?_
            refine s_istore (pc := 148) C [(8, vI 1), (0, .ref (ad 0)), (1, vI a), (2, vI f), (3, vI (σ 0 4)), (4, vI (σ 0 5)), (5, vL n2), (7, vI r), (9, vI w2)] dX12_stepsOver_148 (by decide) rfl ?_
            refine s_iload (pc := 150) C dX12_stepsOver_150 0 rfl ?_
            refine s_if_eq (pc := 152) C (tgt := 176) dX12_stepsOver_152 (by decide) ⟨by decide, by decide⟩ (fun h152 => ?_) (fun h152 => ?_)
            · exact absurd h152 (by decide)
            · skip
              refine s_lload (pc := 155) C dX12_stepsOver_155 6 rfl ?_
              refine s_aload_n (pc := 157) C dX12_stepsOver_157 1 rfl ?_
              refine s_iload (pc := 158) C dX12_stepsOver_158 8 rfl ?_
              refine s_aload_n (pc := 160) C dX12_stepsOver_160 1 rfl ?_
              refine s_iload (pc := 161) C dX12_stepsOver_161 7 rfl ?_
              refine s_iload (pc := 163) C dX12_stepsOver_163 8 rfl ?_
              refine s_iload_n (pc := 165) C dX12_stepsOver_165 3 rfl ?_
              refine s_callVi (pc := 166) C (c_X12_soughtIn l r (by first | omega | assumption | (constructor <;> omega) | (refine ⟨⟨?_, ?_⟩, ?_⟩ <;> omega) | (simp [hs_ss, hs_up]; omega) | (simp [hs_ss, hs_up]; done)) w2 (by first | omega | assumption | (constructor <;> omega) | (refine ⟨⟨?_, ?_⟩, ?_⟩ <;> omega) | (simp [hs_ss, hs_up]; omega) | (simp [hs_ss, hs_up]; done)) f ⟨by omega, by omega⟩) [vI r, vI w2, vI f] [vI w2, .ref (ad 0), vL n2] rfl rfl dX12_stepsOver_166 wlX12_355 wiX12_soughtIn weX12_soughtIn wcX12_soughtIn wnX12 noX12_soughtIn (by decide) (by decide) (Nat.le_of_ble_eq_true rfl) ⟨(gy_self hg110), hmn⟩ rfl rfl ?_
              rintro z166 _ ⟨rfl, k166⟩
              show hs_Wd _ _ _ _ _ _ _ _ _ _ _ _ _ _ _ _ _ 169 _ [vI z166, vI w2, .ref (ad 0), vL n2] σ3
              refine s_callVi (pc := 169) C (c_X12_sets l w2 (by first | omega | assumption | (constructor <;> omega) | (refine ⟨⟨?_, ?_⟩, ?_⟩ <;> omega) | (simp [hs_ss, hs_up]; omega) | (simp [hs_ss, hs_up]; done)) z166 (by first | omega | assumption | (constructor <;> omega) | (refine ⟨⟨?_, ?_⟩, ?_⟩ <;> omega) | (simp [hs_ss, hs_up]; omega) | (simp [hs_ss, hs_up]; done))) [vI w2, vI z166] [vL n2] rfl rfl dX12_stepsOver_169 wlX12_359 wiX12_sets weX12_sets wcX12_sets wnX12 noX12_sets (by decide) (by decide) (Nat.le_of_ble_eq_true rfl) ⟨(gy_self hg110), by first | omega | assumption | (constructor <;> omega) | (refine ⟨⟨?_, ?_⟩, ?_⟩ <;> omega) | (simp [hs_ss, hs_up]; omega) | (simp [hs_ss, hs_up]; done)⟩ rfl rfl ?_
              rintro z169 σ169 k169
              obtain ⟨kg169, kf169, k169⟩ := k169
              have g169 := gy_trans hg110 kg169
              have f169 := frm_tr hf110 (frm_mono (Q := PSo) kf169 (fun c j h => by simp [PGs, PSo] at h ⊢ <;> omega))
              have p169_MNY := MNY_cg (frm_mono (Q := okMNY) kf169 (fun c j h => by simp [PGs, okMNY] at h ⊢ <;> omega)) hp110_MNY
              show hs_Wd _ _ _ _ _ _ _ _ _ _ _ _ _ _ _ _ _ 172 _ [vI z169, vL n2] σ169
              refine s_i2l (pc := 172) C dX12_stepsOver_172 ⟨by omega, by omega⟩ ?_
              refine s_ladd (pc := 173) C dX12_stepsOver_173 ?_
              refine s_lstore (pc := 174) C [(5, vL (n2 + z169)), (8, vI 1), (0, .ref (ad 0)), (1, vI a), (2, vI f), (3, vI (σ 0 4)), (4, vI (σ 0 5)), (7, vI r), (9, vI w2)] dX12_stepsOver_174 (by decide) rfl ?_
              refine s_iinc (pc := 176) C [(9, vI (w2 + (-1))), (5, vL (n2 + z169)), (8, vI 1), (0, .ref (ad 0)), (1, vI a), (2, vI f), (3, vI (σ 0 4)), (4, vI (σ 0 5)), (7, vI r)] dX12_stepsOver_176 8 rfl (by decide) rfl ?_
              refine s_goto (pc := 179) C (tgt := 110) dX12_stepsOver_179 (by decide) ?_
              refine s_sub C [3, 4, 5, 6, 7, 1, 8, 2, 0] [(0, .ref (ad 0)), (1, vI a), (2, vI f), (3, vI (σ 0 4)), (4, vI (σ 0 5)), (5, vL (n2 + z169)), (7, vI r), (8, vI 1), (9, vI (w2 + (-1)))] rfl ?_
              have hi110 : GY σ σ169 ∧ FRM PSo σ σ169 ∧ MNY σ169 ∧ -1 ≤ (w2 + (-1)) ∧ (w2 + (-1)) < σ 0 6 ∧ (w2 + (-1)) ≤ 3 ∧ ((1 : Int) = 0 ∨ (1 : Int) = 1) ∧ (r = 0 → (1 : Int) = 1) := ⟨g169, f169, p169_MNY, by first | omega | assumption | (constructor <;> omega) | (refine ⟨⟨?_, ?_⟩, ?_⟩ <;> omega) | (simp [hs_ss, hs_up]; omega) | (simp [hs_ss, hs_up]; done)⟩
              exact ih110 (w2 + (-1), 1, n2 + z169, σ169) (by first | omega | (simp only []; omega)) hi110
          · skip
            refine s_aload_n (pc := 120) C dX12_stepsOver_120 0 rfl ?_
            refine s_iload (pc := 121) C dX12_stepsOver_121 6 rfl ?_
            refine s_iload (pc := 123) C dX12_stepsOver_123 8 rfl ?_
            refine s_iload_n (pc := 125) C dX12_stepsOver_125 2 rfl ?_
            refine s_callVi (pc := 126) C (c_X12_soughtIn l r (by first | omega | assumption | (constructor <;> omega) | (refine ⟨⟨?_, ?_⟩, ?_⟩ <;> omega) | (simp [hs_ss, hs_up]; omega) | (simp [hs_ss, hs_up]; done)) w2 (by first | omega | assumption | (constructor <;> omega) | (refine ⟨⟨?_, ?_⟩, ?_⟩ <;> omega) | (simp [hs_ss, hs_up]; omega) | (simp [hs_ss, hs_up]; done)) f ⟨by omega, by omega⟩) [vI r, vI w2, vI f] [] rfl rfl dX12_stepsOver_126 wlX12_355 wiX12_soughtIn weX12_soughtIn wcX12_soughtIn wnX12 noX12_soughtIn (by decide) (by decide) (Nat.le_of_ble_eq_true rfl) ⟨(gy_self hg110), hmn⟩ rfl rfl ?_
            rintro z126 _ ⟨rfl, k126⟩
            show hs_Wd _ _ _ _ _ _ _ _ _ _ _ _ _ _ _ _ _ 129 _ [vI z126] σ3
            refine s_aload_n (pc := 129) C dX12_stepsOver_129 0 rfl ?_
            refine s_iload (pc := 130) C dX12_stepsOver_130 6 rfl ?_
            refine s_iconst (pc := 132) C dX12_stepsOver_132 ?_
            refine s_isub (pc := 133) C dX12_stepsOver_133 ?_
            refine s_iload (pc := 134) C dX12_stepsOver_134 8 rfl ?_
            refine s_iload_n (pc := 136) C dX12_stepsOver_136 2 rfl ?_
            refine s_callVi (pc := 137) C (c_X12_soughtIn l (r - 1) (by first | omega | assumption | (constructor <;> omega) | (refine ⟨⟨?_, ?_⟩, ?_⟩ <;> omega) | (simp [hs_ss, hs_up]; omega) | (simp [hs_ss, hs_up]; done)) w2 (by first | omega | assumption | (constructor <;> omega) | (refine ⟨⟨?_, ?_⟩, ?_⟩ <;> omega) | (simp [hs_ss, hs_up]; omega) | (simp [hs_ss, hs_up]; done)) f ⟨by omega, by omega⟩) [vI (r - 1), vI w2, vI f] [vI z126] rfl rfl dX12_stepsOver_137 wlX12_355 wiX12_soughtIn weX12_soughtIn wcX12_soughtIn wnX12 noX12_soughtIn (by decide) (by decide) (Nat.le_of_ble_eq_true rfl) ⟨(gy_self hg110), hmn⟩ rfl rfl ?_
            rintro z137 _ ⟨rfl, k137⟩
            show hs_Wd _ _ _ _ _ _ _ _ _ _ _ _ _ _ _ _ _ 140 _ [vI z137, vI z126] σ3
            refine s_icmp_eq (pc := 140) C (tgt := 147) dX12_stepsOver_140 (by decide) ⟨by omega, by omega⟩ ⟨by omega, by omega⟩ (fun h140 => ?_) (fun h140 => ?_)
            · skip
              refine s_iconst (pc := 147) C dX12_stepsOver_147 ?_
              refine s_istore (pc := 148) C [(8, vI 0), (0, .ref (ad 0)), (1, vI a), (2, vI f), (3, vI (σ 0 4)), (4, vI (σ 0 5)), (5, vL n2), (7, vI r), (9, vI w2)] dX12_stepsOver_148 (by decide) rfl ?_
              refine s_iload (pc := 150) C dX12_stepsOver_150 0 rfl ?_
              refine s_if_eq (pc := 152) C (tgt := 176) dX12_stepsOver_152 (by decide) ⟨by decide, by decide⟩ (fun h152 => ?_) (fun h152 => ?_)
              · skip
                refine s_iinc (pc := 176) C [(9, vI (w2 + (-1))), (8, vI 0), (0, .ref (ad 0)), (1, vI a), (2, vI f), (3, vI (σ 0 4)), (4, vI (σ 0 5)), (5, vL n2), (7, vI r)] dX12_stepsOver_176 8 rfl (by decide) rfl ?_
                refine s_goto (pc := 179) C (tgt := 110) dX12_stepsOver_179 (by decide) ?_
                refine s_sub C [2, 3, 4, 5, 6, 7, 8, 1, 0] [(0, .ref (ad 0)), (1, vI a), (2, vI f), (3, vI (σ 0 4)), (4, vI (σ 0 5)), (5, vL n2), (7, vI r), (8, vI 0), (9, vI (w2 + (-1)))] rfl ?_
                have hi110 : GY σ σ3 ∧ FRM PSo σ σ3 ∧ MNY σ3 ∧ -1 ≤ (w2 + (-1)) ∧ (w2 + (-1)) < σ 0 6 ∧ (w2 + (-1)) ≤ 3 ∧ ((0 : Int) = 0 ∨ (0 : Int) = 1) ∧ (r = 0 → (0 : Int) = 1) := ⟨hg110, hf110, hp110_MNY, by first | omega | assumption | (constructor <;> omega) | (refine ⟨⟨?_, ?_⟩, ?_⟩ <;> omega) | (simp [hs_ss, hs_up]; omega) | (simp [hs_ss, hs_up]; done)⟩
                exact ih110 (w2 + (-1), 0, n2, σ3) (by first | omega | (simp only []; omega)) hi110
              · exact absurd h152 (by decide)
            · skip
              refine s_iconst (pc := 143) C dX12_stepsOver_143 ?_
              refine s_goto (pc := 144) C (tgt := 148) dX12_stepsOver_144 (by decide) ?_
              refine s_istore (pc := 148) C [(8, vI 1), (0, .ref (ad 0)), (1, vI a), (2, vI f), (3, vI (σ 0 4)), (4, vI (σ 0 5)), (5, vL n2), (7, vI r), (9, vI w2)] dX12_stepsOver_148 (by decide) rfl ?_
              refine s_iload (pc := 150) C dX12_stepsOver_150 0 rfl ?_
              refine s_if_eq (pc := 152) C (tgt := 176) dX12_stepsOver_152 (by decide) ⟨by decide, by decide⟩ (fun h152 => ?_) (fun h152 => ?_)
              · exact absurd h152 (by decide)
              · skip
                refine s_lload (pc := 155) C dX12_stepsOver_155 6 rfl ?_
                refine s_aload_n (pc := 157) C dX12_stepsOver_157 1 rfl ?_
                refine s_iload (pc := 158) C dX12_stepsOver_158 8 rfl ?_
                refine s_aload_n (pc := 160) C dX12_stepsOver_160 1 rfl ?_
                refine s_iload (pc := 161) C dX12_stepsOver_161 7 rfl ?_
                refine s_iload (pc := 163) C dX12_stepsOver_163 8 rfl ?_
                refine s_iload_n (pc := 165) C dX12_stepsOver_165 3 rfl ?_
                refine s_callVi (pc := 166) C (c_X12_soughtIn l r (by first | omega | assumption | (constructor <;> omega) | (refine ⟨⟨?_, ?_⟩, ?_⟩ <;> omega) | (simp [hs_ss, hs_up]; omega) | (simp [hs_ss, hs_up]; done)) w2 (by first | omega | assumption | (constructor <;> omega) | (refine ⟨⟨?_, ?_⟩, ?_⟩ <;> omega) | (simp [hs_ss, hs_up]; omega) | (simp [hs_ss, hs_up]; done)) f ⟨by omega, by omega⟩) [vI r, vI w2, vI f] [vI w2, .ref (ad 0), vL n2] rfl rfl dX12_stepsOver_166 wlX12_355 wiX12_soughtIn weX12_soughtIn wcX12_soughtIn wnX12 noX12_soughtIn (by decide) (by decide) (Nat.le_of_ble_eq_true rfl) ⟨(gy_self hg110), hmn⟩ rfl rfl ?_
                rintro z166 _ ⟨rfl, k166⟩
                show hs_Wd _ _ _ _ _ _ _ _ _ _ _ _ _ _ _ _ _ 169 _ [vI z166, vI w2, .ref (ad 0), vL n2] σ3
                refine s_callVi (pc := 169) C (c_X12_sets l w2 (by first | omega | assumption | (constructor <;> omega) | (refine ⟨⟨?_, ?_⟩, ?_⟩ <;> omega) | (simp [hs_ss, hs_up]; omega) | (simp [hs_ss, hs_up]; done)) z166 (by first | omega | assumption | (constructor <;> omega) | (refine ⟨⟨?_, ?_⟩, ?_⟩ <;> omega) | (simp [hs_ss, hs_up]; omega) | (simp [hs_ss, hs_up]; done))) [vI w2, vI z166] [vL n2] rfl rfl dX12_stepsOver_169 wlX12_359 wiX12_sets weX12_sets wcX12_sets wnX12 noX12_sets (by decide) (by decide) (Nat.le_of_ble_eq_true rfl) ⟨(gy_self hg110), by first | omega | assumption | (constructor <;> omega) | (refine ⟨⟨?_, ?_⟩, ?_⟩ <;> omega) | (simp [hs_ss, hs_up]; omega) | (simp [hs_ss, hs_up]; done)⟩ rfl rfl ?_
                rintro z169 σ169 k169
                obtain ⟨kg169, kf169, k169⟩ := k169
                have g169 := gy_trans hg110 kg169
                have f169 := frm_tr hf110 (frm_mono (Q := PSo) kf169 (fun c j h => by simp [PGs, PSo] at h ⊢ <;> omega))
                have p169_MNY := MNY_cg (frm_mono (Q := okMNY) kf169 (fun c j h => by simp [PGs, okMNY] at h ⊢ <;> omega)) hp110_MNY
                show hs_Wd _ _ _ _ _ _ _ _ _ _ _ _ _ _ _ _ _ 172 _ [vI z169, vL n2] σ169
                refine s_i2l (pc := 172) C dX12_stepsOver_172 ⟨by omega, by omega⟩ ?_
                refine s_ladd (pc := 173) C dX12_stepsOver_173 ?_
                refine s_lstore (pc := 174) C [(5, vL (n2 + z169)), (8, vI 1), (0, .ref (ad 0)), (1, vI a), (2, vI f), (3, vI (σ 0 4)), (4, vI (σ 0 5)), (7, vI r), (9, vI w2)] dX12_stepsOver_174 (by decide) rfl ?_
                refine s_iinc (pc := 176) C [(9, vI (w2 + (-1))), (5, vL (n2 + z169)), (8, vI 1), (0, .ref (ad 0)), (1, vI a), (2, vI f), (3, vI (σ 0 4)), (4, vI (σ 0 5)), (7, vI r)] dX12_stepsOver_176 8 rfl (by decide) rfl ?_
                refine s_goto (pc := 179) C (tgt := 110) dX12_stepsOver_179 (by decide) ?_
                refine s_sub C [3, 4, 5, 6, 7, 1, 8, 2, 0] [(0, .ref (ad 0)), (1, vI a), (2, vI f), (3, vI (σ 0 4)), (4, vI (σ 0 5)), (5, vL (n2 + z169)), (7, vI r), (8, vI 1), (9, vI (w2 + (-1)))] rfl ?_
                have hi110 : GY σ σ169 ∧ FRM PSo σ σ169 ∧ MNY σ169 ∧ -1 ≤ (w2 + (-1)) ∧ (w2 + (-1)) < σ 0 6 ∧ (w2 + (-1)) ≤ 3 ∧ ((1 : Int) = 0 ∨ (1 : Int) = 1) ∧ (r = 0 → (1 : Int) = 1) := ⟨g169, f169, p169_MNY, by first | omega | assumption | (constructor <;> omega) | (refine ⟨⟨?_, ?_⟩, ?_⟩ <;> omega) | (simp [hs_ss, hs_up]; omega) | (simp [hs_ss, hs_up]; done)⟩
                exact ih110 (w2 + (-1), 1, n2 + z169, σ169) (by first | omega | (simp only []; omega)) hi110
      · skip
        refine s_iconst (pc := 95) C dX12_stepsOver_95 ?_
        refine s_goto (pc := 96) C (tgt := 100) dX12_stepsOver_96 (by decide) ?_
        refine s_istore (pc := 100) C [(8, vI 1), (0, .ref (ad 0)), (1, vI a), (2, vI f), (3, vI (σ 0 4)), (4, vI (σ 0 5)), (5, vL nn), (7, vI r)] dX12_stepsOver_100 (by decide) rfl ?_
        refine s_aload_n (pc := 102) C dX12_stepsOver_102 1 rfl ?_
        refine s_geti (q := 0) (ci := 12) (N := 68) (CN := RX12) (T := TX12) (pc := 103) C 6 dX12_stepsOver_103 wlX12_141 rfl rfl rfl wfX12 (by decide) rfl (σ2 0 6) rfl ?_
        have b103 : (0 : Int) ≤ σ2 0 6 ∧ σ2 0 6 ≤ 4 := hg84.1 0 6
        refine s_iconst (pc := 106) C dX12_stepsOver_106 ?_
        refine s_isub (pc := 107) C dX12_stepsOver_107 ?_
        refine s_istore (pc := 108) C [(9, vI ((σ2 0 6) - 1)), (8, vI 1), (0, .ref (ad 0)), (1, vI a), (2, vI f), (3, vI (σ 0 4)), (4, vI (σ 0 5)), (5, vL nn), (7, vI r)] dX12_stepsOver_108 (by decide) rfl ?_
        refine s_sub C [2, 3, 4, 5, 6, 7, 8, 1, 0] [(0, .ref (ad 0)), (1, vI a), (2, vI f), (3, vI (σ 0 4)), (4, vI (σ 0 5)), (5, vL nn), (7, vI r), (8, vI 1), (9, vI ((σ2 0 6) - 1))] rfl ?_
        have e62 : σ2 0 6 = σ 0 6 := hg84.2.2.2.1
        have hi110 : GY σ σ2 ∧ FRM PSo σ σ2 ∧ MNY σ2 ∧ -1 ≤ ((σ2 0 6) - 1) ∧ ((σ2 0 6) - 1) < σ 0 6 ∧ ((σ2 0 6) - 1) ≤ 3 ∧ ((1 : Int) = 0 ∨ (1 : Int) = 1) ∧ (r = 0 → (1 : Int) = 1) := ⟨hg84, hf84, hp84_MNY, by first | omega | assumption | (constructor <;> omega) | (refine ⟨⟨?_, ?_⟩, ?_⟩ <;> omega) | (simp [hs_ss, hs_up]; omega) | (simp [hs_ss, hs_up]; done)⟩
        refine hs_loop (α := Int × Int × Int × hs_S) (fun x_ => (GY σ x_.2.2.2 ∧ FRM PSo σ x_.2.2.2 ∧ MNY x_.2.2.2 ∧ -1 ≤ x_.1 ∧ x_.1 < σ 0 6 ∧ x_.1 ≤ 3 ∧ (x_.2.1 = 0 ∨ x_.2.1 = 1) ∧ (r = 0 → x_.2.1 = 1)) → hs_Wd p l e 6 s m args below meth c D dA SHY ad A 10 (hs_PL (fun σ z σ1 => GY σ σ1 ∧ FRM PSo σ σ1 ∧ MNY σ1 ∧ -9223372036854775808 ≤ z ∧ z ≤ 9223372036854775807) σ) 110 [(0, .ref (ad 0)), (1, vI a), (2, vI f), (3, vI (σ 0 4)), (4, vI (σ 0 5)), (5, vL x_.2.2.1), (7, vI r), (8, vI x_.2.1), (9, vI x_.1)] [] x_.2.2.2) (fun x_ => (x_.1 + 1).toNat) ?_ ((σ2 0 6) - 1, 1, nn, σ2) hi110
        rintro ⟨w2, sm, n2, σ3⟩ ih110 hinv
        replace hinv : GY σ σ3 ∧ FRM PSo σ σ3 ∧ MNY σ3 ∧ -1 ≤ w2 ∧ w2 < σ 0 6 ∧ w2 ≤ 3 ∧ (sm = 0 ∨ sm = 1) ∧ (r = 0 → sm = 1) := hinv
        obtain ⟨hg110, hf110, hp110_MNY, hv110⟩ := hinv
        show hs_Wd p l e 6 s m args below meth c D dA SHY ad A 10 (hs_PL (fun σ z σ1 => GY σ σ1 ∧ FRM PSo σ σ1 ∧ MNY σ1 ∧ -9223372036854775808 ≤ z ∧ z ≤ 9223372036854775807) σ) 110 [(0, .ref (ad 0)), (1, vI a), (2, vI f), (3, vI (σ 0 4)), (4, vI (σ 0 5)), (5, vL n2), (7, vI r), (8, vI sm), (9, vI w2)] [] σ3
        have e63 : σ3 0 6 = σ 0 6 := hg110.2.2.2.1
        have e58 : σ3 0 58 = σ 0 58 := hf110 0 58 rfl
        refine s_iload (pc := 110) C dX12_stepsOver_110 8 rfl ?_
        refine s_if_lt (pc := 112) C (tgt := 182) dX12_stepsOver_112 (by decide) ⟨by omega, by omega⟩ (fun h112 => ?_) (fun h112 => ?_)
        · skip
          refine s_iinc (pc := 182) C [(7, vI (r + 1)), (0, .ref (ad 0)), (1, vI a), (2, vI f), (3, vI (σ 0 4)), (4, vI (σ 0 5)), (5, vL n2), (8, vI sm), (9, vI w2)] dX12_stepsOver_182 6 rfl (by decide) rfl ?_
          refine s_goto (pc := 185) C (tgt := 84) dX12_stepsOver_185 (by decide) ?_
          refine s_sub C [1, 2, 3, 4, 5, 6, 0] [(0, .ref (ad 0)), (1, vI a), (2, vI f), (3, vI (σ 0 4)), (4, vI (σ 0 5)), (5, vL n2), (7, vI (r + 1))] rfl ?_
          have hi84 : GY σ σ3 ∧ FRM PSo σ σ3 ∧ MNY σ3 ∧ 0 ≤ (r + 1) ∧ (r + 1) ≤ a := ⟨hg110, hf110, hp110_MNY, by first | omega | assumption | (constructor <;> omega) | (refine ⟨⟨?_, ?_⟩, ?_⟩ <;> omega) | (simp [hs_ss, hs_up]; omega) | (simp [hs_ss, hs_up]; done)⟩
          exact ih84 (r + 1, n2, σ3) (by first | omega | (simp only []; omega)) hi84
        · skip
          have hmn : ∀ j : Nat, (j : Int) ≤ w2 → 1 ≤ σ3 29 j := fun j hj => hp110_MNY.2 (by omega) j (by omega)
          refine s_iload (pc := 115) C dX12_stepsOver_115 7 rfl ?_
          refine s_if_ne (pc := 117) C (tgt := 143) dX12_stepsOver_117 (by decide) ⟨by omega, by omega⟩ (fun h117 => ?_) (fun h117 => ?_)
          · skip
            refine s_iconst (pc := 143) C dX12_stepsOver_143 ?_
            refine s_goto (pc := 144) C (tgt := 148) dX12_stepsOver_144 (by decide) ?_
            refine s_istore (pc := 148) C [(8, vI 1), (0, .ref (ad 0)), (1, vI a), (2, vI f), (3, vI (σ 0 4)), (4, vI (σ 0 5)), (5, vL n2), (7, vI r), (9, vI w2)] dX12_stepsOver_148 (by decide) rfl ?_
            refine s_iload (pc := 150) C dX12_stepsOver_150 0 rfl ?_
            refine s_if_eq (pc := 152) C (tgt := 176) dX12_stepsOver_152 (by decide) ⟨by decide, by decide⟩ (fun h152 => ?_) (fun h152 => ?_)
            · exact absurd h152 (by decide)
            · skip
              refine s_lload (pc := 155) C dX12_stepsOver_155 6 rfl ?_
              refine s_aload_n (pc := 157) C dX12_stepsOver_157 1 rfl ?_
              refine s_iload (pc := 158) C dX12_stepsOver_158 8 rfl ?_
              refine s_aload_n (pc := 160) C dX12_stepsOver_160 1 rfl ?_
              refine s_iload (pc := 161) C dX12_stepsOver_161 7 rfl ?_
              refine s_iload (pc := 163) C dX12_stepsOver_163 8 rfl ?_
              refine s_iload_n (pc := 165) C dX12_stepsOver_165 3 rfl ?_
              refine s_callVi (pc := 166) C (c_X12_soughtIn l r (by first | omega | assumption | (constructor <;> omega) | (refine ⟨⟨?_, ?_⟩, ?_⟩ <;> omega) | (simp [hs_ss, hs_up]; omega) | (simp [hs_ss, hs_up]; done)) w2 (by first | omega | assumption | (constructor <;> omega) | (refine ⟨⟨?_, ?_⟩, ?_⟩ <;> omega) | (simp [hs_ss, hs_up]; omega) | (simp [hs_ss, hs_up]; done)) f ⟨by omega, by omega⟩) [vI r, vI w2, vI f] [vI w2, .ref (ad 0), vL n2] rfl rfl dX12_stepsOver_166 wlX12_355 wiX12_soughtIn weX12_soughtIn wcX12_soughtIn wnX12 noX12_soughtIn (by decide) (by decide) (Nat.le_of_ble_eq_true rfl) ⟨(gy_self hg110), hmn⟩ rfl rfl ?_
              rintro z166 _ ⟨rfl, k166⟩
              show hs_Wd _ _ _ _ _ _ _ _ _ _ _ _ _ _ _ _ _ 169 _ [vI z166, vI w2, .ref (ad 0), vL n2] σ3
              refine s_callVi (pc := 169) C (c_X12_sets l w2 (by first | omega | assumption | (constructor <;> omega) | (refine ⟨⟨?_, ?_⟩, ?_⟩ <;> omega) | (simp [hs_ss, hs_up]; omega) | (simp [hs_ss, hs_up]; done)) z166 (by first | omega | assumption | (constructor <;> omega) | (refine ⟨⟨?_, ?_⟩, ?_⟩ <;> omega) | (simp [hs_ss, hs_up]; omega) | (simp [hs_ss, hs_up]; done))) [vI w2, vI z166] [vL n2] rfl rfl dX12_stepsOver_169 wlX12_359 wiX12_sets weX12_sets wcX12_sets wnX12 noX12_sets (by decide) (by decide) (Nat.le_of_ble_eq_true rfl) ⟨(gy_self hg110), by first | omega | assumption | (constructor <;> omega) | (refine ⟨⟨?_, ?_⟩, ?_⟩ <;> omega) | (simp [hs_ss, hs_up]; omega) | (simp [hs_ss, hs_up]; done)⟩ rfl rfl ?_
              rintro z169 σ169 k169
              obtain ⟨kg169, kf169, k169⟩ := k169
              have g169 := gy_trans hg110 kg169
              have f169 := frm_tr hf110 (frm_mono (Q := PSo) kf169 (fun c j h => by simp [PGs, PSo] at h ⊢ <;> omega))
              have p169_MNY := MNY_cg (frm_mono (Q := okMNY) kf169 (fun c j h => by simp [PGs, okMNY] at h ⊢ <;> omega)) hp110_MNY
              show hs_Wd _ _ _ _ _ _ _ _ _ _ _ _ _ _ _ _ _ 172 _ [vI z169, vL n2] σ169
              refine s_i2l (pc := 172) C dX12_stepsOver_172 ⟨by omega, by omega⟩ ?_
              refine s_ladd (pc := 173) C dX12_stepsOver_173 ?_
              refine s_lstore (pc := 174) C [(5, vL (n2 + z169)), (8, vI 1), (0, .ref (ad 0)), (1, vI a), (2, vI f), (3, vI (σ 0 4)), (4, vI (σ 0 5)), (7, vI r), (9, vI w2)] dX12_stepsOver_174 (by decide) rfl ?_
              refine s_iinc (pc := 176) C [(9, vI (w2 + (-1))), (5, vL (n2 + z169)), (8, vI 1), (0, .ref (ad 0)), (1, vI a), (2, vI f), (3, vI (σ 0 4)), (4, vI (σ 0 5)), (7, vI r)] dX12_stepsOver_176 8 rfl (by decide) rfl ?_
              refine s_goto (pc := 179) C (tgt := 110) dX12_stepsOver_179 (by decide) ?_
              refine s_sub C [3, 4, 5, 6, 7, 1, 8, 2, 0] [(0, .ref (ad 0)), (1, vI a), (2, vI f), (3, vI (σ 0 4)), (4, vI (σ 0 5)), (5, vL (n2 + z169)), (7, vI r), (8, vI 1), (9, vI (w2 + (-1)))] rfl ?_
              have hi110 : GY σ σ169 ∧ FRM PSo σ σ169 ∧ MNY σ169 ∧ -1 ≤ (w2 + (-1)) ∧ (w2 + (-1)) < σ 0 6 ∧ (w2 + (-1)) ≤ 3 ∧ ((1 : Int) = 0 ∨ (1 : Int) = 1) ∧ (r = 0 → (1 : Int) = 1) := ⟨g169, f169, p169_MNY, by first | omega | assumption | (constructor <;> omega) | (refine ⟨⟨?_, ?_⟩, ?_⟩ <;> omega) | (simp [hs_ss, hs_up]; omega) | (simp [hs_ss, hs_up]; done)⟩
              exact ih110 (w2 + (-1), 1, n2 + z169, σ169) (by first | omega | (simp only []; omega)) hi110
          · skip
            refine s_aload_n (pc := 120) C dX12_stepsOver_120 0 rfl ?_
            refine s_iload (pc := 121) C dX12_stepsOver_121 6 rfl ?_
            refine s_iload (pc := 123) C dX12_stepsOver_123 8 rfl ?_
            refine s_iload_n (pc := 125) C dX12_stepsOver_125 2 rfl ?_
            refine s_callVi (pc := 126) C (c_X12_soughtIn l r (by first | omega | assumption | (constructor <;> omega) | (refine ⟨⟨?_, ?_⟩, ?_⟩ <;> omega) | (simp [hs_ss, hs_up]; omega) | (simp [hs_ss, hs_up]; done)) w2 (by first | omega | assumption | (constructor <;> omega) | (refine ⟨⟨?_, ?_⟩, ?_⟩ <;> omega) | (simp [hs_ss, hs_up]; omega) | (simp [hs_ss, hs_up]; done)) f ⟨by omega, by omega⟩) [vI r, vI w2, vI f] [] rfl rfl dX12_stepsOver_126 wlX12_355 wiX12_soughtIn weX12_soughtIn wcX12_soughtIn wnX12 noX12_soughtIn (by decide) (by decide) (Nat.le_of_ble_eq_true rfl) ⟨(gy_self hg110), hmn⟩ rfl rfl ?_
            rintro z126 _ ⟨rfl, k126⟩
            show hs_Wd _ _ _ _ _ _ _ _ _ _ _ _ _ _ _ _ _ 129 _ [vI z126] σ3
            refine s_aload_n (pc := 129) C dX12_stepsOver_129 0 rfl ?_
            refine s_iload (pc := 130) C dX12_stepsOver_130 6 rfl ?_
            refine s_iconst (pc := 132) C dX12_stepsOver_132 ?_
            refine s_isub (pc := 133) C dX12_stepsOver_133 ?_
            refine s_iload (pc := 134) C dX12_stepsOver_134 8 rfl ?_
            refine s_iload_n (pc := 136) C dX12_stepsOver_136 2 rfl ?_
            refine s_callVi (pc := 137) C (c_X12_soughtIn l (r - 1) (by first | omega | assumption | (constructor <;> omega) | (refine ⟨⟨?_, ?_⟩, ?_⟩ <;> omega) | (simp [hs_ss, hs_up]; omega) | (simp [hs_ss, hs_up]; done)) w2 (by first | omega | assumption | (constructor <;> omega) | (refine ⟨⟨?_, ?_⟩, ?_⟩ <;> omega) | (simp [hs_ss, hs_up]; omega) | (simp [hs_ss, hs_up]; done)) f ⟨by omega, by omega⟩) [vI (r - 1), vI w2, vI f] [vI z126] rfl rfl dX12_stepsOver_137 wlX12_355 wiX12_soughtIn weX12_soughtIn wcX12_soughtIn wnX12 noX12_soughtIn (by decide) (by decide) (Nat.le_of_ble_eq_true rfl) ⟨(gy_self hg110), hmn⟩ rfl rfl ?_
            rintro z137 _ ⟨rfl, k137⟩
            show hs_Wd _ _ _ _ _ _ _ _ _ _ _ _ _ _ _ _ _ 140 _ [vI z137, vI z126] σ3
            refine s_icmp_eq (pc := 140) C (tgt := 147) dX12_stepsOver_140 (by decide) ⟨by omega, by omega⟩ ⟨by omega, by omega⟩ (fun h140 => ?_) (fun h140 => ?_)
            · skip
              refine s_iconst (pc := 147) C dX12_stepsOver_147 ?_
              refine s_istore (pc := 148) C [(8, vI 0), (0, .ref (ad 0)), (1, vI a), (2, vI f), (3, vI (σ 0 4)), (4, vI (σ 0 5)), (5, vL n2), (7, vI r), (9, vI w2)] dX12_stepsOver_148 (by decide) rfl ?_
              refine s_iload (pc := 150) C dX12_stepsOver_150 0 rfl ?_
              refine s_if_eq (pc := 152) C (tgt := 176) dX12_stepsOver_152 (by decide) ⟨by decide, by decide⟩ (fun h152 => ?_) (fun h152 => ?_)
              · skip
                refine s_iinc (pc := 176) C [(9, vI (w2 + (-1))), (8, vI 0), (0, .ref (ad 0)), (1, vI a), (2, vI f), (3, vI (σ 0 4)), (4, vI (σ 0 5)), (5, vL n2), (7, vI r)] dX12_stepsOver_176 8 rfl (by decide) rfl ?_
                refine s_goto (pc := 179) C (tgt := 110) dX12_stepsOver_179 (by decide) ?_
                refine s_sub C [2, 3, 4, 5, 6, 7, 8, 1, 0] [(0, .ref (ad 0)), (1, vI a), (2, vI f), (3, vI (σ 0 4)), (4, vI (σ 0 5)), (5, vL n2), (7, vI r), (8, vI 0), (9, vI (w2 + (-1)))] rfl ?_
                have hi110 : GY σ σ3 ∧ FRM PSo σ σ3 ∧ MNY σ3 ∧ -1 ≤ (w2 + (-1)) ∧ (w2 + (-1)) < σ 0 6 ∧ (w2 + (-1)) ≤ 3 ∧ ((0 : Int) = 0 ∨ (0 : Int) = 1) ∧ (r = 0 → (0 : Int) = 1) := ⟨hg110, hf110, hp110_MNY, by first | omega | assumption | (constructor <;> omega) | (refine ⟨⟨?_, ?_⟩, ?_⟩ <;> omega) | (simp [hs_ss, hs_up]; omega) | (simp [hs_ss, hs_up]; done)⟩
                exact ih110 (w2 + (-1), 0, n2, σ3) (by first | omega | (simp only []; omega)) hi110
              · exact absurd h152 (by decide)
            · skip
              refine s_iconst (pc := 143) C dX12_stepsOver_143 ?_
              refine s_goto (pc := 144) C (tgt := 148) dX12_stepsOver_144 (by decide) ?_
              refine s_istore (pc := 148) C [(8, vI 1), (0, .ref (ad 0)), (1, vI a), (2, vI f), (3, vI (σ 0 4)), (4, vI (σ 0 5)), (5, vL n2), (7, vI r), (9, vI w2)] dX12_stepsOver_148 (by decide) rfl ?_
              refine s_iload (pc := 150) C dX12_stepsOver_150 0 rfl ?_
              refine s_if_eq (pc := 152) C (tgt := 176) dX12_stepsOver_152 (by decide) ⟨by decide, by decide⟩ (fun h152 => ?_) (fun h152 => ?_)
              · exact absurd h152 (by decide)
              · skip
                refine s_lload (pc := 155) C dX12_stepsOver_155 6 rfl ?_
                refine s_aload_n (pc := 157) C dX12_stepsOver_157 1 rfl ?_
                refine s_iload (pc := 158) C dX12_stepsOver_158 8 rfl ?_
                refine s_aload_n (pc := 160) C dX12_stepsOver_160 1 rfl ?_
                refine s_iload (pc := 161) C dX12_stepsOver_161 7 rfl ?_
                refine s_iload (pc := 163) C dX12_stepsOver_163 8 rfl ?_
                refine s_iload_n (pc := 165) C dX12_stepsOver_165 3 rfl ?_
                refine s_callVi (pc := 166) C (c_X12_soughtIn l r (by first | omega | assumption | (constructor <;> omega) | (refine ⟨⟨?_, ?_⟩, ?_⟩ <;> omega) | (simp [hs_ss, hs_up]; omega) | (simp [hs_ss, hs_up]; done)) w2 (by first | omega | assumption | (constructor <;> omega) | (refine ⟨⟨?_, ?_⟩, ?_⟩ <;> omega) | (simp [hs_ss, hs_up]; omega) | (simp [hs_ss, hs_up]; done)) f ⟨by omega, by omega⟩) [vI r, vI w2, vI f] [vI w2, .ref (ad 0), vL n2] rfl rfl dX12_stepsOver_166 wlX12_355 wiX12_soughtIn weX12_soughtIn wcX12_soughtIn wnX12 noX12_soughtIn (by decide) (by decide) (Nat.le_of_ble_eq_true rfl) ⟨(gy_self hg110), hmn⟩ rfl rfl ?_
                rintro z166 _ ⟨rfl, k166⟩
                show hs_Wd _ _ _ _ _ _ _ _ _ _ _ _ _ _ _ _ _ 169 _ [vI z166, vI w2, .ref (ad 0), vL n2] σ3
                refine s_callVi (pc := 169) C (c_X12_sets l w2 (by first | omega | assumption | (constructor <;> omega) | (refine ⟨⟨?_, ?_⟩, ?_⟩ <;> omega) | (simp [hs_ss, hs_up]; omega) | (simp [hs_ss, hs_up]; done)) z166 (by first | omega | assumption | (constructor <;> omega) | (refine ⟨⟨?_, ?_⟩, ?_⟩ <;> omega) | (simp [hs_ss, hs_up]; omega) | (simp [hs_ss, hs_up]; done))) [vI w2, vI z166] [vL n2] rfl rfl dX12_stepsOver_169 wlX12_359 wiX12_sets weX12_sets wcX12_sets wnX12 noX12_sets (by decide) (by decide) (Nat.le_of_ble_eq_true rfl) ⟨(gy_self hg110), by first | omega | assumption | (constructor <;> omega) | (refine ⟨⟨?_, ?_⟩, ?_⟩ <;> omega) | (simp [hs_ss, hs_up]; omega) | (simp [hs_ss, hs_up]; done)⟩ rfl rfl ?_
                rintro z169 σ169 k169
                obtain ⟨kg169, kf169, k169⟩ := k169
                have g169 := gy_trans hg110 kg169
                have f169 := frm_tr hf110 (frm_mono (Q := PSo) kf169 (fun c j h => by simp [PGs, PSo] at h ⊢ <;> omega))
                have p169_MNY := MNY_cg (frm_mono (Q := okMNY) kf169 (fun c j h => by simp [PGs, okMNY] at h ⊢ <;> omega)) hp110_MNY
                show hs_Wd _ _ _ _ _ _ _ _ _ _ _ _ _ _ _ _ _ 172 _ [vI z169, vL n2] σ169
                refine s_i2l (pc := 172) C dX12_stepsOver_172 ⟨by omega, by omega⟩ ?_
                refine s_ladd (pc := 173) C dX12_stepsOver_173 ?_
                refine s_lstore (pc := 174) C [(5, vL (n2 + z169)), (8, vI 1), (0, .ref (ad 0)), (1, vI a), (2, vI f), (3, vI (σ 0 4)), (4, vI (σ 0 5)), (7, vI r), (9, vI w2)] dX12_stepsOver_174 (by decide) rfl ?_
                refine s_iinc (pc := 176) C [(9, vI (w2 + (-1))), (5, vL (n2 + z169)), (8, vI 1), (0, .ref (ad 0)), (1, vI a), (2, vI f), (3, vI (σ 0 4)), (4, vI (σ 0 5)), (7, vI r)] dX12_stepsOver_176 8 rfl (by decide) rfl ?_
                refine s_goto (pc := 179) C (tgt := 110) dX12_stepsOver_179 (by decide) ?_
                refine s_sub C [3, 4, 5, 6, 7, 1, 8, 2, 0] [(0, .ref (ad 0)), (1, vI a), (2, vI f), (3, vI (σ 0 4)), (4, vI (σ 0 5)), (5, vL (n2 + z169)), (7, vI r), (8, vI 1), (9, vI (w2 + (-1)))] rfl ?_
                have hi110 : GY σ σ169 ∧ FRM PSo σ σ169 ∧ MNY σ169 ∧ -1 ≤ (w2 + (-1)) ∧ (w2 + (-1)) < σ 0 6 ∧ (w2 + (-1)) ≤ 3 ∧ ((1 : Int) = 0 ∨ (1 : Int) = 1) ∧ (r = 0 → (1 : Int) = 1) := ⟨g169, f169, p169_MNY, by first | omega | assumption | (constructor <;> omega) | (refine ⟨⟨?_, ?_⟩, ?_⟩ <;> omega) | (simp [hs_ss, hs_up]; omega) | (simp [hs_ss, hs_up]; done)⟩
                exact ih110 (w2 + (-1), 1, n2 + z169, σ169) (by first | omega | (simp only []; omega)) hi110
  · skip
    refine s_aload_n (pc := 23) C dX12_stepsOver_23 0 rfl ?_
    refine s_getr (q := 0) (ci := 12) (N := 68) (CN := RX12) (T := TX12) (pc := 24) C 59 dX12_stepsOver_24 wlX12_111 rfl rfl rfl wfX12 (by decide) rfl ?_
    refine s_iload (pc := 27) C dX12_stepsOver_27 5 rfl ?_
    refine s_aload_n (pc := 29) C dX12_stepsOver_29 0 rfl ?_
    refine s_getr (q := 0) (ci := 12) (N := 68) (CN := RX12) (T := TX12) (pc := 30) C 15 dX12_stepsOver_30 wlX12_41 rfl rfl rfl wfX12 (by decide) rfl ?_
    refine s_iload (pc := 33) C dX12_stepsOver_33 5 rfl ?_
    refine s_iald (q := 10) (n := 4) (pc := 35) C (σ1 10 w.toNat) rfl dX12_stepsOver_35 rfl (by omega) (by omega) (by decide) ?_
    have b35 : (0 : Int) ≤ σ1 10 w.toNat ∧ σ1 10 w.toNat ≤ 99 := hg14.1 10 w.toNat
    refine s_iast (q := 32) (n := 4) (pc := 36) C dX12_stepsOver_36 rfl (by omega) (by omega) (by decide) ?_
    have g36 := gy_set (z := (σ1 10 w.toNat)) hg14 32 w.toNat rfl (0) (99) rfl ⟨by omega, by omega⟩
    have f36 := frm_set (P := PSo) (z := (σ1 10 w.toNat)) hf14 32 w.toNat rfl
    have p36_MNY := MNY_cg (frm_one (P := okMNY) (z := (σ1 10 w.toNat)) 32 w.toNat rfl) hp14_MNY
    refine s_aload_n (pc := 37) C dX12_stepsOver_37 0 rfl ?_
    refine s_getr (q := 0) (ci := 12) (N := 68) (CN := RX12) (T := TX12) (pc := 38) C 60 dX12_stepsOver_38 wlX12_114 rfl rfl rfl wfX12 (by decide) rfl ?_
    refine s_iload (pc := 41) C dX12_stepsOver_41 5 rfl ?_
    refine s_aload_n (pc := 43) C dX12_stepsOver_43 0 rfl ?_
    refine s_getr (q := 0) (ci := 12) (N := 68) (CN := RX12) (T := TX12) (pc := 44) C 16 dX12_stepsOver_44 wlX12_44 rfl rfl rfl wfX12 (by decide) rfl ?_
    refine s_iload (pc := 47) C dX12_stepsOver_47 5 rfl ?_
    refine s_iald (q := 11) (n := 4) (pc := 49) C (σ1 11 w.toNat) rfl dX12_stepsOver_49 rfl (by omega) (by omega) (by decide) ?_
    have b49 : (0 : Int) ≤ σ1 11 w.toNat ∧ σ1 11 w.toNat ≤ 100 := g36.1 11 w.toNat
    refine s_iast (q := 33) (n := 4) (pc := 50) C dX12_stepsOver_50 rfl (by omega) (by omega) (by decide) ?_
    have g50 := gy_set (z := (σ1 11 w.toNat)) g36 33 w.toNat rfl (0) (100) rfl ⟨by omega, by omega⟩
    have f50 := frm_set (P := PSo) (z := (σ1 11 w.toNat)) f36 33 w.toNat rfl
    have p50_MNY := MNY_cg (frm_one (P := okMNY) (z := (σ1 11 w.toNat)) 33 w.toNat rfl) p36_MNY
    refine s_aload_n (pc := 51) C dX12_stepsOver_51 0 rfl ?_
    refine s_getr (q := 0) (ci := 12) (N := 68) (CN := RX12) (T := TX12) (pc := 52) C 15 dX12_stepsOver_52 wlX12_41 rfl rfl rfl wfX12 (by decide) rfl ?_
    refine s_iload (pc := 55) C dX12_stepsOver_55 5 rfl ?_
    refine s_iconst (pc := 57) C dX12_stepsOver_57 ?_
    refine s_iast (q := 10) (n := 4) (pc := 58) C dX12_stepsOver_58 rfl (by omega) (by omega) (by decide) ?_
    have g58 := gy_set (z := 0) g50 10 w.toNat rfl (0) (99) rfl ⟨by omega, by omega⟩
    have f58 := frm_set (P := PSo) (z := 0) f50 10 w.toNat rfl
    have p58_MNY := MNY_cg (frm_one (P := okMNY) (z := 0) 10 w.toNat rfl) p50_MNY
    refine s_aload_n (pc := 59) C dX12_stepsOver_59 0 rfl ?_
    refine s_getr (q := 0) (ci := 12) (N := 68) (CN := RX12) (T := TX12) (pc := 60) C 16 dX12_stepsOver_60 wlX12_44 rfl rfl rfl wfX12 (by decide) rfl ?_
    refine s_iload (pc := 63) C dX12_stepsOver_63 5 rfl ?_
    refine s_iconst (pc := 65) C dX12_stepsOver_65 ?_
    refine s_iast (q := 11) (n := 4) (pc := 66) C dX12_stepsOver_66 rfl (by omega) (by omega) (by decide) ?_
    have g66 := gy_set (z := 0) g58 11 w.toNat rfl (0) (100) rfl ⟨by omega, by omega⟩
    have f66 := frm_set (P := PSo) (z := 0) f58 11 w.toNat rfl
    have p66_MNY := MNY_cg (frm_one (P := okMNY) (z := 0) 11 w.toNat rfl) p58_MNY
    refine s_iinc (pc := 67) C [(5, vI (w + 1)), (0, .ref (ad 0)), (1, vI a), (2, vI f), (3, vI (σ 0 4)), (4, vI (σ 0 5))] dX12_stepsOver_67 5 rfl (by decide) rfl ?_
    refine s_goto (pc := 70) C (tgt := 14) dX12_stepsOver_70 (by decide) ?_
    refine s_sub C [1, 2, 3, 4, 5, 0] [(0, .ref (ad 0)), (1, vI a), (2, vI f), (3, vI (σ 0 4)), (4, vI (σ 0 5)), (5, vI (w + 1))] rfl ?_
    have hi14 : GY σ ((hs_ss (hs_ss (hs_ss (hs_ss σ1 32 w.toNat (σ1 10 w.toNat)) 33 w.toNat (σ1 11 w.toNat)) 10 w.toNat 0) 11 w.toNat 0)) ∧ FRM PSo σ ((hs_ss (hs_ss (hs_ss (hs_ss σ1 32 w.toNat (σ1 10 w.toNat)) 33 w.toNat (σ1 11 w.toNat)) 10 w.toNat 0) 11 w.toNat 0)) ∧ MNY ((hs_ss (hs_ss (hs_ss (hs_ss σ1 32 w.toNat (σ1 10 w.toNat)) 33 w.toNat (σ1 11 w.toNat)) 10 w.toNat 0) 11 w.toNat 0)) ∧ 0 ≤ (w + 1) ∧ (w + 1) ≤ 4 := ⟨g66, f66, p66_MNY, by first | omega | assumption | (constructor <;> omega) | (refine ⟨⟨?_, ?_⟩, ?_⟩ <;> omega) | (simp [hs_ss, hs_up]; omega) | (simp [hs_ss, hs_up]; done)⟩
    exact ih14 (w + 1, (hs_ss (hs_ss (hs_ss (hs_ss σ1 32 w.toNat (σ1 10 w.toNat)) 33 w.toNat (σ1 11 w.toNat)) 10 w.toNat 0) 11 w.toNat 0)) (by first | omega | (simp only []; omega)) hi14
set_option maxHeartbeats 4000000 in
set_option maxRecDepth 100000 in
theorem c_X12_seek (l : Launch) (n : Int) (hn : hs_R n) : hs_Met l yX12_seek cX12_seek 2 (some .long) 8 SHY (fun ad => [.ref (ad 0), vI n]) (fun σ => GY σ σ) (hs_PL (fun σ z σ1 => GY σ σ1)) := by
  refine hs_from pfX12_seek (fun _ => Nat.le_of_ble_eq_true rfl) ?_
  intro p e s m args below meth c D dA ad A σ C hpre
  have C : hs_C p s m args meth c D dA SHY ad A 2 cX12_seek RX12 (some .long) := C
  have g0 := hpre
  have b06 : (0 : Int) ≤ σ 0 6 ∧ σ 0 6 ≤ 4 := g0.1 0 6
  show hs_Wd p l e 8 s m args below meth c D dA SHY ad A 2 (hs_PL (fun σ z σ1 => GY σ σ1) σ) 0 [(0, .ref (ad 0)), (1, vI n)] [] σ
  refine s_aload_n (pc := 0) C dX12_seek_0 0 rfl ?_
  refine s_iconst (pc := 1) C dX12_seek_1 ?_
  refine s_puti (q := 0) (ci := 12) (N := 68) (CN := RX12) (T := TX12) (ty0 := tyX12) (ty := .int) (pc := 2) C 2 dX12_seek_2 wlX12_135 rfl rfl rfl wfX12 tyX12_ok nmX12 (by decide) rfl rfl rfl (vp_nar_int _) rfl ?_
  have g2 := gy_set (z := 0) g0 0 2 rfl (0) (2) rfl ⟨by omega, by omega⟩
  refine s_aload_n (pc := 5) C dX12_seek_5 0 rfl ?_
  refine s_geti (q := 0) (ci := 12) (N := 68) (CN := RX12) (T := TX12) (pc := 6) C 6 dX12_seek_6 wlX12_141 rfl rfl rfl wfX12 (by decide) rfl (σ 0 6) rfl ?_
  have b6 : (0 : Int) ≤ σ 0 6 ∧ σ 0 6 ≤ 4 := g2.1 0 6
  refine s_if_eq (pc := 9) C (tgt := 21) dX12_seek_9 (by decide) ⟨by omega, by omega⟩ (fun h9 => ?_) (fun h9 => ?_)
  · skip
    refine s_ldc2 (z := (-1)) (pc := 21) C dX12_seek_21 wlX12_362 (by decide) ?_
    refine s_lret (pc := 24) C dX12_seek_24 ?_
    refine ⟨_, rfl, ?_⟩
    exact g2
  · skip
    refine s_iload_n (pc := 12) C dX12_seek_12 1 rfl ?_
    refine s_iconst (pc := 13) C dX12_seek_13 ?_
    refine s_iconst (pc := 14) C dX12_seek_14 ?_
    refine s_callSi (pc := 15) C (c_X12_isIn l n ⟨by omega, by omega⟩ 0 ⟨by omega, by omega⟩ 3 ⟨by omega, by omega⟩) [vI n, vI 0, vI 3] [] rfl rfl dX12_seek_15 wlX12_189 wtX12_isIn wcX12_isIn wnX12 noX12_isIn (by decide) (by decide) (Nat.le_of_ble_eq_true rfl) (gy_self g2) ?_
    rintro z15 _ ⟨rfl, k15⟩
    show hs_Wd _ _ _ _ _ _ _ _ _ _ _ _ _ _ _ _ _ 18 _ [vI z15] (hs_ss σ 0 2 0)
    refine s_if_ne (pc := 18) C (tgt := 25) dX12_seek_18 (by decide) ⟨by omega, by omega⟩ (fun h18 => ?_) (fun h18 => ?_)
    · skip
      refine s_aload_n (pc := 25) C dX12_seek_25 0 rfl ?_
      refine s_callVi (pc := 26) C (c_X12_layRows l) [] [] rfl rfl dX12_seek_26 wlX12_364 wiX12_layRows weX12_layRows wcX12_layRows wnX12 noX12_layRows (by decide) (by decide) (Nat.le_of_ble_eq_true rfl) (gy_self g2) rfl rfl ?_
      rintro z26 σ26 k26
      obtain ⟨kg26, kf26, k26⟩ := k26
      have g26 := gy_trans g2 kg26
      show hs_Wd _ _ _ _ _ _ _ _ _ _ _ _ _ _ _ _ _ 29 _ [vI z26] σ26
      refine s_if_ne (pc := 29) C (tgt := 36) dX12_seek_29 (by decide) ⟨by omega, by omega⟩ (fun h29 => ?_) (fun h29 => ?_)
      · skip
        have hm : MNY σ26 := k26.2 (by omega)
        have hm1 := hm.1
        refine s_iload_n (pc := 36) C dX12_seek_36 1 rfl ?_
        refine s_if_ne (pc := 37) C (tgt := 47) dX12_seek_37 (by decide) ⟨by omega, by omega⟩ (fun h37 => ?_) (fun h37 => ?_)
        · skip
          refine s_iload_n (pc := 47) C dX12_seek_47 1 rfl ?_
          refine s_iconst (pc := 48) C dX12_seek_48 ?_
          refine s_icmp_ne (pc := 49) C (tgt := 60) dX12_seek_49 (by decide) ⟨by omega, by omega⟩ ⟨by decide, by decide⟩ (fun h49 => ?_) (fun h49 => ?_)
          · skip
            refine s_aload_n (pc := 60) C dX12_seek_60 0 rfl ?_
            refine s_iload_n (pc := 61) C dX12_seek_61 1 rfl ?_
            refine s_iconst (pc := 62) C dX12_seek_62 ?_
            refine s_icmp_ne (pc := 63) C (tgt := 73) dX12_seek_63 (by decide) ⟨by omega, by omega⟩ ⟨by decide, by decide⟩ (fun h63 => ?_) (fun h63 => ?_)
            · skip
              refine s_aload_n (pc := 73) C dX12_seek_73 0 rfl ?_
              refine s_getl (q := 0) (ci := 12) (N := 68) (CN := RX12) (T := TX12) (pc := 74) C 58 dX12_seek_74 wlX12_349 rfl rfl rfl wfX12 (by decide) rfl (σ26 0 58) rfl ?_
              have b74 : (-9223372036854775808 : Int) ≤ σ26 0 58 ∧ σ26 0 58 ≤ 9223372036854775807 := g26.1 0 58
              refine s_l2i (pc := 77) C dX12_seek_77 ?_
              refine s_iconst (pc := 78) C dX12_seek_78 ?_
              refine s_callVl (pc := 79) C (c_X12_stepsOver l (σ26 0 58) 0 (by first | omega | assumption | (constructor <;> omega) | (refine ⟨⟨?_, ?_⟩, ?_⟩ <;> omega) | (simp [hs_ss, hs_up]; omega) | (simp [hs_ss, hs_up]; done)) ⟨by omega, by omega⟩) [vI (σ26 0 58), vI 0] [] rfl rfl dX12_seek_79 wlX12_372 wiX12_stepsOver weX12_stepsOver wcX12_stepsOver wnX12 noX12_stepsOver (by decide) (by decide) (Nat.le_of_ble_eq_true rfl) ⟨(gy_self g26), hm, by first | omega | assumption | (constructor <;> omega) | (refine ⟨⟨?_, ?_⟩, ?_⟩ <;> omega) | (simp [hs_ss, hs_up]; omega) | (simp [hs_ss, hs_up]; done)⟩ rfl rfl ?_
              rintro z79 σ79 k79
              obtain ⟨kg79, kf79, p79_MNY, k79⟩ := k79
              have g79 := gy_trans g26 kg79
              show hs_Wd _ _ _ _ _ _ _ _ _ _ _ _ _ _ _ _ _ 82 _ [vL z79] σ79
              refine s_lret (pc := 82) C dX12_seek_82 ?_
              refine ⟨_, rfl, ?_⟩
              exact g79
            · skip
              refine s_aload_n (pc := 66) C dX12_seek_66 0 rfl ?_
              refine s_callVi (pc := 67) C (c_X12_triesNow l) [] [.ref (ad 0)] rfl rfl dX12_seek_67 wlX12_369 wiX12_triesNow weX12_triesNow wcX12_triesNow wnX12 noX12_triesNow (by decide) (by decide) (Nat.le_of_ble_eq_true rfl) ⟨(gy_self g26), hm⟩ rfl rfl ?_
              rintro z67 _ ⟨rfl, k67⟩
              show hs_Wd _ _ _ _ _ _ _ _ _ _ _ _ _ _ _ _ _ 70 _ [vI z67, .ref (ad 0)] σ26
              refine s_goto (pc := 70) C (tgt := 78) dX12_seek_70 (by decide) ?_
              refine s_iconst (pc := 78) C dX12_seek_78 ?_
              refine s_callVl (pc := 79) C (c_X12_stepsOver l z67 0 (by first | omega | assumption | (constructor <;> omega) | (refine ⟨⟨?_, ?_⟩, ?_⟩ <;> omega) | (simp [hs_ss, hs_up]; omega) | (simp [hs_ss, hs_up]; done)) ⟨by omega, by omega⟩) [vI z67, vI 0] [] rfl rfl dX12_seek_79 wlX12_372 wiX12_stepsOver weX12_stepsOver wcX12_stepsOver wnX12 noX12_stepsOver (by decide) (by decide) (Nat.le_of_ble_eq_true rfl) ⟨(gy_self g26), hm, by first | omega | assumption | (constructor <;> omega) | (refine ⟨⟨?_, ?_⟩, ?_⟩ <;> omega) | (simp [hs_ss, hs_up]; omega) | (simp [hs_ss, hs_up]; done)⟩ rfl rfl ?_
              rintro z79 σ79 k79
              obtain ⟨kg79, kf79, p79_MNY, k79⟩ := k79
              have g79 := gy_trans g26 kg79
              show hs_Wd _ _ _ _ _ _ _ _ _ _ _ _ _ _ _ _ _ 82 _ [vL z79] σ79
              refine s_lret (pc := 82) C dX12_seek_82 ?_
              refine ⟨_, rfl, ?_⟩
              exact g79
          · skip
            refine s_aload_n (pc := 52) C dX12_seek_52 0 rfl ?_
            refine s_callVi (pc := 53) C (c_X12_triesNow l) [] [] rfl rfl dX12_seek_53 wlX12_369 wiX12_triesNow weX12_triesNow wcX12_triesNow wnX12 noX12_triesNow (by decide) (by decide) (Nat.le_of_ble_eq_true rfl) ⟨(gy_self g26), hm⟩ rfl rfl ?_
            rintro z53 _ ⟨rfl, k53⟩
            show hs_Wd _ _ _ _ _ _ _ _ _ _ _ _ _ _ _ _ _ 56 _ [vI z53] σ26
            refine s_i2l (pc := 56) C dX12_seek_56 ⟨by omega, by omega⟩ ?_
            refine s_goto (pc := 57) C (tgt := 82) dX12_seek_57 (by decide) ?_
            refine s_lret (pc := 82) C dX12_seek_82 ?_
            refine ⟨_, rfl, ?_⟩
            exact g26
        · skip
          refine s_aload_n (pc := 40) C dX12_seek_40 0 rfl ?_
          refine s_getl (q := 0) (ci := 12) (N := 68) (CN := RX12) (T := TX12) (pc := 41) C 58 dX12_seek_41 wlX12_349 rfl rfl rfl wfX12 (by decide) rfl (σ26 0 58) rfl ?_
          have b41 : (-9223372036854775808 : Int) ≤ σ26 0 58 ∧ σ26 0 58 ≤ 9223372036854775807 := g26.1 0 58
          refine s_goto (pc := 44) C (tgt := 82) dX12_seek_44 (by decide) ?_
          refine s_lret (pc := 82) C dX12_seek_82 ?_
          refine ⟨_, rfl, ?_⟩
          exact g26
      · skip
        refine s_ldc2 (z := (-2)) (pc := 32) C dX12_seek_32 wlX12_367 (by decide) ?_
        refine s_lret (pc := 35) C dX12_seek_35 ?_
        refine ⟨_, rfl, ?_⟩
        exact g26
    · skip
      refine s_ldc2 (z := (-1)) (pc := 21) C dX12_seek_21 wlX12_362 (by decide) ?_
      refine s_lret (pc := 24) C dX12_seek_24 ?_
      refine ⟨_, rfl, ?_⟩
      exact g2
set_option maxHeartbeats 4000000 in
set_option maxRecDepth 100000 in
theorem c_X12_best (l : Launch) (n : Int) (hn : hs_R n) : hs_Met l yX12_best cX12_best 8 (some .long) 8 SHY (fun ad => [.ref (ad 0), vI n]) (fun σ => GY σ σ) (hs_PL (fun σ z σ1 => GY σ σ1)) := by
  refine hs_from pfX12_best (fun _ => Nat.le_of_ble_eq_true rfl) ?_
  intro p e s m args below meth c D dA ad A σ C hpre
  have C : hs_C p s m args meth c D dA SHY ad A 8 cX12_best RX12 (some .long) := C
  have g0 := hpre
  have b06 : (0 : Int) ≤ σ 0 6 ∧ σ 0 6 ≤ 4 := g0.1 0 6
  show hs_Wd p l e 8 s m args below meth c D dA SHY ad A 8 (hs_PL (fun σ z σ1 => GY σ σ1) σ) 0 [(0, .ref (ad 0)), (1, vI n)] [] σ
  refine s_aload_n (pc := 0) C dX12_best_0 0 rfl ?_
  refine s_iconst (pc := 1) C dX12_best_1 ?_
  refine s_puti (q := 0) (ci := 12) (N := 68) (CN := RX12) (T := TX12) (ty0 := tyX12) (ty := .int) (pc := 2) C 2 dX12_best_2 wlX12_135 rfl rfl rfl wfX12 tyX12_ok nmX12 (by decide) rfl rfl rfl (vp_nar_int _) rfl ?_
  have g2 := gy_set (z := 0) g0 0 2 rfl (0) (2) rfl ⟨by omega, by omega⟩
  refine s_aload_n (pc := 5) C dX12_best_5 0 rfl ?_
  refine s_geti (q := 0) (ci := 12) (N := 68) (CN := RX12) (T := TX12) (pc := 6) C 6 dX12_best_6 wlX12_141 rfl rfl rfl wfX12 (by decide) rfl (σ 0 6) rfl ?_
  have b6 : (0 : Int) ≤ σ 0 6 ∧ σ 0 6 ≤ 4 := g2.1 0 6
  refine s_if_eq (pc := 9) C (tgt := 21) dX12_best_9 (by decide) ⟨by omega, by omega⟩ (fun h9 => ?_) (fun h9 => ?_)
  · skip
    refine s_ldc2 (z := (-1)) (pc := 21) C dX12_best_21 wlX12_362 (by decide) ?_
    refine s_lret (pc := 24) C dX12_best_24 ?_
    refine ⟨_, rfl, ?_⟩
    exact g2
  · skip
    refine s_iload_n (pc := 12) C dX12_best_12 1 rfl ?_
    refine s_iconst (pc := 13) C dX12_best_13 ?_
    refine s_iconst (pc := 14) C dX12_best_14 ?_
    refine s_callSi (pc := 15) C (c_X12_isIn l n ⟨by omega, by omega⟩ 0 ⟨by omega, by omega⟩ 1 ⟨by omega, by omega⟩) [vI n, vI 0, vI 1] [] rfl rfl dX12_best_15 wlX12_189 wtX12_isIn wcX12_isIn wnX12 noX12_isIn (by decide) (by decide) (Nat.le_of_ble_eq_true rfl) (gy_self g2) ?_
    rintro z15 _ ⟨rfl, k15⟩
    show hs_Wd _ _ _ _ _ _ _ _ _ _ _ _ _ _ _ _ _ 18 _ [vI z15] (hs_ss σ 0 2 0)
    refine s_if_ne (pc := 18) C (tgt := 25) dX12_best_18 (by decide) ⟨by omega, by omega⟩ (fun h18 => ?_) (fun h18 => ?_)
    · skip
      refine s_aload_n (pc := 25) C dX12_best_25 0 rfl ?_
      refine s_callVi (pc := 26) C (c_X12_layRows l) [] [] rfl rfl dX12_best_26 wlX12_364 wiX12_layRows weX12_layRows wcX12_layRows wnX12 noX12_layRows (by decide) (by decide) (Nat.le_of_ble_eq_true rfl) (gy_self g2) rfl rfl ?_
      rintro z26 σ26 k26
      obtain ⟨kg26, kf26, k26⟩ := k26
      have g26 := gy_trans g2 kg26
      show hs_Wd _ _ _ _ _ _ _ _ _ _ _ _ _ _ _ _ _ 29 _ [vI z26] σ26
      refine s_if_ne (pc := 29) C (tgt := 36) dX12_best_29 (by decide) ⟨by omega, by omega⟩ (fun h29 => ?_) (fun h29 => ?_)
      · skip
        have hm : MNY σ26 := k26.2 (by omega)
        have hm1 := hm.1
        refine s_iconst (pc := 36) C dX12_best_36 ?_
        refine s_istore_n (pc := 37) C [(2, vI 0), (0, .ref (ad 0)), (1, vI n)] dX12_best_37 (by decide) rfl ?_
        refine s_aload_n (pc := 38) C dX12_best_38 1 rfl ?_
        refine s_aload_n (pc := 39) C dX12_best_39 1 rfl ?_
        refine s_getl (q := 0) (ci := 12) (N := 68) (CN := RX12) (T := TX12) (pc := 40) C 58 dX12_best_40 wlX12_349 rfl rfl rfl wfX12 (by decide) rfl (σ26 0 58) rfl ?_
        have b40 : (-9223372036854775808 : Int) ≤ σ26 0 58 ∧ σ26 0 58 ≤ 9223372036854775807 := g26.1 0 58
        refine s_l2i (pc := 43) C dX12_best_43 ?_
        refine s_iconst (pc := 44) C dX12_best_44 ?_
        refine s_callVl (pc := 45) C (c_X12_stepsOver l (σ26 0 58) 0 (by first | omega | assumption | (constructor <;> omega) | (refine ⟨⟨?_, ?_⟩, ?_⟩ <;> omega) | (simp [hs_ss, hs_up]; omega) | (simp [hs_ss, hs_up]; done)) ⟨by omega, by omega⟩) [vI (σ26 0 58), vI 0] [] rfl rfl dX12_best_45 wlX12_372 wiX12_stepsOver weX12_stepsOver wcX12_stepsOver wnX12 noX12_stepsOver (by decide) (by decide) (Nat.le_of_ble_eq_true rfl) ⟨(gy_self g26), hm, by first | omega | assumption | (constructor <;> omega) | (refine ⟨⟨?_, ?_⟩, ?_⟩ <;> omega) | (simp [hs_ss, hs_up]; omega) | (simp [hs_ss, hs_up]; done)⟩ rfl rfl ?_
        rintro z45 σ45 k45
        obtain ⟨kg45, kf45, p45_MNY, k45⟩ := k45
        have g45 := gy_trans g26 kg45
        have e45 : σ45 0 58 = σ26 0 58 := kf45 0 58 rfl
        show hs_Wd _ _ _ _ _ _ _ _ _ _ _ _ _ _ _ _ _ 48 _ [vL z45] σ45
        refine s_lstore_n (pc := 48) C [(3, vL z45), (2, vI 0), (0, .ref (ad 0)), (1, vI n)] dX12_best_48 (by decide) rfl ?_
        refine s_iconst (pc := 49) C dX12_best_49 ?_
        refine s_istore (pc := 50) C [(5, vI 1), (3, vL z45), (2, vI 0), (0, .ref (ad 0)), (1, vI n)] dX12_best_50 (by decide) rfl ?_
        refine s_sub C [3, 4, 2, 1, 0] [(0, .ref (ad 0)), (1, vI n), (2, vI 0), (3, vL z45), (5, vI 1)] rfl ?_
        have hi52 : GY σ σ45 ∧ MNY σ45 ∧ 1 ≤ (1 : Int) ∧ (1 : Int) ≤ 16 ∧ 0 ≤ (0 : Int) ∧ (0 : Int) ≤ 16 ∧ -9223372036854775808 ≤ z45 ∧ z45 ≤ 9223372036854775807 := ⟨g45, ⟨p45_MNY, by omega, by omega, by omega, by omega, by omega, by omega⟩⟩
        refine hs_loop (α := Int × Int × Int × hs_S) (fun x_ => (GY σ x_.2.2.2 ∧ MNY x_.2.2.2 ∧ 1 ≤ x_.1 ∧ x_.1 ≤ 16 ∧ 0 ≤ x_.2.1 ∧ x_.2.1 ≤ 16 ∧ -9223372036854775808 ≤ x_.2.2.1 ∧ x_.2.2.1 ≤ 9223372036854775807) → hs_Wd p l e 8 s m args below meth c D dA SHY ad A 8 (hs_PL (fun σ z σ1 => GY σ σ1) σ) 52 [(0, .ref (ad 0)), (1, vI n), (2, vI x_.2.1), (3, vL x_.2.2.1), (5, vI x_.1)] [] x_.2.2.2) (fun x_ => (17 - x_.1).toNat) ?_ (1, 0, z45, σ45) hi52
        rintro ⟨f, bb, ls, σ1⟩ ih52 hinv
        replace hinv : GY σ σ1 ∧ MNY σ1 ∧ 1 ≤ f ∧ f ≤ 16 ∧ 0 ≤ bb ∧ bb ≤ 16 ∧ -9223372036854775808 ≤ ls ∧ ls ≤ 9223372036854775807 := hinv
        obtain ⟨hg52, hv52⟩ := hinv
        show hs_Wd p l e 8 s m args below meth c D dA SHY ad A 8 (hs_PL (fun σ z σ1 => GY σ σ1) σ) 52 [(0, .ref (ad 0)), (1, vI n), (2, vI bb), (3, vL ls), (5, vI f)] [] σ1
        have hm52 := hv52.1.1
        refine s_iload (pc := 52) C dX12_best_52 4 rfl ?_
        refine s_iconst (pc := 54) C dX12_best_54 ?_
        refine s_aload_n (pc := 55) C dX12_best_55 0 rfl ?_
        refine s_geti (q := 0) (ci := 12) (N := 68) (CN := RX12) (T := TX12) (pc := 56) C 6 dX12_best_56 wlX12_141 rfl rfl rfl wfX12 (by decide) rfl (σ1 0 6) rfl ?_
        have b56 : (0 : Int) ≤ σ1 0 6 ∧ σ1 0 6 ≤ 4 := hg52.1 0 6
        refine s_ishl (pc := 59) C dX12_best_59 (fun z59 hz59 ez59 => ?_)
        have hsl := hs_shl b56 ez59
        refine s_icmp_ge (pc := 60) C (tgt := 98) dX12_best_60 (by decide) ⟨by omega, by omega⟩ ⟨by omega, by omega⟩ (fun h60 => ?_) (fun h60 => ?_)
        · skip
          refine s_iload_n (pc := 98) C dX12_best_98 1 rfl ?_
          refine s_if_ne (pc := 99) C (tgt := 107) dX12_best_99 (by decide) ⟨by omega, by omega⟩ (fun h99 => ?_) (fun h99 => ?_)
          · skip
            refine s_lload_n (pc := 107) C dX12_best_107 3 rfl ?_
            refine s_lret (pc := 108) C dX12_best_108 ?_
            refine ⟨_, rfl, ?_⟩
            exact hg52
          · skip
            refine s_iload_n (pc := 102) C dX12_best_102 2 rfl ?_
            refine s_i2l (pc := 103) C dX12_best_103 ⟨by omega, by omega⟩ ?_
            refine s_goto (pc := 104) C (tgt := 108) dX12_best_104 (by decide) ?_
            refine s_lret (pc := 108) C dX12_best_108 ?_
            refine ⟨_, rfl, ?_⟩
            exact hg52
        · skip
          refine s_aload_n (pc := 63) C dX12_best_63 0 rfl ?_
          refine s_aload_n (pc := 64) C dX12_best_64 0 rfl ?_
          refine s_getl (q := 0) (ci := 12) (N := 68) (CN := RX12) (T := TX12) (pc := 65) C 58 dX12_best_65 wlX12_349 rfl rfl rfl wfX12 (by decide) rfl (σ1 0 58) rfl ?_
          have b65 : (-9223372036854775808 : Int) ≤ σ1 0 58 ∧ σ1 0 58 ≤ 9223372036854775807 := hg52.1 0 58
          refine s_l2i (pc := 68) C dX12_best_68 ?_
          refine s_iload (pc := 69) C dX12_best_69 4 rfl ?_
          refine s_callVl (pc := 71) C (c_X12_stepsOver l (σ1 0 58) f (by first | omega | assumption | (constructor <;> omega) | (refine ⟨⟨?_, ?_⟩, ?_⟩ <;> omega) | (simp [hs_ss, hs_up]; omega) | (simp [hs_ss, hs_up]; done)) ⟨by omega, by omega⟩) [vI (σ1 0 58), vI f] [] rfl rfl dX12_best_71 wlX12_372 wiX12_stepsOver weX12_stepsOver wcX12_stepsOver wnX12 noX12_stepsOver (by decide) (by decide) (Nat.le_of_ble_eq_true rfl) ⟨(gy_self hg52), hv52.1, by omega⟩ rfl rfl ?_
          rintro z71 σ71 k71
          obtain ⟨kg71, kf71, p71_MNY, k71⟩ := k71
          have g71 := gy_trans hg52 kg71
          show hs_Wd _ _ _ _ _ _ _ _ _ _ _ _ _ _ _ _ _ 74 _ [vL z71] σ71
          refine s_lstore (pc := 74) C [(6, vL z71), (0, .ref (ad 0)), (1, vI n), (2, vI bb), (3, vL ls), (5, vI f)] dX12_best_74 (by decide) rfl ?_
          refine s_lload (pc := 76) C dX12_best_76 0 rfl ?_
          refine s_lload_n (pc := 78) C dX12_best_78 4 rfl ?_
          refine s_lcmp (pc := 79) C dX12_best_79 ⟨by omega, by omega⟩ ⟨by omega, by omega⟩ (fun z79 hz79 n79 e79 p79 => ?_)
          refine s_if_lt (pc := 80) C (tgt := 86) dX12_best_80 (by decide) ⟨by omega, by omega⟩ (fun h80 => ?_) (fun h80 => ?_)
          · skip
            refine s_lload (pc := 86) C dX12_best_86 0 rfl ?_
            refine s_lstore_n (pc := 88) C [(3, vL z71), (6, vL z71), (0, .ref (ad 0)), (1, vI n), (2, vI bb), (5, vI f)] dX12_best_88 (by decide) rfl ?_
            refine s_iload (pc := 89) C dX12_best_89 5 rfl ?_
            refine s_istore_n (pc := 91) C [(2, vI f), (3, vL z71), (6, vL z71), (0, .ref (ad 0)), (1, vI n), (5, vI f)] dX12_best_91 (by decide) rfl ?_
            refine s_iinc (pc := 92) C [(5, vI (f + 1)), (2, vI f), (3, vL z71), (6, vL z71), (0, .ref (ad 0)), (1, vI n)] dX12_best_92 5 rfl (by decide) rfl ?_
            refine s_goto (pc := 95) C (tgt := 52) dX12_best_95 (by decide) ?_
            refine s_sub C [4, 5, 1, 2, 0] [(0, .ref (ad 0)), (1, vI n), (2, vI f), (3, vL z71), (5, vI (f + 1))] rfl ?_
            have hi52 : GY σ σ71 ∧ MNY σ71 ∧ 1 ≤ (f + 1) ∧ (f + 1) ≤ 16 ∧ 0 ≤ f ∧ f ≤ 16 ∧ -9223372036854775808 ≤ z71 ∧ z71 ≤ 9223372036854775807 := ⟨g71, ⟨p71_MNY, by omega, by omega, by omega, by omega, by omega, by omega⟩⟩
            exact ih52 (f + 1, f, z71, σ71) (by first | omega | (simp only []; omega)) hi52
          · skip
            refine s_goto (pc := 83) C (tgt := 92) dX12_best_83 (by decide) ?_
            refine s_iinc (pc := 92) C [(5, vI (f + 1)), (6, vL z71), (0, .ref (ad 0)), (1, vI n), (2, vI bb), (3, vL ls)] dX12_best_92 5 rfl (by decide) rfl ?_
            refine s_goto (pc := 95) C (tgt := 52) dX12_best_95 (by decide) ?_
            refine s_sub C [2, 3, 4, 5, 0] [(0, .ref (ad 0)), (1, vI n), (2, vI bb), (3, vL ls), (5, vI (f + 1))] rfl ?_
            have hi52 : GY σ σ71 ∧ MNY σ71 ∧ 1 ≤ (f + 1) ∧ (f + 1) ≤ 16 ∧ 0 ≤ bb ∧ bb ≤ 16 ∧ -9223372036854775808 ≤ ls ∧ ls ≤ 9223372036854775807 := ⟨g71, ⟨p71_MNY, by omega, by omega, by omega, by omega, by omega, by omega⟩⟩
            exact ih52 (f + 1, bb, ls, σ71) (by first | omega | (simp only []; omega)) hi52
      · skip
        refine s_ldc2 (z := (-2)) (pc := 32) C dX12_best_32 wlX12_367 (by decide) ?_
        refine s_lret (pc := 35) C dX12_best_35 ?_
        refine ⟨_, rfl, ?_⟩
        exact g26
    · skip
      refine s_ldc2 (z := (-1)) (pc := 21) C dX12_best_21 wlX12_362 (by decide) ?_
      refine s_lret (pc := 24) C dX12_best_24 ?_
      refine ⟨_, rfl, ?_⟩
      exact g2
