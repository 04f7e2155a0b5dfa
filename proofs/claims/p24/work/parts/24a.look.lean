set_option maxHeartbeats 4000000 in
set_option maxRecDepth 100000 in
theorem c_X11_look (l : Launch) (w : Int) (hw : hs_R w) (n : Int) (hn : hs_R n) : hs_Met l yX11_look cX11_look 4 (some .int) 7 SHX (fun ad => [.ref (ad 0), vI w, vI n]) (fun σ => GX σ σ ∧ 0 ≤ w ∧ w < σ 3 4 ∧ 0 ≤ n ∧ n ≤ 7) (hs_PI (fun σ z σ1 => σ = σ1 ∧ hs_R z)) := by
  refine hs_from pfX11_look (fun _ => Nat.le_of_ble_eq_true rfl) ?_
  intro p e s m args below meth c D dA ad A σ C hpre
  have C : hs_C p s m args meth c D dA SHX ad A 4 cX11_look RX11 (some .int) := C
  obtain ⟨g0, hpre⟩ := hpre
  have b34 : (0 : Int) ≤ σ 3 4 ∧ σ 3 4 ≤ 4 := g0.1 3 4
  show hs_Wd p l e 7 s m args below meth c D dA SHX ad A 4 (hs_PI (fun σ z σ1 => σ = σ1 ∧ hs_R z) σ) 0 [(0, .ref (ad 0)), (1, vI w), (2, vI n)] [] σ
  refine s_aload_n (pc := 0) C dX11_look_0 0 rfl ?_
  refine s_getr (q := 0) (ci := 11) (N := 11) (CN := RX11) (T := TX11) (pc := 1) C 1 dX11_look_1 wlX11_16 rfl rfl rfl wfX11 (by decide) rfl ?_
  refine s_iload_n (pc := 4) C dX11_look_4 1 rfl ?_
  refine s_callVNi (pc := 5) C (c_X5_hasWheel l w ⟨by omega, by omega⟩) [vI w] [] rfl rfl dX11_look_5 wlX11_154 wiX5_hasWheel weX5_hasWheel wcX5_hasWheel wnX5 noX5_hasWheel (by decide) (by decide) (Nat.le_of_ble_eq_true rfl) (gx_self g0) rfl rfl ?_
  rintro z5 _ ⟨rfl, k5⟩
  show hs_Wd _ _ _ _ _ _ _ _ _ _ _ _ _ _ _ _ _ 8 _ [vI z5] σ
  refine s_if_ne (pc := 8) C (tgt := 21) dX11_look_8 (by decide) ⟨by omega, by omega⟩ (fun h8 => ?_) (fun h8 => ?_)
  · skip
    refine s_aload_n (pc := 21) C dX11_look_21 0 rfl ?_
    refine s_getr (q := 0) (ci := 11) (N := 11) (CN := RX11) (T := TX11) (pc := 22) C 1 dX11_look_22 wlX11_16 rfl rfl rfl wfX11 (by decide) rfl ?_
    refine s_getrN (q := 2) (ci := 5) (N := 3) (CN := RX5) (T := TX5) (pc := 25) C 1 dX11_look_25 wlX11_138 rfl rfl rfl wfX5 (by decide) rfl ?_
    refine s_iload_n (pc := 28) C dX11_look_28 1 rfl ?_
    refine s_aldq (q := 7) (pc := 29) C dX11_look_29 rfl (by omega) (by show _ < (4 : Int); omega) (by decide) ?_
    rw [show ((_ : List (Nat × Nat)).getD w.toNat (0, 0)).2 = 8 + w.toNat from hs_ref4 (by omega) (by omega)]
    refine s_astore_n (pc := 30) C [(3, .ref (ad (8 + w.toNat))), (0, .ref (ad 0)), (1, vI w), (2, vI n)] dX11_look_30 (by decide) rfl ?_
    refine s_iload_n (pc := 31) C dX11_look_31 3 rfl ?_
    by_cases sw32 : n < 0 ∨ 7 < n
    · refine s_swOut (pc := 32) C (tgt := 152) dX11_look_32 ⟨by omega, by omega⟩ sw32 (by decide) ?_
      exfalso; omega
    · rcases (show n = 0 ∨ n = 1 ∨ n = 2 ∨ n = 3 ∨ n = 4 ∨ n = 5 ∨ n = 6 ∨ n = 7 by omega) with sv32 | sv32 | sv32 | sv32 | sv32 | sv32 | sv32 | sv32
      · refine s_swIn (pc := 32) (off := 48) C (tgt := 80) dX11_look_32 ⟨by omega, by omega⟩ (by omega) (by omega) (by rw [sv32]; decide) (by decide) ?_
        refine s_aload_n (pc := 80) C dX11_look_80 1 rfl ?_
        refine s_getr (q := 0) (ci := 11) (N := 11) (CN := RX11) (T := TX11) (pc := 81) C 1 dX11_look_81 wlX11_16 rfl rfl rfl wfX11 (by decide) rfl ?_
        refine s_getrN (q := 2) (ci := 5) (N := 3) (CN := RX5) (T := TX5) (pc := 84) C 0 dX11_look_84 wlX11_131 rfl rfl rfl wfX5 (by decide) rfl ?_
        refine s_getrN (q := 3) (ci := 8) (N := 7) (CN := RX8) (T := TX8) (pc := 87) C 2 dX11_look_87 wlX11_182 rfl rfl rfl wfX8 (by decide) rfl ?_
        refine s_iload_n (pc := 90) C dX11_look_90 2 rfl ?_
        refine s_iald (q := 6) (n := 4) (pc := 91) C (σ 6 w.toNat) rfl dX11_look_91 rfl (by omega) (by omega) (by decide) ?_
        have b91 : (0 : Int) ≤ σ 6 w.toNat ∧ σ 6 w.toNat ≤ 99 := g0.1 6 w.toNat
        refine s_iret (pc := 92) C dX11_look_92 ?_
        refine ⟨_, rfl, ?_⟩
        exact ⟨rfl, ⟨by omega, by omega⟩⟩
      · refine s_swIn (pc := 32) (off := 61) C (tgt := 93) dX11_look_32 ⟨by omega, by omega⟩ (by omega) (by omega) (by rw [sv32]; decide) (by decide) ?_
        refine s_aload_n (pc := 93) C dX11_look_93 1 rfl ?_
        refine s_getr (q := 0) (ci := 11) (N := 11) (CN := RX11) (T := TX11) (pc := 94) C 1 dX11_look_94 wlX11_16 rfl rfl rfl wfX11 (by decide) rfl ?_
        refine s_getrN (q := 2) (ci := 5) (N := 3) (CN := RX5) (T := TX5) (pc := 97) C 0 dX11_look_97 wlX11_131 rfl rfl rfl wfX5 (by decide) rfl ?_
        refine s_getrN (q := 3) (ci := 8) (N := 7) (CN := RX8) (T := TX8) (pc := 100) C 1 dX11_look_100 wlX11_186 rfl rfl rfl wfX8 (by decide) rfl ?_
        refine s_iload_n (pc := 103) C dX11_look_103 2 rfl ?_
        refine s_iald (q := 5) (n := 4) (pc := 104) C (σ 5 w.toNat) rfl dX11_look_104 rfl (by omega) (by omega) (by decide) ?_
        have b104 : (0 : Int) ≤ σ 5 w.toNat ∧ σ 5 w.toNat ≤ 99 := g0.1 5 w.toNat
        refine s_iret (pc := 105) C dX11_look_105 ?_
        refine ⟨_, rfl, ?_⟩
        exact ⟨rfl, ⟨by omega, by omega⟩⟩
      · refine s_swIn (pc := 32) (off := 74) C (tgt := 106) dX11_look_32 ⟨by omega, by omega⟩ (by omega) (by omega) (by rw [sv32]; decide) (by decide) ?_
        refine s_aload_n (pc := 106) C dX11_look_106 1 rfl ?_
        refine s_getr (q := 0) (ci := 11) (N := 11) (CN := RX11) (T := TX11) (pc := 107) C 1 dX11_look_107 wlX11_16 rfl rfl rfl wfX11 (by decide) rfl ?_
        refine s_iload_n (pc := 110) C dX11_look_110 2 rfl ?_
        refine s_callVNi (pc := 111) C (c_X5_radius l w (by first | omega | assumption | (constructor <;> omega) | (refine ⟨⟨?_, ?_⟩, ?_⟩ <;> omega) | (simp [hs_ss, hs_up]; omega) | (simp [hs_ss, hs_up]; done))) [vI w] [] rfl rfl dX11_look_111 wlX11_189 wiX5_radius weX5_radius wcX5_radius wnX5 noX5_radius (by decide) (by decide) (Nat.le_of_ble_eq_true rfl) (gx_self g0) rfl rfl ?_
        rintro z111 _ ⟨rfl, k111⟩
        show hs_Wd _ _ _ _ _ _ _ _ _ _ _ _ _ _ _ _ _ 114 _ [vI z111] σ
        refine s_iret (pc := 114) C dX11_look_114 ?_
        refine ⟨_, rfl, ?_⟩
        exact ⟨rfl, ⟨by omega, by omega⟩⟩
      · refine s_swIn (pc := 32) (off := 83) C (tgt := 115) dX11_look_32 ⟨by omega, by omega⟩ (by omega) (by omega) (by rw [sv32]; decide) (by decide) ?_
        refine s_aload_n (pc := 115) C dX11_look_115 1 rfl ?_
        refine s_getr (q := 0) (ci := 11) (N := 11) (CN := RX11) (T := TX11) (pc := 116) C 1 dX11_look_116 wlX11_16 rfl rfl rfl wfX11 (by decide) rfl ?_
        refine s_iload_n (pc := 119) C dX11_look_119 2 rfl ?_
        refine s_callVNi (pc := 120) C (c_X5_isIn l w (by first | omega | assumption | (constructor <;> omega) | (refine ⟨⟨?_, ?_⟩, ?_⟩ <;> omega) | (simp [hs_ss, hs_up]; omega) | (simp [hs_ss, hs_up]; done))) [vI w] [] rfl rfl dX11_look_120 wlX11_192 wiX5_isIn weX5_isIn wcX5_isIn wnX5 noX5_isIn (by decide) (by decide) (Nat.le_of_ble_eq_true rfl) (gx_self g0) rfl rfl ?_
        rintro z120 _ ⟨rfl, k120⟩
        show hs_Wd _ _ _ _ _ _ _ _ _ _ _ _ _ _ _ _ _ 123 _ [vI z120] σ
        refine s_if_eq (pc := 123) C (tgt := 130) dX11_look_123 (by decide) ⟨by omega, by omega⟩ (fun h123 => ?_) (fun h123 => ?_)
        · skip
          refine s_iconst (pc := 130) C dX11_look_130 ?_
          refine s_iret (pc := 131) C dX11_look_131 ?_
          refine ⟨_, rfl, ?_⟩
          exact ⟨rfl, ⟨by omega, by omega⟩⟩
        · skip
          refine s_iconst (pc := 126) C dX11_look_126 ?_
          refine s_goto (pc := 127) C (tgt := 131) dX11_look_127 (by decide) ?_
          refine s_iret (pc := 131) C dX11_look_131 ?_
          refine ⟨_, rfl, ?_⟩
          exact ⟨rfl, ⟨by omega, by omega⟩⟩
      · refine s_swIn (pc := 32) (off := 100) C (tgt := 132) dX11_look_32 ⟨by omega, by omega⟩ (by omega) (by omega) (by rw [sv32]; decide) (by decide) ?_
        refine s_aload_n (pc := 132) C dX11_look_132 0 rfl ?_
        refine s_getiN (q := (8 + w.toNat)) (ci := 9) (N := 9) (CN := RX9) (T := TX9) (pc := 133) C 2 dX11_look_133 wlX11_195 (sh_Wh (by omega)) rfl rfl wfX9 (by decide) rfl (σ (8 + w.toNat) 2) rfl ?_
        have b133 : (0 : Int) ≤ σ (8 + w.toNat) 2 ∧ σ (8 + w.toNat) 2 ≤ 99 := gx_w g0 (show (w).toNat < 4 by omega) 2
        refine s_iret (pc := 136) C dX11_look_136 ?_
        refine ⟨_, rfl, ?_⟩
        exact ⟨rfl, ⟨by omega, by omega⟩⟩
      · refine s_swIn (pc := 32) (off := 105) C (tgt := 137) dX11_look_32 ⟨by omega, by omega⟩ (by omega) (by omega) (by rw [sv32]; decide) (by decide) ?_
        refine s_aload_n (pc := 137) C dX11_look_137 0 rfl ?_
        refine s_getiN (q := (8 + w.toNat)) (ci := 9) (N := 9) (CN := RX9) (T := TX9) (pc := 138) C 3 dX11_look_138 wlX11_157 (sh_Wh (by omega)) rfl rfl wfX9 (by decide) rfl (σ (8 + w.toNat) 3) rfl ?_
        have b138 : (-1 : Int) ≤ σ (8 + w.toNat) 3 ∧ σ (8 + w.toNat) 3 ≤ 99 := gx_w g0 (show (w).toNat < 4 by omega) 3
        refine s_iret (pc := 141) C dX11_look_141 ?_
        refine ⟨_, rfl, ?_⟩
        exact ⟨rfl, ⟨by omega, by omega⟩⟩
      · refine s_swIn (pc := 32) (off := 110) C (tgt := 142) dX11_look_32 ⟨by omega, by omega⟩ (by omega) (by omega) (by rw [sv32]; decide) (by decide) ?_
        refine s_aload_n (pc := 142) C dX11_look_142 0 rfl ?_
        refine s_getiN (q := (8 + w.toNat)) (ci := 9) (N := 9) (CN := RX9) (T := TX9) (pc := 143) C 0 dX11_look_143 wlX11_198 (sh_Wh (by omega)) rfl rfl wfX9 (by decide) rfl (σ (8 + w.toNat) 0) rfl ?_
        have b143 : (0 : Int) ≤ σ (8 + w.toNat) 0 ∧ σ (8 + w.toNat) 0 ≤ 9 := gx_w g0 (show (w).toNat < 4 by omega) 0
        refine s_iret (pc := 146) C dX11_look_146 ?_
        refine ⟨_, rfl, ?_⟩
        exact ⟨rfl, ⟨by omega, by omega⟩⟩
      · refine s_swIn (pc := 32) (off := 115) C (tgt := 147) dX11_look_32 ⟨by omega, by omega⟩ (by omega) (by omega) (by rw [sv32]; decide) (by decide) ?_
        refine s_aload_n (pc := 147) C dX11_look_147 0 rfl ?_
        refine s_getiN (q := (8 + w.toNat)) (ci := 9) (N := 9) (CN := RX9) (T := TX9) (pc := 148) C 4 dX11_look_148 wlX11_201 (sh_Wh (by omega)) rfl rfl wfX9 (by decide) rfl (σ (8 + w.toNat) 4) rfl ?_
        have b148 : (0 : Int) ≤ σ (8 + w.toNat) 4 ∧ σ (8 + w.toNat) 4 ≤ 3 := gx_w g0 (show (w).toNat < 4 by omega) 4
        refine s_iret (pc := 151) C dX11_look_151 ?_
        refine ⟨_, rfl, ?_⟩
        exact ⟨rfl, ⟨by omega, by omega⟩⟩
  · skip
    exfalso; omega
