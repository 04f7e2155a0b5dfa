set_option maxHeartbeats 4000000 in
set_option maxRecDepth 100000 in
theorem c_X12_wordAt (l : Launch) (a b : Int) (ha : 0 ≤ a ∧ a ≤ b ∧ b ≤ 500) : hs_Met l yX12_wordAt cX12_wordAt 8 (some .int) 1 SHY (fun ad => [.ref (ad 0), vI a, vI b]) (fun σ => GY σ σ) (hs_PI (fun σ z σ1 => σ = σ1 ∧ -1 ≤ z ∧ z ≤ 6)) := by
  refine hs_from pfX12_wordAt (fun _ => Nat.le_of_ble_eq_true rfl) ?_
  intro p e s m args below meth c D dA ad A σ C hpre
  have C : hs_C p s m args meth c D dA SHY ad A 8 cX12_wordAt RX12 (some .int) := C
  have g0 := hpre
  show hs_Wd p l e 1 s m args below meth c D dA SHY ad A 8 (hs_PI (fun σ z σ1 => σ = σ1 ∧ -1 ≤ z ∧ z ≤ 6) σ) 0 [(0, .ref (ad 0)), (1, vI a), (2, vI b)] [] σ
  refine s_iconst (pc := 0) C dX12_wordAt_0 ?_
  refine s_istore_n (pc := 1) C [(3, vI 0), (0, .ref (ad 0)), (1, vI a), (2, vI b)] dX12_wordAt_1 (by decide) rfl ?_
  refine s_iconst (pc := 2) C dX12_wordAt_2 ?_
  refine s_istore (pc := 3) C [(4, vI 0), (3, vI 0), (0, .ref (ad 0)), (1, vI a), (2, vI b)] dX12_wordAt_3 (by decide) rfl ?_
  refine s_sub C [2, 3, 4, 1, 0] [(0, .ref (ad 0)), (1, vI a), (2, vI b), (3, vI 0), (4, vI 0)] rfl ?_
  have hi5 : WFo (0 : Int) (0 : Int) := Or.inl ⟨rfl, rfl⟩
  refine hs_loop (α := Int × Int) (fun x_ => (WFo x_.1 x_.2) → hs_Wd p l e 1 s m args below meth c D dA SHY ad A 8 (hs_PI (fun σ z σ1 => σ = σ1 ∧ -1 ≤ z ∧ z ≤ 6) σ) 5 [(0, .ref (ad 0)), (1, vI a), (2, vI b), (3, vI x_.1), (4, vI x_.2)] [] σ) (fun x_ => (8 - x_.1).toNat) ?_ (0, 0) hi5
  rintro ⟨k, f⟩ ih5 hinv
  replace hinv : WFo k f := hinv
  show hs_Wd p l e 1 s m args below meth c D dA SHY ad A 8 (hs_PI (fun σ z σ1 => σ = σ1 ∧ -1 ≤ z ∧ z ≤ 6) σ) 5 [(0, .ref (ad 0)), (1, vI a), (2, vI b), (3, vI k), (4, vI f)] [] σ
  have hwf := hinv
  unfold WFo at hwf
  have hkf : 0 ≤ k ∧ k ≤ 7 ∧ 0 ≤ f ∧ f ≤ 36 := by rcases hwf with q | q | q | q | q | q | q | q <;> omega
  refine s_iload (pc := 5) C dX12_wordAt_5 4 rfl ?_
  refine s_aload_n (pc := 7) C dX12_wordAt_7 0 rfl ?_
  refine s_getr (q := 0) (ci := 12) (N := 68) (CN := RX12) (T := TX12) (pc := 8) C 24 dX12_wordAt_8 wlX12_53 rfl rfl rfl wfX12 (by decide) rfl ?_
  refine s_alen (q := 14) (n := 36) (t := 1) (pc := 11) C dX12_wordAt_11 rfl rfl ?_
  refine s_icmp_ge (pc := 12) C (tgt := 126) dX12_wordAt_12 (by decide) ⟨by omega, by omega⟩ ⟨by omega, by omega⟩ (fun h12 => ?_) (fun h12 => ?_)
  · skip
    clear hwf
    refine s_iconst (pc := 126) C dX12_wordAt_126 ?_
    refine s_iret (pc := 127) C dX12_wordAt_127 ?_
    refine ⟨_, rfl, ?_⟩
    exact ⟨rfl, by first | omega | assumption | (constructor <;> omega) | (refine ⟨⟨?_, ?_⟩, ?_⟩ <;> omega) | (simp [hs_ss, hs_up]; omega) | (simp [hs_ss, hs_up]; done)⟩
  · skip
    rcases hwf with ⟨hk_, hf_⟩ | ⟨hk_, hf_⟩ | ⟨hk_, hf_⟩ | ⟨hk_, hf_⟩ | ⟨hk_, hf_⟩ | ⟨hk_, hf_⟩ | ⟨hk_, hf_⟩ | ⟨hk_, hf_⟩
    · skip
      obtain ⟨E, hE⟩ : ∃ E : Int, E = 4 := ⟨_, rfl⟩
      have hW := wo_seg (f := f) (E := E) g0.1 0 4 (by omega) (by omega) (by decide) wo_d0
      have hWF : ∀ n : Int, f + n = E → WFo (k + 1) (f + (n + 1)) := fun n hn => Or.inr (Or.inl ⟨by omega, by omega⟩)
      refine s_iconst (pc := 15) C dX12_wordAt_15 ?_
      refine s_istore (pc := 16) C [(5, vI 0), (0, .ref (ad 0)), (1, vI a), (2, vI b), (3, vI k), (4, vI f)] dX12_wordAt_16 (by decide) rfl ?_
      refine s_sub C [1, 2, 3, 4, 5, 0] [(0, .ref (ad 0)), (1, vI a), (2, vI b), (3, vI k), (4, vI f), (5, vI 0)] rfl ?_
      have hi18 : 0 ≤ (0 : Int) ∧ f + (0 : Int) ≤ E := (by first | omega | assumption | (constructor <;> omega) | (refine ⟨⟨?_, ?_⟩, ?_⟩ <;> omega) | (simp [hs_ss, hs_up]; omega) | (simp [hs_ss, hs_up]; done))
      refine hs_loop (α := Int) (fun x_ => (0 ≤ x_ ∧ f + x_ ≤ E) → hs_Wd p l e 1 s m args below meth c D dA SHY ad A 8 (hs_PI (fun σ z σ1 => σ = σ1 ∧ -1 ≤ z ∧ z ≤ 6) σ) 18 [(0, .ref (ad 0)), (1, vI a), (2, vI b), (3, vI k), (4, vI f), (5, vI x_)] [] σ) (fun x_ => (40 - x_).toNat) ?_ (0) hi18
      rintro n ih18 hinv
      replace hinv : 0 ≤ n ∧ f + n ≤ E := hinv
      show hs_Wd p l e 1 s m args below meth c D dA SHY ad A 8 (hs_PI (fun σ z σ1 => σ = σ1 ∧ -1 ≤ z ∧ z ≤ 6) σ) 18 [(0, .ref (ad 0)), (1, vI a), (2, vI b), (3, vI k), (4, vI f), (5, vI n)] [] σ
      refine s_aload_n (pc := 18) C dX12_wordAt_18 0 rfl ?_
      refine s_getr (q := 0) (ci := 12) (N := 68) (CN := RX12) (T := TX12) (pc := 19) C 24 dX12_wordAt_19 wlX12_53 rfl rfl rfl wfX12 (by decide) rfl ?_
      refine s_iload (pc := 22) C dX12_wordAt_22 4 rfl ?_
      refine s_iload (pc := 24) C dX12_wordAt_24 5 rfl ?_
      refine s_iadd (pc := 26) C dX12_wordAt_26 ?_
      refine s_iald (q := 14) (n := 36) (pc := 27) C (σ 14 ((f + n).toNat)) rfl dX12_wordAt_27 rfl (by omega) (by omega) (by decide) ?_
      have hb27 := wo_b g0.1 (f + n).toNat (by omega)
      have hw27 := hW n (by omega) (by omega)
      refine s_bipush (pc := 28) C dX12_wordAt_28 (by decide) ?_
      refine s_icmp_eq (pc := 30) C (tgt := 39) dX12_wordAt_30 (by decide) ⟨by omega, by omega⟩ ⟨by decide, by decide⟩ (fun h30 => ?_) (fun h30 => ?_)
      · skip
        refine s_iload (pc := 39) C dX12_wordAt_39 5 rfl ?_
        refine s_iload_n (pc := 41) C dX12_wordAt_41 2 rfl ?_
        refine s_iload_n (pc := 42) C dX12_wordAt_42 1 rfl ?_
        refine s_isub (pc := 43) C dX12_wordAt_43 ?_
        refine s_icmp_ne (pc := 44) C (tgt := 51) dX12_wordAt_44 (by decide) ⟨by omega, by omega⟩ ⟨by omega, by omega⟩ (fun h44 => ?_) (fun h44 => ?_)
        · skip
          refine s_iconst (pc := 51) C dX12_wordAt_51 ?_
          refine s_istore (pc := 52) C [(6, vI 0), (0, .ref (ad 0)), (1, vI a), (2, vI b), (3, vI k), (4, vI f), (5, vI n)] dX12_wordAt_52 (by decide) rfl ?_
          refine s_iconst (pc := 54) C dX12_wordAt_54 ?_
          refine s_istore (pc := 55) C [(7, vI 0), (6, vI 0), (0, .ref (ad 0)), (1, vI a), (2, vI b), (3, vI k), (4, vI f), (5, vI n)] dX12_wordAt_55 (by decide) rfl ?_
          refine s_sub C [2, 3, 4, 5, 6, 7, 1, 0] [(0, .ref (ad 0)), (1, vI a), (2, vI b), (3, vI k), (4, vI f), (5, vI n), (6, vI 0), (7, vI 0)] rfl ?_
          have hi57 : 0 ≤ (0 : Int) ∧ (0 : Int) ≤ n ∧ ((0 : Int) = 0 ∨ (0 : Int) = 1) ∧ ((0 : Int) = 1 → n = b - a) := (by first | omega | assumption | (constructor <;> omega) | (refine ⟨⟨?_, ?_⟩, ?_⟩ <;> omega) | (simp [hs_ss, hs_up]; omega) | (simp [hs_ss, hs_up]; done))
          refine hs_loop (α := Int × Int) (fun x_ => (0 ≤ x_.1 ∧ x_.1 ≤ n ∧ (x_.2 = 0 ∨ x_.2 = 1) ∧ (x_.2 = 1 → n = b - a)) → hs_Wd p l e 1 s m args below meth c D dA SHY ad A 8 (hs_PI (fun σ z σ1 => σ = σ1 ∧ -1 ≤ z ∧ z ≤ 6) σ) 57 [(0, .ref (ad 0)), (1, vI a), (2, vI b), (3, vI k), (4, vI f), (5, vI n), (6, vI x_.2), (7, vI x_.1)] [] σ) (fun x_ => (40 - x_.1).toNat) ?_ (0, 0) hi57
          rintro ⟨i, sm⟩ ih57 hinv
          replace hinv : 0 ≤ i ∧ i ≤ n ∧ (sm = 0 ∨ sm = 1) ∧ (sm = 1 → n = b - a) := hinv
          show hs_Wd p l e 1 s m args below meth c D dA SHY ad A 8 (hs_PI (fun σ z σ1 => σ = σ1 ∧ -1 ≤ z ∧ z ≤ 6) σ) 57 [(0, .ref (ad 0)), (1, vI a), (2, vI b), (3, vI k), (4, vI f), (5, vI n), (6, vI sm), (7, vI i)] [] σ
          refine s_iload (pc := 57) C dX12_wordAt_57 7 rfl ?_
          refine s_iload (pc := 59) C dX12_wordAt_59 5 rfl ?_
          refine s_icmp_ge (pc := 61) C (tgt := 104) dX12_wordAt_61 (by decide) ⟨by omega, by omega⟩ ⟨by omega, by omega⟩ (fun h61 => ?_) (fun h61 => ?_)
          · skip
            refine s_iload (pc := 104) C dX12_wordAt_104 6 rfl ?_
            refine s_if_eq (pc := 106) C (tgt := 111) dX12_wordAt_106 (by decide) ⟨by omega, by omega⟩ (fun h106 => ?_) (fun h106 => ?_)
            · skip
              refine s_iload (pc := 111) C dX12_wordAt_111 4 rfl ?_
              refine s_iload (pc := 113) C dX12_wordAt_113 5 rfl ?_
              refine s_iconst (pc := 115) C dX12_wordAt_115 ?_
              refine s_iadd (pc := 116) C dX12_wordAt_116 ?_
              refine s_iadd (pc := 117) C dX12_wordAt_117 ?_
              refine s_istore (pc := 118) C [(4, vI (f + (n + 1))), (0, .ref (ad 0)), (1, vI a), (2, vI b), (3, vI k), (5, vI n), (6, vI sm), (7, vI i)] dX12_wordAt_118 (by decide) rfl ?_
              refine s_iinc (pc := 120) C [(3, vI (k + 1)), (4, vI (f + (n + 1))), (0, .ref (ad 0)), (1, vI a), (2, vI b), (5, vI n), (6, vI sm), (7, vI i)] dX12_wordAt_120 4 rfl (by decide) rfl ?_
              refine s_goto (pc := 123) C (tgt := 5) dX12_wordAt_123 (by decide) ?_
              refine s_sub C [2, 3, 4, 0, 1] [(0, .ref (ad 0)), (1, vI a), (2, vI b), (3, vI (k + 1)), (4, vI (f + (n + 1)))] rfl ?_
              have hi5 : WFo (k + 1) (f + (n + 1)) := hWF n (by omega)
              exact ih5 (k + 1, f + (n + 1)) (by first | omega | (simp only []; omega)) hi5
            · skip
              refine s_iload_n (pc := 109) C dX12_wordAt_109 3 rfl ?_
              refine s_iret (pc := 110) C dX12_wordAt_110 ?_
              refine ⟨_, rfl, ?_⟩
              exact ⟨rfl, by first | omega | assumption | (constructor <;> omega) | (refine ⟨⟨?_, ?_⟩, ?_⟩ <;> omega) | (simp [hs_ss, hs_up]; omega) | (simp [hs_ss, hs_up]; done)⟩
          · skip
            refine s_iload (pc := 64) C dX12_wordAt_64 6 rfl ?_
            refine s_if_eq (pc := 66) C (tgt := 104) dX12_wordAt_66 (by decide) ⟨by omega, by omega⟩ (fun h66 => ?_) (fun h66 => ?_)
            · skip
              refine s_iload (pc := 104) C dX12_wordAt_104 6 rfl ?_
              refine s_if_eq (pc := 106) C (tgt := 111) dX12_wordAt_106 (by decide) ⟨by omega, by omega⟩ (fun h106 => ?_) (fun h106 => ?_)
              · skip
                refine s_iload (pc := 111) C dX12_wordAt_111 4 rfl ?_
                refine s_iload (pc := 113) C dX12_wordAt_113 5 rfl ?_
                refine s_iconst (pc := 115) C dX12_wordAt_115 ?_
                refine s_iadd (pc := 116) C dX12_wordAt_116 ?_
                refine s_iadd (pc := 117) C dX12_wordAt_117 ?_
                refine s_istore (pc := 118) C [(4, vI (f + (n + 1))), (0, .ref (ad 0)), (1, vI a), (2, vI b), (3, vI k), (5, vI n), (6, vI sm), (7, vI i)] dX12_wordAt_118 (by decide) rfl ?_
                refine s_iinc (pc := 120) C [(3, vI (k + 1)), (4, vI (f + (n + 1))), (0, .ref (ad 0)), (1, vI a), (2, vI b), (5, vI n), (6, vI sm), (7, vI i)] dX12_wordAt_120 4 rfl (by decide) rfl ?_
                refine s_goto (pc := 123) C (tgt := 5) dX12_wordAt_123 (by decide) ?_
                refine s_sub C [2, 3, 4, 0, 1] [(0, .ref (ad 0)), (1, vI a), (2, vI b), (3, vI (k + 1)), (4, vI (f + (n + 1)))] rfl ?_
                have hi5 : WFo (k + 1) (f + (n + 1)) := hWF n (by omega)
                exact ih5 (k + 1, f + (n + 1)) (by first | omega | (simp only []; omega)) hi5
              · skip
                refine s_iload_n (pc := 109) C dX12_wordAt_109 3 rfl ?_
                refine s_iret (pc := 110) C dX12_wordAt_110 ?_
                refine ⟨_, rfl, ?_⟩
                exact ⟨rfl, by first | omega | assumption | (constructor <;> omega) | (refine ⟨⟨?_, ?_⟩, ?_⟩ <;> omega) | (simp [hs_ss, hs_up]; omega) | (simp [hs_ss, hs_up]; done)⟩
            · skip
              refine s_aload_n (pc := 69) C dX12_wordAt_69 0 rfl ?_
              refine s_getr (q := 0) (ci := 12) (N := 68) (CN := RX12) (T := TX12) (pc := 70) C 24 dX12_wordAt_70 wlX12_53 rfl rfl rfl wfX12 (by decide) rfl ?_
              refine s_iload (pc := 73) C dX12_wordAt_73 4 rfl ?_
              refine s_iload (pc := 75) C dX12_wordAt_75 7 rfl ?_
              refine s_iadd (pc := 77) C dX12_wordAt_77 ?_
              refine s_iald (q := 14) (n := 36) (pc := 78) C (σ 14 ((f + i).toNat)) rfl dX12_wordAt_78 rfl (by omega) (by omega) (by decide) ?_
              have hb78 := wo_b g0.1 (f + i).toNat (by omega)
              refine s_aload_n (pc := 79) C dX12_wordAt_79 0 rfl ?_
              refine s_getr (q := 0) (ci := 12) (N := 68) (CN := RX12) (T := TX12) (pc := 80) C 0 dX12_wordAt_80 wlX12_7 rfl rfl rfl wfX12 (by decide) rfl ?_
              refine s_iload_n (pc := 83) C dX12_wordAt_83 1 rfl ?_
              refine s_iload (pc := 84) C dX12_wordAt_84 7 rfl ?_
              refine s_iadd (pc := 86) C dX12_wordAt_86 ?_
              refine s_iald (q := 1) (n := 500) (pc := 87) C (σ 1 ((a + i).toNat)) rfl dX12_wordAt_87 rfl (by omega) (by omega) (by decide) ?_
              have b87 : (0 : Int) ≤ σ 1 ((a + i).toNat) ∧ σ 1 ((a + i).toNat) ≤ 255 := g0.1 1 ((a + i).toNat)
              refine s_icmp_ne (pc := 88) C (tgt := 95) dX12_wordAt_88 (by decide) ⟨by omega, by omega⟩ ⟨by omega, by omega⟩ (fun h88 => ?_) (fun h88 => ?_)
              · skip
                refine s_iconst (pc := 95) C dX12_wordAt_95 ?_
                refine s_istore (pc := 96) C [(6, vI 0), (0, .ref (ad 0)), (1, vI a), (2, vI b), (3, vI k), (4, vI f), (5, vI n), (7, vI i)] dX12_wordAt_96 (by decide) rfl ?_
                refine s_iinc (pc := 98) C [(7, vI (i + 1)), (6, vI 0), (0, .ref (ad 0)), (1, vI a), (2, vI b), (3, vI k), (4, vI f), (5, vI n)] dX12_wordAt_98 7 rfl (by decide) rfl ?_
                refine s_goto (pc := 101) C (tgt := 57) dX12_wordAt_101 (by decide) ?_
                refine s_sub C [2, 3, 4, 5, 6, 7, 1, 0] [(0, .ref (ad 0)), (1, vI a), (2, vI b), (3, vI k), (4, vI f), (5, vI n), (6, vI 0), (7, vI (i + 1))] rfl ?_
                have hi57 : 0 ≤ (i + 1) ∧ (i + 1) ≤ n ∧ ((0 : Int) = 0 ∨ (0 : Int) = 1) ∧ ((0 : Int) = 1 → n = b - a) := (by first | omega | assumption | (constructor <;> omega) | (refine ⟨⟨?_, ?_⟩, ?_⟩ <;> omega) | (simp [hs_ss, hs_up]; omega) | (simp [hs_ss, hs_up]; done))
                exact ih57 (i + 1, 0) (by first | omega | (simp only []; omega)) hi57
              · skip
                refine s_iconst (pc := 91) C dX12_wordAt_91 ?_
                refine s_goto (pc := 92) C (tgt := 96) dX12_wordAt_92 (by decide) ?_
                refine s_istore (pc := 96) C [(6, vI 1), (0, .ref (ad 0)), (1, vI a), (2, vI b), (3, vI k), (4, vI f), (5, vI n), (7, vI i)] dX12_wordAt_96 (by decide) rfl ?_
                refine s_iinc (pc := 98) C [(7, vI (i + 1)), (6, vI 1), (0, .ref (ad 0)), (1, vI a), (2, vI b), (3, vI k), (4, vI f), (5, vI n)] dX12_wordAt_98 7 rfl (by decide) rfl ?_
                refine s_goto (pc := 101) C (tgt := 57) dX12_wordAt_101 (by decide) ?_
                refine s_sub C [2, 3, 4, 5, 6, 7, 1, 0] [(0, .ref (ad 0)), (1, vI a), (2, vI b), (3, vI k), (4, vI f), (5, vI n), (6, vI 1), (7, vI (i + 1))] rfl ?_
                have hi57 : 0 ≤ (i + 1) ∧ (i + 1) ≤ n ∧ ((1 : Int) = 0 ∨ (1 : Int) = 1) ∧ ((1 : Int) = 1 → n = b - a) := (by first | omega | assumption | (constructor <;> omega) | (refine ⟨⟨?_, ?_⟩, ?_⟩ <;> omega) | (simp [hs_ss, hs_up]; omega) | (simp [hs_ss, hs_up]; done))
                exact ih57 (i + 1, 1) (by first | omega | (simp only []; omega)) hi57
        · skip
          refine s_iconst (pc := 47) C dX12_wordAt_47 ?_
          refine s_goto (pc := 48) C (tgt := 52) dX12_wordAt_48 (by decide) ?_
          refine s_istore (pc := 52) C [(6, vI 1), (0, .ref (ad 0)), (1, vI a), (2, vI b), (3, vI k), (4, vI f), (5, vI n)] dX12_wordAt_52 (by decide) rfl ?_
          refine s_iconst (pc := 54) C dX12_wordAt_54 ?_
          refine s_istore (pc := 55) C [(7, vI 0), (6, vI 1), (0, .ref (ad 0)), (1, vI a), (2, vI b), (3, vI k), (4, vI f), (5, vI n)] dX12_wordAt_55 (by decide) rfl ?_
          refine s_sub C [2, 3, 4, 5, 6, 7, 1, 0] [(0, .ref (ad 0)), (1, vI a), (2, vI b), (3, vI k), (4, vI f), (5, vI n), (6, vI 1), (7, vI 0)] rfl ?_
          have hi57 : 0 ≤ (0 : Int) ∧ (0 : Int) ≤ n ∧ ((1 : Int) = 0 ∨ (1 : Int) = 1) ∧ ((1 : Int) = 1 → n = b - a) := (by first | omega | assumption | (constructor <;> omega) | (refine ⟨⟨?_, ?_⟩, ?_⟩ <;> omega) | (simp [hs_ss, hs_up]; omega) | (simp [hs_ss, hs_up]; done))
          refine hs_loop (α := Int × Int) (fun x_ => (0 ≤ x_.1 ∧ x_.1 ≤ n ∧ (x_.2 = 0 ∨ x_.2 = 1) ∧ (x_.2 = 1 → n = b - a)) → hs_Wd p l e 1 s m args below meth c D dA SHY ad A 8 (hs_PI (fun σ z σ1 => σ = σ1 ∧ -1 ≤ z ∧ z ≤ 6) σ) 57 [(0, .ref (ad 0)), (1, vI a), (2, vI b), (3, vI k), (4, vI f), (5, vI n), (6, vI x_.2), (7, vI x_.1)] [] σ) (fun x_ => (40 - x_.1).toNat) ?_ (0, 1) hi57
          rintro ⟨i, sm⟩ ih57 hinv
          replace hinv : 0 ≤ i ∧ i ≤ n ∧ (sm = 0 ∨ sm = 1) ∧ (sm = 1 → n = b - a) := hinv
          show hs_Wd p l e 1 s m args below meth c D dA SHY ad A 8 (hs_PI (fun σ z σ1 => σ = σ1 ∧ -1 ≤ z ∧ z ≤ 6) σ) 57 [(0, .ref (ad 0)), (1, vI a), (2, vI b), (3, vI k), (4, vI f), (5, vI n), (6, vI sm), (7, vI i)] [] σ
          refine s_iload (pc := 57) C dX12_wordAt_57 7 rfl ?_
          refine s_iload (pc := 59) C dX12_wordAt_59 5 rfl ?_
          refine s_icmp_ge (pc := 61) C (tgt := 104) dX12_wordAt_61 (by decide) ⟨by omega, by omega⟩ ⟨by omega, by omega⟩ (fun h61 => ?_) (fun h61 => ?_)
          · skip
            refine s_iload (pc := 104) C dX12_wordAt_104 6 rfl ?_
            refine s_if_eq (pc := 106) C (tgt := 111) dX12_wordAt_106 (by decide) ⟨by omega, by omega⟩ (fun h106 => ?_) (fun h106 => ?_)
            · skip
              refine s_iload (pc := 111) C dX12_wordAt_111 4 rfl ?_
              refine s_iload (pc := 113) C dX12_wordAt_113 5 rfl ?_
              refine s_iconst (pc := 115) C dX12_wordAt_115 ?_
              refine s_iadd (pc := 116) C dX12_wordAt_116 ?_
              refine s_iadd (pc := 117) C dX12_wordAt_117 ?_
              refine s_istore (pc := 118) C [(4, vI (f + (n + 1))), (0, .ref (ad 0)), (1, vI a), (2, vI b), (3, vI k), (5, vI n), (6, vI sm), (7, vI i)] dX12_wordAt_118 (by decide) rfl ?_
              refine s_iinc (pc := 120) C [(3, vI (k + 1)), (4, vI (f + (n + 1))), (0, .ref (ad 0)), (1, vI a), (2, vI b), (5, vI n), (6, vI sm), (7, vI i)] dX12_wordAt_120 4 rfl (by decide) rfl ?_
              refine s_goto (pc := 123) C (tgt := 5) dX12_wordAt_123 (by decide) ?_
              refine s_sub C [2, 3, 4, 0, 1] [(0, .ref (ad 0)), (1, vI a), (2, vI b), (3, vI (k + 1)), (4, vI (f + (n + 1)))] rfl ?_
              have hi5 : WFo (k + 1) (f + (n + 1)) := hWF n (by omega)
              exact ih5 (k + 1, f + (n + 1)) (by first | omega | (simp only []; omega)) hi5
            · skip
              refine s_iload_n (pc := 109) C dX12_wordAt_109 3 rfl ?_
              refine s_iret (pc := 110) C dX12_wordAt_110 ?_
              refine ⟨_, rfl, ?_⟩
              exact ⟨rfl, by first | omega | assumption | (constructor <;> omega) | (refine ⟨⟨?_, ?_⟩, ?_⟩ <;> omega) | (simp [hs_ss, hs_up]; omega) | (simp [hs_ss, hs_up]; done)⟩
          · skip
            refine s_iload (pc := 64) C dX12_wordAt_64 6 rfl ?_
            refine s_if_eq (pc := 66) C (tgt := 104) dX12_wordAt_66 (by decide) ⟨by omega, by omega⟩ (fun h66 => ?_) (fun h66 => ?_)
            · skip
              refine s_iload (pc := 104) C dX12_wordAt_104 6 rfl ?_
              refine s_if_eq (pc := 106) C (tgt := 111) dX12_wordAt_106 (by decide) ⟨by omega, by omega⟩ (fun h106 => ?_) (fun h106 => ?_)
              · skip
                refine s_iload (pc := 111) C dX12_wordAt_111 4 rfl ?_
                refine s_iload (pc := 113) C dX12_wordAt_113 5 rfl ?_
                refine s_iconst (pc := 115) C dX12_wordAt_115 ?_
                refine s_iadd (pc := 116) C dX12_wordAt_116 ?_
                refine s_iadd (pc := 117) C dX12_wordAt_117 ?_
                refine s_istore (pc := 118) C [(4, vI (f + (n + 1))), (0, .ref (ad 0)), (1, vI a), (2, vI b), (3, vI k), (5, vI n), (6, vI sm), (7, vI i)] dX12_wordAt_118 (by decide) rfl ?_
                refine s_iinc (pc := 120) C [(3, vI (k + 1)), (4, vI (f + (n + 1))), (0, .ref (ad 0)), (1, vI a), (2, vI b), (5, vI n), (6, vI sm), (7, vI i)] dX12_wordAt_120 4 rfl (by decide) rfl ?_
                refine s_goto (pc := 123) C (tgt := 5) dX12_wordAt_123 (by decide) ?_
                refine s_sub C [2, 3, 4, 0, 1] [(0, .ref (ad 0)), (1, vI a), (2, vI b), (3, vI (k + 1)), (4, vI (f + (n + 1)))] rfl ?_
                have hi5 : WFo (k + 1) (f + (n + 1)) := hWF n (by omega)
                exact ih5 (k + 1, f + (n + 1)) (by first | omega | (simp only []; omega)) hi5
              · skip
                refine s_iload_n (pc := 109) C dX12_wordAt_109 3 rfl ?_
                refine s_iret (pc := 110) C dX12_wordAt_110 ?_
                refine ⟨_, rfl, ?_⟩
                exact ⟨rfl, by first | omega | assumption | (constructor <;> omega) | (refine ⟨⟨?_, ?_⟩, ?_⟩ <;> omega) | (simp [hs_ss, hs_up]; omega) | (simp [hs_ss, hs_up]; done)⟩
            · skip
              refine s_aload_n (pc := 69) C dX12_wordAt_69 0 rfl ?_
              refine s_getr (q := 0) (ci := 12) (N := 68) (CN := RX12) (T := TX12) (pc := 70) C 24 dX12_wordAt_70 wlX12_53 rfl rfl rfl wfX12 (by decide) rfl ?_
              refine s_iload (pc := 73) C dX12_wordAt_73 4 rfl ?_
              refine s_iload (pc := 75) C dX12_wordAt_75 7 rfl ?_
              refine s_iadd (pc := 77) C dX12_wordAt_77 ?_
              refine s_iald (q := 14) (n := 36) (pc := 78) C (σ 14 ((f + i).toNat)) rfl dX12_wordAt_78 rfl (by omega) (by omega) (by decide) ?_
              have hb78 := wo_b g0.1 (f + i).toNat (by omega)
              refine s_aload_n (pc := 79) C dX12_wordAt_79 0 rfl ?_
              refine s_getr (q := 0) (ci := 12) (N := 68) (CN := RX12) (T := TX12) (pc := 80) C 0 dX12_wordAt_80 wlX12_7 rfl rfl rfl wfX12 (by decide) rfl ?_
              refine s_iload_n (pc := 83) C dX12_wordAt_83 1 rfl ?_
              refine s_iload (pc := 84) C dX12_wordAt_84 7 rfl ?_
              refine s_iadd (pc := 86) C dX12_wordAt_86 ?_
              refine s_iald (q := 1) (n := 500) (pc := 87) C (σ 1 ((a + i).toNat)) rfl dX12_wordAt_87 rfl (by omega) (by omega) (by decide) ?_
              have b87 : (0 : Int) ≤ σ 1 ((a + i).toNat) ∧ σ 1 ((a + i).toNat) ≤ 255 := g0.1 1 ((a + i).toNat)
              refine s_icmp_ne (pc := 88) C (tgt := 95) dX12_wordAt_88 (by decide) ⟨by omega, by omega⟩ ⟨by omega, by omega⟩ (fun h88 => ?_) (fun h88 => ?_)
              · skip
                refine s_iconst (pc := 95) C dX12_wordAt_95 ?_
                refine s_istore (pc := 96) C [(6, vI 0), (0, .ref (ad 0)), (1, vI a), (2, vI b), (3, vI k), (4, vI f), (5, vI n), (7, vI i)] dX12_wordAt_96 (by decide) rfl ?_
                refine s_iinc (pc := 98) C [(7, vI (i + 1)), (6, vI 0), (0, .ref (ad 0)), (1, vI a), (2, vI b), (3, vI k), (4, vI f), (5, vI n)] dX12_wordAt_98 7 rfl (by decide) rfl ?_
                refine s_goto (pc := 101) C (tgt := 57) dX12_wordAt_101 (by decide) ?_
                refine s_sub C [2, 3, 4, 5, 6, 7, 1, 0] [(0, .ref (ad 0)), (1, vI a), (2, vI b), (3, vI k), (4, vI f), (5, vI n), (6, vI 0), (7, vI (i + 1))] rfl ?_
                have hi57 : 0 ≤ (i + 1) ∧ (i + 1) ≤ n ∧ ((0 : Int) = 0 ∨ (0 : Int) = 1) ∧ ((0 : Int) = 1 → n = b - a) := (by first | omega | assumption | (constructor <;> omega) | (refine ⟨⟨?_, ?_⟩, ?_⟩ <;> omega) | (simp [hs_ss, hs_up]; omega) | (simp [hs_ss, hs_up]; done))
                exact ih57 (i + 1, 0) (by first | omega | (simp only []; omega)) hi57
              · skip
                refine s_iconst (pc := 91) C dX12_wordAt_91 ?_
                refine s_goto (pc := 92) C (tgt := 96) dX12_wordAt_92 (by decide) ?_
                refine s_istore (pc := 96) C [(6, vI 1), (0, .ref (ad 0)), (1, vI a), (2, vI b), (3, vI k), (4, vI f), (5, vI n), (7, vI i)] dX12_wordAt_96 (by decide) rfl ?_
                refine s_iinc (pc := 98) C [(7, vI (i + 1)), (6, vI 1), (0, .ref (ad 0)), (1, vI a), (2, vI b), (3, vI k), (4, vI f), (5, vI n)] dX12_wordAt_98 7 rfl (by decide) rfl ?_
                refine s_goto (pc := 101) C (tgt := 57) dX12_wordAt_101 (by decide) ?_
                refine s_sub C [2, 3, 4, 5, 6, 7, 1, 0] [(0, .ref (ad 0)), (1, vI a), (2, vI b), (3, vI k), (4, vI f), (5, vI n), (6, vI 1), (7, vI (i + 1))] rfl ?_
                have hi57 : 0 ≤ (i + 1) ∧ (i + 1) ≤ n ∧ ((1 : Int) = 0 ∨ (1 : Int) = 1) ∧ ((1 : Int) = 1 → n = b - a) := (by first | omega | assumption | (constructor <;> omega) | (refine ⟨⟨?_, ?_⟩, ?_⟩ <;> omega) | (simp [hs_ss, hs_up]; omega) | (simp [hs_ss, hs_up]; done))
                exact ih57 (i + 1, 1) (by first | omega | (simp only []; omega)) hi57
      · skip
        refine s_iinc (pc := 33) C [(5, vI (n + 1)), (0, .ref (ad 0)), (1, vI a), (2, vI b), (3, vI k), (4, vI f)] dX12_wordAt_33 5 rfl (by decide) rfl ?_
        refine s_goto (pc := 36) C (tgt := 18) dX12_wordAt_36 (by decide) ?_
        refine s_sub C [1, 2, 3, 4, 5, 0] [(0, .ref (ad 0)), (1, vI a), (2, vI b), (3, vI k), (4, vI f), (5, vI (n + 1))] rfl ?_
        have hi18 : 0 ≤ (n + 1) ∧ f + (n + 1) ≤ E := (by first | omega | assumption | (constructor <;> omega) | (refine ⟨⟨?_, ?_⟩, ?_⟩ <;> omega) | (simp [hs_ss, hs_up]; omega) | (simp [hs_ss, hs_up]; done))
        exact ih18 (n + 1) (by first | omega | (simp only []; omega)) hi18
    · skip
      obtain ⟨E, hE⟩ : ∃ E : Int, E = 10 := ⟨_, rfl⟩
      have hW := wo_seg (f := f) (E := E) g0.1 5 10 (by omega) (by omega) (by decide) wo_d1
      have hWF : ∀ n : Int, f + n = E → WFo (k + 1) (f + (n + 1)) := fun n hn => Or.inr (Or.inr (Or.inl ⟨by omega, by omega⟩))
      refine s_iconst (pc := 15) C dX12_wordAt_15 ?_
      refine s_istore (pc := 16) C [(5, vI 0), (0, .ref (ad 0)), (1, vI a), (2, vI b), (3, vI k), (4, vI f)] dX12_wordAt_16 (by decide) rfl ?_
      refine s_sub C [1, 2, 3, 4, 5, 0] [(0, .ref (ad 0)), (1, vI a), (2, vI b), (3, vI k), (4, vI f), (5, vI 0)] rfl ?_
      have hi18 : 0 ≤ (0 : Int) ∧ f + (0 : Int) ≤ E := (by first | omega | assumption | (constructor <;> omega) | (refine ⟨⟨?_, ?_⟩, ?_⟩ <;> omega) | (simp [hs_ss, hs_up]; omega) | (simp [hs_ss, hs_up]; done))
      refine hs_loop (α := Int) (fun x_ => (0 ≤ x_ ∧ f + x_ ≤ E) → hs_Wd p l e 1 s m args below meth c D dA SHY ad A 8 (hs_PI (fun σ z σ1 => σ = σ1 ∧ -1 ≤ z ∧ z ≤ 6) σ) 18 [(0, .ref (ad 0)), (1, vI a), (2, vI b), (3, vI k), (4, vI f), (5, vI x_)] [] σ) (fun x_ => (40 - x_).toNat) ?_ (0) hi18
      rintro n ih18 hinv
      replace hinv : 0 ≤ n ∧ f + n ≤ E := hinv
      show hs_Wd p l e 1 s m args below meth c D dA SHY ad A 8 (hs_PI (fun σ z σ1 => σ = σ1 ∧ -1 ≤ z ∧ z ≤ 6) σ) 18 [(0, .ref (ad 0)), (1, vI a), (2, vI b), (3, vI k), (4, vI f), (5, vI n)] [] σ
      refine s_aload_n (pc := 18) C dX12_wordAt_18 0 rfl ?_
      refine s_getr (q := 0) (ci := 12) (N := 68) (CN := RX12) (T := TX12) (pc := 19) C 24 dX12_wordAt_19 wlX12_53 rfl rfl rfl wfX12 (by decide) rfl ?_
      refine s_iload (pc := 22) C dX12_wordAt_22 4 rfl ?_
      refine s_iload (pc := 24) C dX12_wordAt_24 5 rfl ?_
      refine s_iadd (pc := 26) C dX12_wordAt_26 ?_
      refine s_iald (q := 14) (n := 36) (pc := 27) C (σ 14 ((f + n).toNat)) rfl dX12_wordAt_27 rfl (by omega) (by omega) (by decide) ?_
      have hb27 := wo_b g0.1 (f + n).toNat (by omega)
      have hw27 := hW n (by omega) (by omega)
      refine s_bipush (pc := 28) C dX12_wordAt_28 (by decide) ?_
      refine s_icmp_eq (pc := 30) C (tgt := 39) dX12_wordAt_30 (by decide) ⟨by omega, by omega⟩ ⟨by decide, by decide⟩ (fun h30 => ?_) (fun h30 => ?_)
      · skip
        refine s_iload (pc := 39) C dX12_wordAt_39 5 rfl ?_
        refine s_iload_n (pc := 41) C dX12_wordAt_41 2 rfl ?_
        refine s_iload_n (pc := 42) C dX12_wordAt_42 1 rfl ?_
        refine s_isub (pc := 43) C dX12_wordAt_43 ?_
        refine s_icmp_ne (pc := 44) C (tgt := 51) dX12_wordAt_44 (by decide) ⟨by omega, by omega⟩ ⟨by omega, by omega⟩ (fun h44 => ?_) (fun h44 => ?_)
        · skip
          refine s_iconst (pc := 51) C dX12_wordAt_51 ?_
          refine s_istore (pc := 52) C [(6, vI 0), (0, .ref (ad 0)), (1, vI a), (2, vI b), (3, vI k), (4, vI f), (5, vI n)] dX12_wordAt_52 (by decide) rfl ?_
          refine s_iconst (pc := 54) C dX12_wordAt_54 ?_
          refine s_istore (pc := 55) C [(7, vI 0), (6, vI 0), (0, .ref (ad 0)), (1, vI a), (2, vI b), (3, vI k), (4, vI f), (5, vI n)] dX12_wordAt_55 (by decide) rfl ?_
          refine s_sub C [2, 3, 4, 5, 6, 7, 1, 0] [(0, .ref (ad 0)), (1, vI a), (2, vI b), (3, vI k), (4, vI f), (5, vI n), (6, vI 0), (7, vI 0)] rfl ?_
          have hi57 : 0 ≤ (0 : Int) ∧ (0 : Int) ≤ n ∧ ((0 : Int) = 0 ∨ (0 : Int) = 1) ∧ ((0 : Int) = 1 → n = b - a) := (by first | omega | assumption | (constructor <;> omega) | (refine ⟨⟨?_, ?_⟩, ?_⟩ <;> omega) | (simp [hs_ss, hs_up]; omega) | (simp [hs_ss, hs_up]; done))
          refine hs_loop (α := Int × Int) (fun x_ => (0 ≤ x_.1 ∧ x_.1 ≤ n ∧ (x_.2 = 0 ∨ x_.2 = 1) ∧ (x_.2 = 1 → n = b - a)) → hs_Wd p l e 1 s m args below meth c D dA SHY ad A 8 (hs_PI (fun σ z σ1 => σ = σ1 ∧ -1 ≤ z ∧ z ≤ 6) σ) 57 [(0, .ref (ad 0)), (1, vI a), (2, vI b), (3, vI k), (4, vI f), (5, vI n), (6, vI x_.2), (7, vI x_.1)] [] σ) (fun x_ => (40 - x_.1).toNat) ?_ (0, 0) hi57
          rintro ⟨i, sm⟩ ih57 hinv
          replace hinv : 0 ≤ i ∧ i ≤ n ∧ (sm = 0 ∨ sm = 1) ∧ (sm = 1 → n = b - a) := hinv
          show hs_Wd p l e 1 s m args below meth c D dA SHY ad A 8 (hs_PI (fun σ z σ1 => σ = σ1 ∧ -1 ≤ z ∧ z ≤ 6) σ) 57 [(0, .ref (ad 0)), (1, vI a), (2, vI b), (3, vI k), (4, vI f), (5, vI n), (6, vI sm), (7, vI i)] [] σ
          refine s_iload (pc := 57) C dX12_wordAt_57 7 rfl ?_
          refine s_iload (pc := 59) C dX12_wordAt_59 5 rfl ?_
          refine s_icmp_ge (pc := 61) C (tgt := 104) dX12_wordAt_61 (by decide) ⟨by omega, by omega⟩ ⟨by omega, by omega⟩ (fun h61 => ?_) (fun h61 => ?_)
          · skip
            refine s_iload (pc := 104) C dX12_wordAt_104 6 rfl ?_
            refine s_if_eq (pc := 106) C (tgt := 111) dX12_wordAt_106 (by decide) ⟨by omega, by omega⟩ (fun h106 => ?_) (fun h106 => ?_)
            · skip
              refine s_iload (pc := 111) C dX12_wordAt_111 4 rfl ?_
              refine s_iload (pc := 113) C dX12_wordAt_113 5 rfl ?_
              refine s_iconst (pc := 115) C dX12_wordAt_115 ?_
              refine s_iadd (pc := 116) C dX12_wordAt_116 ?_
              refine s_iadd (pc := 117) C dX12_wordAt_117 ?_
              refine s_istore (pc := 118) C [(4, vI (f + (n + 1))), (0, .ref (ad 0)), (1, vI a), (2, vI b), (3, vI k), (5, vI n), (6, vI sm), (7, vI i)] dX12_wordAt_118 (by decide) rfl ?_
              refine s_iinc (pc := 120) C [(3, vI (k + 1)), (4, vI (f + (n + 1))), (0, .ref (ad 0)), (1, vI a), (2, vI b), (5, vI n), (6, vI sm), (7, vI i)] dX12_wordAt_120 4 rfl (by decide) rfl ?_
              refine s_goto (pc := 123) C (tgt := 5) dX12_wordAt_123 (by decide) ?_
              refine s_sub C [2, 3, 4, 0, 1] [(0, .ref (ad 0)), (1, vI a), (2, vI b), (3, vI (k + 1)), (4, vI (f + (n + 1)))] rfl ?_
              have hi5 : WFo (k + 1) (f + (n + 1)) := hWF n (by omega)
              exact ih5 (k + 1, f + (n + 1)) (by first | omega | (simp only []; omega)) hi5
            · skip
              refine s_iload_n (pc := 109) C dX12_wordAt_109 3 rfl ?_
              refine s_iret (pc := 110) C dX12_wordAt_110 ?_
              refine ⟨_, rfl, ?_⟩
              exact ⟨rfl, by first | omega | assumption | (constructor <;> omega) | (refine ⟨⟨?_, ?_⟩, ?_⟩ <;> omega) | (simp [hs_ss, hs_up]; omega) | (simp [hs_ss, hs_up]; done)⟩
          · skip
            refine s_iload (pc := 64) C dX12_wordAt_64 6 rfl ?_
            refine s_if_eq (pc := 66) C (tgt := 104) dX12_wordAt_66 (by decide) ⟨by omega, by omega⟩ (fun h66 => ?_) (fun h66 => ?_)
            · skip
              refine s_iload (pc := 104) C dX12_wordAt_104 6 rfl ?_
              refine s_if_eq (pc := 106) C (tgt := 111) dX12_wordAt_106 (by decide) ⟨by omega, by omega⟩ (fun h106 => ?_) (fun h106 => ?_)
              · skip
                refine s_iload (pc := 111) C dX12_wordAt_111 4 rfl ?_
                refine s_iload (pc := 113) C dX12_wordAt_113 5 rfl ?_
                refine s_iconst (pc := 115) C dX12_wordAt_115 ?_
                refine s_iadd (pc := 116) C dX12_wordAt_116 ?_
                refine s_iadd (pc := 117) C dX12_wordAt_117 ?_
                refine s_istore (pc := 118) C [(4, vI (f + (n + 1))), (0, .ref (ad 0)), (1, vI a), (2, vI b), (3, vI k), (5, vI n), (6, vI sm), (7, vI i)] dX12_wordAt_118 (by decide) rfl ?_
                refine s_iinc (pc := 120) C [(3, vI (k + 1)), (4, vI (f + (n + 1))), (0, .ref (ad 0)), (1, vI a), (2, vI b), (5, vI n), (6, vI sm), (7, vI i)] dX12_wordAt_120 4 rfl (by decide) rfl ?_
                refine s_goto (pc := 123) C (tgt := 5) dX12_wordAt_123 (by decide) ?_
                refine s_sub C [2, 3, 4, 0, 1] [(0, .ref (ad 0)), (1, vI a), (2, vI b), (3, vI (k + 1)), (4, vI (f + (n + 1)))] rfl ?_
                have hi5 : WFo (k + 1) (f + (n + 1)) := hWF n (by omega)
                exact ih5 (k + 1, f + (n + 1)) (by first | omega | (simp only []; omega)) hi5
              · skip
                refine s_iload_n (pc := 109) C dX12_wordAt_109 3 rfl ?_
                refine s_iret (pc := 110) C dX12_wordAt_110 ?_
                refine ⟨_, rfl, ?_⟩
                exact ⟨rfl, by first | omega | assumption | (constructor <;> omega) | (refine ⟨⟨?_, ?_⟩, ?_⟩ <;> omega) | (simp [hs_ss, hs_up]; omega) | (simp [hs_ss, hs_up]; done)⟩
            · skip
              refine s_aload_n (pc := 69) C dX12_wordAt_69 0 rfl ?_
              refine s_getr (q := 0) (ci := 12) (N := 68) (CN := RX12) (T := TX12) (pc := 70) C 24 dX12_wordAt_70 wlX12_53 rfl rfl rfl wfX12 (by decide) rfl ?_
              refine s_iload (pc := 73) C dX12_wordAt_73 4 rfl ?_
              refine s_iload (pc := 75) C dX12_wordAt_75 7 rfl ?_
              refine s_iadd (pc := 77) C dX12_wordAt_77 ?_
              refine s_iald (q := 14) (n := 36) (pc := 78) C (σ 14 ((f + i).toNat)) rfl dX12_wordAt_78 rfl (by omega) (by omega) (by decide) ?_
              have hb78 := wo_b g0.1 (f + i).toNat (by omega)
              refine s_aload_n (pc := 79) C dX12_wordAt_79 0 rfl ?_
              refine s_getr (q := 0) (ci := 12) (N := 68) (CN := RX12) (T := TX12) (pc := 80) C 0 dX12_wordAt_80 wlX12_7 rfl rfl rfl wfX12 (by decide) rfl ?_
              refine s_iload_n (pc := 83) C dX12_wordAt_83 1 rfl ?_
              refine s_iload (pc := 84) C dX12_wordAt_84 7 rfl ?_
              refine s_iadd (pc := 86) C dX12_wordAt_86 ?_
              refine s_iald (q := 1) (n := 500) (pc := 87) C (σ 1 ((a + i).toNat)) rfl dX12_wordAt_87 rfl (by omega) (by omega) (by decide) ?_
              have b87 : (0 : Int) ≤ σ 1 ((a + i).toNat) ∧ σ 1 ((a + i).toNat) ≤ 255 := g0.1 1 ((a + i).toNat)
              refine s_icmp_ne (pc := 88) C (tgt := 95) dX12_wordAt_88 (by decide) ⟨by omega, by omega⟩ ⟨by omega, by omega⟩ (fun h88 => ?_) (fun h88 => ?_)
              · skip
                refine s_iconst (pc := 95) C dX12_wordAt_95 ?_
                refine s_istore (pc := 96) C [(6, vI 0), (0, .ref (ad 0)), (1, vI a), (2, vI b), (3, vI k), (4, vI f), (5, vI n), (7, vI i)] dX12_wordAt_96 (by decide) rfl ?_
                refine s_iinc (pc := 98) C [(7, vI (i + 1)), (6, vI 0), (0, .ref (ad 0)), (1, vI a), (2, vI b), (3, vI k), (4, vI f), (5, vI n)] dX12_wordAt_98 7 rfl (by decide) rfl ?_
                refine s_goto (pc := 101) C (tgt := 57) dX12_wordAt_101 (by decide) ?_
                refine s_sub C [2, 3, 4, 5, 6, 7, 1, 0] [(0, .ref (ad 0)), (1, vI a), (2, vI b), (3, vI k), (4, vI f), (5, vI n), (6, vI 0), (7, vI (i + 1))] rfl ?_
                have hi57 : 0 ≤ (i + 1) ∧ (i + 1) ≤ n ∧ ((0 : Int) = 0 ∨ (0 : Int) = 1) ∧ ((0 : Int) = 1 → n = b - a) := (by first | omega | assumption | (constructor <;> omega) | (refine ⟨⟨?_, ?_⟩, ?_⟩ <;> omega) | (simp [hs_ss, hs_up]; omega) | (simp [hs_ss, hs_up]; done))
                exact ih57 (i + 1, 0) (by first | omega | (simp only []; omega)) hi57
              · skip
                refine s_iconst (pc := 91) C dX12_wordAt_91 ?_
                refine s_goto (pc := 92) C (tgt := 96) dX12_wordAt_92 (by decide) ?_
                refine s_istore (pc := 96) C [(6, vI 1), (0, .ref (ad 0)), (1, vI a), (2, vI b), (3, vI k), (4, vI f), (5, vI n), (7, vI i)] dX12_wordAt_96 (by decide) rfl ?_
                refine s_iinc (pc := 98) C [(7, vI (i + 1)), (6, vI 1), (0, .ref (ad 0)), (1, vI a), (2, vI b), (3, vI k), (4, vI f), (5, vI n)] dX12_wordAt_98 7 rfl (by decide) rfl ?_
                refine s_goto (pc := 101) C (tgt := 57) dX12_wordAt_101 (by decide) ?_
                refine s_sub C [2, 3, 4, 5, 6, 7, 1, 0] [(0, .ref (ad 0)), (1, vI a), (2, vI b), (3, vI k), (4, vI f), (5, vI n), (6, vI 1), (7, vI (i + 1))] rfl ?_
                have hi57 : 0 ≤ (i + 1) ∧ (i + 1) ≤ n ∧ ((1 : Int) = 0 ∨ (1 : Int) = 1) ∧ ((1 : Int) = 1 → n = b - a) := (by first | omega | assumption | (constructor <;> omega) | (refine ⟨⟨?_, ?_⟩, ?_⟩ <;> omega) | (simp [hs_ss, hs_up]; omega) | (simp [hs_ss, hs_up]; done))
                exact ih57 (i + 1, 1) (by first | omega | (simp only []; omega)) hi57
        · skip
          refine s_iconst (pc := 47) C dX12_wordAt_47 ?_
          refine s_goto (pc := 48) C (tgt := 52) dX12_wordAt_48 (by decide) ?_
          refine s_istore (pc := 52) C [(6, vI 1), (0, .ref (ad 0)), (1, vI a), (2, vI b), (3, vI k), (4, vI f), (5, vI n)] dX12_wordAt_52 (by decide) rfl ?_
          refine s_iconst (pc := 54) C dX12_wordAt_54 ?_
          refine s_istore (pc := 55) C [(7, vI 0), (6, vI 1), (0, .ref (ad 0)), (1, vI a), (2, vI b), (3, vI k), (4, vI f), (5, vI n)] dX12_wordAt_55 (by decide) rfl ?_
          refine s_sub C [2, 3, 4, 5, 6, 7, 1, 0] [(0, .ref (ad 0)), (1, vI a), (2, vI b), (3, vI k), (4, vI f), (5, vI n), (6, vI 1), (7, vI 0)] rfl ?_
          have hi57 : 0 ≤ (0 : Int) ∧ (0 : Int) ≤ n ∧ ((1 : Int) = 0 ∨ (1 : Int) = 1) ∧ ((1 : Int) = 1 → n = b - a) := (by first | omega | assumption | (constructor <;> omega) | (refine ⟨⟨?_, ?_⟩, ?_⟩ <;> omega) | (simp [hs_ss, hs_up]; omega) | (simp [hs_ss, hs_up]; done))
          refine hs_loop (α := Int × Int) (fun x_ => (0 ≤ x_.1 ∧ x_.1 ≤ n ∧ (x_.2 = 0 ∨ x_.2 = 1) ∧ (x_.2 = 1 → n = b - a)) → hs_Wd p l e 1 s m args below meth c D dA SHY ad A 8 (hs_PI (fun σ z σ1 => σ = σ1 ∧ -1 ≤ z ∧ z ≤ 6) σ) 57 [(0, .ref (ad 0)), (1, vI a), (2, vI b), (3, vI k), (4, vI f), (5, vI n), (6, vI x_.2), (7, vI x_.1)] [] σ) (fun x_ => (40 - x_.1).toNat) ?_ (0, 1) hi57
          rintro ⟨i, sm⟩ ih57 hinv
          replace hinv : 0 ≤ i ∧ i ≤ n ∧ (sm = 0 ∨ sm = 1) ∧ (sm = 1 → n = b - a) := hinv
          show hs_Wd p l e 1 s m args below meth c D dA SHY ad A 8 (hs_PI (fun σ z σ1 => σ = σ1 ∧ -1 ≤ z ∧ z ≤ 6) σ) 57 [(0, .ref (ad 0)), (1, vI a), (2, vI b), (3, vI k), (4, vI f), (5, vI n), (6, vI sm), (7, vI i)] [] σ
          refine s_iload (pc := 57) C dX12_wordAt_57 7 rfl ?_
          refine s_iload (pc := 59) C dX12_wordAt_59 5 rfl ?_
          refine s_icmp_ge (pc := 61) C (tgt := 104) dX12_wordAt_61 (by decide) ⟨by omega, by omega⟩ ⟨by omega, by omega⟩ (fun h61 => ?_) (fun h61 => ?_)
          · skip
            refine s_iload (pc := 104) C dX12_wordAt_104 6 rfl ?_
            refine s_if_eq (pc := 106) C (tgt := 111) dX12_wordAt_106 (by decide) ⟨by omega, by omega⟩ (fun h106 => ?_) (fun h106 => ?_)
            · skip
              refine s_iload (pc := 111) C dX12_wordAt_111 4 rfl ?_
              refine s_iload (pc := 113) C dX12_wordAt_113 5 rfl ?_
              refine s_iconst (pc := 115) C dX12_wordAt_115 ?_
              refine s_iadd (pc := 116) C dX12_wordAt_116 ?_
              refine s_iadd (pc := 117) C dX12_wordAt_117 ?_
              refine s_istore (pc := 118) C [(4, vI (f + (n + 1))), (0, .ref (ad 0)), (1, vI a), (2, vI b), (3, vI k), (5, vI n), (6, vI sm), (7, vI i)] dX12_wordAt_118 (by decide) rfl ?_
              refine s_iinc (pc := 120) C [(3, vI (k + 1)), (4, vI (f + (n + 1))), (0, .ref (ad 0)), (1, vI a), (2, vI b), (5, vI n), (6, vI sm), (7, vI i)] dX12_wordAt_120 4 rfl (by decide) rfl ?_
              refine s_goto (pc := 123) C (tgt := 5) dX12_wordAt_123 (by decide) ?_
              refine s_sub C [2, 3, 4, 0, 1] [(0, .ref (ad 0)), (1, vI a), (2, vI b), (3, vI (k + 1)), (4, vI (f + (n + 1)))] rfl ?_
              have hi5 : WFo (k + 1) (f + (n + 1)) := hWF n (by omega)
              exact ih5 (k + 1, f + (n + 1)) (by first | omega | (simp only []; omega)) hi5
            · skip
              refine s_iload_n (pc := 109) C dX12_wordAt_109 3 rfl ?_
              refine s_iret (pc := 110) C dX12_wordAt_110 ?_
              refine ⟨_, rfl, ?_⟩
              exact ⟨rfl, by first | omega | assumption | (constructor <;> omega) | (refine ⟨⟨?_, ?_⟩, ?_⟩ <;> omega) | (simp [hs_ss, hs_up]; omega) | (simp [hs_ss, hs_up]; done)⟩
          · skip
            refine s_iload (pc := 64) C dX12_wordAt_64 6 rfl ?_
            refine s_if_eq (pc := 66) C (tgt := 104) dX12_wordAt_66 (by decide) ⟨by omega, by omega⟩ (fun h66 => ?_) (fun h66 => ?_)
            · skip
              refine s_iload (pc := 104) C dX12_wordAt_104 6 rfl ?_
              refine s_if_eq (pc := 106) C (tgt := 111) dX12_wordAt_106 (by decide) ⟨by omega, by omega⟩ (fun h106 => ?_) (fun h106 => ?_)
              · skip
                refine s_iload (pc := 111) C dX12_wordAt_111 4 rfl ?_
                refine s_iload (pc := 113) C dX12_wordAt_113 5 rfl ?_
                refine s_iconst (pc := 115) C dX12_wordAt_115 ?_
                refine s_iadd (pc := 116) C dX12_wordAt_116 ?_
                refine s_iadd (pc := 117) C dX12_wordAt_117 ?_
                refine s_istore (pc := 118) C [(4, vI (f + (n + 1))), (0, .ref (ad 0)), (1, vI a), (2, vI b), (3, vI k), (5, vI n), (6, vI sm), (7, vI i)] dX12_wordAt_118 (by decide) rfl ?_
                refine s_iinc (pc := 120) C [(3, vI (k + 1)), (4, vI (f + (n + 1))), (0, .ref (ad 0)), (1, vI a), (2, vI b), (5, vI n), (6, vI sm), (7, vI i)] dX12_wordAt_120 4 rfl (by decide) rfl ?_
                refine s_goto (pc := 123) C (tgt := 5) dX12_wordAt_123 (by decide) ?_
                refine s_sub C [2, 3, 4, 0, 1] [(0, .ref (ad 0)), (1, vI a), (2, vI b), (3, vI (k + 1)), (4, vI (f + (n + 1)))] rfl ?_
                have hi5 : WFo (k + 1) (f + (n + 1)) := hWF n (by omega)
                exact ih5 (k + 1, f + (n + 1)) (by first | omega | (simp only []; omega)) hi5
              · skip
                refine s_iload_n (pc := 109) C dX12_wordAt_109 3 rfl ?_
                refine s_iret (pc := 110) C dX12_wordAt_110 ?_
                refine ⟨_, rfl, ?_⟩
                exact ⟨rfl, by first | omega | assumption | (constructor <;> omega) | (refine ⟨⟨?_, ?_⟩, ?_⟩ <;> omega) | (simp [hs_ss, hs_up]; omega) | (simp [hs_ss, hs_up]; done)⟩
            · skip
              refine s_aload_n (pc := 69) C dX12_wordAt_69 0 rfl ?_
              refine s_getr (q := 0) (ci := 12) (N := 68) (CN := RX12) (T := TX12) (pc := 70) C 24 dX12_wordAt_70 wlX12_53 rfl rfl rfl wfX12 (by decide) rfl ?_
              refine s_iload (pc := 73) C dX12_wordAt_73 4 rfl ?_
              refine s_iload (pc := 75) C dX12_wordAt_75 7 rfl ?_
              refine s_iadd (pc := 77) C dX12_wordAt_77 ?_
              refine s_iald (q := 14) (n := 36) (pc := 78) C (σ 14 ((f + i).toNat)) rfl dX12_wordAt_78 rfl (by omega) (by omega) (by decide) ?_
              have hb78 := wo_b g0.1 (f + i).toNat (by omega)
              refine s_aload_n (pc := 79) C dX12_wordAt_79 0 rfl ?_
              refine s_getr (q := 0) (ci := 12) (N := 68) (CN := RX12) (T := TX12) (pc := 80) C 0 dX12_wordAt_80 wlX12_7 rfl rfl rfl wfX12 (by decide) rfl ?_
              refine s_iload_n (pc := 83) C dX12_wordAt_83 1 rfl ?_
              refine s_iload (pc := 84) C dX12_wordAt_84 7 rfl ?_
              refine s_iadd (pc := 86) C dX12_wordAt_86 ?_
              refine s_iald (q := 1) (n := 500) (pc := 87) C (σ 1 ((a + i).toNat)) rfl dX12_wordAt_87 rfl (by omega) (by omega) (by decide) ?_
              have b87 : (0 : Int) ≤ σ 1 ((a + i).toNat) ∧ σ 1 ((a + i).toNat) ≤ 255 := g0.1 1 ((a + i).toNat)
              refine s_icmp_ne (pc := 88) C (tgt := 95) dX12_wordAt_88 (by decide) ⟨by omega, by omega⟩ ⟨by omega, by omega⟩ (fun h88 => ?_) (fun h88 => ?_)
              · skip
                refine s_iconst (pc := 95) C dX12_wordAt_95 ?_
                refine s_istore (pc := 96) C [(6, vI 0), (0, .ref (ad 0)), (1, vI a), (2, vI b), (3, vI k), (4, vI f), (5, vI n), (7, vI i)] dX12_wordAt_96 (by decide) rfl ?_
                refine s_iinc (pc := 98) C [(7, vI (i + 1)), (6, vI 0), (0, .ref (ad 0)), (1, vI a), (2, vI b), (3, vI k), (4, vI f), (5, vI n)] dX12_wordAt_98 7 rfl (by decide) rfl ?_
                refine s_goto (pc := 101) C (tgt := 57) dX12_wordAt_101 (by decide) ?_
                refine s_sub C [2, 3, 4, 5, 6, 7, 1, 0] [(0, .ref (ad 0)), (1, vI a), (2, vI b), (3, vI k), (4, vI f), (5, vI n), (6, vI 0), (7, vI (i + 1))] rfl ?_
                have hi57 : 0 ≤ (i + 1) ∧ (i + 1) ≤ n ∧ ((0 : Int) = 0 ∨ (0 : Int) = 1) ∧ ((0 : Int) = 1 → n = b - a) := (by first | omega | assumption | (constructor <;> omega) | (refine ⟨⟨?_, ?_⟩, ?_⟩ <;> omega) | (simp [hs_ss, hs_up]; omega) | (simp [hs_ss, hs_up]; done))
                exact ih57 (i + 1, 0) (by first | omega | (simp only []; omega)) hi57
              · skip
                refine s_iconst (pc := 91) C dX12_wordAt_91 ?_
                refine s_goto (pc := 92) C (tgt := 96) dX12_wordAt_92 (by decide) ?_
                refine s_istore (pc := 96) C [(6, vI 1), (0, .ref (ad 0)), (1, vI a), (2, vI b), (3, vI k), (4, vI f), (5, vI n), (7, vI i)] dX12_wordAt_96 (by decide) rfl ?_
                refine s_iinc (pc := 98) C [(7, vI (i + 1)), (6, vI 1), (0, .ref (ad 0)), (1, vI a), (2, vI b), (3, vI k), (4, vI f), (5, vI n)] dX12_wordAt_98 7 rfl (by decide) rfl ?_
                refine s_goto (pc := 101) C (tgt := 57) dX12_wordAt_101 (by decide) ?_
                refine s_sub C [2, 3, 4, 5, 6, 7, 1, 0] [(0, .ref (ad 0)), (1, vI a), (2, vI b), (3, vI k), (4, vI f), (5, vI n), (6, vI 1), (7, vI (i + 1))] rfl ?_
                have hi57 : 0 ≤ (i + 1) ∧ (i + 1) ≤ n ∧ ((1 : Int) = 0 ∨ (1 : Int) = 1) ∧ ((1 : Int) = 1 → n = b - a) := (by first | omega | assumption | (constructor <;> omega) | (refine ⟨⟨?_, ?_⟩, ?_⟩ <;> omega) | (simp [hs_ss, hs_up]; omega) | (simp [hs_ss, hs_up]; done))
                exact ih57 (i + 1, 1) (by first | omega | (simp only []; omega)) hi57
      · skip
        refine s_iinc (pc := 33) C [(5, vI (n + 1)), (0, .ref (ad 0)), (1, vI a), (2, vI b), (3, vI k), (4, vI f)] dX12_wordAt_33 5 rfl (by decide) rfl ?_
        refine s_goto (pc := 36) C (tgt := 18) dX12_wordAt_36 (by decide) ?_
        refine s_sub C [1, 2, 3, 4, 5, 0] [(0, .ref (ad 0)), (1, vI a), (2, vI b), (3, vI k), (4, vI f), (5, vI (n + 1))] rfl ?_
        have hi18 : 0 ≤ (n + 1) ∧ f + (n + 1) ≤ E := (by first | omega | assumption | (constructor <;> omega) | (refine ⟨⟨?_, ?_⟩, ?_⟩ <;> omega) | (simp [hs_ss, hs_up]; omega) | (simp [hs_ss, hs_up]; done))
        exact ih18 (n + 1) (by first | omega | (simp only []; omega)) hi18
    · skip
      obtain ⟨E, hE⟩ : ∃ E : Int, E = 15 := ⟨_, rfl⟩
      have hW := wo_seg (f := f) (E := E) g0.1 11 15 (by omega) (by omega) (by decide) wo_d2
      have hWF : ∀ n : Int, f + n = E → WFo (k + 1) (f + (n + 1)) := fun n hn => Or.inr (Or.inr (Or.inr (Or.inl ⟨by omega, by omega⟩)))
      refine s_iconst (pc := 15) C dX12_wordAt_15 ?_
      refine s_istore (pc := 16) C [(5, vI 0), (0, .ref (ad 0)), (1, vI a), (2, vI b), (3, vI k), (4, vI f)] dX12_wordAt_16 (by decide) rfl ?_
      refine s_sub C [1, 2, 3, 4, 5, 0] [(0, .ref (ad 0)), (1, vI a), (2, vI b), (3, vI k), (4, vI f), (5, vI 0)] rfl ?_
      have hi18 : 0 ≤ (0 : Int) ∧ f + (0 : Int) ≤ E := (by first | omega | assumption | (constructor <;> omega) | (refine ⟨⟨?_, ?_⟩, ?_⟩ <;> omega) | (simp [hs_ss, hs_up]; omega) | (simp [hs_ss, hs_up]; done))
      refine hs_loop (α := Int) (fun x_ => (0 ≤ x_ ∧ f + x_ ≤ E) → hs_Wd p l e 1 s m args below meth c D dA SHY ad A 8 (hs_PI (fun σ z σ1 => σ = σ1 ∧ -1 ≤ z ∧ z ≤ 6) σ) 18 [(0, .ref (ad 0)), (1, vI a), (2, vI b), (3, vI k), (4, vI f), (5, vI x_)] [] σ) (fun x_ => (40 - x_).toNat) ?_ (0) hi18
      rintro n ih18 hinv
      replace hinv : 0 ≤ n ∧ f + n ≤ E := hinv
      show hs_Wd p l e 1 s m args below meth c D dA SHY ad A 8 (hs_PI (fun σ z σ1 => σ = σ1 ∧ -1 ≤ z ∧ z ≤ 6) σ) 18 [(0, .ref (ad 0)), (1, vI a), (2, vI b), (3, vI k), (4, vI f), (5, vI n)] [] σ
      refine s_aload_n (pc := 18) C dX12_wordAt_18 0 rfl ?_
      refine s_getr (q := 0) (ci := 12) (N := 68) (CN := RX12) (T := TX12) (pc := 19) C 24 dX12_wordAt_19 wlX12_53 rfl rfl rfl wfX12 (by decide) rfl ?_
      refine s_iload (pc := 22) C dX12_wordAt_22 4 rfl ?_
      refine s_iload (pc := 24) C dX12_wordAt_24 5 rfl ?_
      refine s_iadd (pc := 26) C dX12_wordAt_26 ?_
      refine s_iald (q := 14) (n := 36) (pc := 27) C (σ 14 ((f + n).toNat)) rfl dX12_wordAt_27 rfl (by omega) (by omega) (by decide) ?_
      have hb27 := wo_b g0.1 (f + n).toNat (by omega)
      have hw27 := hW n (by omega) (by omega)
      refine s_bipush (pc := 28) C dX12_wordAt_28 (by decide) ?_
      refine s_icmp_eq (pc := 30) C (tgt := 39) dX12_wordAt_30 (by decide) ⟨by omega, by omega⟩ ⟨by decide, by decide⟩ (fun h30 => ?_) (fun h30 => ?_)
      · skip
        refine s_iload (pc := 39) C dX12_wordAt_39 5 rfl ?_
        refine s_iload_n (pc := 41) C dX12_wordAt_41 2 rfl ?_
        refine s_iload_n (pc := 42) C dX12_wordAt_42 1 rfl ?_
        refine s_isub (pc := 43) C dX12_wordAt_43 ?_
        refine s_icmp_ne (pc := 44) C (tgt := 51) dX12_wordAt_44 (by decide) ⟨by omega, by omega⟩ ⟨by omega, by omega⟩ (fun h44 => ?_) (fun h44 => ?_)
        · skip
          refine s_iconst (pc := 51) C dX12_wordAt_51 ?_
          refine s_istore (pc := 52) C [(6, vI 0), (0, .ref (ad 0)), (1, vI a), (2, vI b), (3, vI k), (4, vI f), (5, vI n)] dX12_wordAt_52 (by decide) rfl ?_
          refine s_iconst (pc := 54) C dX12_wordAt_54 ?_
          refine s_istore (pc := 55) C [(7, vI 0), (6, vI 0), (0, .ref (ad 0)), (1, vI a), (2, vI b), (3, vI k), (4, vI f), (5, vI n)] dX12_wordAt_55 (by decide) rfl ?_
          refine s_sub C [2, 3, 4, 5, 6, 7, 1, 0] [(0, .ref (ad 0)), (1, vI a), (2, vI b), (3, vI k), (4, vI f), (5, vI n), (6, vI 0), (7, vI 0)] rfl ?_
          have hi57 : 0 ≤ (0 : Int) ∧ (0 : Int) ≤ n ∧ ((0 : Int) = 0 ∨ (0 : Int) = 1) ∧ ((0 : Int) = 1 → n = b - a) := (by first | omega | assumption | (constructor <;> omega) | (refine ⟨⟨?_, ?_⟩, ?_⟩ <;> omega) | (simp [hs_ss, hs_up]; omega) | (simp [hs_ss, hs_up]; done))
          refine hs_loop (α := Int × Int) (fun x_ => (0 ≤ x_.1 ∧ x_.1 ≤ n ∧ (x_.2 = 0 ∨ x_.2 = 1) ∧ (x_.2 = 1 → n = b - a)) → hs_Wd p l e 1 s m args below meth c D dA SHY ad A 8 (hs_PI (fun σ z σ1 => σ = σ1 ∧ -1 ≤ z ∧ z ≤ 6) σ) 57 [(0, .ref (ad 0)), (1, vI a), (2, vI b), (3, vI k), (4, vI f), (5, vI n), (6, vI x_.2), (7, vI x_.1)] [] σ) (fun x_ => (40 - x_.1).toNat) ?_ (0, 0) hi57
          rintro ⟨i, sm⟩ ih57 hinv
          replace hinv : 0 ≤ i ∧ i ≤ n ∧ (sm = 0 ∨ sm = 1) ∧ (sm = 1 → n = b - a) := hinv
          show hs_Wd p l e 1 s m args below meth c D dA SHY ad A 8 (hs_PI (fun σ z σ1 => σ = σ1 ∧ -1 ≤ z ∧ z ≤ 6) σ) 57 [(0, .ref (ad 0)), (1, vI a), (2, vI b), (3, vI k), (4, vI f), (5, vI n), (6, vI sm), (7, vI i)] [] σ
          refine s_iload (pc := 57) C dX12_wordAt_57 7 rfl ?_
          refine s_iload (pc := 59) C dX12_wordAt_59 5 rfl ?_
          refine s_icmp_ge (pc := 61) C (tgt := 104) dX12_wordAt_61 (by decide) ⟨by omega, by omega⟩ ⟨by omega, by omega⟩ (fun h61 => ?_) (fun h61 => ?_)
          · skip
            refine s_iload (pc := 104) C dX12_wordAt_104 6 rfl ?_
            refine s_if_eq (pc := 106) C (tgt := 111) dX12_wordAt_106 (by decide) ⟨by omega, by omega⟩ (fun h106 => ?_) (fun h106 => ?_)
            · skip
              refine s_iload (pc := 111) C dX12_wordAt_111 4 rfl ?_
              refine s_iload (pc := 113) C dX12_wordAt_113 5 rfl ?_
              refine s_iconst (pc := 115) C dX12_wordAt_115 ?_
              refine s_iadd (pc := 116) C dX12_wordAt_116 ?_
              refine s_iadd (pc := 117) C dX12_wordAt_117 ?_
              refine s_istore (pc := 118) C [(4, vI (f + (n + 1))), (0, .ref (ad 0)), (1, vI a), (2, vI b), (3, vI k), (5, vI n), (6, vI sm), (7, vI i)] dX12_wordAt_118 (by decide) rfl ?_
              refine s_iinc (pc := 120) C [(3, vI (k + 1)), (4, vI (f + (n + 1))), (0, .ref (ad 0)), (1, vI a), (2, vI b), (5, vI n), (6, vI sm), (7, vI i)] dX12_wordAt_120 4 rfl (by decide) rfl ?_
              refine s_goto (pc := 123) C (tgt := 5) dX12_wordAt_123 (by decide) ?_
              refine s_sub C [2, 3, 4, 0, 1] [(0, .ref (ad 0)), (1, vI a), (2, vI b), (3, vI (k + 1)), (4, vI (f + (n + 1)))] rfl ?_
              have hi5 : WFo (k + 1) (f + (n + 1)) := hWF n (by omega)
              exact ih5 (k + 1, f + (n + 1)) (by first | omega | (simp only []; omega)) hi5
            · skip
              refine s_iload_n (pc := 109) C dX12_wordAt_109 3 rfl ?_
              refine s_iret (pc := 110) C dX12_wordAt_110 ?_
              refine ⟨_, rfl, ?_⟩
              exact ⟨rfl, by first | omega | assumption | (constructor <;> omega) | (refine ⟨⟨?_, ?_⟩, ?_⟩ <;> omega) | (simp [hs_ss, hs_up]; omega) | (simp [hs_ss, hs_up]; done)⟩
          · skip
            refine s_iload (pc := 64) C dX12_wordAt_64 6 rfl ?_
            refine s_if_eq (pc := 66) C (tgt := 104) dX12_wordAt_66 (by decide) ⟨by omega, by omega⟩ (fun h66 => ?_) (fun h66 => ?_)
            · skip
              refine s_iload (pc := 104) C dX12_wordAt_104 6 rfl ?_
              refine s_if_eq (pc := 106) C (tgt := 111) dX12_wordAt_106 (by decide) ⟨by omega, by omega⟩ (fun h106 => ?_) (fun h106 => ?_)
              · skip
                refine s_iload (pc := 111) C dX12_wordAt_111 4 rfl ?_
                refine s_iload (pc := 113) C dX12_wordAt_113 5 rfl ?_
                refine s_iconst (pc := 115) C dX12_wordAt_115 ?_
                refine s_iadd (pc := 116) C dX12_wordAt_116 ?_
                refine s_iadd (pc := 117) C dX12_wordAt_117 ?_
                refine s_istore (pc := 118) C [(4, vI (f + (n + 1))), (0, .ref (ad 0)), (1, vI a), (2, vI b), (3, vI k), (5, vI n), (6, vI sm), (7, vI i)] dX12_wordAt_118 (by decide) rfl ?_
                refine s_iinc (pc := 120) C [(3, vI (k + 1)), (4, vI (f + (n + 1))), (0, .ref (ad 0)), (1, vI a), (2, vI b), (5, vI n), (6, vI sm), (7, vI i)] dX12_wordAt_120 4 rfl (by decide) rfl ?_
                refine s_goto (pc := 123) C (tgt := 5) dX12_wordAt_123 (by decide) ?_
                refine s_sub C [2, 3, 4, 0, 1] [(0, .ref (ad 0)), (1, vI a), (2, vI b), (3, vI (k + 1)), (4, vI (f + (n + 1)))] rfl ?_
                have hi5 : WFo (k + 1) (f + (n + 1)) := hWF n (by omega)
                exact ih5 (k + 1, f + (n + 1)) (by first | omega | (simp only []; omega)) hi5
              · skip
                refine s_iload_n (pc := 109) C dX12_wordAt_109 3 rfl ?_
                refine s_iret (pc := 110) C dX12_wordAt_110 ?_
                refine ⟨_, rfl, ?_⟩
                exact ⟨rfl, by first | omega | assumption | (constructor <;> omega) | (refine ⟨⟨?_, ?_⟩, ?_⟩ <;> omega) | (simp [hs_ss, hs_up]; omega) | (simp [hs_ss, hs_up]; done)⟩
            · skip
              refine s_aload_n (pc := 69) C dX12_wordAt_69 0 rfl ?_
              refine s_getr (q := 0) (ci := 12) (N := 68) (CN := RX12) (T := TX12) (pc := 70) C 24 dX12_wordAt_70 wlX12_53 rfl rfl rfl wfX12 (by decide) rfl ?_
              refine s_iload (pc := 73) C dX12_wordAt_73 4 rfl ?_
              refine s_iload (pc := 75) C dX12_wordAt_75 7 rfl ?_
              refine s_iadd (pc := 77) C dX12_wordAt_77 ?_
              refine s_iald (q := 14) (n := 36) (pc := 78) C (σ 14 ((f + i).toNat)) rfl dX12_wordAt_78 rfl (by omega) (by omega) (by decide) ?_
              have hb78 := wo_b g0.1 (f + i).toNat (by omega)
              refine s_aload_n (pc := 79) C dX12_wordAt_79 0 rfl ?_
              refine s_getr (q := 0) (ci := 12) (N := 68) (CN := RX12) (T := TX12) (pc := 80) C 0 dX12_wordAt_80 wlX12_7 rfl rfl rfl wfX12 (by decide) rfl ?_
              refine s_iload_n (pc := 83) C dX12_wordAt_83 1 rfl ?_
              refine s_iload (pc := 84) C dX12_wordAt_84 7 rfl ?_
              refine s_iadd (pc := 86) C dX12_wordAt_86 ?_
              refine s_iald (q := 1) (n := 500) (pc := 87) C (σ 1 ((a + i).toNat)) rfl dX12_wordAt_87 rfl (by omega) (by omega) (by decide) ?_
              have b87 : (0 : Int) ≤ σ 1 ((a + i).toNat) ∧ σ 1 ((a + i).toNat) ≤ 255 := g0.1 1 ((a + i).toNat)
              refine s_icmp_ne (pc := 88) C (tgt := 95) dX12_wordAt_88 (by decide) ⟨by omega, by omega⟩ ⟨by omega, by omega⟩ (fun h88 => ?_) (fun h88 => ?_)
              · skip
                refine s_iconst (pc := 95) C dX12_wordAt_95 ?_
                refine s_istore (pc := 96) C [(6, vI 0), (0, .ref (ad 0)), (1, vI a), (2, vI b), (3, vI k), (4, vI f), (5, vI n), (7, vI i)] dX12_wordAt_96 (by decide) rfl ?_
                refine s_iinc (pc := 98) C [(7, vI (i + 1)), (6, vI 0), (0, .ref (ad 0)), (1, vI a), (2, vI b), (3, vI k), (4, vI f), (5, vI n)] dX12_wordAt_98 7 rfl (by decide) rfl ?_
                refine s_goto (pc := 101) C (tgt := 57) dX12_wordAt_101 (by decide) ?_
                refine s_sub C [2, 3, 4, 5, 6, 7, 1, 0] [(0, .ref (ad 0)), (1, vI a), (2, vI b), (3, vI k), (4, vI f), (5, vI n), (6, vI 0), (7, vI (i + 1))] rfl ?_
                have hi57 : 0 ≤ (i + 1) ∧ (i + 1) ≤ n ∧ ((0 : Int) = 0 ∨ (0 : Int) = 1) ∧ ((0 : Int) = 1 → n = b - a) := (by first | omega | assumption | (constructor <;> omega) | (refine ⟨⟨?_, ?_⟩, ?_⟩ <;> omega) | (simp [hs_ss, hs_up]; omega) | (simp [hs_ss, hs_up]; done))
                exact ih57 (i + 1, 0) (by first | omega | (simp only []; omega)) hi57
              · skip
                refine s_iconst (pc := 91) C dX12_wordAt_91 ?_
                refine s_goto (pc := 92) C (tgt := 96) dX12_wordAt_92 (by decide) ?_
                refine s_istore (pc := 96) C [(6, vI 1), (0, .ref (ad 0)), (1, vI a), (2, vI b), (3, vI k), (4, vI f), (5, vI n), (7, vI i)] dX12_wordAt_96 (by decide) rfl ?_
                refine s_iinc (pc := 98) C [(7, vI (i + 1)), (6, vI 1), (0, .ref (ad 0)), (1, vI a), (2, vI b), (3, vI k), (4, vI f), (5, vI n)] dX12_wordAt_98 7 rfl (by decide) rfl ?_
                refine s_goto (pc := 101) C (tgt := 57) dX12_wordAt_101 (by decide) ?_
                refine s_sub C [2, 3, 4, 5, 6, 7, 1, 0] [(0, .ref (ad 0)), (1, vI a), (2, vI b), (3, vI k), (4, vI f), (5, vI n), (6, vI 1), (7, vI (i + 1))] rfl ?_
                have hi57 : 0 ≤ (i + 1) ∧ (i + 1) ≤ n ∧ ((1 : Int) = 0 ∨ (1 : Int) = 1) ∧ ((1 : Int) = 1 → n = b - a) := (by first | omega | assumption | (constructor <;> omega) | (refine ⟨⟨?_, ?_⟩, ?_⟩ <;> omega) | (simp [hs_ss, hs_up]; omega) | (simp [hs_ss, hs_up]; done))
                exact ih57 (i + 1, 1) (by first | omega | (simp only []; omega)) hi57
        · skip
          refine s_iconst (pc := 47) C dX12_wordAt_47 ?_
          refine s_goto (pc := 48) C (tgt := 52) dX12_wordAt_48 (by decide) ?_
          refine s_istore (pc := 52) C [(6, vI 1), (0, .ref (ad 0)), (1, vI a), (2, vI b), (3, vI k), (4, vI f), (5, vI n)] dX12_wordAt_52 (by decide) rfl ?_
          refine s_iconst (pc := 54) C dX12_wordAt_54 ?_
          refine s_istore (pc := 55) C [(7, vI 0), (6, vI 1), (0, .ref (ad 0)), (1, vI a), (2, vI b), (3, vI k), (4, vI f), (5, vI n)] dX12_wordAt_55 (by decide) rfl ?_
          refine s_sub C [2, 3, 4, 5, 6, 7, 1, 0] [(0, .ref (ad 0)), (1, vI a), (2, vI b), (3, vI k), (4, vI f), (5, vI n), (6, vI 1), (7, vI 0)] rfl ?_
          have hi57 : 0 ≤ (0 : Int) ∧ (0 : Int) ≤ n ∧ ((1 : Int) = 0 ∨ (1 : Int) = 1) ∧ ((1 : Int) = 1 → n = b - a) := (by first | omega | assumption | (constructor <;> omega) | (refine ⟨⟨?_, ?_⟩, ?_⟩ <;> omega) | (simp [hs_ss, hs_up]; omega) | (simp [hs_ss, hs_up]; done))
          refine hs_loop (α := Int × Int) (fun x_ => (0 ≤ x_.1 ∧ x_.1 ≤ n ∧ (x_.2 = 0 ∨ x_.2 = 1) ∧ (x_.2 = 1 → n = b - a)) → hs_Wd p l e 1 s m args below meth c D dA SHY ad A 8 (hs_PI (fun σ z σ1 => σ = σ1 ∧ -1 ≤ z ∧ z ≤ 6) σ) 57 [(0, .ref (ad 0)), (1, vI a), (2, vI b), (3, vI k), (4, vI f), (5, vI n), (6, vI x_.2), (7, vI x_.1)] [] σ) (fun x_ => (40 - x_.1).toNat) ?_ (0, 1) hi57
          rintro ⟨i, sm⟩ ih57 hinv
          replace hinv : 0 ≤ i ∧ i ≤ n ∧ (sm = 0 ∨ sm = 1) ∧ (sm = 1 → n = b - a) := hinv
          show hs_Wd p l e 1 s m args below meth c D dA SHY ad A 8 (hs_PI (fun σ z σ1 => σ = σ1 ∧ -1 ≤ z ∧ z ≤ 6) σ) 57 [(0, .ref (ad 0)), (1, vI a), (2, vI b), (3, vI k), (4, vI f), (5, vI n), (6, vI sm), (7, vI i)] [] σ
          refine s_iload (pc := 57) C dX12_wordAt_57 7 rfl ?_
          refine s_iload (pc := 59) C dX12_wordAt_59 5 rfl ?_
          refine s_icmp_ge (pc := 61) C (tgt := 104) dX12_wordAt_61 (by decide) ⟨by omega, by omega⟩ ⟨by omega, by omega⟩ (fun h61 => ?_) (fun h61 => ?_)
          · skip
            refine s_iload (pc := 104) C dX12_wordAt_104 6 rfl ?_
            refine s_if_eq (pc := 106) C (tgt := 111) dX12_wordAt_106 (by decide) ⟨by omega, by omega⟩ (fun h106 => ?_) (fun h106 => ?_)
            · skip
              refine s_iload (pc := 111) C dX12_wordAt_111 4 rfl ?_
              refine s_iload (pc := 113) C dX12_wordAt_113 5 rfl ?_
              refine s_iconst (pc := 115) C dX12_wordAt_115 ?_
              refine s_iadd (pc := 116) C dX12_wordAt_116 ?_
              refine s_iadd (pc := 117) C dX12_wordAt_117 ?_
              refine s_istore (pc := 118) C [(4, vI (f + (n + 1))), (0, .ref (ad 0)), (1, vI a), (2, vI b), (3, vI k), (5, vI n), (6, vI sm), (7, vI i)] dX12_wordAt_118 (by decide) rfl ?_
              refine s_iinc (pc := 120) C [(3, vI (k + 1)), (4, vI (f + (n + 1))), (0, .ref (ad 0)), (1, vI a), (2, vI b), (5, vI n), (6, vI sm), (7, vI i)] dX12_wordAt_120 4 rfl (by decide) rfl ?_
              refine s_goto (pc := 123) C (tgt := 5) dX12_wordAt_123 (by decide) ?_
              refine s_sub C [2, 3, 4, 0, 1] [(0, .ref (ad 0)), (1, vI a), (2, vI b), (3, vI (k + 1)), (4, vI (f + (n + 1)))] rfl ?_
              have hi5 : WFo (k + 1) (f + (n + 1)) := hWF n (by omega)
              exact ih5 (k + 1, f + (n + 1)) (by first | omega | (simp only []; omega)) hi5
            · skip
              refine s_iload_n (pc := 109) C dX12_wordAt_109 3 rfl ?_
              refine s_iret (pc := 110) C dX12_wordAt_110 ?_
              refine ⟨_, rfl, ?_⟩
              exact ⟨rfl, by first | omega | assumption | (constructor <;> omega) | (refine ⟨⟨?_, ?_⟩, ?_⟩ <;> omega) | (simp [hs_ss, hs_up]; omega) | (simp [hs_ss, hs_up]; done)⟩
          · skip
            refine s_iload (pc := 64) C dX12_wordAt_64 6 rfl ?_
            refine s_if_eq (pc := 66) C (tgt := 104) dX12_wordAt_66 (by decide) ⟨by omega, by omega⟩ (fun h66 => ?_) (fun h66 => ?_)
            · skip
              refine s_iload (pc := 104) C dX12_wordAt_104 6 rfl ?_
              refine s_if_eq (pc := 106) C (tgt := 111) dX12_wordAt_106 (by decide) ⟨by omega, by omega⟩ (fun h106 => ?_) (fun h106 => ?_)
              · skip
                refine s_iload (pc := 111) C dX12_wordAt_111 4 rfl ?_
                refine s_iload (pc := 113) C dX12_wordAt_113 5 rfl ?_
                refine s_iconst (pc := 115) C dX12_wordAt_115 ?_
                refine s_iadd (pc := 116) C dX12_wordAt_116 ?_
                refine s_iadd (pc := 117) C dX12_wordAt_117 ?_
                refine s_istore (pc := 118) C [(4, vI (f + (n + 1))), (0, .ref (ad 0)), (1, vI a), (2, vI b), (3, vI k), (5, vI n), (6, vI sm), (7, vI i)] dX12_wordAt_118 (by decide) rfl ?_
                refine s_iinc (pc := 120) C [(3, vI (k + 1)), (4, vI (f + (n + 1))), (0, .ref (ad 0)), (1, vI a), (2, vI b), (5, vI n), (6, vI sm), (7, vI i)] dX12_wordAt_120 4 rfl (by decide) rfl ?_
                refine s_goto (pc := 123) C (tgt := 5) dX12_wordAt_123 (by decide) ?_
                refine s_sub C [2, 3, 4, 0, 1] [(0, .ref (ad 0)), (1, vI a), (2, vI b), (3, vI (k + 1)), (4, vI (f + (n + 1)))] rfl ?_
                have hi5 : WFo (k + 1) (f + (n + 1)) := hWF n (by omega)
                exact ih5 (k + 1, f + (n + 1)) (by first | omega | (simp only []; omega)) hi5
              · skip
                refine s_iload_n (pc := 109) C dX12_wordAt_109 3 rfl ?_
                refine s_iret (pc := 110) C dX12_wordAt_110 ?_
                refine ⟨_, rfl, ?_⟩
                exact ⟨rfl, by first | omega | assumption | (constructor <;> omega) | (refine ⟨⟨?_, ?_⟩, ?_⟩ <;> omega) | (simp [hs_ss, hs_up]; omega) | (simp [hs_ss, hs_up]; done)⟩
            · skip
              refine s_aload_n (pc := 69) C dX12_wordAt_69 0 rfl ?_
              refine s_getr (q := 0) (ci := 12) (N := 68) (CN := RX12) (T := TX12) (pc := 70) C 24 dX12_wordAt_70 wlX12_53 rfl rfl rfl wfX12 (by decide) rfl ?_
              refine s_iload (pc := 73) C dX12_wordAt_73 4 rfl ?_
              refine s_iload (pc := 75) C dX12_wordAt_75 7 rfl ?_
              refine s_iadd (pc := 77) C dX12_wordAt_77 ?_
              refine s_iald (q := 14) (n := 36) (pc := 78) C (σ 14 ((f + i).toNat)) rfl dX12_wordAt_78 rfl (by omega) (by omega) (by decide) ?_
              have hb78 := wo_b g0.1 (f + i).toNat (by omega)
              refine s_aload_n (pc := 79) C dX12_wordAt_79 0 rfl ?_
              refine s_getr (q := 0) (ci := 12) (N := 68) (CN := RX12) (T := TX12) (pc := 80) C 0 dX12_wordAt_80 wlX12_7 rfl rfl rfl wfX12 (by decide) rfl ?_
              refine s_iload_n (pc := 83) C dX12_wordAt_83 1 rfl ?_
              refine s_iload (pc := 84) C dX12_wordAt_84 7 rfl ?_
              refine s_iadd (pc := 86) C dX12_wordAt_86 ?_
              refine s_iald (q := 1) (n := 500) (pc := 87) C (σ 1 ((a + i).toNat)) rfl dX12_wordAt_87 rfl (by omega) (by omega) (by decide) ?_
              have b87 : (0 : Int) ≤ σ 1 ((a + i).toNat) ∧ σ 1 ((a + i).toNat) ≤ 255 := g0.1 1 ((a + i).toNat)
              refine s_icmp_ne (pc := 88) C (tgt := 95) dX12_wordAt_88 (by decide) ⟨by omega, by omega⟩ ⟨by omega, by omega⟩ (fun h88 => ?_) (fun h88 => ?_)
              · skip
                refine s_iconst (pc := 95) C dX12_wordAt_95 ?_
                refine s_istore (pc := 96) C [(6, vI 0), (0, .ref (ad 0)), (1, vI a), (2, vI b), (3, vI k), (4, vI f), (5, vI n), (7, vI i)] dX12_wordAt_96 (by decide) rfl ?_
                refine s_iinc (pc := 98) C [(7, vI (i + 1)), (6, vI 0), (0, .ref (ad 0)), (1, vI a), (2, vI b), (3, vI k), (4, vI f), (5, vI n)] dX12_wordAt_98 7 rfl (by decide) rfl ?_
                refine s_goto (pc := 101) C (tgt := 57) dX12_wordAt_101 (by decide) ?_
                refine s_sub C [2, 3, 4, 5, 6, 7, 1, 0] [(0, .ref (ad 0)), (1, vI a), (2, vI b), (3, vI k), (4, vI f), (5, vI n), (6, vI 0), (7, vI (i + 1))] rfl ?_
                have hi57 : 0 ≤ (i + 1) ∧ (i + 1) ≤ n ∧ ((0 : Int) = 0 ∨ (0 : Int) = 1) ∧ ((0 : Int) = 1 → n = b - a) := (by first | omega | assumption | (constructor <;> omega) | (refine ⟨⟨?_, ?_⟩, ?_⟩ <;> omega) | (simp [hs_ss, hs_up]; omega) | (simp [hs_ss, hs_up]; done))
                exact ih57 (i + 1, 0) (by first | omega | (simp only []; omega)) hi57
              · skip
                refine s_iconst (pc := 91) C dX12_wordAt_91 ?_
                refine s_goto (pc := 92) C (tgt := 96) dX12_wordAt_92 (by decide) ?_
                refine s_istore (pc := 96) C [(6, vI 1), (0, .ref (ad 0)), (1, vI a), (2, vI b), (3, vI k), (4, vI f), (5, vI n), (7, vI i)] dX12_wordAt_96 (by decide) rfl ?_
                refine s_iinc (pc := 98) C [(7, vI (i + 1)), (6, vI 1), (0, .ref (ad 0)), (1, vI a), (2, vI b), (3, vI k), (4, vI f), (5, vI n)] dX12_wordAt_98 7 rfl (by decide) rfl ?_
                refine s_goto (pc := 101) C (tgt := 57) dX12_wordAt_101 (by decide) ?_
                refine s_sub C [2, 3, 4, 5, 6, 7, 1, 0] [(0, .ref (ad 0)), (1, vI a), (2, vI b), (3, vI k), (4, vI f), (5, vI n), (6, vI 1), (7, vI (i + 1))] rfl ?_
                have hi57 : 0 ≤ (i + 1) ∧ (i + 1) ≤ n ∧ ((1 : Int) = 0 ∨ (1 : Int) = 1) ∧ ((1 : Int) = 1 → n = b - a) := (by first | omega | assumption | (constructor <;> omega) | (refine ⟨⟨?_, ?_⟩, ?_⟩ <;> omega) | (simp [hs_ss, hs_up]; omega) | (simp [hs_ss, hs_up]; done))
                exact ih57 (i + 1, 1) (by first | omega | (simp only []; omega)) hi57
      · skip
        refine s_iinc (pc := 33) C [(5, vI (n + 1)), (0, .ref (ad 0)), (1, vI a), (2, vI b), (3, vI k), (4, vI f)] dX12_wordAt_33 5 rfl (by decide) rfl ?_
        refine s_goto (pc := 36) C (tgt := 18) dX12_wordAt_36 (by decide) ?_
        refine s_sub C [1, 2, 3, 4, 5, 0] [(0, .ref (ad 0)), (1, vI a), (2, vI b), (3, vI k), (4, vI f), (5, vI (n + 1))] rfl ?_
        have hi18 : 0 ≤ (n + 1) ∧ f + (n + 1) ≤ E := (by first | omega | assumption | (constructor <;> omega) | (refine ⟨⟨?_, ?_⟩, ?_⟩ <;> omega) | (simp [hs_ss, hs_up]; omega) | (simp [hs_ss, hs_up]; done))
        exact ih18 (n + 1) (by first | omega | (simp only []; omega)) hi18
    · skip
      obtain ⟨E, hE⟩ : ∃ E : Int, E = 20 := ⟨_, rfl⟩
      have hW := wo_seg (f := f) (E := E) g0.1 16 20 (by omega) (by omega) (by decide) wo_d3
      have hWF : ∀ n : Int, f + n = E → WFo (k + 1) (f + (n + 1)) := fun n hn => Or.inr (Or.inr (Or.inr (Or.inr (Or.inl ⟨by omega, by omega⟩))))
      refine s_iconst (pc := 15) C dX12_wordAt_15 ?_
      refine s_istore (pc := 16) C [(5, vI 0), (0, .ref (ad 0)), (1, vI a), (2, vI b), (3, vI k), (4, vI f)] dX12_wordAt_16 (by decide) rfl ?_
      refine s_sub C [1, 2, 3, 4, 5, 0] [(0, .ref (ad 0)), (1, vI a), (2, vI b), (3, vI k), (4, vI f), (5, vI 0)] rfl ?_
      have hi18 : 0 ≤ (0 : Int) ∧ f + (0 : Int) ≤ E := (by first | omega | assumption | (constructor <;> omega) | (refine ⟨⟨?_, ?_⟩, ?_⟩ <;> omega) | (simp [hs_ss, hs_up]; omega) | (simp [hs_ss, hs_up]; done))
      refine hs_loop (α := Int) (fun x_ => (0 ≤ x_ ∧ f + x_ ≤ E) → hs_Wd p l e 1 s m args below meth c D dA SHY ad A 8 (hs_PI (fun σ z σ1 => σ = σ1 ∧ -1 ≤ z ∧ z ≤ 6) σ) 18 [(0, .ref (ad 0)), (1, vI a), (2, vI b), (3, vI k), (4, vI f), (5, vI x_)] [] σ) (fun x_ => (40 - x_).toNat) ?_ (0) hi18
      rintro n ih18 hinv
      replace hinv : 0 ≤ n ∧ f + n ≤ E := hinv
      show hs_Wd p l e 1 s m args below meth c D dA SHY ad A 8 (hs_PI (fun σ z σ1 => σ = σ1 ∧ -1 ≤ z ∧ z ≤ 6) σ) 18 [(0, .ref (ad 0)), (1, vI a), (2, vI b), (3, vI k), (4, vI f), (5, vI n)] [] σ
      refine s_aload_n (pc := 18) C dX12_wordAt_18 0 rfl ?_
      refine s_getr (q := 0) (ci := 12) (N := 68) (CN := RX12) (T := TX12) (pc := 19) C 24 dX12_wordAt_19 wlX12_53 rfl rfl rfl wfX12 (by decide) rfl ?_
      refine s_iload (pc := 22) C dX12_wordAt_22 4 rfl ?_
      refine s_iload (pc := 24) C dX12_wordAt_24 5 rfl ?_
      refine s_iadd (pc := 26) C dX12_wordAt_26 ?_
      refine s_iald (q := 14) (n := 36) (pc := 27) C (σ 14 ((f + n).toNat)) rfl dX12_wordAt_27 rfl (by omega) (by omega) (by decide) ?_
      have hb27 := wo_b g0.1 (f + n).toNat (by omega)
      have hw27 := hW n (by omega) (by omega)
      refine s_bipush (pc := 28) C dX12_wordAt_28 (by decide) ?_
      refine s_icmp_eq (pc := 30) C (tgt := 39) dX12_wordAt_30 (by decide) ⟨by omega, by omega⟩ ⟨by decide, by decide⟩ (fun h30 => ?_) (fun h30 => ?_)
      · skip
        refine s_iload (pc := 39) C dX12_wordAt_39 5 rfl ?_
        refine s_iload_n (pc := 41) C dX12_wordAt_41 2 rfl ?_
        refine s_iload_n (pc := 42) C dX12_wordAt_42 1 rfl ?_
        refine s_isub (pc := 43) C dX12_wordAt_43 ?_
        refine s_icmp_ne (pc := 44) C (tgt := 51) dX12_wordAt_44 (by decide) ⟨by omega, by omega⟩ ⟨by omega, by omega⟩ (fun h44 => ?_) (fun h44 => ?_)
        · skip
          refine s_iconst (pc := 51) C dX12_wordAt_51 ?_
          refine s_istore (pc := 52) C [(6, vI 0), (0, .ref (ad 0)), (1, vI a), (2, vI b), (3, vI k), (4, vI f), (5, vI n)] dX12_wordAt_52 (by decide) rfl ?_
          refine s_iconst (pc := 54) C dX12_wordAt_54 ?_
          refine s_istore (pc := 55) C [(7, vI 0), (6, vI 0), (0, .ref (ad 0)), (1, vI a), (2, vI b), (3, vI k), (4, vI f), (5, vI n)] dX12_wordAt_55 (by decide) rfl ?_
          refine s_sub C [2, 3, 4, 5, 6, 7, 1, 0] [(0, .ref (ad 0)), (1, vI a), (2, vI b), (3, vI k), (4, vI f), (5, vI n), (6, vI 0), (7, vI 0)] rfl ?_
          have hi57 : 0 ≤ (0 : Int) ∧ (0 : Int) ≤ n ∧ ((0 : Int) = 0 ∨ (0 : Int) = 1) ∧ ((0 : Int) = 1 → n = b - a) := (by first | omega | assumption | (constructor <;> omega) | (refine ⟨⟨?_, ?_⟩, ?_⟩ <;> omega) | (simp [hs_ss, hs_up]; omega) | (simp [hs_ss, hs_up]; done))
          refine hs_loop (α := Int × Int) (fun x_ => (0 ≤ x_.1 ∧ x_.1 ≤ n ∧ (x_.2 = 0 ∨ x_.2 = 1) ∧ (x_.2 = 1 → n = b - a)) → hs_Wd p l e 1 s m args below meth c D dA SHY ad A 8 (hs_PI (fun σ z σ1 => σ = σ1 ∧ -1 ≤ z ∧ z ≤ 6) σ) 57 [(0, .ref (ad 0)), (1, vI a), (2, vI b), (3, vI k), (4, vI f), (5, vI n), (6, vI x_.2), (7, vI x_.1)] [] σ) (fun x_ => (40 - x_.1).toNat) ?_ (0, 0) hi57
          rintro ⟨i, sm⟩ ih57 hinv
          replace hinv : 0 ≤ i ∧ i ≤ n ∧ (sm = 0 ∨ sm = 1) ∧ (sm = 1 → n = b - a) := hinv
          show hs_Wd p l e 1 s m args below meth c D dA SHY ad A 8 (hs_PI (fun σ z σ1 => σ = σ1 ∧ -1 ≤ z ∧ z ≤ 6) σ) 57 [(0, .ref (ad 0)), (1, vI a), (2, vI b), (3, vI k), (4, vI f), (5, vI n), (6, vI sm), (7, vI i)] [] σ
          refine s_iload (pc := 57) C dX12_wordAt_57 7 rfl ?_
          refine s_iload (pc := 59) C dX12_wordAt_59 5 rfl ?_
          refine s_icmp_ge (pc := 61) C (tgt := 104) dX12_wordAt_61 (by decide) ⟨by omega, by omega⟩ ⟨by omega, by omega⟩ (fun h61 => ?_) (fun h61 => ?_)
          · skip
            refine s_iload (pc := 104) C dX12_wordAt_104 6 rfl ?_
            refine s_if_eq (pc := 106) C (tgt := 111) dX12_wordAt_106 (by decide) ⟨by omega, by omega⟩ (fun h106 => ?_) (fun h106 => ?_)
            · skip
              refine s_iload (pc := 111) C dX12_wordAt_111 4 rfl ?_
              refine s_iload (pc := 113) C dX12_wordAt_113 5 rfl ?_
              refine s_iconst (pc := 115) C dX12_wordAt_115 ?_
              refine s_iadd (pc := 116) C dX12_wordAt_116 ?_
              refine s_iadd (pc := 117) C dX12_wordAt_117 ?_
              refine s_istore (pc := 118) C [(4, vI (f + (n + 1))), (0, .ref (ad 0)), (1, vI a), (2, vI b), (3, vI k), (5, vI n), (6, vI sm), (7, vI i)] dX12_wordAt_118 (by decide) rfl ?_
              refine s_iinc (pc := 120) C [(3, vI (k + 1)), (4, vI (f + (n + 1))), (0, .ref (ad 0)), (1, vI a), (2, vI b), (5, vI n), (6, vI sm), (7, vI i)] dX12_wordAt_120 4 rfl (by decide) rfl ?_
              refine s_goto (pc := 123) C (tgt := 5) dX12_wordAt_123 (by decide) ?_
              refine s_sub C [2, 3, 4, 0, 1] [(0, .ref (ad 0)), (1, vI a), (2, vI b), (3, vI (k + 1)), (4, vI (f + (n + 1)))] rfl ?_
              have hi5 : WFo (k + 1) (f + (n + 1)) := hWF n (by omega)
              exact ih5 (k + 1, f + (n + 1)) (by first | omega | (simp only []; omega)) hi5
            · skip
              refine s_iload_n (pc := 109) C dX12_wordAt_109 3 rfl ?_
              refine s_iret (pc := 110) C dX12_wordAt_110 ?_
              refine ⟨_, rfl, ?_⟩
              exact ⟨rfl, by first | omega | assumption | (constructor <;> omega) | (refine ⟨⟨?_, ?_⟩, ?_⟩ <;> omega) | (simp [hs_ss, hs_up]; omega) | (simp [hs_ss, hs_up]; done)⟩
          · skip
            refine s_iload (pc := 64) C dX12_wordAt_64 6 rfl ?_
            refine s_if_eq (pc := 66) C (tgt := 104) dX12_wordAt_66 (by decide) ⟨by omega, by omega⟩ (fun h66 => ?_) (fun h66 => ?_)
            · skip
              refine s_iload (pc := 104) C dX12_wordAt_104 6 rfl ?_
              refine s_if_eq (pc := 106) C (tgt := 111) dX12_wordAt_106 (by decide) ⟨by omega, by omega⟩ (fun h106 => ?_) (fun h106 => ?_)
              · skip
                refine s_iload (pc := 111) C dX12_wordAt_111 4 rfl ?_
                refine s_iload (pc := 113) C dX12_wordAt_113 5 rfl ?_
                refine s_iconst (pc := 115) C dX12_wordAt_115 ?_
                refine s_iadd (pc := 116) C dX12_wordAt_116 ?_
                refine s_iadd (pc := 117) C dX12_wordAt_117 ?_
                refine s_istore (pc := 118) C [(4, vI (f + (n + 1))), (0, .ref (ad 0)), (1, vI a), (2, vI b), (3, vI k), (5, vI n), (6, vI sm), (7, vI i)] dX12_wordAt_118 (by decide) rfl ?_
                refine s_iinc (pc := 120) C [(3, vI (k + 1)), (4, vI (f + (n + 1))), (0, .ref (ad 0)), (1, vI a), (2, vI b), (5, vI n), (6, vI sm), (7, vI i)] dX12_wordAt_120 4 rfl (by decide) rfl ?_
                refine s_goto (pc := 123) C (tgt := 5) dX12_wordAt_123 (by decide) ?_
                refine s_sub C [2, 3, 4, 0, 1] [(0, .ref (ad 0)), (1, vI a), (2, vI b), (3, vI (k + 1)), (4, vI (f + (n + 1)))] rfl ?_
                have hi5 : WFo (k + 1) (f + (n + 1)) := hWF n (by omega)
                exact ih5 (k + 1, f + (n + 1)) (by first | omega | (simp only []; omega)) hi5
              · skip
                refine s_iload_n (pc := 109) C dX12_wordAt_109 3 rfl ?_
                refine s_iret (pc := 110) C dX12_wordAt_110 ?_
                refine ⟨_, rfl, ?_⟩
                exact ⟨rfl, by first | omega | assumption | (constructor <;> omega) | (refine ⟨⟨?_, ?_⟩, ?_⟩ <;> omega) | (simp [hs_ss, hs_up]; omega) | (simp [hs_ss, hs_up]; done)⟩
            · skip
              refine s_aload_n (pc := 69) C dX12_wordAt_69 0 rfl ?_
              refine s_getr (q := 0) (ci := 12) (N := 68) (CN := RX12) (T := TX12) (pc := 70) C 24 dX12_wordAt_70 wlX12_53 rfl rfl rfl wfX12 (by decide) rfl ?_
              refine s_iload (pc := 73) C dX12_wordAt_73 4 rfl ?_
              refine s_iload (pc := 75) C dX12_wordAt_75 7 rfl ?_
              refine s_iadd (pc := 77) C dX12_wordAt_77 ?_
              refine s_iald (q := 14) (n := 36) (pc := 78) C (σ 14 ((f + i).toNat)) rfl dX12_wordAt_78 rfl (by omega) (by omega) (by decide) ?_
              have hb78 := wo_b g0.1 (f + i).toNat (by omega)
              refine s_aload_n (pc := 79) C dX12_wordAt_79 0 rfl ?_
              refine s_getr (q := 0) (ci := 12) (N := 68) (CN := RX12) (T := TX12) (pc := 80) C 0 dX12_wordAt_80 wlX12_7 rfl rfl rfl wfX12 (by decide) rfl ?_
              refine s_iload_n (pc := 83) C dX12_wordAt_83 1 rfl ?_
              refine s_iload (pc := 84) C dX12_wordAt_84 7 rfl ?_
              refine s_iadd (pc := 86) C dX12_wordAt_86 ?_
              refine s_iald (q := 1) (n := 500) (pc := 87) C (σ 1 ((a + i).toNat)) rfl dX12_wordAt_87 rfl (by omega) (by omega) (by decide) ?_
              have b87 : (0 : Int) ≤ σ 1 ((a + i).toNat) ∧ σ 1 ((a + i).toNat) ≤ 255 := g0.1 1 ((a + i).toNat)
              refine s_icmp_ne (pc := 88) C (tgt := 95) dX12_wordAt_88 (by decide) ⟨by omega, by omega⟩ ⟨by omega, by omega⟩ (fun h88 => ?_) (fun h88 => ?_)
              · skip
                refine s_iconst (pc := 95) C dX12_wordAt_95 ?_
                refine s_istore (pc := 96) C [(6, vI 0), (0, .ref (ad 0)), (1, vI a), (2, vI b), (3, vI k), (4, vI f), (5, vI n), (7, vI i)] dX12_wordAt_96 (by decide) rfl ?_
                refine s_iinc (pc := 98) C [(7, vI (i + 1)), (6, vI 0), (0, .ref (ad 0)), (1, vI a), (2, vI b), (3, vI k), (4, vI f), (5, vI n)] dX12_wordAt_98 7 rfl (by decide) rfl ?_
                refine s_goto (pc := 101) C (tgt := 57) dX12_wordAt_101 (by decide) ?_
                refine s_sub C [2, 3, 4, 5, 6, 7, 1, 0] [(0, .ref (ad 0)), (1, vI a), (2, vI b), (3, vI k), (4, vI f), (5, vI n), (6, vI 0), (7, vI (i + 1))] rfl ?_
                have hi57 : 0 ≤ (i + 1) ∧ (i + 1) ≤ n ∧ ((0 : Int) = 0 ∨ (0 : Int) = 1) ∧ ((0 : Int) = 1 → n = b - a) := (by first | omega | assumption | (constructor <;> omega) | (refine ⟨⟨?_, ?_⟩, ?_⟩ <;> omega) | (simp [hs_ss, hs_up]; omega) | (simp [hs_ss, hs_up]; done))
                exact ih57 (i + 1, 0) (by first | omega | (simp only []; omega)) hi57
              · skip
                refine s_iconst (pc := 91) C dX12_wordAt_91 ?_
                refine s_goto (pc := 92) C (tgt := 96) dX12_wordAt_92 (by decide) ?_
                refine s_istore (pc := 96) C [(6, vI 1), (0, .ref (ad 0)), (1, vI a), (2, vI b), (3, vI k), (4, vI f), (5, vI n), (7, vI i)] dX12_wordAt_96 (by decide) rfl ?_
                refine s_iinc (pc := 98) C [(7, vI (i + 1)), (6, vI 1), (0, .ref (ad 0)), (1, vI a), (2, vI b), (3, vI k), (4, vI f), (5, vI n)] dX12_wordAt_98 7 rfl (by decide) rfl ?_
                refine s_goto (pc := 101) C (tgt := 57) dX12_wordAt_101 (by decide) ?_
                refine s_sub C [2, 3, 4, 5, 6, 7, 1, 0] [(0, .ref (ad 0)), (1, vI a), (2, vI b), (3, vI k), (4, vI f), (5, vI n), (6, vI 1), (7, vI (i + 1))] rfl ?_
                have hi57 : 0 ≤ (i + 1) ∧ (i + 1) ≤ n ∧ ((1 : Int) = 0 ∨ (1 : Int) = 1) ∧ ((1 : Int) = 1 → n = b - a) := (by first | omega | assumption | (constructor <;> omega) | (refine ⟨⟨?_, ?_⟩, ?_⟩ <;> omega) | (simp [hs_ss, hs_up]; omega) | (simp [hs_ss, hs_up]; done))
                exact ih57 (i + 1, 1) (by first | omega | (simp only []; omega)) hi57
        · skip
          refine s_iconst (pc := 47) C dX12_wordAt_47 ?_
          refine s_goto (pc := 48) C (tgt := 52) dX12_wordAt_48 (by decide) ?_
          refine s_istore (pc := 52) C [(6, vI 1), (0, .ref (ad 0)), (1, vI a), (2, vI b), (3, vI k), (4, vI f), (5, vI n)] dX12_wordAt_52 (by decide) rfl ?_
          refine s_iconst (pc := 54) C dX12_wordAt_54 ?_
          refine s_istore (pc := 55) C [(7, vI 0), (6, vI 1), (0, .ref (ad 0)), (1, vI a), (2, vI b), (3, vI k), (4, vI f), (5, vI n)] dX12_wordAt_55 (by decide) rfl ?_
          refine s_sub C [2, 3, 4, 5, 6, 7, 1, 0] [(0, .ref (ad 0)), (1, vI a), (2, vI b), (3, vI k), (4, vI f), (5, vI n), (6, vI 1), (7, vI 0)] rfl ?_
          have hi57 : 0 ≤ (0 : Int) ∧ (0 : Int) ≤ n ∧ ((1 : Int) = 0 ∨ (1 : Int) = 1) ∧ ((1 : Int) = 1 → n = b - a) := (by first | omega | assumption | (constructor <;> omega) | (refine ⟨⟨?_, ?_⟩, ?_⟩ <;> omega) | (simp [hs_ss, hs_up]; omega) | (simp [hs_ss, hs_up]; done))
          refine hs_loop (α := Int × Int) (fun x_ => (0 ≤ x_.1 ∧ x_.1 ≤ n ∧ (x_.2 = 0 ∨ x_.2 = 1) ∧ (x_.2 = 1 → n = b - a)) → hs_Wd p l e 1 s m args below meth c D dA SHY ad A 8 (hs_PI (fun σ z σ1 => σ = σ1 ∧ -1 ≤ z ∧ z ≤ 6) σ) 57 [(0, .ref (ad 0)), (1, vI a), (2, vI b), (3, vI k), (4, vI f), (5, vI n), (6, vI x_.2), (7, vI x_.1)] [] σ) (fun x_ => (40 - x_.1).toNat) ?_ (0, 1) hi57
          rintro ⟨i, sm⟩ ih57 hinv
          replace hinv : 0 ≤ i ∧ i ≤ n ∧ (sm = 0 ∨ sm = 1) ∧ (sm = 1 → n = b - a) := hinv
          show hs_Wd p l e 1 s m args below meth c D dA SHY ad A 8 (hs_PI (fun σ z σ1 => σ = σ1 ∧ -1 ≤ z ∧ z ≤ 6) σ) 57 [(0, .ref (ad 0)), (1, vI a), (2, vI b), (3, vI k), (4, vI f), (5, vI n), (6, vI sm), (7, vI i)] [] σ
          refine s_iload (pc := 57) C dX12_wordAt_57 7 rfl ?_
          refine s_iload (pc := 59) C dX12_wordAt_59 5 rfl ?_
          refine s_icmp_ge (pc := 61) C (tgt := 104) dX12_wordAt_61 (by decide) ⟨by omega, by omega⟩ ⟨by omega, by omega⟩ (fun h61 => ?_) (fun h61 => ?_)
          · skip
            refine s_iload (pc := 104) C dX12_wordAt_104 6 rfl ?_
            refine s_if_eq (pc := 106) C (tgt := 111) dX12_wordAt_106 (by decide) ⟨by omega, by omega⟩ (fun h106 => ?_) (fun h106 => ?_)
            · skip
              refine s_iload (pc := 111) C dX12_wordAt_111 4 rfl ?_
              refine s_iload (pc := 113) C dX12_wordAt_113 5 rfl ?_
              refine s_iconst (pc := 115) C dX12_wordAt_115 ?_
              refine s_iadd (pc := 116) C dX12_wordAt_116 ?_
              refine s_iadd (pc := 117) C dX12_wordAt_117 ?_
              refine s_istore (pc := 118) C [(4, vI (f + (n + 1))), (0, .ref (ad 0)), (1, vI a), (2, vI b), (3, vI k), (5, vI n), (6, vI sm), (7, vI i)] dX12_wordAt_118 (by decide) rfl ?_
              refine s_iinc (pc := 120) C [(3, vI (k + 1)), (4, vI (f + (n + 1))), (0, .ref (ad 0)), (1, vI a), (2, vI b), (5, vI n), (6, vI sm), (7, vI i)] dX12_wordAt_120 4 rfl (by decide) rfl ?_
              refine s_goto (pc := 123) C (tgt := 5) dX12_wordAt_123 (by decide) ?_
              refine s_sub C [2, 3, 4, 0, 1] [(0, .ref (ad 0)), (1, vI a), (2, vI b), (3, vI (k + 1)), (4, vI (f + (n + 1)))] rfl ?_
              have hi5 : WFo (k + 1) (f + (n + 1)) := hWF n (by omega)
              exact ih5 (k + 1, f + (n + 1)) (by first | omega | (simp only []; omega)) hi5
            · skip
              refine s_iload_n (pc := 109) C dX12_wordAt_109 3 rfl ?_
              refine s_iret (pc := 110) C dX12_wordAt_110 ?_
              refine ⟨_, rfl, ?_⟩
              exact ⟨rfl, by first | omega | assumption | (constructor <;> omega) | (refine ⟨⟨?_, ?_⟩, ?_⟩ <;> omega) | (simp [hs_ss, hs_up]; omega) | (simp [hs_ss, hs_up]; done)⟩
          · skip
            refine s_iload (pc := 64) C dX12_wordAt_64 6 rfl ?_
            refine s_if_eq (pc := 66) C (tgt := 104) dX12_wordAt_66 (by decide) ⟨by omega, by omega⟩ (fun h66 => ?_) (fun h66 => ?_)
            · skip
              refine s_iload (pc := 104) C dX12_wordAt_104 6 rfl ?_
              refine s_if_eq (pc := 106) C (tgt := 111) dX12_wordAt_106 (by decide) ⟨by omega, by omega⟩ (fun h106 => ?_) (fun h106 => ?_)
              · skip
                refine s_iload (pc := 111) C dX12_wordAt_111 4 rfl ?_
                refine s_iload (pc := 113) C dX12_wordAt_113 5 rfl ?_
                refine s_iconst (pc := 115) C dX12_wordAt_115 ?_
                refine s_iadd (pc := 116) C dX12_wordAt_116 ?_
                refine s_iadd (pc := 117) C dX12_wordAt_117 ?_
                refine s_istore (pc := 118) C [(4, vI (f + (n + 1))), (0, .ref (ad 0)), (1, vI a), (2, vI b), (3, vI k), (5, vI n), (6, vI sm), (7, vI i)] dX12_wordAt_118 (by decide) rfl ?_
                refine s_iinc (pc := 120) C [(3, vI (k + 1)), (4, vI (f + (n + 1))), (0, .ref (ad 0)), (1, vI a), (2, vI b), (5, vI n), (6, vI sm), (7, vI i)] dX12_wordAt_120 4 rfl (by decide) rfl ?_
                refine s_goto (pc := 123) C (tgt := 5) dX12_wordAt_123 (by decide) ?_
                refine s_sub C [2, 3, 4, 0, 1] [(0, .ref (ad 0)), (1, vI a), (2, vI b), (3, vI (k + 1)), (4, vI (f + (n + 1)))] rfl ?_
                have hi5 : WFo (k + 1) (f + (n + 1)) := hWF n (by omega)
                exact ih5 (k + 1, f + (n + 1)) (by first | omega | (simp only []; omega)) hi5
              · skip
                refine s_iload_n (pc := 109) C dX12_wordAt_109 3 rfl ?_
                refine s_iret (pc := 110) C dX12_wordAt_110 ?_
                refine ⟨_, rfl, ?_⟩
                exact ⟨rfl, by first | omega | assumption | (constructor <;> omega) | (refine ⟨⟨?_, ?_⟩, ?_⟩ <;> omega) | (simp [hs_ss, hs_up]; omega) | (simp [hs_ss, hs_up]; done)⟩
            · skip
              refine s_aload_n (pc := 69) C dX12_wordAt_69 0 rfl ?_
              refine s_getr (q := 0) (ci := 12) (N := 68) (CN := RX12) (T := TX12) (pc := 70) C 24 dX12_wordAt_70 wlX12_53 rfl rfl rfl wfX12 (by decide) rfl ?_
              refine s_iload (pc := 73) C dX12_wordAt_73 4 rfl ?_
              refine s_iload (pc := 75) C dX12_wordAt_75 7 rfl ?_
              refine s_iadd (pc := 77) C dX12_wordAt_77 ?_
              refine s_iald (q := 14) (n := 36) (pc := 78) C (σ 14 ((f + i).toNat)) rfl dX12_wordAt_78 rfl (by omega) (by omega) (by decide) ?_
              have hb78 := wo_b g0.1 (f + i).toNat (by omega)
              refine s_aload_n (pc := 79) C dX12_wordAt_79 0 rfl ?_
              refine s_getr (q := 0) (ci := 12) (N := 68) (CN := RX12) (T := TX12) (pc := 80) C 0 dX12_wordAt_80 wlX12_7 rfl rfl rfl wfX12 (by decide) rfl ?_
              refine s_iload_n (pc := 83) C dX12_wordAt_83 1 rfl ?_
              refine s_iload (pc := 84) C dX12_wordAt_84 7 rfl ?_
              refine s_iadd (pc := 86) C dX12_wordAt_86 ?_
              refine s_iald (q := 1) (n := 500) (pc := 87) C (σ 1 ((a + i).toNat)) rfl dX12_wordAt_87 rfl (by omega) (by omega) (by decide) ?_
              have b87 : (0 : Int) ≤ σ 1 ((a + i).toNat) ∧ σ 1 ((a + i).toNat) ≤ 255 := g0.1 1 ((a + i).toNat)
              refine s_icmp_ne (pc := 88) C (tgt := 95) dX12_wordAt_88 (by decide) ⟨by omega, by omega⟩ ⟨by omega, by omega⟩ (fun h88 => ?_) (fun h88 => ?_)
              · skip
                refine s_iconst (pc := 95) C dX12_wordAt_95 ?_
                refine s_istore (pc := 96) C [(6, vI 0), (0, .ref (ad 0)), (1, vI a), (2, vI b), (3, vI k), (4, vI f), (5, vI n), (7, vI i)] dX12_wordAt_96 (by decide) rfl ?_
                refine s_iinc (pc := 98) C [(7, vI (i + 1)), (6, vI 0), (0, .ref (ad 0)), (1, vI a), (2, vI b), (3, vI k), (4, vI f), (5, vI n)] dX12_wordAt_98 7 rfl (by decide) rfl ?_
                refine s_goto (pc := 101) C (tgt := 57) dX12_wordAt_101 (by decide) ?_
                refine s_sub C [2, 3, 4, 5, 6, 7, 1, 0] [(0, .ref (ad 0)), (1, vI a), (2, vI b), (3, vI k), (4, vI f), (5, vI n), (6, vI 0), (7, vI (i + 1))] rfl ?_
                have hi57 : 0 ≤ (i + 1) ∧ (i + 1) ≤ n ∧ ((0 : Int) = 0 ∨ (0 : Int) = 1) ∧ ((0 : Int) = 1 → n = b - a) := (by first | omega | assumption | (constructor <;> omega) | (refine ⟨⟨?_, ?_⟩, ?_⟩ <;> omega) | (simp [hs_ss, hs_up]; omega) | (simp [hs_ss, hs_up]; done))
                exact ih57 (i + 1, 0) (by first | omega | (simp only []; omega)) hi57
              · skip
                refine s_iconst (pc := 91) C dX12_wordAt_91 ?_
                refine s_goto (pc := 92) C (tgt := 96) dX12_wordAt_92 (by decide) ?_
                refine s_istore (pc := 96) C [(6, vI 1), (0, .ref (ad 0)), (1, vI a), (2, vI b), (3, vI k), (4, vI f), (5, vI n), (7, vI i)] dX12_wordAt_96 (by decide) rfl ?_
                refine s_iinc (pc := 98) C [(7, vI (i + 1)), (6, vI 1), (0, .ref (ad 0)), (1, vI a), (2, vI b), (3, vI k), (4, vI f), (5, vI n)] dX12_wordAt_98 7 rfl (by decide) rfl ?_
                refine s_goto (pc := 101) C (tgt := 57) dX12_wordAt_101 (by decide) ?_
                refine s_sub C [2, 3, 4, 5, 6, 7, 1, 0] [(0, .ref (ad 0)), (1, vI a), (2, vI b), (3, vI k), (4, vI f), (5, vI n), (6, vI 1), (7, vI (i + 1))] rfl ?_
                have hi57 : 0 ≤ (i + 1) ∧ (i + 1) ≤ n ∧ ((1 : Int) = 0 ∨ (1 : Int) = 1) ∧ ((1 : Int) = 1 → n = b - a) := (by first | omega | assumption | (constructor <;> omega) | (refine ⟨⟨?_, ?_⟩, ?_⟩ <;> omega) | (simp [hs_ss, hs_up]; omega) | (simp [hs_ss, hs_up]; done))
                exact ih57 (i + 1, 1) (by first | omega | (simp only []; omega)) hi57
      · skip
        refine s_iinc (pc := 33) C [(5, vI (n + 1)), (0, .ref (ad 0)), (1, vI a), (2, vI b), (3, vI k), (4, vI f)] dX12_wordAt_33 5 rfl (by decide) rfl ?_
        refine s_goto (pc := 36) C (tgt := 18) dX12_wordAt_36 (by decide) ?_
        refine s_sub C [1, 2, 3, 4, 5, 0] [(0, .ref (ad 0)), (1, vI a), (2, vI b), (3, vI k), (4, vI f), (5, vI (n + 1))] rfl ?_
        have hi18 : 0 ≤ (n + 1) ∧ f + (n + 1) ≤ E := (by first | omega | assumption | (constructor <;> omega) | (refine ⟨⟨?_, ?_⟩, ?_⟩ <;> omega) | (simp [hs_ss, hs_up]; omega) | (simp [hs_ss, hs_up]; done))
        exact ih18 (n + 1) (by first | omega | (simp only []; omega)) hi18
    · skip
      obtain ⟨E, hE⟩ : ∃ E : Int, E = 24 := ⟨_, rfl⟩
      have hW := wo_seg (f := f) (E := E) g0.1 21 24 (by omega) (by omega) (by decide) wo_d4
      have hWF : ∀ n : Int, f + n = E → WFo (k + 1) (f + (n + 1)) := fun n hn => Or.inr (Or.inr (Or.inr (Or.inr (Or.inr (Or.inl ⟨by omega, by omega⟩)))))
      refine s_iconst (pc := 15) C dX12_wordAt_15 ?_
      refine s_istore (pc := 16) C [(5, vI 0), (0, .ref (ad 0)), (1, vI a), (2, vI b), (3, vI k), (4, vI f)] dX12_wordAt_16 (by decide) rfl ?_
      refine s_sub C [1, 2, 3, 4, 5, 0] [(0, .ref (ad 0)), (1, vI a), (2, vI b), (3, vI k), (4, vI f), (5, vI 0)] rfl ?_
      have hi18 : 0 ≤ (0 : Int) ∧ f + (0 : Int) ≤ E := (by first | omega | assumption | (constructor <;> omega) | (refine ⟨⟨?_, ?_⟩, ?_⟩ <;> omega) | (simp [hs_ss, hs_up]; omega) | (simp [hs_ss, hs_up]; done))
      refine hs_loop (α := Int) (fun x_ => (0 ≤ x_ ∧ f + x_ ≤ E) → hs_Wd p l e 1 s m args below meth c D dA SHY ad A 8 (hs_PI (fun σ z σ1 => σ = σ1 ∧ -1 ≤ z ∧ z ≤ 6) σ) 18 [(0, .ref (ad 0)), (1, vI a), (2, vI b), (3, vI k), (4, vI f), (5, vI x_)] [] σ) (fun x_ => (40 - x_).toNat) ?_ (0) hi18
      rintro n ih18 hinv
      replace hinv : 0 ≤ n ∧ f + n ≤ E := hinv
      show hs_Wd p l e 1 s m args below meth c D dA SHY ad A 8 (hs_PI (fun σ z σ1 => σ = σ1 ∧ -1 ≤ z ∧ z ≤ 6) σ) 18 [(0, .ref (ad 0)), (1, vI a), (2, vI b), (3, vI k), (4, vI f), (5, vI n)] [] σ
      refine s_aload_n (pc := 18) C dX12_wordAt_18 0 rfl ?_
      refine s_getr (q := 0) (ci := 12) (N := 68) (CN := RX12) (T := TX12) (pc := 19) C 24 dX12_wordAt_19 wlX12_53 rfl rfl rfl wfX12 (by decide) rfl ?_
      refine s_iload (pc := 22) C dX12_wordAt_22 4 rfl ?_
      refine s_iload (pc := 24) C dX12_wordAt_24 5 rfl ?_
      refine s_iadd (pc := 26) C dX12_wordAt_26 ?_
      refine s_iald (q := 14) (n := 36) (pc := 27) C (σ 14 ((f + n).toNat)) rfl dX12_wordAt_27 rfl (by omega) (by omega) (by decide) ?_
      have hb27 := wo_b g0.1 (f + n).toNat (by omega)
      have hw27 := hW n (by omega) (by omega)
      refine s_bipush (pc := 28) C dX12_wordAt_28 (by decide) ?_
      refine s_icmp_eq (pc := 30) C (tgt := 39) dX12_wordAt_30 (by decide) ⟨by omega, by omega⟩ ⟨by decide, by decide⟩ (fun h30 => ?_) (fun h30 => ?_)
      · skip
        refine s_iload (pc := 39) C dX12_wordAt_39 5 rfl ?_
        refine s_iload_n (pc := 41) C dX12_wordAt_41 2 rfl ?_
        refine s_iload_n (pc := 42) C dX12_wordAt_42 1 rfl ?_
        refine s_isub (pc := 43) C dX12_wordAt_43 ?_
        refine s_icmp_ne (pc := 44) C (tgt := 51) dX12_wordAt_44 (by decide) ⟨by omega, by omega⟩ ⟨by omega, by omega⟩ (fun h44 => ?_) (fun h44 => ?_)
        · skip
          refine s_iconst (pc := 51) C dX12_wordAt_51 ?_
          refine s_istore (pc := 52) C [(6, vI 0), (0, .ref (ad 0)), (1, vI a), (2, vI b), (3, vI k), (4, vI f), (5, vI n)] dX12_wordAt_52 (by decide) rfl ?_
          refine s_iconst (pc := 54) C dX12_wordAt_54 ?_
          refine s_istore (pc := 55) C [(7, vI 0), (6, vI 0), (0, .ref (ad 0)), (1, vI a), (2, vI b), (3, vI k), (4, vI f), (5, vI n)] dX12_wordAt_55 (by decide) rfl ?_
          refine s_sub C [2, 3, 4, 5, 6, 7, 1, 0] [(0, .ref (ad 0)), (1, vI a), (2, vI b), (3, vI k), (4, vI f), (5, vI n), (6, vI 0), (7, vI 0)] rfl ?_
          have hi57 : 0 ≤ (0 : Int) ∧ (0 : Int) ≤ n ∧ ((0 : Int) = 0 ∨ (0 : Int) = 1) ∧ ((0 : Int) = 1 → n = b - a) := (by first | omega | assumption | (constructor <;> omega) | (refine ⟨⟨?_, ?_⟩, ?_⟩ <;> omega) | (simp [hs_ss, hs_up]; omega) | (simp [hs_ss, hs_up]; done))
          refine hs_loop (α := Int × Int) (fun x_ => (0 ≤ x_.1 ∧ x_.1 ≤ n ∧ (x_.2 = 0 ∨ x_.2 = 1) ∧ (x_.2 = 1 → n = b - a)) → hs_Wd p l e 1 s m args below meth c D dA SHY ad A 8 (hs_PI (fun σ z σ1 => σ = σ1 ∧ -1 ≤ z ∧ z ≤ 6) σ) 57 [(0, .ref (ad 0)), (1, vI a), (2, vI b), (3, vI k), (4, vI f), (5, vI n), (6, vI x_.2), (7, vI x_.1)] [] σ) (fun x_ => (40 - x_.1).toNat) ?_ (0, 0) hi57
          rintro ⟨i, sm⟩ ih57 hinv
          replace hinv : 0 ≤ i ∧ i ≤ n ∧ (sm = 0 ∨ sm = 1) ∧ (sm = 1 → n = b - a) := hinv
          show hs_Wd p l e 1 s m args below meth c D dA SHY ad A 8 (hs_PI (fun σ z σ1 => σ = σ1 ∧ -1 ≤ z ∧ z ≤ 6) σ) 57 [(0, .ref (ad 0)), (1, vI a), (2, vI b), (3, vI k), (4, vI f), (5, vI n), (6, vI sm), (7, vI i)] [] σ
          refine s_iload (pc := 57) C dX12_wordAt_57 7 rfl ?_
          refine s_iload (pc := 59) C dX12_wordAt_59 5 rfl ?_
          refine s_icmp_ge (pc := 61) C (tgt := 104) dX12_wordAt_61 (by decide) ⟨by omega, by omega⟩ ⟨by omega, by omega⟩ (fun h61 => ?_) (fun h61 => ?_)
          · skip
            refine s_iload (pc := 104) C dX12_wordAt_104 6 rfl ?_
            refine s_if_eq (pc := 106) C (tgt := 111) dX12_wordAt_106 (by decide) ⟨by omega, by omega⟩ (fun h106 => ?_) (fun h106 => ?_)
            · skip
              refine s_iload (pc := 111) C dX12_wordAt_111 4 rfl ?_
              refine s_iload (pc := 113) C dX12_wordAt_113 5 rfl ?_
              refine s_iconst (pc := 115) C dX12_wordAt_115 ?_
              refine s_iadd (pc := 116) C dX12_wordAt_116 ?_
              refine s_iadd (pc := 117) C dX12_wordAt_117 ?_
              refine s_istore (pc := 118) C [(4, vI (f + (n + 1))), (0, .ref (ad 0)), (1, vI a), (2, vI b), (3, vI k), (5, vI n), (6, vI sm), (7, vI i)] dX12_wordAt_118 (by decide) rfl ?_
              refine s_iinc (pc := 120) C [(3, vI (k + 1)), (4, vI (f + (n + 1))), (0, .ref (ad 0)), (1, vI a), (2, vI b), (5, vI n), (6, vI sm), (7, vI i)] dX12_wordAt_120 4 rfl (by decide) rfl ?_
              refine s_goto (pc := 123) C (tgt := 5) dX12_wordAt_123 (by decide) ?_
              refine s_sub C [2, 3, 4, 0, 1] [(0, .ref (ad 0)), (1, vI a), (2, vI b), (3, vI (k + 1)), (4, vI (f + (n + 1)))] rfl ?_
              have hi5 : WFo (k + 1) (f + (n + 1)) := hWF n (by omega)
              exact ih5 (k + 1, f + (n + 1)) (by first | omega | (simp only []; omega)) hi5
            · skip
              refine s_iload_n (pc := 109) C dX12_wordAt_109 3 rfl ?_
              refine s_iret (pc := 110) C dX12_wordAt_110 ?_
              refine ⟨_, rfl, ?_⟩
              exact ⟨rfl, by first | omega | assumption | (constructor <;> omega) | (refine ⟨⟨?_, ?_⟩, ?_⟩ <;> omega) | (simp [hs_ss, hs_up]; omega) | (simp [hs_ss, hs_up]; done)⟩
          · skip
            refine s_iload (pc := 64) C dX12_wordAt_64 6 rfl ?_
            refine s_if_eq (pc := 66) C (tgt := 104) dX12_wordAt_66 (by decide) ⟨by omega, by omega⟩ (fun h66 => ?_) (fun h66 => ?_)
            · skip
              refine s_iload (pc := 104) C dX12_wordAt_104 6 rfl ?_
              refine s_if_eq (pc := 106) C (tgt := 111) dX12_wordAt_106 (by decide) ⟨by omega, by omega⟩ (fun h106 => ?_) (fun h106 => ?_)
              · skip
                refine s_iload (pc := 111) C dX12_wordAt_111 4 rfl ?_
                refine s_iload (pc := 113) C dX12_wordAt_113 5 rfl ?_
                refine s_iconst (pc := 115) C dX12_wordAt_115 ?_
                refine s_iadd (pc := 116) C dX12_wordAt_116 ?_
                refine s_iadd (pc := 117) C dX12_wordAt_117 ?_
                refine s_istore (pc := 118) C [(4, vI (f + (n + 1))), (0, .ref (ad 0)), (1, vI a), (2, vI b), (3, vI k), (5, vI n), (6, vI sm), (7, vI i)] dX12_wordAt_118 (by decide) rfl ?_
                refine s_iinc (pc := 120) C [(3, vI (k + 1)), (4, vI (f + (n + 1))), (0, .ref (ad 0)), (1, vI a), (2, vI b), (5, vI n), (6, vI sm), (7, vI i)] dX12_wordAt_120 4 rfl (by decide) rfl ?_
                refine s_goto (pc := 123) C (tgt := 5) dX12_wordAt_123 (by decide) ?_
                refine s_sub C [2, 3, 4, 0, 1] [(0, .ref (ad 0)), (1, vI a), (2, vI b), (3, vI (k + 1)), (4, vI (f + (n + 1)))] rfl ?_
                have hi5 : WFo (k + 1) (f + (n + 1)) := hWF n (by omega)
                exact ih5 (k + 1, f + (n + 1)) (by first | omega | (simp only []; omega)) hi5
              · skip
                refine s_iload_n (pc := 109) C dX12_wordAt_109 3 rfl ?_
                refine s_iret (pc := 110) C dX12_wordAt_110 ?_
                refine ⟨_, rfl, ?_⟩
                exact ⟨rfl, by first | omega | assumption | (constructor <;> omega) | (refine ⟨⟨?_, ?_⟩, ?_⟩ <;> omega) | (simp [hs_ss, hs_up]; omega) | (simp [hs_ss, hs_up]; done)⟩
            · skip
              refine s_aload_n (pc := 69) C dX12_wordAt_69 0 rfl ?_
              refine s_getr (q := 0) (ci := 12) (N := 68) (CN := RX12) (T := TX12) (pc := 70) C 24 dX12_wordAt_70 wlX12_53 rfl rfl rfl wfX12 (by decide) rfl ?_
              refine s_iload (pc := 73) C dX12_wordAt_73 4 rfl ?_
              refine s_iload (pc := 75) C dX12_wordAt_75 7 rfl ?_
              refine s_iadd (pc := 77) C dX12_wordAt_77 ?_
              refine s_iald (q := 14) (n := 36) (pc := 78) C (σ 14 ((f + i).toNat)) rfl dX12_wordAt_78 rfl (by omega) (by omega) (by decide) ?_
              have hb78 := wo_b g0.1 (f + i).toNat (by omega)
              refine s_aload_n (pc := 79) C dX12_wordAt_79 0 rfl ?_
              refine s_getr (q := 0) (ci := 12) (N := 68) (CN := RX12) (T := TX12) (pc := 80) C 0 dX12_wordAt_80 wlX12_7 rfl rfl rfl wfX12 (by decide) rfl ?_
              refine s_iload_n (pc := 83) C dX12_wordAt_83 1 rfl ?_
              refine s_iload (pc := 84) C dX12_wordAt_84 7 rfl ?_
              refine s_iadd (pc := 86) C dX12_wordAt_86 ?_
              refine s_iald (q := 1) (n := 500) (pc := 87) C (σ 1 ((a + i).toNat)) rfl dX12_wordAt_87 rfl (by omega) (by omega) (by decide) ?_
              have b87 : (0 : Int) ≤ σ 1 ((a + i).toNat) ∧ σ 1 ((a + i).toNat) ≤ 255 := g0.1 1 ((a + i).toNat)
              refine s_icmp_ne (pc := 88) C (tgt := 95) dX12_wordAt_88 (by decide) ⟨by omega, by omega⟩ ⟨by omega, by omega⟩ (fun h88 => ?_) (fun h88 => ?_)
              · skip
                refine s_iconst (pc := 95) C dX12_wordAt_95 ?_
                refine s_istore (pc := 96) C [(6, vI 0), (0, .ref (ad 0)), (1, vI a), (2, vI b), (3, vI k), (4, vI f), (5, vI n), (7, vI i)] dX12_wordAt_96 (by decide) rfl ?_
                refine s_iinc (pc := 98) C [(7, vI (i + 1)), (6, vI 0), (0, .ref (ad 0)), (1, vI a), (2, vI b), (3, vI k), (4, vI f), (5, vI n)] dX12_wordAt_98 7 rfl (by decide) rfl ?_
                refine s_goto (pc := 101) C (tgt := 57) dX12_wordAt_101 (by decide) ?_
                refine s_sub C [2, 3, 4, 5, 6, 7, 1, 0] [(0, .ref (ad 0)), (1, vI a), (2, vI b), (3, vI k), (4, vI f), (5, vI n), (6, vI 0), (7, vI (i + 1))] rfl ?_
                have hi57 : 0 ≤ (i + 1) ∧ (i + 1) ≤ n ∧ ((0 : Int) = 0 ∨ (0 : Int) = 1) ∧ ((0 : Int) = 1 → n = b - a) := (by first | omega | assumption | (constructor <;> omega) | (refine ⟨⟨?_, ?_⟩, ?_⟩ <;> omega) | (simp [hs_ss, hs_up]; omega) | (simp [hs_ss, hs_up]; done))
                exact ih57 (i + 1, 0) (by first | omega | (simp only []; omega)) hi57
              · skip
                refine s_iconst (pc := 91) C dX12_wordAt_91 ?_
                refine s_goto (pc := 92) C (tgt := 96) dX12_wordAt_92 (by decide) ?_
                refine s_istore (pc := 96) C [(6, vI 1), (0, .ref (ad 0)), (1, vI a), (2, vI b), (3, vI k), (4, vI f), (5, vI n), (7, vI i)] dX12_wordAt_96 (by decide) rfl ?_
                refine s_iinc (pc := 98) C [(7, vI (i + 1)), (6, vI 1), (0, .ref (ad 0)), (1, vI a), (2, vI b), (3, vI k), (4, vI f), (5, vI n)] dX12_wordAt_98 7 rfl (by decide) rfl ?_
                refine s_goto (pc := 101) C (tgt := 57) dX12_wordAt_101 (by decide) ?_
                refine s_sub C [2, 3, 4, 5, 6, 7, 1, 0] [(0, .ref (ad 0)), (1, vI a), (2, vI b), (3, vI k), (4, vI f), (5, vI n), (6, vI 1), (7, vI (i + 1))] rfl ?_
                have hi57 : 0 ≤ (i + 1) ∧ (i + 1) ≤ n ∧ ((1 : Int) = 0 ∨ (1 : Int) = 1) ∧ ((1 : Int) = 1 → n = b - a) := (by first | omega | assumption | (constructor <;> omega) | (refine ⟨⟨?_, ?_⟩, ?_⟩ <;> omega) | (simp [hs_ss, hs_up]; omega) | (simp [hs_ss, hs_up]; done))
                exact ih57 (i + 1, 1) (by first | omega | (simp only []; omega)) hi57
        · skip
          refine s_iconst (pc := 47) C dX12_wordAt_47 ?_
          refine s_goto (pc := 48) C (tgt := 52) dX12_wordAt_48 (by decide) ?_
          refine s_istore (pc := 52) C [(6, vI 1), (0, .ref (ad 0)), (1, vI a), (2, vI b), (3, vI k), (4, vI f), (5, vI n)] dX12_wordAt_52 (by decide) rfl ?_
          refine s_iconst (pc := 54) C dX12_wordAt_54 ?_
          refine s_istore (pc := 55) C [(7, vI 0), (6, vI 1), (0, .ref (ad 0)), (1, vI a), (2, vI b), (3, vI k), (4, vI f), (5, vI n)] dX12_wordAt_55 (by decide) rfl ?_
          refine s_sub C [2, 3, 4, 5, 6, 7, 1, 0] [(0, .ref (ad 0)), (1, vI a), (2, vI b), (3, vI k), (4, vI f), (5, vI n), (6, vI 1), (7, vI 0)] rfl ?_
          have hi57 : 0 ≤ (0 : Int) ∧ (0 : Int) ≤ n ∧ ((1 : Int) = 0 ∨ (1 : Int) = 1) ∧ ((1 : Int) = 1 → n = b - a) := (by first | omega | assumption | (constructor <;> omega) | (refine ⟨⟨?_, ?_⟩, ?_⟩ <;> omega) | (simp [hs_ss, hs_up]; omega) | (simp [hs_ss, hs_up]; done))
          refine hs_loop (α := Int × Int) (fun x_ => (0 ≤ x_.1 ∧ x_.1 ≤ n ∧ (x_.2 = 0 ∨ x_.2 = 1) ∧ (x_.2 = 1 → n = b - a)) → hs_Wd p l e 1 s m args below meth c D dA SHY ad A 8 (hs_PI (fun σ z σ1 => σ = σ1 ∧ -1 ≤ z ∧ z ≤ 6) σ) 57 [(0, .ref (ad 0)), (1, vI a), (2, vI b), (3, vI k), (4, vI f), (5, vI n), (6, vI x_.2), (7, vI x_.1)] [] σ) (fun x_ => (40 - x_.1).toNat) ?_ (0, 1) hi57
          rintro ⟨i, sm⟩ ih57 hinv
          replace hinv : 0 ≤ i ∧ i ≤ n ∧ (sm = 0 ∨ sm = 1) ∧ (sm = 1 → n = b - a) := hinv
          show hs_Wd p l e 1 s m args below meth c D dA SHY ad A 8 (hs_PI (fun σ z σ1 => σ = σ1 ∧ -1 ≤ z ∧ z ≤ 6) σ) 57 [(0, .ref (ad 0)), (1, vI a), (2, vI b), (3, vI k), (4, vI f), (5, vI n), (6, vI sm), (7, vI i)] [] σ
          refine s_iload (pc := 57) C dX12_wordAt_57 7 rfl ?_
          refine s_iload (pc := 59) C dX12_wordAt_59 5 rfl ?_
          refine s_icmp_ge (pc := 61) C (tgt := 104) dX12_wordAt_61 (by decide) ⟨by omega, by omega⟩ ⟨by omega, by omega⟩ (fun h61 => ?_) (fun h61 => ?_)
          · skip
            refine s_iload (pc := 104) C dX12_wordAt_104 6 rfl ?_
            refine s_if_eq (pc := 106) C (tgt := 111) dX12_wordAt_106 (by decide) ⟨by omega, by omega⟩ (fun h106 => ?_) (fun h106 => ?_)
            · skip
              refine s_iload (pc := 111) C dX12_wordAt_111 4 rfl ?_
              refine s_iload (pc := 113) C dX12_wordAt_113 5 rfl ?_
              refine s_iconst (pc := 115) C dX12_wordAt_115 ?_
              refine s_iadd (pc := 116) C dX12_wordAt_116 ?_
              refine s_iadd (pc := 117) C dX12_wordAt_117 ?_
              refine s_istore (pc := 118) C [(4, vI (f + (n + 1))), (0, .ref (ad 0)), (1, vI a), (2, vI b), (3, vI k), (5, vI n), (6, vI sm), (7, vI i)] dX12_wordAt_118 (by decide) rfl ?_
              refine s_iinc (pc := 120) C [(3, vI (k + 1)), (4, vI (f + (n + 1))), (0, .ref (ad 0)), (1, vI a), (2, vI b), (5, vI n), (6, vI sm), (7, vI i)] dX12_wordAt_120 4 rfl (by decide) rfl ?_
              refine s_goto (pc := 123) C (tgt := 5) dX12_wordAt_123 (by decide) ?_
              refine s_sub C [2, 3, 4, 0, 1] [(0, .ref (ad 0)), (1, vI a), (2, vI b), (3, vI (k + 1)), (4, vI (f + (n + 1)))] rfl ?_
              have hi5 : WFo (k + 1) (f + (n + 1)) := hWF n (by omega)
              exact ih5 (k + 1, f + (n + 1)) (by first | omega | (simp only []; omega)) hi5
            · skip
              refine s_iload_n (pc := 109) C dX12_wordAt_109 3 rfl ?_
              refine s_iret (pc := 110) C dX12_wordAt_110 ?_
              refine ⟨_, rfl, ?_⟩
              exact ⟨rfl, by first | omega | assumption | (constructor <;> omega) | (refine ⟨⟨?_, ?_⟩, ?_⟩ <;> omega) | (simp [hs_ss, hs_up]; omega) | (simp [hs_ss, hs_up]; done)⟩
          · skip
            refine s_iload (pc := 64) C dX12_wordAt_64 6 rfl ?_
            refine s_if_eq (pc := 66) C (tgt := 104) dX12_wordAt_66 (by decide) ⟨by omega, by omega⟩ (fun h66 => ?_) (fun h66 => ?_)
            · skip
              refine s_iload (pc := 104) C dX12_wordAt_104 6 rfl ?_
              refine s_if_eq (pc := 106) C (tgt := 111) dX12_wordAt_106 (by decide) ⟨by omega, by omega⟩ (fun h106 => ?_) (fun h106 => ?_)
              · skip
                refine s_iload (pc := 111) C dX12_wordAt_111 4 rfl ?_
                refine s_iload (pc := 113) C dX12_wordAt_113 5 rfl ?_
                refine s_iconst (pc := 115) C dX12_wordAt_115 ?_
                refine s_iadd (pc := 116) C dX12_wordAt_116 ?_
                refine s_iadd (pc := 117) C dX12_wordAt_117 ?_
                refine s_istore (pc := 118) C [(4, vI (f + (n + 1))), (0, .ref (ad 0)), (1, vI a), (2, vI b), (3, vI k), (5, vI n), (6, vI sm), (7, vI i)] dX12_wordAt_118 (by decide) rfl ?_
                refine s_iinc (pc := 120) C [(3, vI (k + 1)), (4, vI (f + (n + 1))), (0, .ref (ad 0)), (1, vI a), (2, vI b), (5, vI n), (6, vI sm), (7, vI i)] dX12_wordAt_120 4 rfl (by decide) rfl ?_
                refine s_goto (pc := 123) C (tgt := 5) dX12_wordAt_123 (by decide) ?_
                refine s_sub C [2, 3, 4, 0, 1] [(0, .ref (ad 0)), (1, vI a), (2, vI b), (3, vI (k + 1)), (4, vI (f + (n + 1)))] rfl ?_
                have hi5 : WFo (k + 1) (f + (n + 1)) := hWF n (by omega)
                exact ih5 (k + 1, f + (n + 1)) (by first | omega | (simp only []; omega)) hi5
              · skip
                refine s_iload_n (pc := 109) C dX12_wordAt_109 3 rfl ?_
                refine s_iret (pc := 110) C dX12_wordAt_110 ?_
                refine ⟨_, rfl, ?_⟩
                exact ⟨rfl, by first | omega | assumption | (constructor <;> omega) | (refine ⟨⟨?_, ?_⟩, ?_⟩ <;> omega) | (simp [hs_ss, hs_up]; omega) | (simp [hs_ss, hs_up]; done)⟩
            · skip
              refine s_aload_n (pc := 69) C dX12_wordAt_69 0 rfl ?_
              refine s_getr (q := 0) (ci := 12) (N := 68) (CN := RX12) (T := TX12) (pc := 70) C 24 dX12_wordAt_70 wlX12_53 rfl rfl rfl wfX12 (by decide) rfl ?_
              refine s_iload (pc := 73) C dX12_wordAt_73 4 rfl ?_
              refine s_iload (pc := 75) C dX12_wordAt_75 7 rfl ?_
              refine s_iadd (pc := 77) C dX12_wordAt_77 ?_
              refine s_iald (q := 14) (n := 36) (pc := 78) C (σ 14 ((f + i).toNat)) rfl dX12_wordAt_78 rfl (by omega) (by omega) (by decide) ?_
              have hb78 := wo_b g0.1 (f + i).toNat (by omega)
              refine s_aload_n (pc := 79) C dX12_wordAt_79 0 rfl ?_
              refine s_getr (q := 0) (ci := 12) (N := 68) (CN := RX12) (T := TX12) (pc := 80) C 0 dX12_wordAt_80 wlX12_7 rfl rfl rfl wfX12 (by decide) rfl ?_
              refine s_iload_n (pc := 83) C dX12_wordAt_83 1 rfl ?_
              refine s_iload (pc := 84) C dX12_wordAt_84 7 rfl ?_
              refine s_iadd (pc := 86) C dX12_wordAt_86 ?_
              refine s_iald (q := 1) (n := 500) (pc := 87) C (σ 1 ((a + i).toNat)) rfl dX12_wordAt_87 rfl (by omega) (by omega) (by decide) ?_
              have b87 : (0 : Int) ≤ σ 1 ((a + i).toNat) ∧ σ 1 ((a + i).toNat) ≤ 255 := g0.1 1 ((a + i).toNat)
              refine s_icmp_ne (pc := 88) C (tgt := 95) dX12_wordAt_88 (by decide) ⟨by omega, by omega⟩ ⟨by omega, by omega⟩ (fun h88 => ?_) (fun h88 => ?_)
              · skip
                refine s_iconst (pc := 95) C dX12_wordAt_95 ?_
                refine s_istore (pc := 96) C [(6, vI 0), (0, .ref (ad 0)), (1, vI a), (2, vI b), (3, vI k), (4, vI f), (5, vI n), (7, vI i)] dX12_wordAt_96 (by decide) rfl ?_
                refine s_iinc (pc := 98) C [(7, vI (i + 1)), (6, vI 0), (0, .ref (ad 0)), (1, vI a), (2, vI b), (3, vI k), (4, vI f), (5, vI n)] dX12_wordAt_98 7 rfl (by decide) rfl ?_
                refine s_goto (pc := 101) C (tgt := 57) dX12_wordAt_101 (by decide) ?_
                refine s_sub C [2, 3, 4, 5, 6, 7, 1, 0] [(0, .ref (ad 0)), (1, vI a), (2, vI b), (3, vI k), (4, vI f), (5, vI n), (6, vI 0), (7, vI (i + 1))] rfl ?_
                have hi57 : 0 ≤ (i + 1) ∧ (i + 1) ≤ n ∧ ((0 : Int) = 0 ∨ (0 : Int) = 1) ∧ ((0 : Int) = 1 → n = b - a) := (by first | omega | assumption | (constructor <;> omega) | (refine ⟨⟨?_, ?_⟩, ?_⟩ <;> omega) | (simp [hs_ss, hs_up]; omega) | (simp [hs_ss, hs_up]; done))
                exact ih57 (i + 1, 0) (by first | omega | (simp only []; omega)) hi57
              · skip
                refine s_iconst (pc := 91) C dX12_wordAt_91 ?_
                refine s_goto (pc := 92) C (tgt := 96) dX12_wordAt_92 (by decide) ?_
                refine s_istore (pc := 96) C [(6, vI 1), (0, .ref (ad 0)), (1, vI a), (2, vI b), (3, vI k), (4, vI f), (5, vI n), (7, vI i)] dX12_wordAt_96 (by decide) rfl ?_
                refine s_iinc (pc := 98) C [(7, vI (i + 1)), (6, vI 1), (0, .ref (ad 0)), (1, vI a), (2, vI b), (3, vI k), (4, vI f), (5, vI n)] dX12_wordAt_98 7 rfl (by decide) rfl ?_
                refine s_goto (pc := 101) C (tgt := 57) dX12_wordAt_101 (by decide) ?_
                refine s_sub C [2, 3, 4, 5, 6, 7, 1, 0] [(0, .ref (ad 0)), (1, vI a), (2, vI b), (3, vI k), (4, vI f), (5, vI n), (6, vI 1), (7, vI (i + 1))] rfl ?_
                have hi57 : 0 ≤ (i + 1) ∧ (i + 1) ≤ n ∧ ((1 : Int) = 0 ∨ (1 : Int) = 1) ∧ ((1 : Int) = 1 → n = b - a) := (by first | omega | assumption | (constructor <;> omega) | (refine ⟨⟨?_, ?_⟩, ?_⟩ <;> omega) | (simp [hs_ss, hs_up]; omega) | (simp [hs_ss, hs_up]; done))
                exact ih57 (i + 1, 1) (by first | omega | (simp only []; omega)) hi57
      · skip
        refine s_iinc (pc := 33) C [(5, vI (n + 1)), (0, .ref (ad 0)), (1, vI a), (2, vI b), (3, vI k), (4, vI f)] dX12_wordAt_33 5 rfl (by decide) rfl ?_
        refine s_goto (pc := 36) C (tgt := 18) dX12_wordAt_36 (by decide) ?_
        refine s_sub C [1, 2, 3, 4, 5, 0] [(0, .ref (ad 0)), (1, vI a), (2, vI b), (3, vI k), (4, vI f), (5, vI (n + 1))] rfl ?_
        have hi18 : 0 ≤ (n + 1) ∧ f + (n + 1) ≤ E := (by first | omega | assumption | (constructor <;> omega) | (refine ⟨⟨?_, ?_⟩, ?_⟩ <;> omega) | (simp [hs_ss, hs_up]; omega) | (simp [hs_ss, hs_up]; done))
        exact ih18 (n + 1) (by first | omega | (simp only []; omega)) hi18
    · skip
      obtain ⟨E, hE⟩ : ∃ E : Int, E = 30 := ⟨_, rfl⟩
      have hW := wo_seg (f := f) (E := E) g0.1 25 30 (by omega) (by omega) (by decide) wo_d5
      have hWF : ∀ n : Int, f + n = E → WFo (k + 1) (f + (n + 1)) := fun n hn => Or.inr (Or.inr (Or.inr (Or.inr (Or.inr (Or.inr (Or.inl ⟨by omega, by omega⟩))))))
      refine s_iconst (pc := 15) C dX12_wordAt_15 ?_
      refine s_istore (pc := 16) C [(5, vI 0), (0, .ref (ad 0)), (1, vI a), (2, vI b), (3, vI k), (4, vI f)] dX12_wordAt_16 (by decide) rfl ?_
      refine s_sub C [1, 2, 3, 4, 5, 0] [(0, .ref (ad 0)), (1, vI a), (2, vI b), (3, vI k), (4, vI f), (5, vI 0)] rfl ?_
      have hi18 : 0 ≤ (0 : Int) ∧ f + (0 : Int) ≤ E := (by first | omega | assumption | (constructor <;> omega) | (refine ⟨⟨?_, ?_⟩, ?_⟩ <;> omega) | (simp [hs_ss, hs_up]; omega) | (simp [hs_ss, hs_up]; done))
      refine hs_loop (α := Int) (fun x_ => (0 ≤ x_ ∧ f + x_ ≤ E) → hs_Wd p l e 1 s m args below meth c D dA SHY ad A 8 (hs_PI (fun σ z σ1 => σ = σ1 ∧ -1 ≤ z ∧ z ≤ 6) σ) 18 [(0, .ref (ad 0)), (1, vI a), (2, vI b), (3, vI k), (4, vI f), (5, vI x_)] [] σ) (fun x_ => (40 - x_).toNat) ?_ (0) hi18
      rintro n ih18 hinv
      replace hinv : 0 ≤ n ∧ f + n ≤ E := hinv
      show hs_Wd p l e 1 s m args below meth c D dA SHY ad A 8 (hs_PI (fun σ z σ1 => σ = σ1 ∧ -1 ≤ z ∧ z ≤ 6) σ) 18 [(0, .ref (ad 0)), (1, vI a), (2, vI b), (3, vI k), (4, vI f), (5, vI n)] [] σ
      refine s_aload_n (pc := 18) C dX12_wordAt_18 0 rfl ?_
      refine s_getr (q := 0) (ci := 12) (N := 68) (CN := RX12) (T := TX12) (pc := 19) C 24 dX12_wordAt_19 wlX12_53 rfl rfl rfl wfX12 (by decide) rfl ?_
      refine s_iload (pc := 22) C dX12_wordAt_22 4 rfl ?_
      refine s_iload (pc := 24) C dX12_wordAt_24 5 rfl ?_
      refine s_iadd (pc := 26) C dX12_wordAt_26 ?_
      refine s_iald (q := 14) (n := 36) (pc := 27) C (σ 14 ((f + n).toNat)) rfl dX12_wordAt_27 rfl (by omega) (by omega) (by decide) ?_
      have hb27 := wo_b g0.1 (f + n).toNat (by omega)
      have hw27 := hW n (by omega) (by omega)
      refine s_bipush (pc := 28) C dX12_wordAt_28 (by decide) ?_
      refine s_icmp_eq (pc := 30) C (tgt := 39) dX12_wordAt_30 (by decide) ⟨by omega, by omega⟩ ⟨by decide, by decide⟩ (fun h30 => ?_) (fun h30 => ?_)
      · skip
        refine s_iload (pc := 39) C dX12_wordAt_39 5 rfl ?_
        refine s_iload_n (pc := 41) C dX12_wordAt_41 2 rfl ?_
        refine s_iload_n (pc := 42) C dX12_wordAt_42 1 rfl ?_
        refine s_isub (pc := 43) C dX12_wordAt_43 ?_
        refine s_icmp_ne (pc := 44) C (tgt := 51) dX12_wordAt_44 (by decide) ⟨by omega, by omega⟩ ⟨by omega, by omega⟩ (fun h44 => ?_) (fun h44 => ?_)
        · skip
          refine s_iconst (pc := 51) C dX12_wordAt_51 ?_
          refine s_istore (pc := 52) C [(6, vI 0), (0, .ref (ad 0)), (1, vI a), (2, vI b), (3, vI k), (4, vI f), (5, vI n)] dX12_wordAt_52 (by decide) rfl ?_
          refine s_iconst (pc := 54) C dX12_wordAt_54 ?_
          refine s_istore (pc := 55) C [(7, vI 0), (6, vI 0), (0, .ref (ad 0)), (1, vI a), (2, vI b), (3, vI k), (4, vI f), (5, vI n)] dX12_wordAt_55 (by decide) rfl ?_
          refine s_sub C [2, 3, 4, 5, 6, 7, 1, 0] [(0, .ref (ad 0)), (1, vI a), (2, vI b), (3, vI k), (4, vI f), (5, vI n), (6, vI 0), (7, vI 0)] rfl ?_
          have hi57 : 0 ≤ (0 : Int) ∧ (0 : Int) ≤ n ∧ ((0 : Int) = 0 ∨ (0 : Int) = 1) ∧ ((0 : Int) = 1 → n = b - a) := (by first | omega | assumption | (constructor <;> omega) | (refine ⟨⟨?_, ?_⟩, ?_⟩ <;> omega) | (simp [hs_ss, hs_up]; omega) | (simp [hs_ss, hs_up]; done))
          refine hs_loop (α := Int × Int) (fun x_ => (0 ≤ x_.1 ∧ x_.1 ≤ n ∧ (x_.2 = 0 ∨ x_.2 = 1) ∧ (x_.2 = 1 → n = b - a)) → hs_Wd p l e 1 s m args below meth c D dA SHY ad A 8 (hs_PI (fun σ z σ1 => σ = σ1 ∧ -1 ≤ z ∧ z ≤ 6) σ) 57 [(0, .ref (ad 0)), (1, vI a), (2, vI b), (3, vI k), (4, vI f), (5, vI n), (6, vI x_.2), (7, vI x_.1)] [] σ) (fun x_ => (40 - x_.1).toNat) ?_ (0, 0) hi57
          rintro ⟨i, sm⟩ ih57 hinv
          replace hinv : 0 ≤ i ∧ i ≤ n ∧ (sm = 0 ∨ sm = 1) ∧ (sm = 1 → n = b - a) := hinv
          show hs_Wd p l e 1 s m args below meth c D dA SHY ad A 8 (hs_PI (fun σ z σ1 => σ = σ1 ∧ -1 ≤ z ∧ z ≤ 6) σ) 57 [(0, .ref (ad 0)), (1, vI a), (2, vI b), (3, vI k), (4, vI f), (5, vI n), (6, vI sm), (7, vI i)] [] σ
          refine s_iload (pc := 57) C dX12_wordAt_57 7 rfl ?_
          refine s_iload (pc := 59) C dX12_wordAt_59 5 rfl ?_
          refine s_icmp_ge (pc := 61) C (tgt := 104) dX12_wordAt_61 (by decide) ⟨by omega, by omega⟩ ⟨by omega, by omega⟩ (fun h61 => ?_) (fun h61 => ?_)
          · skip
            refine s_iload (pc := 104) C dX12_wordAt_104 6 rfl ?_
            refine s_if_eq (pc := 106) C (tgt := 111) dX12_wordAt_106 (by decide) ⟨by omega, by omega⟩ (fun h106 => ?_) (fun h106 => ?_)
            · skip
              refine s_iload (pc := 111) C dX12_wordAt_111 4 rfl ?_
              refine s_iload (pc := 113) C dX12_wordAt_113 5 rfl ?_
              refine s_iconst (pc := 115) C dX12_wordAt_115 ?_
              refine s_iadd (pc := 116) C dX12_wordAt_116 ?_
              refine s_iadd (pc := 117) C dX12_wordAt_117 ?_
              refine s_istore (pc := 118) C [(4, vI (f + (n + 1))), (0, .ref (ad 0)), (1, vI a), (2, vI b), (3, vI k), (5, vI n), (6, vI sm), (7, vI i)] dX12_wordAt_118 (by decide) rfl ?_
              refine s_iinc (pc := 120) C [(3, vI (k + 1)), (4, vI (f + (n + 1))), (0, .ref (ad 0)), (1, vI a), (2, vI b), (5, vI n), (6, vI sm), (7, vI i)] dX12_wordAt_120 4 rfl (by decide) rfl ?_
              refine s_goto (pc := 123) C (tgt := 5) dX12_wordAt_123 (by decide) ?_
              refine s_sub C [2, 3, 4, 0, 1] [(0, .ref (ad 0)), (1, vI a), (2, vI b), (3, vI (k + 1)), (4, vI (f + (n + 1)))] rfl ?_
              have hi5 : WFo (k + 1) (f + (n + 1)) := hWF n (by omega)
              exact ih5 (k + 1, f + (n + 1)) (by first | omega | (simp only []; omega)) hi5
            · skip
              refine s_iload_n (pc := 109) C dX12_wordAt_109 3 rfl ?_
              refine s_iret (pc := 110) C dX12_wordAt_110 ?_
              refine ⟨_, rfl, ?_⟩
              exact ⟨rfl, by first | omega | assumption | (constructor <;> omega) | (refine ⟨⟨?_, ?_⟩, ?_⟩ <;> omega) | (simp [hs_ss, hs_up]; omega) | (simp [hs_ss, hs_up]; done)⟩
          · skip
            refine s_iload (pc := 64) C dX12_wordAt_64 6 rfl ?_
            refine s_if_eq (pc := 66) C (tgt := 104) dX12_wordAt_66 (by decide) ⟨by omega, by omega⟩ (fun h66 => ?_) (fun h66 => ?_)
            · skip
              refine s_iload (pc := 104) C dX12_wordAt_104 6 rfl ?_
              refine s_if_eq (pc := 106) C (tgt := 111) dX12_wordAt_106 (by decide) ⟨by omega, by omega⟩ (fun h106 => ?_) (fun h106 => ?_)
              · skip
                refine s_iload (pc := 111) C dX12_wordAt_111 4 rfl ?_
                refine s_iload (pc := 113) C dX12_wordAt_113 5 rfl ?_
                refine s_iconst (pc := 115) C dX12_wordAt_115 ?_
                refine s_iadd (pc := 116) C dX12_wordAt_116 ?_
                refine s_iadd (pc := 117) C dX12_wordAt_117 ?_
                refine s_istore (pc := 118) C [(4, vI (f + (n + 1))), (0, .ref (ad 0)), (1, vI a), (2, vI b), (3, vI k), (5, vI n), (6, vI sm), (7, vI i)] dX12_wordAt_118 (by decide) rfl ?_
                refine s_iinc (pc := 120) C [(3, vI (k + 1)), (4, vI (f + (n + 1))), (0, .ref (ad 0)), (1, vI a), (2, vI b), (5, vI n), (6, vI sm), (7, vI i)] dX12_wordAt_120 4 rfl (by decide) rfl ?_
                refine s_goto (pc := 123) C (tgt := 5) dX12_wordAt_123 (by decide) ?_
                refine s_sub C [2, 3, 4, 0, 1] [(0, .ref (ad 0)), (1, vI a), (2, vI b), (3, vI (k + 1)), (4, vI (f + (n + 1)))] rfl ?_
                have hi5 : WFo (k + 1) (f + (n + 1)) := hWF n (by omega)
                exact ih5 (k + 1, f + (n + 1)) (by first | omega | (simp only []; omega)) hi5
              · skip
                refine s_iload_n (pc := 109) C dX12_wordAt_109 3 rfl ?_
                refine s_iret (pc := 110) C dX12_wordAt_110 ?_
                refine ⟨_, rfl, ?_⟩
                exact ⟨rfl, by first | omega | assumption | (constructor <;> omega) | (refine ⟨⟨?_, ?_⟩, ?_⟩ <;> omega) | (simp [hs_ss, hs_up]; omega) | (simp [hs_ss, hs_up]; done)⟩
            · skip
              refine s_aload_n (pc := 69) C dX12_wordAt_69 0 rfl ?_
              refine s_getr (q := 0) (ci := 12) (N := 68) (CN := RX12) (T := TX12) (pc := 70) C 24 dX12_wordAt_70 wlX12_53 rfl rfl rfl wfX12 (by decide) rfl ?_
              refine s_iload (pc := 73) C dX12_wordAt_73 4 rfl ?_
              refine s_iload (pc := 75) C dX12_wordAt_75 7 rfl ?_
              refine s_iadd (pc := 77) C dX12_wordAt_77 ?_
              refine s_iald (q := 14) (n := 36) (pc := 78) C (σ 14 ((f + i).toNat)) rfl dX12_wordAt_78 rfl (by omega) (by omega) (by decide) ?_
              have hb78 := wo_b g0.1 (f + i).toNat (by omega)
              refine s_aload_n (pc := 79) C dX12_wordAt_79 0 rfl ?_
              refine s_getr (q := 0) (ci := 12) (N := 68) (CN := RX12) (T := TX12) (pc := 80) C 0 dX12_wordAt_80 wlX12_7 rfl rfl rfl wfX12 (by decide) rfl ?_
              refine s_iload_n (pc := 83) C dX12_wordAt_83 1 rfl ?_
              refine s_iload (pc := 84) C dX12_wordAt_84 7 rfl ?_
              refine s_iadd (pc := 86) C dX12_wordAt_86 ?_
              refine s_iald (q := 1) (n := 500) (pc := 87) C (σ 1 ((a + i).toNat)) rfl dX12_wordAt_87 rfl (by omega) (by omega) (by decide) ?_
              have b87 : (0 : Int) ≤ σ 1 ((a + i).toNat) ∧ σ 1 ((a + i).toNat) ≤ 255 := g0.1 1 ((a + i).toNat)
              refine s_icmp_ne (pc := 88) C (tgt := 95) dX12_wordAt_88 (by decide) ⟨by omega, by omega⟩ ⟨by omega, by omega⟩ (fun h88 => ?_) (fun h88 => ?_)
              · skip
                refine s_iconst (pc := 95) C dX12_wordAt_95 ?_
                refine s_istore (pc := 96) C [(6, vI 0), (0, .ref (ad 0)), (1, vI a), (2, vI b), (3, vI k), (4, vI f), (5, vI n), (7, vI i)] dX12_wordAt_96 (by decide) rfl ?_
                refine s_iinc (pc := 98) C [(7, vI (i + 1)), (6, vI 0), (0, .ref (ad 0)), (1, vI a), (2, vI b), (3, vI k), (4, vI f), (5, vI n)] dX12_wordAt_98 7 rfl (by decide) rfl ?_
                refine s_goto (pc := 101) C (tgt := 57) dX12_wordAt_101 (by decide) ?_
                refine s_sub C [2, 3, 4, 5, 6, 7, 1, 0] [(0, .ref (ad 0)), (1, vI a), (2, vI b), (3, vI k), (4, vI f), (5, vI n), (6, vI 0), (7, vI (i + 1))] rfl ?_
                have hi57 : 0 ≤ (i + 1) ∧ (i + 1) ≤ n ∧ ((0 : Int) = 0 ∨ (0 : Int) = 1) ∧ ((0 : Int) = 1 → n = b - a) := (by first | omega | assumption | (constructor <;> omega) | (refine ⟨⟨?_, ?_⟩, ?_⟩ <;> omega) | (simp [hs_ss, hs_up]; omega) | (simp [hs_ss, hs_up]; done))
                exact ih57 (i + 1, 0) (by first | omega | (simp only []; omega)) hi57
              · skip
                refine s_iconst (pc := 91) C dX12_wordAt_91 ?_
                refine s_goto (pc := 92) C (tgt := 96) dX12_wordAt_92 (by decide) ?_
                refine s_istore (pc := 96) C [(6, vI 1), (0, .ref (ad 0)), (1, vI a), (2, vI b), (3, vI k), (4, vI f), (5, vI n), (7, vI i)] dX12_wordAt_96 (by decide) rfl ?_
                refine s_iinc (pc := 98) C [(7, vI (i + 1)), (6, vI 1), (0, .ref (ad 0)), (1, vI a), (2, vI b), (3, vI k), (4, vI f), (5, vI n)] dX12_wordAt_98 7 rfl (by decide) rfl ?_
                refine s_goto (pc := 101) C (tgt := 57) dX12_wordAt_101 (by decide) ?_
                refine s_sub C [2, 3, 4, 5, 6, 7, 1, 0] [(0, .ref (ad 0)), (1, vI a), (2, vI b), (3, vI k), (4, vI f), (5, vI n), (6, vI 1), (7, vI (i + 1))] rfl ?_
                have hi57 : 0 ≤ (i + 1) ∧ (i + 1) ≤ n ∧ ((1 : Int) = 0 ∨ (1 : Int) = 1) ∧ ((1 : Int) = 1 → n = b - a) := (by first | omega | assumption | (constructor <;> omega) | (refine ⟨⟨?_, ?_⟩, ?_⟩ <;> omega) | (simp [hs_ss, hs_up]; omega) | (simp [hs_ss, hs_up]; done))
                exact ih57 (i + 1, 1) (by first | omega | (simp only []; omega)) hi57
        · skip
          refine s_iconst (pc := 47) C dX12_wordAt_47 ?_
          refine s_goto (pc := 48) C (tgt := 52) dX12_wordAt_48 (by decide) ?_
          refine s_istore (pc := 52) C [(6, vI 1), (0, .ref (ad 0)), (1, vI a), (2, vI b), (3, vI k), (4, vI f), (5, vI n)] dX12_wordAt_52 (by decide) rfl ?_
          refine s_iconst (pc := 54) C dX12_wordAt_54 ?_
          refine s_istore (pc := 55) C [(7, vI 0), (6, vI 1), (0, .ref (ad 0)), (1, vI a), (2, vI b), (3, vI k), (4, vI f), (5, vI n)] dX12_wordAt_55 (by decide) rfl ?_
          refine s_sub C [2, 3, 4, 5, 6, 7, 1, 0] [(0, .ref (ad 0)), (1, vI a), (2, vI b), (3, vI k), (4, vI f), (5, vI n), (6, vI 1), (7, vI 0)] rfl ?_
          have hi57 : 0 ≤ (0 : Int) ∧ (0 : Int) ≤ n ∧ ((1 : Int) = 0 ∨ (1 : Int) = 1) ∧ ((1 : Int) = 1 → n = b - a) := (by first | omega | assumption | (constructor <;> omega) | (refine ⟨⟨?_, ?_⟩, ?_⟩ <;> omega) | (simp [hs_ss, hs_up]; omega) | (simp [hs_ss, hs_up]; done))
          refine hs_loop (α := Int × Int) (fun x_ => (0 ≤ x_.1 ∧ x_.1 ≤ n ∧ (x_.2 = 0 ∨ x_.2 = 1) ∧ (x_.2 = 1 → n = b - a)) → hs_Wd p l e 1 s m args below meth c D dA SHY ad A 8 (hs_PI (fun σ z σ1 => σ = σ1 ∧ -1 ≤ z ∧ z ≤ 6) σ) 57 [(0, .ref (ad 0)), (1, vI a), (2, vI b), (3, vI k), (4, vI f), (5, vI n), (6, vI x_.2), (7, vI x_.1)] [] σ) (fun x_ => (40 - x_.1).toNat) ?_ (0, 1) hi57
          rintro ⟨i, sm⟩ ih57 hinv
          replace hinv : 0 ≤ i ∧ i ≤ n ∧ (sm = 0 ∨ sm = 1) ∧ (sm = 1 → n = b - a) := hinv
          show hs_Wd p l e 1 s m args below meth c D dA SHY ad A 8 (hs_PI (fun σ z σ1 => σ = σ1 ∧ -1 ≤ z ∧ z ≤ 6) σ) 57 [(0, .ref (ad 0)), (1, vI a), (2, vI b), (3, vI k), (4, vI f), (5, vI n), (6, vI sm), (7, vI i)] [] σ
          refine s_iload (pc := 57) C dX12_wordAt_57 7 rfl ?_
          refine s_iload (pc := 59) C dX12_wordAt_59 5 rfl ?_
          refine s_icmp_ge (pc := 61) C (tgt := 104) dX12_wordAt_61 (by decide) ⟨by omega, by omega⟩ ⟨by omega, by omega⟩ (fun h61 => ?_) (fun h61 => ?_)
          · skip
            refine s_iload (pc := 104) C dX12_wordAt_104 6 rfl ?_
            refine s_if_eq (pc := 106) C (tgt := 111) dX12_wordAt_106 (by decide) ⟨by omega, by omega⟩ (fun h106 => ?_) (fun h106 => ?_)
            · skip
              refine s_iload (pc := 111) C dX12_wordAt_111 4 rfl ?_
              refine s_iload (pc := 113) C dX12_wordAt_113 5 rfl ?_
              refine s_iconst (pc := 115) C dX12_wordAt_115 ?_
              refine s_iadd (pc := 116) C dX12_wordAt_116 ?_
              refine s_iadd (pc := 117) C dX12_wordAt_117 ?_
              refine s_istore (pc := 118) C [(4, vI (f + (n + 1))), (0, .ref (ad 0)), (1, vI a), (2, vI b), (3, vI k), (5, vI n), (6, vI sm), (7, vI i)] dX12_wordAt_118 (by decide) rfl ?_
              refine s_iinc (pc := 120) C [(3, vI (k + 1)), (4, vI (f + (n + 1))), (0, .ref (ad 0)), (1, vI a), (2, vI b), (5, vI n), (6, vI sm), (7, vI i)] dX12_wordAt_120 4 rfl (by decide) rfl ?_
              refine s_goto (pc := 123) C (tgt := 5) dX12_wordAt_123 (by decide) ?_
              refine s_sub C [2, 3, 4, 0, 1] [(0, .ref (ad 0)), (1, vI a), (2, vI b), (3, vI (k + 1)), (4, vI (f + (n + 1)))] rfl ?_
              have hi5 : WFo (k + 1) (f + (n + 1)) := hWF n (by omega)
              exact ih5 (k + 1, f + (n + 1)) (by first | omega | (simp only []; omega)) hi5
            · skip
              refine s_iload_n (pc := 109) C dX12_wordAt_109 3 rfl ?_
              refine s_iret (pc := 110) C dX12_wordAt_110 ?_
              refine ⟨_, rfl, ?_⟩
              exact ⟨rfl, by first | omega | assumption | (constructor <;> omega) | (refine ⟨⟨?_, ?_⟩, ?_⟩ <;> omega) | (simp [hs_ss, hs_up]; omega) | (simp [hs_ss, hs_up]; done)⟩
          · skip
            refine s_iload (pc := 64) C dX12_wordAt_64 6 rfl ?_
            refine s_if_eq (pc := 66) C (tgt := 104) dX12_wordAt_66 (by decide) ⟨by omega, by omega⟩ (fun h66 => ?_) (fun h66 => ?_)
            · skip
              refine s_iload (pc := 104) C dX12_wordAt_104 6 rfl ?_
              refine s_if_eq (pc := 106) C (tgt := 111) dX12_wordAt_106 (by decide) ⟨by omega, by omega⟩ (fun h106 => ?_) (fun h106 => ?_)
              · skip
                refine s_iload (pc := 111) C dX12_wordAt_111 4 rfl ?_
                refine s_iload (pc := 113) C dX12_wordAt_113 5 rfl ?_
                refine s_iconst (pc := 115) C dX12_wordAt_115 ?_
                refine s_iadd (pc := 116) C dX12_wordAt_116 ?_
                refine s_iadd (pc := 117) C dX12_wordAt_117 ?_
                refine s_istore (pc := 118) C [(4, vI (f + (n + 1))), (0, .ref (ad 0)), (1, vI a), (2, vI b), (3, vI k), (5, vI n), (6, vI sm), (7, vI i)] dX12_wordAt_118 (by decide) rfl ?_
                refine s_iinc (pc := 120) C [(3, vI (k + 1)), (4, vI (f + (n + 1))), (0, .ref (ad 0)), (1, vI a), (2, vI b), (5, vI n), (6, vI sm), (7, vI i)] dX12_wordAt_120 4 rfl (by decide) rfl ?_
                refine s_goto (pc := 123) C (tgt := 5) dX12_wordAt_123 (by decide) ?_
                refine s_sub C [2, 3, 4, 0, 1] [(0, .ref (ad 0)), (1, vI a), (2, vI b), (3, vI (k + 1)), (4, vI (f + (n + 1)))] rfl ?_
                have hi5 : WFo (k + 1) (f + (n + 1)) := hWF n (by omega)
                exact ih5 (k + 1, f + (n + 1)) (by first | omega | (simp only []; omega)) hi5
              · skip
                refine s_iload_n (pc := 109) C dX12_wordAt_109 3 rfl ?_
                refine s_iret (pc := 110) C dX12_wordAt_110 ?_
                refine ⟨_, rfl, ?_⟩
                exact ⟨rfl, by first | omega | assumption | (constructor <;> omega) | (refine ⟨⟨?_, ?_⟩, ?_⟩ <;> omega) | (simp [hs_ss, hs_up]; omega) | (simp [hs_ss, hs_up]; done)⟩
            · skip
              refine s_aload_n (pc := 69) C dX12_wordAt_69 0 rfl ?_
              refine s_getr (q := 0) (ci := 12) (N := 68) (CN := RX12) (T := TX12) (pc := 70) C 24 dX12_wordAt_70 wlX12_53 rfl rfl rfl wfX12 (by decide) rfl ?_
              refine s_iload (pc := 73) C dX12_wordAt_73 4 rfl ?_
              refine s_iload (pc := 75) C dX12_wordAt_75 7 rfl ?_
              refine s_iadd (pc := 77) C dX12_wordAt_77 ?_
              refine s_iald (q := 14) (n := 36) (pc := 78) C (σ 14 ((f + i).toNat)) rfl dX12_wordAt_78 rfl (by omega) (by omega) (by decide) ?_
              have hb78 := wo_b g0.1 (f + i).toNat (by omega)
              refine s_aload_n (pc := 79) C dX12_wordAt_79 0 rfl ?_
              refine s_getr (q := 0) (ci := 12) (N := 68) (CN := RX12) (T := TX12) (pc := 80) C 0 dX12_wordAt_80 wlX12_7 rfl rfl rfl wfX12 (by decide) rfl ?_
              refine s_iload_n (pc := 83) C dX12_wordAt_83 1 rfl ?_
              refine s_iload (pc := 84) C dX12_wordAt_84 7 rfl ?_
              refine s_iadd (pc := 86) C dX12_wordAt_86 ?_
              refine s_iald (q := 1) (n := 500) (pc := 87) C (σ 1 ((a + i).toNat)) rfl dX12_wordAt_87 rfl (by omega) (by omega) (by decide) ?_
              have b87 : (0 : Int) ≤ σ 1 ((a + i).toNat) ∧ σ 1 ((a + i).toNat) ≤ 255 := g0.1 1 ((a + i).toNat)
              refine s_icmp_ne (pc := 88) C (tgt := 95) dX12_wordAt_88 (by decide) ⟨by omega, by omega⟩ ⟨by omega, by omega⟩ (fun h88 => ?_) (fun h88 => ?_)
              · skip
                refine s_iconst (pc := 95) C dX12_wordAt_95 ?_
                refine s_istore (pc := 96) C [(6, vI 0), (0, .ref (ad 0)), (1, vI a), (2, vI b), (3, vI k), (4, vI f), (5, vI n), (7, vI i)] dX12_wordAt_96 (by decide) rfl ?_
                refine s_iinc (pc := 98) C [(7, vI (i + 1)), (6, vI 0), (0, .ref (ad 0)), (1, vI a), (2, vI b), (3, vI k), (4, vI f), (5, vI n)] dX12_wordAt_98 7 rfl (by decide) rfl ?_
                refine s_goto (pc := 101) C (tgt := 57) dX12_wordAt_101 (by decide) ?_
                refine s_sub C [2, 3, 4, 5, 6, 7, 1, 0] [(0, .ref (ad 0)), (1, vI a), (2, vI b), (3, vI k), (4, vI f), (5, vI n), (6, vI 0), (7, vI (i + 1))] rfl ?_
                have hi57 : 0 ≤ (i + 1) ∧ (i + 1) ≤ n ∧ ((0 : Int) = 0 ∨ (0 : Int) = 1) ∧ ((0 : Int) = 1 → n = b - a) := (by first | omega | assumption | (constructor <;> omega) | (refine ⟨⟨?_, ?_⟩, ?_⟩ <;> omega) | (simp [hs_ss, hs_up]; omega) | (simp [hs_ss, hs_up]; done))
                exact ih57 (i + 1, 0) (by first | omega | (simp only []; omega)) hi57
              · skip
                refine s_iconst (pc := 91) C dX12_wordAt_91 ?_
                refine s_goto (pc := 92) C (tgt := 96) dX12_wordAt_92 (by decide) ?_
                refine s_istore (pc := 96) C [(6, vI 1), (0, .ref (ad 0)), (1, vI a), (2, vI b), (3, vI k), (4, vI f), (5, vI n), (7, vI i)] dX12_wordAt_96 (by decide) rfl ?_
                refine s_iinc (pc := 98) C [(7, vI (i + 1)), (6, vI 1), (0, .ref (ad 0)), (1, vI a), (2, vI b), (3, vI k), (4, vI f), (5, vI n)] dX12_wordAt_98 7 rfl (by decide) rfl ?_
                refine s_goto (pc := 101) C (tgt := 57) dX12_wordAt_101 (by decide) ?_
                refine s_sub C [2, 3, 4, 5, 6, 7, 1, 0] [(0, .ref (ad 0)), (1, vI a), (2, vI b), (3, vI k), (4, vI f), (5, vI n), (6, vI 1), (7, vI (i + 1))] rfl ?_
                have hi57 : 0 ≤ (i + 1) ∧ (i + 1) ≤ n ∧ ((1 : Int) = 0 ∨ (1 : Int) = 1) ∧ ((1 : Int) = 1 → n = b - a) := (by first | omega | assumption | (constructor <;> omega) | (refine ⟨⟨?_, ?_⟩, ?_⟩ <;> omega) | (simp [hs_ss, hs_up]; omega) | (simp [hs_ss, hs_up]; done))
                exact ih57 (i + 1, 1) (by first | omega | (simp only []; omega)) hi57
      · skip
        refine s_iinc (pc := 33) C [(5, vI (n + 1)), (0, .ref (ad 0)), (1, vI a), (2, vI b), (3, vI k), (4, vI f)] dX12_wordAt_33 5 rfl (by decide) rfl ?_
        refine s_goto (pc := 36) C (tgt := 18) dX12_wordAt_36 (by decide) ?_
        refine s_sub C [1, 2, 3, 4, 5, 0] [(0, .ref (ad 0)), (1, vI a), (2, vI b), (3, vI k), (4, vI f), (5, vI (n + 1))] rfl ?_
        have hi18 : 0 ≤ (n + 1) ∧ f + (n + 1) ≤ E := (by first | omega | assumption | (constructor <;> omega) | (refine ⟨⟨?_, ?_⟩, ?_⟩ <;> omega) | (simp [hs_ss, hs_up]; omega) | (simp [hs_ss, hs_up]; done))
        exact ih18 (n + 1) (by first | omega | (simp only []; omega)) hi18
    · skip
      obtain ⟨E, hE⟩ : ∃ E : Int, E = 35 := ⟨_, rfl⟩
      have hW := wo_seg (f := f) (E := E) g0.1 31 35 (by omega) (by omega) (by decide) wo_d6
      have hWF : ∀ n : Int, f + n = E → WFo (k + 1) (f + (n + 1)) := fun n hn => Or.inr (Or.inr (Or.inr (Or.inr (Or.inr (Or.inr (Or.inr (⟨by omega, by omega⟩)))))))
      refine s_iconst (pc := 15) C dX12_wordAt_15 ?_
      refine s_istore (pc := 16) C [(5, vI 0), (0, .ref (ad 0)), (1, vI a), (2, vI b), (3, vI k), (4, vI f)] dX12_wordAt_16 (by decide) rfl ?_
      refine s_sub C [1, 2, 3, 4, 5, 0] [(0, .ref (ad 0)), (1, vI a), (2, vI b), (3, vI k), (4, vI f), (5, vI 0)] rfl ?_
      have hi18 : 0 ≤ (0 : Int) ∧ f + (0 : Int) ≤ E := (by first | omega | assumption | (constructor <;> omega) | (refine ⟨⟨?_, ?_⟩, ?_⟩ <;> omega) | (simp [hs_ss, hs_up]; omega) | (simp [hs_ss, hs_up]; done))
      refine hs_loop (α := Int) (fun x_ => (0 ≤ x_ ∧ f + x_ ≤ E) → hs_Wd p l e 1 s m args below meth c D dA SHY ad A 8 (hs_PI (fun σ z σ1 => σ = σ1 ∧ -1 ≤ z ∧ z ≤ 6) σ) 18 [(0, .ref (ad 0)), (1, vI a), (2, vI b), (3, vI k), (4, vI f), (5, vI x_)] [] σ) (fun x_ => (40 - x_).toNat) ?_ (0) hi18
      rintro n ih18 hinv
      replace hinv : 0 ≤ n ∧ f + n ≤ E := hinv
      show hs_Wd p l e 1 s m args below meth c D dA SHY ad A 8 (hs_PI (fun σ z σ1 => σ = σ1 ∧ -1 ≤ z ∧ z ≤ 6) σ) 18 [(0, .ref (ad 0)), (1, vI a), (2, vI b), (3, vI k), (4, vI f), (5, vI n)] [] σ
      refine s_aload_n (pc := 18) C dX12_wordAt_18 0 rfl ?_
      refine s_getr (q := 0) (ci := 12) (N := 68) (CN := RX12) (T := TX12) (pc := 19) C 24 dX12_wordAt_19 wlX12_53 rfl rfl rfl wfX12 (by decide) rfl ?_
      refine s_iload (pc := 22) C dX12_wordAt_22 4 rfl ?_
      refine s_iload (pc := 24) C dX12_wordAt_24 5 rfl ?_
      refine s_iadd (pc := 26) C dX12_wordAt_26 ?_
      refine s_iald (q := 14) (n := 36) (pc := 27) C (σ 14 ((f + n).toNat)) rfl dX12_wordAt_27 rfl (by omega) (by omega) (by decide) ?_
      have hb27 := wo_b g0.1 (f + n).toNat (by omega)
      have hw27 := hW n (by omega) (by omega)
      refine s_bipush (pc := 28) C dX12_wordAt_28 (by decide) ?_
      refine s_icmp_eq (pc := 30) C (tgt := 39) dX12_wordAt_30 (by decide) ⟨by omega, by omega⟩ ⟨by decide, by decide⟩ (fun h30 => ?_) (fun h30 => ?_)
      · skip
        refine s_iload (pc := 39) C dX12_wordAt_39 5 rfl ?_
        refine s_iload_n (pc := 41) C dX12_wordAt_41 2 rfl ?_
        refine s_iload_n (pc := 42) C dX12_wordAt_42 1 rfl ?_
        refine s_isub (pc := 43) C dX12_wordAt_43 ?_
        refine s_icmp_ne (pc := 44) C (tgt := 51) dX12_wordAt_44 (by decide) ⟨by omega, by omega⟩ ⟨by omega, by omega⟩ (fun h44 => ?_) (fun h44 => ?_)
        · skip
          refine s_iconst (pc := 51) C dX12_wordAt_51 ?_
          refine s_istore (pc := 52) C [(6, vI 0), (0, .ref (ad 0)), (1, vI a), (2, vI b), (3, vI k), (4, vI f), (5, vI n)] dX12_wordAt_52 (by decide) rfl ?_
          refine s_iconst (pc := 54) C dX12_wordAt_54 ?_
          refine s_istore (pc := 55) C [(7, vI 0), (6, vI 0), (0, .ref (ad 0)), (1, vI a), (2, vI b), (3, vI k), (4, vI f), (5, vI n)] dX12_wordAt_55 (by decide) rfl ?_
          refine s_sub C [2, 3, 4, 5, 6, 7, 1, 0] [(0, .ref (ad 0)), (1, vI a), (2, vI b), (3, vI k), (4, vI f), (5, vI n), (6, vI 0), (7, vI 0)] rfl ?_
          have hi57 : 0 ≤ (0 : Int) ∧ (0 : Int) ≤ n ∧ ((0 : Int) = 0 ∨ (0 : Int) = 1) ∧ ((0 : Int) = 1 → n = b - a) := (by first | omega | assumption | (constructor <;> omega) | (refine ⟨⟨?_, ?_⟩, ?_⟩ <;> omega) | (simp [hs_ss, hs_up]; omega) | (simp [hs_ss, hs_up]; done))
          refine hs_loop (α := Int × Int) (fun x_ => (0 ≤ x_.1 ∧ x_.1 ≤ n ∧ (x_.2 = 0 ∨ x_.2 = 1) ∧ (x_.2 = 1 → n = b - a)) → hs_Wd p l e 1 s m args below meth c D dA SHY ad A 8 (hs_PI (fun σ z σ1 => σ = σ1 ∧ -1 ≤ z ∧ z ≤ 6) σ) 57 [(0, .ref (ad 0)), (1, vI a), (2, vI b), (3, vI k), (4, vI f), (5, vI n), (6, vI x_.2), (7, vI x_.1)] [] σ) (fun x_ => (40 - x_.1).toNat) ?_ (0, 0) hi57
          rintro ⟨i, sm⟩ ih57 hinv
          replace hinv : 0 ≤ i ∧ i ≤ n ∧ (sm = 0 ∨ sm = 1) ∧ (sm = 1 → n = b - a) := hinv
          show hs_Wd p l e 1 s m args below meth c D dA SHY ad A 8 (hs_PI (fun σ z σ1 => σ = σ1 ∧ -1 ≤ z ∧ z ≤ 6) σ) 57 [(0, .ref (ad 0)), (1, vI a), (2, vI b), (3, vI k), (4, vI f), (5, vI n), (6, vI sm), (7, vI i)] [] σ
          refine s_iload (pc := 57) C dX12_wordAt_57 7 rfl ?_
          refine s_iload (pc := 59) C dX12_wordAt_59 5 rfl ?_
          refine s_icmp_ge (pc := 61) C (tgt := 104) dX12_wordAt_61 (by decide) ⟨by omega, by omega⟩ ⟨by omega, by omega⟩ (fun h61 => ?_) (fun h61 => ?_)
          · skip
            refine s_iload (pc := 104) C dX12_wordAt_104 6 rfl ?_
            refine s_if_eq (pc := 106) C (tgt := 111) dX12_wordAt_106 (by decide) ⟨by omega, by omega⟩ (fun h106 => ?_) (fun h106 => ?_)
            · skip
              refine s_iload (pc := 111) C dX12_wordAt_111 4 rfl ?_
              refine s_iload (pc := 113) C dX12_wordAt_113 5 rfl ?_
              refine s_iconst (pc := 115) C dX12_wordAt_115 ?_
              refine s_iadd (pc := 116) C dX12_wordAt_116 ?_
              refine s_iadd (pc := 117) C dX12_wordAt_117 ?_
              refine s_istore (pc := 118) C [(4, vI (f + (n + 1))), (0, .ref (ad 0)), (1, vI a), (2, vI b), (3, vI k), (5, vI n), (6, vI sm), (7, vI i)] dX12_wordAt_118 (by decide) rfl ?_
              refine s_iinc (pc := 120) C [(3, vI (k + 1)), (4, vI (f + (n + 1))), (0, .ref (ad 0)), (1, vI a), (2, vI b), (5, vI n), (6, vI sm), (7, vI i)] dX12_wordAt_120 4 rfl (by decide) rfl ?_
              refine s_goto (pc := 123) C (tgt := 5) dX12_wordAt_123 (by decide) ?_
              refine s_sub C [2, 3, 4, 0, 1] [(0, .ref (ad 0)), (1, vI a), (2, vI b), (3, vI (k + 1)), (4, vI (f + (n + 1)))] rfl ?_
              have hi5 : WFo (k + 1) (f + (n + 1)) := hWF n (by omega)
              exact ih5 (k + 1, f + (n + 1)) (by first | omega | (simp only []; omega)) hi5
            · skip
              refine s_iload_n (pc := 109) C dX12_wordAt_109 3 rfl ?_
              refine s_iret (pc := 110) C dX12_wordAt_110 ?_
              refine ⟨_, rfl, ?_⟩
              exact ⟨rfl, by first | omega | assumption | (constructor <;> omega) | (refine ⟨⟨?_, ?_⟩, ?_⟩ <;> omega) | (simp [hs_ss, hs_up]; omega) | (simp [hs_ss, hs_up]; done)⟩
          · skip
            refine s_iload (pc := 64) C dX12_wordAt_64 6 rfl ?_
            refine s_if_eq (pc := 66) C (tgt := 104) dX12_wordAt_66 (by decide) ⟨by omega, by omega⟩ (fun h66 => ?_) (fun h66 => ?_)
            · skip
              refine s_iload (pc := 104) C dX12_wordAt_104 6 rfl ?_
              refine s_if_eq (pc := 106) C (tgt := 111) dX12_wordAt_106 (by decide) ⟨by omega, by omega⟩ (fun h106 => ?_) (fun h106 => ?_)
              · skip
                refine s_iload (pc := 111) C dX12_wordAt_111 4 rfl ?_
                refine s_iload (pc := 113) C dX12_wordAt_113 5 rfl ?_
                refine s_iconst (pc := 115) C dX12_wordAt_115 ?_
                refine s_iadd (pc := 116) C dX12_wordAt_116 ?_
                refine s_iadd (pc := 117) C dX12_wordAt_117 ?_
                refine s_istore (pc := 118) C [(4, vI (f + (n + 1))), (0, .ref (ad 0)), (1, vI a), (2, vI b), (3, vI k), (5, vI n), (6, vI sm), (7, vI i)] dX12_wordAt_118 (by decide) rfl ?_
                refine s_iinc (pc := 120) C [(3, vI (k + 1)), (4, vI (f + (n + 1))), (0, .ref (ad 0)), (1, vI a), (2, vI b), (5, vI n), (6, vI sm), (7, vI i)] dX12_wordAt_120 4 rfl (by decide) rfl ?_
                refine s_goto (pc := 123) C (tgt := 5) dX12_wordAt_123 (by decide) ?_
                refine s_sub C [2, 3, 4, 0, 1] [(0, .ref (ad 0)), (1, vI a), (2, vI b), (3, vI (k + 1)), (4, vI (f + (n + 1)))] rfl ?_
                have hi5 : WFo (k + 1) (f + (n + 1)) := hWF n (by omega)
                exact ih5 (k + 1, f + (n + 1)) (by first | omega | (simp only []; omega)) hi5
              · skip
                refine s_iload_n (pc := 109) C dX12_wordAt_109 3 rfl ?_
                refine s_iret (pc := 110) C dX12_wordAt_110 ?_
                refine ⟨_, rfl, ?_⟩
                exact ⟨rfl, by first | omega | assumption | (constructor <;> omega) | (refine ⟨⟨?_, ?_⟩, ?_⟩ <;> omega) | (simp [hs_ss, hs_up]; omega) | (simp [hs_ss, hs_up]; done)⟩
            · skip
              refine s_aload_n (pc := 69) C dX12_wordAt_69 0 rfl ?_
              refine s_getr (q := 0) (ci := 12) (N := 68) (CN := RX12) (T := TX12) (pc := 70) C 24 dX12_wordAt_70 wlX12_53 rfl rfl rfl wfX12 (by decide) rfl ?_
              refine s_iload (pc := 73) C dX12_wordAt_73 4 rfl ?_
              refine s_iload (pc := 75) C dX12_wordAt_75 7 rfl ?_
              refine s_iadd (pc := 77) C dX12_wordAt_77 ?_
              refine s_iald (q := 14) (n := 36) (pc := 78) C (σ 14 ((f + i).toNat)) rfl dX12_wordAt_78 rfl (by omega) (by omega) (by decide) ?_
              have hb78 := wo_b g0.1 (f + i).toNat (by omega)
              refine s_aload_n (pc := 79) C dX12_wordAt_79 0 rfl ?_
              refine s_getr (q := 0) (ci := 12) (N := 68) (CN := RX12) (T := TX12) (pc := 80) C 0 dX12_wordAt_80 wlX12_7 rfl rfl rfl wfX12 (by decide) rfl ?_
              refine s_iload_n (pc := 83) C dX12_wordAt_83 1 rfl ?_
              refine s_iload (pc := 84) C dX12_wordAt_84 7 rfl ?_
              refine s_iadd (pc := 86) C dX12_wordAt_86 ?_
              refine s_iald (q := 1) (n := 500) (pc := 87) C (σ 1 ((a + i).toNat)) rfl dX12_wordAt_87 rfl (by omega) (by omega) (by decide) ?_
              have b87 : (0 : Int) ≤ σ 1 ((a + i).toNat) ∧ σ 1 ((a + i).toNat) ≤ 255 := g0.1 1 ((a + i).toNat)
              refine s_icmp_ne (pc := 88) C (tgt := 95) dX12_wordAt_88 (by decide) ⟨by omega, by omega⟩ ⟨by omega, by omega⟩ (fun h88 => ?_) (fun h88 => ?_)
              · skip
                refine s_iconst (pc := 95) C dX12_wordAt_95 ?_
                refine s_istore (pc := 96) C [(6, vI 0), (0, .ref (ad 0)), (1, vI a), (2, vI b), (3, vI k), (4, vI f), (5, vI n), (7, vI i)] dX12_wordAt_96 (by decide) rfl ?_
                refine s_iinc (pc := 98) C [(7, vI (i + 1)), (6, vI 0), (0, .ref (ad 0)), (1, vI a), (2, vI b), (3, vI k), (4, vI f), (5, vI n)] dX12_wordAt_98 7 rfl (by decide) rfl ?_
                refine s_goto (pc := 101) C (tgt := 57) dX12_wordAt_101 (by decide) ?_
                refine s_sub C [2, 3, 4, 5, 6, 7, 1, 0] [(0, .ref (ad 0)), (1, vI a), (2, vI b), (3, vI k), (4, vI f), (5, vI n), (6, vI 0), (7, vI (i + 1))] rfl ?_
                have hi57 : 0 ≤ (i + 1) ∧ (i + 1) ≤ n ∧ ((0 : Int) = 0 ∨ (0 : Int) = 1) ∧ ((0 : Int) = 1 → n = b - a) := (by first | omega | assumption | (constructor <;> omega) | (refine ⟨⟨?_, ?_⟩, ?_⟩ <;> omega) | (simp [hs_ss, hs_up]; omega) | (simp [hs_ss, hs_up]; done))
                exact ih57 (i + 1, 0) (by first | omega | (simp only []; omega)) hi57
              · skip
                refine s_iconst (pc := 91) C dX12_wordAt_91 ?_
                refine s_goto (pc := 92) C (tgt := 96) dX12_wordAt_92 (by decide) ?_
                refine s_istore (pc := 96) C [(6, vI 1), (0, .ref (ad 0)), (1, vI a), (2, vI b), (3, vI k), (4, vI f), (5, vI n), (7, vI i)] dX12_wordAt_96 (by decide) rfl ?_
                refine s_iinc (pc := 98) C [(7, vI (i + 1)), (6, vI 1), (0, .ref (ad 0)), (1, vI a), (2, vI b), (3, vI k), (4, vI f), (5, vI n)] dX12_wordAt_98 7 rfl (by decide) rfl ?_
                refine s_goto (pc := 101) C (tgt := 57) dX12_wordAt_101 (by decide) ?_
                refine s_sub C [2, 3, 4, 5, 6, 7, 1, 0] [(0, .ref (ad 0)), (1, vI a), (2, vI b), (3, vI k), (4, vI f), (5, vI n), (6, vI 1), (7, vI (i + 1))] rfl ?_
                have hi57 : 0 ≤ (i + 1) ∧ (i + 1) ≤ n ∧ ((1 : Int) = 0 ∨ (1 : Int) = 1) ∧ ((1 : Int) = 1 → n = b - a) := (by first | omega | assumption | (constructor <;> omega) | (refine ⟨⟨?_, ?_⟩, ?_⟩ <;> omega) | (simp [hs_ss, hs_up]; omega) | (simp [hs_ss, hs_up]; done))
                exact ih57 (i + 1, 1) (by first | omega | (simp only []; omega)) hi57
        · skip
          refine s_iconst (pc := 47) C dX12_wordAt_47 ?_
          refine s_goto (pc := 48) C (tgt := 52) dX12_wordAt_48 (by decide) ?_
          refine s_istore (pc := 52) C [(6, vI 1), (0, .ref (ad 0)), (1, vI a), (2, vI b), (3, vI k), (4, vI f), (5, vI n)] dX12_wordAt_52 (by decide) rfl ?_
          refine s_iconst (pc := 54) C dX12_wordAt_54 ?_
          refine s_istore (pc := 55) C [(7, vI 0), (6, vI 1), (0, .ref (ad 0)), (1, vI a), (2, vI b), (3, vI k), (4, vI f), (5, vI n)] dX12_wordAt_55 (by decide) rfl ?_
          refine s_sub C [2, 3, 4, 5, 6, 7, 1, 0] [(0, .ref (ad 0)), (1, vI a), (2, vI b), (3, vI k), (4, vI f), (5, vI n), (6, vI 1), (7, vI 0)] rfl ?_
          have hi57 : 0 ≤ (0 : Int) ∧ (0 : Int) ≤ n ∧ ((1 : Int) = 0 ∨ (1 : Int) = 1) ∧ ((1 : Int) = 1 → n = b - a) := (by first | omega | assumption | (constructor <;> omega) | (refine ⟨⟨?_, ?_⟩, ?_⟩ <;> omega) | (simp [hs_ss, hs_up]; omega) | (simp [hs_ss, hs_up]; done))
          refine hs_loop (α := Int × Int) (fun x_ => (0 ≤ x_.1 ∧ x_.1 ≤ n ∧ (x_.2 = 0 ∨ x_.2 = 1) ∧ (x_.2 = 1 → n = b - a)) → hs_Wd p l e 1 s m args below meth c D dA SHY ad A 8 (hs_PI (fun σ z σ1 => σ = σ1 ∧ -1 ≤ z ∧ z ≤ 6) σ) 57 [(0, .ref (ad 0)), (1, vI a), (2, vI b), (3, vI k), (4, vI f), (5, vI n), (6, vI x_.2), (7, vI x_.1)] [] σ) (fun x_ => (40 - x_.1).toNat) ?_ (0, 1) hi57
          rintro ⟨i, sm⟩ ih57 hinv
          replace hinv : 0 ≤ i ∧ i ≤ n ∧ (sm = 0 ∨ sm = 1) ∧ (sm = 1 → n = b - a) := hinv
          show hs_Wd p l e 1 s m args below meth c D dA SHY ad A 8 (hs_PI (fun σ z σ1 => σ = σ1 ∧ -1 ≤ z ∧ z ≤ 6) σ) 57 [(0, .ref (ad 0)), (1, vI a), (2, vI b), (3, vI k), (4, vI f), (5, vI n), (6, vI sm), (7, vI i)] [] σ
          refine s_iload (pc := 57) C dX12_wordAt_57 7 rfl ?_
          refine s_iload (pc := 59) C dX12_wordAt_59 5 rfl ?_
          refine s_icmp_ge (pc := 61) C (tgt := 104) dX12_wordAt_61 (by decide) ⟨by omega, by omega⟩ ⟨by omega, by omega⟩ (fun h61 => ?_) (fun h61 => ?_)
          · skip
            refine s_iload (pc := 104) C dX12_wordAt_104 6 rfl ?_
            refine s_if_eq (pc := 106) C (tgt := 111) dX12_wordAt_106 (by decide) ⟨by omega, by omega⟩ (fun h106 => ?_) (fun h106 => ?_)
            · skip
              refine s_iload (pc := 111) C dX12_wordAt_111 4 rfl ?_
              refine s_iload (pc := 113) C dX12_wordAt_113 5 rfl ?_
              refine s_iconst (pc := 115) C dX12_wordAt_115 ?_
              refine s_iadd (pc := 116) C dX12_wordAt_116 ?_
              refine s_iadd (pc := 117) C dX12_wordAt_117 ?_
              refine s_istore (pc := 118) C [(4, vI (f + (n + 1))), (0, .ref (ad 0)), (1, vI a), (2, vI b), (3, vI k), (5, vI n), (6, vI sm), (7, vI i)] dX12_wordAt_118 (by decide) rfl ?_
              refine s_iinc (pc := 120) C [(3, vI (k + 1)), (4, vI (f + (n + 1))), (0, .ref (ad 0)), (1, vI a), (2, vI b), (5, vI n), (6, vI sm), (7, vI i)] dX12_wordAt_120 4 rfl (by decide) rfl ?_
              refine s_goto (pc := 123) C (tgt := 5) dX12_wordAt_123 (by decide) ?_
              refine s_sub C [2, 3, 4, 0, 1] [(0, .ref (ad 0)), (1, vI a), (2, vI b), (3, vI (k + 1)), (4, vI (f + (n + 1)))] rfl ?_
              have hi5 : WFo (k + 1) (f + (n + 1)) := hWF n (by omega)
              exact ih5 (k + 1, f + (n + 1)) (by first | omega | (simp only []; omega)) hi5
            · skip
              refine s_iload_n (pc := 109) C dX12_wordAt_109 3 rfl ?_
              refine s_iret (pc := 110) C dX12_wordAt_110 ?_
              refine ⟨_, rfl, ?_⟩
              exact ⟨rfl, by first | omega | assumption | (constructor <;> omega) | (refine ⟨⟨?_, ?_⟩, ?_⟩ <;> omega) | (simp [hs_ss, hs_up]; omega) | (simp [hs_ss, hs_up]; done)⟩
          · skip
            refine s_iload (pc := 64) C dX12_wordAt_64 6 rfl ?_
            refine s_if_eq (pc := 66) C (tgt := 104) dX12_wordAt_66 (by decide) ⟨by omega, by omega⟩ (fun h66 => ?_) (fun h66 => ?_)
            · skip
              refine s_iload (pc := 104) C dX12_wordAt_104 6 rfl ?_
              refine s_if_eq (pc := 106) C (tgt := 111) dX12_wordAt_106 (by decide) ⟨by omega, by omega⟩ (fun h106 => ?_) (fun h106 => ?_)
              · skip
                refine s_iload (pc := 111) C dX12_wordAt_111 4 rfl ?_
                refine s_iload (pc := 113) C dX12_wordAt_113 5 rfl ?_
                refine s_iconst (pc := 115) C dX12_wordAt_115 ?_
                refine s_iadd (pc := 116) C dX12_wordAt_116 ?_
                refine s_iadd (pc := 117) C dX12_wordAt_117 ?_
                refine s_istore (pc := 118) C [(4, vI (f + (n + 1))), (0, .ref (ad 0)), (1, vI a), (2, vI b), (3, vI k), (5, vI n), (6, vI sm), (7, vI i)] dX12_wordAt_118 (by decide) rfl ?_
                refine s_iinc (pc := 120) C [(3, vI (k + 1)), (4, vI (f + (n + 1))), (0, .ref (ad 0)), (1, vI a), (2, vI b), (5, vI n), (6, vI sm), (7, vI i)] dX12_wordAt_120 4 rfl (by decide) rfl ?_
                refine s_goto (pc := 123) C (tgt := 5) dX12_wordAt_123 (by decide) ?_
                refine s_sub C [2, 3, 4, 0, 1] [(0, .ref (ad 0)), (1, vI a), (2, vI b), (3, vI (k + 1)), (4, vI (f + (n + 1)))] rfl ?_
                have hi5 : WFo (k + 1) (f + (n + 1)) := hWF n (by omega)
                exact ih5 (k + 1, f + (n + 1)) (by first | omega | (simp only []; omega)) hi5
              · skip
                refine s_iload_n (pc := 109) C dX12_wordAt_109 3 rfl ?_
                refine s_iret (pc := 110) C dX12_wordAt_110 ?_
                refine ⟨_, rfl, ?_⟩
                exact ⟨rfl, by first | omega | assumption | (constructor <;> omega) | (refine ⟨⟨?_, ?_⟩, ?_⟩ <;> omega) | (simp [hs_ss, hs_up]; omega) | (simp [hs_ss, hs_up]; done)⟩
            · skip
              refine s_aload_n (pc := 69) C dX12_wordAt_69 0 rfl ?_
              refine s_getr (q := 0) (ci := 12) (N := 68) (CN := RX12) (T := TX12) (pc := 70) C 24 dX12_wordAt_70 wlX12_53 rfl rfl rfl wfX12 (by decide) rfl ?_
              refine s_iload (pc := 73) C dX12_wordAt_73 4 rfl ?_
              refine s_iload (pc := 75) C dX12_wordAt_75 7 rfl ?_
              refine s_iadd (pc := 77) C dX12_wordAt_77 ?_
              refine s_iald (q := 14) (n := 36) (pc := 78) C (σ 14 ((f + i).toNat)) rfl dX12_wordAt_78 rfl (by omega) (by omega) (by decide) ?_
              have hb78 := wo_b g0.1 (f + i).toNat (by omega)
              refine s_aload_n (pc := 79) C dX12_wordAt_79 0 rfl ?_
              refine s_getr (q := 0) (ci := 12) (N := 68) (CN := RX12) (T := TX12) (pc := 80) C 0 dX12_wordAt_80 wlX12_7 rfl rfl rfl wfX12 (by decide) rfl ?_
              refine s_iload_n (pc := 83) C dX12_wordAt_83 1 rfl ?_
              refine s_iload (pc := 84) C dX12_wordAt_84 7 rfl ?_
              refine s_iadd (pc := 86) C dX12_wordAt_86 ?_
              refine s_iald (q := 1) (n := 500) (pc := 87) C (σ 1 ((a + i).toNat)) rfl dX12_wordAt_87 rfl (by omega) (by omega) (by decide) ?_
              have b87 : (0 : Int) ≤ σ 1 ((a + i).toNat) ∧ σ 1 ((a + i).toNat) ≤ 255 := g0.1 1 ((a + i).toNat)
              refine s_icmp_ne (pc := 88) C (tgt := 95) dX12_wordAt_88 (by decide) ⟨by omega, by omega⟩ ⟨by omega, by omega⟩ (fun h88 => ?_) (fun h88 => ?_)
              · skip
                refine s_iconst (pc := 95) C dX12_wordAt_95 ?_
                refine s_istore (pc := 96) C [(6, vI 0), (0, .ref (ad 0)), (1, vI a), (2, vI b), (3, vI k), (4, vI f), (5, vI n), (7, vI i)] dX12_wordAt_96 (by decide) rfl ?_
                refine s_iinc (pc := 98) C [(7, vI (i + 1)), (6, vI 0), (0, .ref (ad 0)), (1, vI a), (2, vI b), (3, vI k), (4, vI f), (5, vI n)] dX12_wordAt_98 7 rfl (by decide) rfl ?_
                refine s_goto (pc := 101) C (tgt := 57) dX12_wordAt_101 (by decide) ?_
                refine s_sub C [2, 3, 4, 5, 6, 7, 1, 0] [(0, .ref (ad 0)), (1, vI a), (2, vI b), (3, vI k), (4, vI f), (5, vI n), (6, vI 0), (7, vI (i + 1))] rfl ?_
                have hi57 : 0 ≤ (i + 1) ∧ (i + 1) ≤ n ∧ ((0 : Int) = 0 ∨ (0 : Int) = 1) ∧ ((0 : Int) = 1 → n = b - a) := (by first | omega | assumption | (constructor <;> omega) | (refine ⟨⟨?_, ?_⟩, ?_⟩ <;> omega) | (simp [hs_ss, hs_up]; omega) | (simp [hs_ss, hs_up]; done))
                exact ih57 (i + 1, 0) (by first | omega | (simp only []; omega)) hi57
              · skip
                refine s_iconst (pc := 91) C dX12_wordAt_91 ?_
                refine s_goto (pc := 92) C (tgt := 96) dX12_wordAt_92 (by decide) ?_
                refine s_istore (pc := 96) C [(6, vI 1), (0, .ref (ad 0)), (1, vI a), (2, vI b), (3, vI k), (4, vI f), (5, vI n), (7, vI i)] dX12_wordAt_96 (by decide) rfl ?_
                refine s_iinc (pc := 98) C [(7, vI (i + 1)), (6, vI 1), (0, .ref (ad 0)), (1, vI a), (2, vI b), (3, vI k), (4, vI f), (5, vI n)] dX12_wordAt_98 7 rfl (by decide) rfl ?_
                refine s_goto (pc := 101) C (tgt := 57) dX12_wordAt_101 (by decide) ?_
                refine s_sub C [2, 3, 4, 5, 6, 7, 1, 0] [(0, .ref (ad 0)), (1, vI a), (2, vI b), (3, vI k), (4, vI f), (5, vI n), (6, vI 1), (7, vI (i + 1))] rfl ?_
                have hi57 : 0 ≤ (i + 1) ∧ (i + 1) ≤ n ∧ ((1 : Int) = 0 ∨ (1 : Int) = 1) ∧ ((1 : Int) = 1 → n = b - a) := (by first | omega | assumption | (constructor <;> omega) | (refine ⟨⟨?_, ?_⟩, ?_⟩ <;> omega) | (simp [hs_ss, hs_up]; omega) | (simp [hs_ss, hs_up]; done))
                exact ih57 (i + 1, 1) (by first | omega | (simp only []; omega)) hi57
      · skip
        refine s_iinc (pc := 33) C [(5, vI (n + 1)), (0, .ref (ad 0)), (1, vI a), (2, vI b), (3, vI k), (4, vI f)] dX12_wordAt_33 5 rfl (by decide) rfl ?_
        refine s_goto (pc := 36) C (tgt := 18) dX12_wordAt_36 (by decide) ?_
        refine s_sub C [1, 2, 3, 4, 5, 0] [(0, .ref (ad 0)), (1, vI a), (2, vI b), (3, vI k), (4, vI f), (5, vI (n + 1))] rfl ?_
        have hi18 : 0 ≤ (n + 1) ∧ f + (n + 1) ≤ E := (by first | omega | assumption | (constructor <;> omega) | (refine ⟨⟨?_, ?_⟩, ?_⟩ <;> omega) | (simp [hs_ss, hs_up]; omega) | (simp [hs_ss, hs_up]; done))
        exact ih18 (n + 1) (by first | omega | (simp only []; omega)) hi18
    · skip
      exfalso; omega
