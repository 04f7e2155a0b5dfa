/-! the cases of the law -/
theorem li_y {x y y1 : hs_S} (h : LI x y) (ky : GY y y1) : LI x y1 := li_keep h (gx_self h.1) ky
set_option maxHeartbeats 4000000 in
set_option maxRecDepth 100000 in
theorem a_feed {p : Program} {e : Env} {s : State} {m : MethodId} {below : List Frame} {meth : Method} {c : Code} {l : Launch} {b L : Nat} {xs : Nat → Int32} {D : va_G} {dA : Nat → ClassId} {A : Nat → Prop} {Q : State → Prop} {adx ady : Nat → Nat} {qo : Nat} {cO : ClassId} {f : Nat → Int64} {i : Int} {cells slots : Nat} (hi0 : 0 ≤ i) (hi8 : i + 8 ≤ (L : Int)) (hL : L ≤ 4096) (hcl : cells + 1 ≤ 601024) (hsl : slots + 6 ≤ 7293034) (C : hs_Cl p s m b L xs meth c D dA A) (hSx : hs_St adx A s) (hSy : hs_St ady A s) {x y : hs_S} (hli : LI x y) (kend : ∀ (x1 y1 : hs_S) (f1 : Nat → Int64), LI x1 y1 → hs_Wn p l e room_1 s m #[Value.ref b] below meth c D A 7 Q 1114 [(4, vI i), (3, .ref qo), (2, .ref (ady 0)), (1, .ref (adx 0)), (0, .ref b)] [] (hs_W SHX dA adx x1 ++ (hs_W SHY dA ady y1 ++ lk_O qo cO f1)) (cells + 1) (slots + 6)) : hs_Wn p l e room_1 s m #[Value.ref b] below meth c D A 7 Q 164 [(4, vI i), (3, .ref qo), (2, .ref (ady 0)), (1, .ref (adx 0)), (0, .ref b)] [] (hs_W SHX dA adx x ++ (hs_W SHY dA ady y ++ lk_O qo cO f)) cells slots := by
  refine l_aload_n (pc := 164) C dL_law_164 3 rfl ?_
  refine l_aload_n (pc := 165) C dL_law_165 4 rfl ?_
  refine l_iload (pc := 166) C dL_law_166 0 rfl ?_
  refine l_iconst (pc := 168) C dL_law_168 ?_
  refine l_iadd (pc := 169) C dL_law_169 ?_
  refine l_sld (pc := 170) C (i + 1).toNat dL_law_170 (by omega) rfl (by omega) (by omega) ?_
  refine l_aload_n (pc := 171) C dL_law_171 4 rfl ?_
  refine l_iload (pc := 172) C dL_law_172 0 rfl ?_
  refine l_iconst (pc := 174) C dL_law_174 ?_
  refine l_iadd (pc := 175) C dL_law_175 ?_
  refine l_sld (pc := 176) C (i + 2).toNat dL_law_176 (by omega) rfl (by omega) (by omega) ?_
  refine l_aload_n (pc := 177) C dL_law_177 4 rfl ?_
  refine l_iload (pc := 178) C dL_law_178 0 rfl ?_
  refine l_iconst (pc := 180) C dL_law_180 ?_
  refine l_iadd (pc := 181) C dL_law_181 ?_
  refine l_sld (pc := 182) C (i + 3).toNat dL_law_182 (by omega) rfl (by omega) (by omega) ?_
  refine l_aload_n (pc := 183) C dL_law_183 4 rfl ?_
  refine l_iload (pc := 184) C dL_law_184 0 rfl ?_
  refine l_iconst (pc := 186) C dL_law_186 ?_
  refine l_iadd (pc := 187) C dL_law_187 ?_
  refine l_sld (pc := 188) C (i + 4).toNat dL_law_188 (by omega) rfl (by omega) (by omega) ?_
  refine l_aload_n (pc := 189) C dL_law_189 4 rfl ?_
  refine l_iload (pc := 190) C dL_law_190 0 rfl ?_
  refine l_iconst (pc := 192) C dL_law_192 ?_
  refine l_iadd (pc := 193) C dL_law_193 ?_
  refine l_sld (pc := 194) C (i + 5).toNat dL_law_194 (by omega) rfl (by omega) (by omega) ?_
  refine l_callP (pc := 195) (SH := SHX) (ad := adx) (σ := x) (wr := (hs_W SHY dA ady y ++ lk_O qo cO f)) C (c_X11_feed l (xs (i + 1).toNat).toInt ⟨(hs_oR (xs (i + 1).toNat)).1, (hs_oR (xs (i + 1).toNat)).2⟩ (xs (i + 2).toNat).toInt ⟨(hs_oR (xs (i + 2).toNat)).1, (hs_oR (xs (i + 2).toNat)).2⟩ (xs (i + 3).toNat).toInt ⟨(hs_oR (xs (i + 3).toNat)).1, (hs_oR (xs (i + 3).toNat)).2⟩ (xs (i + 4).toNat).toInt ⟨(hs_oR (xs (i + 4).toNat)).1, (hs_oR (xs (i + 4).toNat)).2⟩ (xs (i + 5).toNat).toInt ⟨(hs_oR (xs (i + 5).toNat)).1, (hs_oR (xs (i + 5).toNat)).2⟩) [vI ((xs (i + 1).toNat).toInt), vI ((xs (i + 2).toNat).toInt), vI ((xs (i + 3).toNat).toInt), vI ((xs (i + 4).toNat).toInt), vI ((xs (i + 5).toNat).toInt)] [] rfl rfl rfl dL_law_195 wlL_21 wiX11_feed weX11_feed wcX11_feed wnX11 noX11_feed (by decide) (by decide) (Nat.le_of_ble_eq_true rfl) (by omega) (by omega) rfl rfl hSx hli.1 ?_
  rintro _ x1 ⟨zx, rfl, kzx⟩
  show hs_Wn p l e room_1 s m #[Value.ref b] below meth c D A 7 Q 198 [(4, vI i), (3, .ref qo), (2, .ref (ady 0)), (1, .ref (adx 0)), (0, .ref b)] [vI zx] (hs_W SHX dA adx x1 ++ (hs_W SHY dA ady y ++ lk_O qo cO f)) cells slots
  refine l_pop (pc := 198) C dL_law_198 rfl ?_
  refine l_aload_n (pc := 199) C dL_law_199 2 rfl ?_
  refine l_aload_n (pc := 200) C dL_law_200 4 rfl ?_
  refine l_iload (pc := 201) C dL_law_201 0 rfl ?_
  refine l_iconst (pc := 203) C dL_law_203 ?_
  refine l_iadd (pc := 204) C dL_law_204 ?_
  refine l_sld (pc := 205) C (i + 1).toNat dL_law_205 (by omega) rfl (by omega) (by omega) ?_
  refine l_aload_n (pc := 206) C dL_law_206 4 rfl ?_
  refine l_iload (pc := 207) C dL_law_207 0 rfl ?_
  refine l_iconst (pc := 209) C dL_law_209 ?_
  refine l_iadd (pc := 210) C dL_law_210 ?_
  refine l_sld (pc := 211) C (i + 2).toNat dL_law_211 (by omega) rfl (by omega) (by omega) ?_
  refine l_aload_n (pc := 212) C dL_law_212 4 rfl ?_
  refine l_iload (pc := 213) C dL_law_213 0 rfl ?_
  refine l_iconst (pc := 215) C dL_law_215 ?_
  refine l_iadd (pc := 216) C dL_law_216 ?_
  refine l_sld (pc := 217) C (i + 3).toNat dL_law_217 (by omega) rfl (by omega) (by omega) ?_
  refine l_aload_n (pc := 218) C dL_law_218 4 rfl ?_
  refine l_iload (pc := 219) C dL_law_219 0 rfl ?_
  refine l_iconst (pc := 221) C dL_law_221 ?_
  refine l_iadd (pc := 222) C dL_law_222 ?_
  refine l_sld (pc := 223) C (i + 4).toNat dL_law_223 (by omega) rfl (by omega) (by omega) ?_
  refine l_aload_n (pc := 224) C dL_law_224 4 rfl ?_
  refine l_iload (pc := 225) C dL_law_225 0 rfl ?_
  refine l_iconst (pc := 227) C dL_law_227 ?_
  refine l_iadd (pc := 228) C dL_law_228 ?_
  refine l_sld (pc := 229) C (i + 5).toNat dL_law_229 (by omega) rfl (by omega) (by omega) ?_
  refine l_swap C (w1 := hs_W SHX dA adx x1) (w2 := hs_W SHY dA ady y) (w3 := lk_O qo cO f) rfl ?_
  refine l_callP (pc := 230) (SH := SHY) (ad := ady) (σ := y) (wr := (lk_O qo cO f ++ hs_W SHX dA adx x1)) C (c_X12_feed l (xs (i + 1).toNat).toInt ⟨(hs_oR (xs (i + 1).toNat)).1, (hs_oR (xs (i + 1).toNat)).2⟩ (xs (i + 2).toNat).toInt ⟨(hs_oR (xs (i + 2).toNat)).1, (hs_oR (xs (i + 2).toNat)).2⟩ (xs (i + 3).toNat).toInt ⟨(hs_oR (xs (i + 3).toNat)).1, (hs_oR (xs (i + 3).toNat)).2⟩ (xs (i + 4).toNat).toInt ⟨(hs_oR (xs (i + 4).toNat)).1, (hs_oR (xs (i + 4).toNat)).2⟩ (xs (i + 5).toNat).toInt ⟨(hs_oR (xs (i + 5).toNat)).1, (hs_oR (xs (i + 5).toNat)).2⟩) [vI ((xs (i + 1).toNat).toInt), vI ((xs (i + 2).toNat).toInt), vI ((xs (i + 3).toNat).toInt), vI ((xs (i + 4).toNat).toInt), vI ((xs (i + 5).toNat).toInt)] [] rfl rfl rfl dL_law_230 wlL_25 wiX12_feed weX12_feed wcX12_feed wnX12 noX12_feed (by decide) (by decide) (Nat.le_of_ble_eq_true rfl) (by omega) (by omega) rfl rfl hSy hli.2.1 ?_
  rintro _ y1 ⟨zy, rfl, kzy⟩
  show hs_Wn p l e room_1 s m #[Value.ref b] below meth c D A 7 Q 233 [(4, vI i), (3, .ref qo), (2, .ref (ady 0)), (1, .ref (adx 0)), (0, .ref b)] [vI zy] (hs_W SHY dA ady y1 ++ (lk_O qo cO f ++ hs_W SHX dA adx x1)) cells slots
  have hr := hli.2.2
  unfold RXY at hr
  have hLI : LI x1 y1 := by
    rcases Int.lt_or_le 500 (x 0 9 + 20) with q | q
    · have h1 := kzx.1 q
      have h2 := kzy.1 (by omega)
      rw [h1.2]
      exact li_y hli h2.2
    · have h1 := kzx.2 (by omega)
      have h2 := kzy.2 (by omega)
      have hf := h1.2.2
      refine ⟨frx_good hli.1 hf, h2.2.1, ?_⟩
      have e1 := hf.2 0 10 (by decide) (by decide)
      have e2 := hf.2 3 3 (by decide) (by decide)
      have e3 := hf.2 3 4 (by decide) (by decide)
      have e4 := hf.2 48 8 (by decide) (by decide)
      unfold RXY
      omega
  refine l_pop (pc := 233) C dL_law_233 rfl ?_
  refine l_goto (pc := 234) C (tgt := 1114) dL_law_234 (by decide) ?_
  refine l_swap C (w1 := hs_W SHY dA ady y1) (w2 := lk_O qo cO f) (w3 := hs_W SHX dA adx x1) rfl ?_
  refine l_swap C (w1 := lk_O qo cO f) (w2 := hs_W SHX dA adx x1) (w3 := hs_W SHY dA ady y1) rfl ?_
  refine l_widen C (c2 := cells + 1) (s2 := slots + 6) (by omega) (by omega) ?_
  exact kend _ _ _ hLI
set_option maxHeartbeats 4000000 in
set_option maxRecDepth 100000 in
theorem a_turn {p : Program} {e : Env} {s : State} {m : MethodId} {below : List Frame} {meth : Method} {c : Code} {l : Launch} {b L : Nat} {xs : Nat → Int32} {D : va_G} {dA : Nat → ClassId} {A : Nat → Prop} {Q : State → Prop} {adx ady : Nat → Nat} {qo : Nat} {cO : ClassId} {f : Nat → Int64} {i : Int} {cells slots : Nat} (hi0 : 0 ≤ i) (hi8 : i + 8 ≤ (L : Int)) (hL : L ≤ 4096) (hcl : cells + 1 ≤ 601024) (hsl : slots + 6 ≤ 7293034) (C : hs_Cl p s m b L xs meth c D dA A) (hSx : hs_St adx A s) (hSy : hs_St ady A s) {x y : hs_S} (hli : LI x y) (kend : ∀ (x1 y1 : hs_S) (f1 : Nat → Int64), LI x1 y1 → hs_Wn p l e room_1 s m #[Value.ref b] below meth c D A 7 Q 1114 [(4, vI i), (3, .ref qo), (2, .ref (ady 0)), (1, .ref (adx 0)), (0, .ref b)] [] (hs_W SHX dA adx x1 ++ (hs_W SHY dA ady y1 ++ lk_O qo cO f1)) (cells + 1) (slots + 6)) : hs_Wn p l e room_1 s m #[Value.ref b] below meth c D A 7 Q 237 [(4, vI i), (3, .ref qo), (2, .ref (ady 0)), (1, .ref (adx 0)), (0, .ref b)] [] (hs_W SHX dA adx x ++ (hs_W SHY dA ady y ++ lk_O qo cO f)) cells slots := by
  refine l_aload_n (pc := 237) C dL_law_237 3 rfl ?_
  refine l_aload_n (pc := 238) C dL_law_238 4 rfl ?_
  refine l_iload (pc := 239) C dL_law_239 0 rfl ?_
  refine l_iconst (pc := 241) C dL_law_241 ?_
  refine l_iadd (pc := 242) C dL_law_242 ?_
  refine l_sld (pc := 243) C (i + 1).toNat dL_law_243 (by omega) rfl (by omega) (by omega) ?_
  refine l_callP (pc := 244) (SH := SHX) (ad := adx) (σ := x) (wr := (hs_W SHY dA ady y ++ lk_O qo cO f)) C (c_X11_turn l (xs (i + 1).toNat).toInt ⟨(hs_oR (xs (i + 1).toNat)).1, (hs_oR (xs (i + 1).toNat)).2⟩) [vI ((xs (i + 1).toNat).toInt)] [] rfl rfl rfl dL_law_244 wlL_26 wiX11_turn weX11_turn wcX11_turn wnX11 noX11_turn (by decide) (by decide) (Nat.le_of_ble_eq_true rfl) (by omega) (by omega) rfl rfl hSx hli.1 ?_
  rintro _ x1 ⟨zx, rfl, kzx⟩
  show hs_Wn p l e room_1 s m #[Value.ref b] below meth c D A 7 Q 247 [(4, vI i), (3, .ref qo), (2, .ref (ady 0)), (1, .ref (adx 0)), (0, .ref b)] [vI zx] (hs_W SHX dA adx x1 ++ (hs_W SHY dA ady y ++ lk_O qo cO f)) cells slots
  refine l_pop (pc := 247) C dL_law_247 rfl ?_
  refine l_aload_n (pc := 248) C dL_law_248 2 rfl ?_
  refine l_aload_n (pc := 249) C dL_law_249 4 rfl ?_
  refine l_iload (pc := 250) C dL_law_250 0 rfl ?_
  refine l_iconst (pc := 252) C dL_law_252 ?_
  refine l_iadd (pc := 253) C dL_law_253 ?_
  refine l_sld (pc := 254) C (i + 1).toNat dL_law_254 (by omega) rfl (by omega) (by omega) ?_
  refine l_swap C (w1 := hs_W SHX dA adx x1) (w2 := hs_W SHY dA ady y) (w3 := lk_O qo cO f) rfl ?_
  refine l_callP (pc := 255) (SH := SHY) (ad := ady) (σ := y) (wr := (lk_O qo cO f ++ hs_W SHX dA adx x1)) C (c_X12_turn l (xs (i + 1).toNat).toInt ⟨(hs_oR (xs (i + 1).toNat)).1, (hs_oR (xs (i + 1).toNat)).2⟩) [vI ((xs (i + 1).toNat).toInt)] [] rfl rfl rfl dL_law_255 wlL_30 wiX12_turn weX12_turn wcX12_turn wnX12 noX12_turn (by decide) (by decide) (Nat.le_of_ble_eq_true rfl) (by omega) (by omega) rfl rfl hSy hli.2.1 ?_
  rintro _ y1 ⟨zy, rfl, kzy⟩
  show hs_Wn p l e room_1 s m #[Value.ref b] below meth c D A 7 Q 258 [(4, vI i), (3, .ref qo), (2, .ref (ady 0)), (1, .ref (adx 0)), (0, .ref b)] [vI zy] (hs_W SHY dA ady y1 ++ (lk_O qo cO f ++ hs_W SHX dA adx x1)) cells slots
  have hr := hli.2.2
  unfold RXY at hr
  have hLI : LI x1 y1 := by
    refine ⟨kzx.1, kzy.1, ?_⟩
    have h1 := kzx.2
    have h2 := kzy.2
    unfold RXY
    rcases Classical.em (0 ≤ (xs (i + 1).toNat).toInt ∧ (xs (i + 1).toNat).toInt ≤ x 0 9) with q | q
    · have q1 := h1.2.2.2.2.2 q
      have q2 := h2.2.2.2.2.2 (by omega)
      exact ⟨by omega, by omega, by omega, by omega, by omega⟩
    · have q1 := h1.2.2.2.2.1 q
      have q2 := h2.2.2.2.2.1 (by omega)
      exact ⟨by omega, by omega, by omega, by omega, by omega⟩
  refine l_pop (pc := 258) C dL_law_258 rfl ?_
  refine l_goto (pc := 259) C (tgt := 1114) dL_law_259 (by decide) ?_
  refine l_swap C (w1 := hs_W SHY dA ady y1) (w2 := lk_O qo cO f) (w3 := hs_W SHX dA adx x1) rfl ?_
  refine l_swap C (w1 := lk_O qo cO f) (w2 := hs_W SHX dA adx x1) (w3 := hs_W SHY dA ady y1) rfl ?_
  refine l_widen C (c2 := cells + 1) (s2 := slots + 6) (by omega) (by omega) ?_
  exact kend _ _ _ hLI
set_option maxHeartbeats 4000000 in
set_option maxRecDepth 100000 in
theorem a_turned {p : Program} {e : Env} {s : State} {m : MethodId} {below : List Frame} {meth : Method} {c : Code} {l : Launch} {b L : Nat} {xs : Nat → Int32} {D : va_G} {dA : Nat → ClassId} {A : Nat → Prop} {Q : State → Prop} {adx ady : Nat → Nat} {qo : Nat} {cO : ClassId} {f : Nat → Int64} {i : Int} {cells slots : Nat} (hi0 : 0 ≤ i) (hi8 : i + 8 ≤ (L : Int)) (hL : L ≤ 4096) (hcl : cells + 1 ≤ 601024) (hsl : slots + 6 ≤ 7293034) (C : hs_Cl p s m b L xs meth c D dA A) (hSx : hs_St adx A s) (hSy : hs_St ady A s) {x y : hs_S} (hli : LI x y) (kend : ∀ (x1 y1 : hs_S) (f1 : Nat → Int64), LI x1 y1 → hs_Wn p l e room_1 s m #[Value.ref b] below meth c D A 7 Q 1114 [(4, vI i), (3, .ref qo), (2, .ref (ady 0)), (1, .ref (adx 0)), (0, .ref b)] [] (hs_W SHX dA adx x1 ++ (hs_W SHY dA ady y1 ++ lk_O qo cO f1)) (cells + 1) (slots + 6)) : hs_Wn p l e room_1 s m #[Value.ref b] below meth c D A 7 Q 262 [(4, vI i), (3, .ref qo), (2, .ref (ady 0)), (1, .ref (adx 0)), (0, .ref b)] [] (hs_W SHX dA adx x ++ (hs_W SHY dA ady y ++ lk_O qo cO f)) cells slots := by
  refine l_aload_n (pc := 262) C dL_law_262 3 rfl ?_
  refine l_aload_n (pc := 263) C dL_law_263 4 rfl ?_
  refine l_iload (pc := 264) C dL_law_264 0 rfl ?_
  refine l_iconst (pc := 266) C dL_law_266 ?_
  refine l_iadd (pc := 267) C dL_law_267 ?_
  refine l_sld (pc := 268) C (i + 1).toNat dL_law_268 (by omega) rfl (by omega) (by omega) ?_
  refine l_callP (pc := 269) (SH := SHX) (ad := adx) (σ := x) (wr := (hs_W SHY dA ady y ++ lk_O qo cO f)) C (c_X11_turned l (xs (i + 1).toNat).toInt ⟨(hs_oR (xs (i + 1).toNat)).1, (hs_oR (xs (i + 1).toNat)).2⟩) [vI ((xs (i + 1).toNat).toInt)] [] rfl rfl rfl dL_law_269 wlL_31 wiX11_turned weX11_turned wcX11_turned wnX11 noX11_turned (by decide) (by decide) (Nat.le_of_ble_eq_true rfl) (by omega) (by omega) rfl rfl hSx hli.1 ?_
  rintro _ x1 ⟨zx, rfl, kzx⟩
  show hs_Wn p l e room_1 s m #[Value.ref b] below meth c D A 7 Q 272 [(4, vI i), (3, .ref qo), (2, .ref (ady 0)), (1, .ref (adx 0)), (0, .ref b)] [vI zx] (hs_W SHX dA adx x1 ++ (hs_W SHY dA ady y ++ lk_O qo cO f)) cells slots
  refine l_pop (pc := 272) C dL_law_272 rfl ?_
  refine l_aload_n (pc := 273) C dL_law_273 2 rfl ?_
  refine l_aload_n (pc := 274) C dL_law_274 4 rfl ?_
  refine l_iload (pc := 275) C dL_law_275 0 rfl ?_
  refine l_iconst (pc := 277) C dL_law_277 ?_
  refine l_iadd (pc := 278) C dL_law_278 ?_
  refine l_sld (pc := 279) C (i + 1).toNat dL_law_279 (by omega) rfl (by omega) (by omega) ?_
  refine l_swap C (w1 := hs_W SHX dA adx x1) (w2 := hs_W SHY dA ady y) (w3 := lk_O qo cO f) rfl ?_
  refine l_callP (pc := 280) (SH := SHY) (ad := ady) (σ := y) (wr := (lk_O qo cO f ++ hs_W SHX dA adx x1)) C (c_X12_turned l (xs (i + 1).toNat).toInt ⟨(hs_oR (xs (i + 1).toNat)).1, (hs_oR (xs (i + 1).toNat)).2⟩) [vI ((xs (i + 1).toNat).toInt)] [] rfl rfl rfl dL_law_280 wlL_34 wiX12_turned weX12_turned wcX12_turned wnX12 noX12_turned (by decide) (by decide) (Nat.le_of_ble_eq_true rfl) (by omega) (by omega) rfl rfl hSy hli.2.1 ?_
  rintro _ y1 ⟨zy, rfl, kzy⟩
  show hs_Wn p l e room_1 s m #[Value.ref b] below meth c D A 7 Q 283 [(4, vI i), (3, .ref qo), (2, .ref (ady 0)), (1, .ref (adx 0)), (0, .ref b)] [vI zy] (hs_W SHY dA ady y1 ++ (lk_O qo cO f ++ hs_W SHX dA adx x1)) cells slots
  have hr := hli.2.2
  unfold RXY at hr
  have hLI : LI x1 y1 := li_keep hli (show GX x x1 from by have e := kzx.1; rw [← e]; exact hli.1) kzy.1
  refine l_pop (pc := 283) C dL_law_283 rfl ?_
  refine l_goto (pc := 284) C (tgt := 1114) dL_law_284 (by decide) ?_
  refine l_swap C (w1 := hs_W SHY dA ady y1) (w2 := lk_O qo cO f) (w3 := hs_W SHX dA adx x1) rfl ?_
  refine l_swap C (w1 := lk_O qo cO f) (w2 := hs_W SHX dA adx x1) (w3 := hs_W SHY dA ady y1) rfl ?_
  refine l_widen C (c2 := cells + 1) (s2 := slots + 6) (by omega) (by omega) ?_
  exact kend _ _ _ hLI
set_option maxHeartbeats 4000000 in
set_option maxRecDepth 100000 in
theorem a_dial {p : Program} {e : Env} {s : State} {m : MethodId} {below : List Frame} {meth : Method} {c : Code} {l : Launch} {b L : Nat} {xs : Nat → Int32} {D : va_G} {dA : Nat → ClassId} {A : Nat → Prop} {Q : State → Prop} {adx ady : Nat → Nat} {qo : Nat} {cO : ClassId} {f : Nat → Int64} {i : Int} {cells slots : Nat} (hi0 : 0 ≤ i) (hi8 : i + 8 ≤ (L : Int)) (hL : L ≤ 4096) (hcl : cells + 1 ≤ 601024) (hsl : slots + 6 ≤ 7293034) (C : hs_Cl p s m b L xs meth c D dA A) (hSx : hs_St adx A s) (hSy : hs_St ady A s) {x y : hs_S} (hli : LI x y) (kend : ∀ (x1 y1 : hs_S) (f1 : Nat → Int64), LI x1 y1 → hs_Wn p l e room_1 s m #[Value.ref b] below meth c D A 7 Q 1114 [(4, vI i), (3, .ref qo), (2, .ref (ady 0)), (1, .ref (adx 0)), (0, .ref b)] [] (hs_W SHX dA adx x1 ++ (hs_W SHY dA ady y1 ++ lk_O qo cO f1)) (cells + 1) (slots + 6)) : hs_Wn p l e room_1 s m #[Value.ref b] below meth c D A 7 Q 287 [(4, vI i), (3, .ref qo), (2, .ref (ady 0)), (1, .ref (adx 0)), (0, .ref b)] [] (hs_W SHX dA adx x ++ (hs_W SHY dA ady y ++ lk_O qo cO f)) cells slots := by
  refine l_aload_n (pc := 287) C dL_law_287 3 rfl ?_
  refine l_aload_n (pc := 288) C dL_law_288 4 rfl ?_
  refine l_iload (pc := 289) C dL_law_289 0 rfl ?_
  refine l_iconst (pc := 291) C dL_law_291 ?_
  refine l_iadd (pc := 292) C dL_law_292 ?_
  refine l_sld (pc := 293) C (i + 1).toNat dL_law_293 (by omega) rfl (by omega) (by omega) ?_
  refine l_callP (pc := 294) (SH := SHX) (ad := adx) (σ := x) (wr := (hs_W SHY dA ady y ++ lk_O qo cO f)) C (c_X11_dial l (xs (i + 1).toNat).toInt ⟨(hs_oR (xs (i + 1).toNat)).1, (hs_oR (xs (i + 1).toNat)).2⟩) [vI ((xs (i + 1).toNat).toInt)] [] rfl rfl rfl dL_law_294 wlL_35 wiX11_dial weX11_dial wcX11_dial wnX11 noX11_dial (by decide) (by decide) (Nat.le_of_ble_eq_true rfl) (by omega) (by omega) rfl rfl hSx hli.1 ?_
  rintro _ x1 ⟨zx, rfl, kzx⟩
  show hs_Wn p l e room_1 s m #[Value.ref b] below meth c D A 7 Q 297 [(4, vI i), (3, .ref qo), (2, .ref (ady 0)), (1, .ref (adx 0)), (0, .ref b)] [vI zx] (hs_W SHX dA adx x1 ++ (hs_W SHY dA ady y ++ lk_O qo cO f)) cells slots
  refine l_pop (pc := 297) C dL_law_297 rfl ?_
  refine l_aload_n (pc := 298) C dL_law_298 2 rfl ?_
  refine l_aload_n (pc := 299) C dL_law_299 4 rfl ?_
  refine l_iload (pc := 300) C dL_law_300 0 rfl ?_
  refine l_iconst (pc := 302) C dL_law_302 ?_
  refine l_iadd (pc := 303) C dL_law_303 ?_
  refine l_sld (pc := 304) C (i + 1).toNat dL_law_304 (by omega) rfl (by omega) (by omega) ?_
  refine l_swap C (w1 := hs_W SHX dA adx x1) (w2 := hs_W SHY dA ady y) (w3 := lk_O qo cO f) rfl ?_
  refine l_callP (pc := 305) (SH := SHY) (ad := ady) (σ := y) (wr := (lk_O qo cO f ++ hs_W SHX dA adx x1)) C (c_X12_dial l (xs (i + 1).toNat).toInt ⟨(hs_oR (xs (i + 1).toNat)).1, (hs_oR (xs (i + 1).toNat)).2⟩) [vI ((xs (i + 1).toNat).toInt)] [] rfl rfl rfl dL_law_305 wlL_39 wiX12_dial weX12_dial wcX12_dial wnX12 noX12_dial (by decide) (by decide) (Nat.le_of_ble_eq_true rfl) (by omega) (by omega) rfl rfl hSy hli.2.1 ?_
  rintro _ y1 ⟨zy, rfl, kzy⟩
  show hs_Wn p l e room_1 s m #[Value.ref b] below meth c D A 7 Q 308 [(4, vI i), (3, .ref qo), (2, .ref (ady 0)), (1, .ref (adx 0)), (0, .ref b)] [vI zy] (hs_W SHY dA ady y1 ++ (lk_O qo cO f ++ hs_W SHX dA adx x1)) cells slots
  have hr := hli.2.2
  unfold RXY at hr
  have hLI : LI x1 y1 := by
    obtain ⟨x0, xc, x9, xg, xs0, xs1⟩ := kzx
    obtain ⟨y0, yc, yg, y1e, ys0, ys1⟩ := kzy
    rcases Classical.em (10 ≤ (xs (i + 1).toNat).toInt ∧ (xs (i + 1).toNat).toInt ≤ 100) with q | q
    · have q1 := xs1 (xc.mpr q)
      have q2 := ys1 (yc.mpr q)
      refine ⟨xg, yg, ?_⟩
      unfold RXY
      exact ⟨by omega, by omega, by omega, by omega, by omega⟩
    · have q1 : zx = 0 := by rcases x0 with r | r; (exact r); exact absurd (xc.mp r) q
      have q2 : zy = 0 := by rcases y0 with r | r; (exact r); exact absurd (yc.mp r) q
      rw [xs0 q1]
      exact li_y hli (ys0 q2)
  refine l_pop (pc := 308) C dL_law_308 rfl ?_
  refine l_goto (pc := 309) C (tgt := 1114) dL_law_309 (by decide) ?_
  refine l_swap C (w1 := hs_W SHY dA ady y1) (w2 := lk_O qo cO f) (w3 := hs_W SHX dA adx x1) rfl ?_
  refine l_swap C (w1 := lk_O qo cO f) (w2 := hs_W SHX dA adx x1) (w3 := hs_W SHY dA ady y1) rfl ?_
  refine l_widen C (c2 := cells + 1) (s2 := slots + 6) (by omega) (by omega) ?_
  exact kend _ _ _ hLI
set_option maxHeartbeats 4000000 in
set_option maxRecDepth 100000 in
theorem a_wheel {p : Program} {e : Env} {s : State} {m : MethodId} {below : List Frame} {meth : Method} {c : Code} {l : Launch} {b L : Nat} {xs : Nat → Int32} {D : va_G} {dA : Nat → ClassId} {A : Nat → Prop} {Q : State → Prop} {adx ady : Nat → Nat} {qo : Nat} {cO : ClassId} {f : Nat → Int64} {i : Int} {cells slots : Nat} (hi0 : 0 ≤ i) (hi8 : i + 8 ≤ (L : Int)) (hL : L ≤ 4096) (hcl : cells + 1 ≤ 601024) (hsl : slots + 6 ≤ 7293034) (C : hs_Cl p s m b L xs meth c D dA A) (hSx : hs_St adx A s) (hSy : hs_St ady A s) {x y : hs_S} (hli : LI x y) (kend : ∀ (x1 y1 : hs_S) (f1 : Nat → Int64), LI x1 y1 → hs_Wn p l e room_1 s m #[Value.ref b] below meth c D A 7 Q 1114 [(4, vI i), (3, .ref qo), (2, .ref (ady 0)), (1, .ref (adx 0)), (0, .ref b)] [] (hs_W SHX dA adx x1 ++ (hs_W SHY dA ady y1 ++ lk_O qo cO f1)) (cells + 1) (slots + 6)) : hs_Wn p l e room_1 s m #[Value.ref b] below meth c D A 7 Q 312 [(4, vI i), (3, .ref qo), (2, .ref (ady 0)), (1, .ref (adx 0)), (0, .ref b)] [] (hs_W SHX dA adx x ++ (hs_W SHY dA ady y ++ lk_O qo cO f)) cells slots := by
  refine l_aload_n (pc := 312) C dL_law_312 3 rfl ?_
  refine l_aload_n (pc := 313) C dL_law_313 4 rfl ?_
  refine l_iload (pc := 314) C dL_law_314 0 rfl ?_
  refine l_iconst (pc := 316) C dL_law_316 ?_
  refine l_iadd (pc := 317) C dL_law_317 ?_
  refine l_sld (pc := 318) C (i + 1).toNat dL_law_318 (by omega) rfl (by omega) (by omega) ?_
  refine l_aload_n (pc := 319) C dL_law_319 4 rfl ?_
  refine l_iload (pc := 320) C dL_law_320 0 rfl ?_
  refine l_iconst (pc := 322) C dL_law_322 ?_
  refine l_iadd (pc := 323) C dL_law_323 ?_
  refine l_sld (pc := 324) C (i + 2).toNat dL_law_324 (by omega) rfl (by omega) (by omega) ?_
  refine l_aload_n (pc := 325) C dL_law_325 4 rfl ?_
  refine l_iload (pc := 326) C dL_law_326 0 rfl ?_
  refine l_iconst (pc := 328) C dL_law_328 ?_
  refine l_iadd (pc := 329) C dL_law_329 ?_
  refine l_sld (pc := 330) C (i + 3).toNat dL_law_330 (by omega) rfl (by omega) (by omega) ?_
  refine l_aload_n (pc := 331) C dL_law_331 4 rfl ?_
  refine l_iload (pc := 332) C dL_law_332 0 rfl ?_
  refine l_iconst (pc := 334) C dL_law_334 ?_
  refine l_iadd (pc := 335) C dL_law_335 ?_
  refine l_sld (pc := 336) C (i + 4).toNat dL_law_336 (by omega) rfl (by omega) (by omega) ?_
  refine l_aload_n (pc := 337) C dL_law_337 4 rfl ?_
  refine l_iload (pc := 338) C dL_law_338 0 rfl ?_
  refine l_iconst (pc := 340) C dL_law_340 ?_
  refine l_iadd (pc := 341) C dL_law_341 ?_
  refine l_sld (pc := 342) C (i + 5).toNat dL_law_342 (by omega) rfl (by omega) (by omega) ?_
  refine l_aload_n (pc := 343) C dL_law_343 4 rfl ?_
  refine l_iload (pc := 344) C dL_law_344 0 rfl ?_
  refine l_bipush (pc := 346) C dL_law_346 (by decide) ?_
  refine l_iadd (pc := 348) C dL_law_348 ?_
  refine l_sld (pc := 349) C (i + 6).toNat dL_law_349 (by omega) rfl (by omega) (by omega) ?_
  refine l_aload_n (pc := 350) C dL_law_350 4 rfl ?_
  refine l_iload (pc := 351) C dL_law_351 0 rfl ?_
  refine l_bipush (pc := 353) C dL_law_353 (by decide) ?_
  refine l_iadd (pc := 355) C dL_law_355 ?_
  refine l_sld (pc := 356) C (i + 7).toNat dL_law_356 (by omega) rfl (by omega) (by omega) ?_
  refine l_callP (pc := 357) (SH := SHX) (ad := adx) (σ := x) (wr := (hs_W SHY dA ady y ++ lk_O qo cO f)) C (c_X11_wheel l (xs (i + 1).toNat).toInt ⟨(hs_oR (xs (i + 1).toNat)).1, (hs_oR (xs (i + 1).toNat)).2⟩ (xs (i + 2).toNat).toInt ⟨(hs_oR (xs (i + 2).toNat)).1, (hs_oR (xs (i + 2).toNat)).2⟩ (xs (i + 3).toNat).toInt ⟨(hs_oR (xs (i + 3).toNat)).1, (hs_oR (xs (i + 3).toNat)).2⟩ (xs (i + 4).toNat).toInt ⟨(hs_oR (xs (i + 4).toNat)).1, (hs_oR (xs (i + 4).toNat)).2⟩ (xs (i + 5).toNat).toInt ⟨(hs_oR (xs (i + 5).toNat)).1, (hs_oR (xs (i + 5).toNat)).2⟩ (xs (i + 6).toNat).toInt ⟨(hs_oR (xs (i + 6).toNat)).1, (hs_oR (xs (i + 6).toNat)).2⟩ (xs (i + 7).toNat).toInt ⟨(hs_oR (xs (i + 7).toNat)).1, (hs_oR (xs (i + 7).toNat)).2⟩) [vI ((xs (i + 1).toNat).toInt), vI ((xs (i + 2).toNat).toInt), vI ((xs (i + 3).toNat).toInt), vI ((xs (i + 4).toNat).toInt), vI ((xs (i + 5).toNat).toInt), vI ((xs (i + 6).toNat).toInt), vI ((xs (i + 7).toNat).toInt)] [] rfl rfl rfl dL_law_357 wlL_40 wiX11_wheel weX11_wheel wcX11_wheel wnX11 noX11_wheel (by decide) (by decide) (Nat.le_of_ble_eq_true rfl) (by omega) (by omega) rfl rfl hSx hli.1 ?_
  rintro _ x1 ⟨zx, rfl, kzx⟩
  show hs_Wn p l e room_1 s m #[Value.ref b] below meth c D A 7 Q 360 [(4, vI i), (3, .ref qo), (2, .ref (ady 0)), (1, .ref (adx 0)), (0, .ref b)] [vI zx] (hs_W SHX dA adx x1 ++ (hs_W SHY dA ady y ++ lk_O qo cO f)) cells slots
  refine l_pop (pc := 360) C dL_law_360 rfl ?_
  refine l_aload_n (pc := 361) C dL_law_361 2 rfl ?_
  refine l_aload_n (pc := 362) C dL_law_362 4 rfl ?_
  refine l_iload (pc := 363) C dL_law_363 0 rfl ?_
  refine l_iconst (pc := 365) C dL_law_365 ?_
  refine l_iadd (pc := 366) C dL_law_366 ?_
  refine l_sld (pc := 367) C (i + 1).toNat dL_law_367 (by omega) rfl (by omega) (by omega) ?_
  refine l_aload_n (pc := 368) C dL_law_368 4 rfl ?_
  refine l_iload (pc := 369) C dL_law_369 0 rfl ?_
  refine l_iconst (pc := 371) C dL_law_371 ?_
  refine l_iadd (pc := 372) C dL_law_372 ?_
  refine l_sld (pc := 373) C (i + 2).toNat dL_law_373 (by omega) rfl (by omega) (by omega) ?_
  refine l_aload_n (pc := 374) C dL_law_374 4 rfl ?_
  refine l_iload (pc := 375) C dL_law_375 0 rfl ?_
  refine l_iconst (pc := 377) C dL_law_377 ?_
  refine l_iadd (pc := 378) C dL_law_378 ?_
  refine l_sld (pc := 379) C (i + 3).toNat dL_law_379 (by omega) rfl (by omega) (by omega) ?_
  refine l_aload_n (pc := 380) C dL_law_380 4 rfl ?_
  refine l_iload (pc := 381) C dL_law_381 0 rfl ?_
  refine l_iconst (pc := 383) C dL_law_383 ?_
  refine l_iadd (pc := 384) C dL_law_384 ?_
  refine l_sld (pc := 385) C (i + 4).toNat dL_law_385 (by omega) rfl (by omega) (by omega) ?_
  refine l_aload_n (pc := 386) C dL_law_386 4 rfl ?_
  refine l_iload (pc := 387) C dL_law_387 0 rfl ?_
  refine l_iconst (pc := 389) C dL_law_389 ?_
  refine l_iadd (pc := 390) C dL_law_390 ?_
  refine l_sld (pc := 391) C (i + 5).toNat dL_law_391 (by omega) rfl (by omega) (by omega) ?_
  refine l_aload_n (pc := 392) C dL_law_392 4 rfl ?_
  refine l_iload (pc := 393) C dL_law_393 0 rfl ?_
  refine l_bipush (pc := 395) C dL_law_395 (by decide) ?_
  refine l_iadd (pc := 397) C dL_law_397 ?_
  refine l_sld (pc := 398) C (i + 6).toNat dL_law_398 (by omega) rfl (by omega) (by omega) ?_
  refine l_aload_n (pc := 399) C dL_law_399 4 rfl ?_
  refine l_iload (pc := 400) C dL_law_400 0 rfl ?_
  refine l_bipush (pc := 402) C dL_law_402 (by decide) ?_
  refine l_iadd (pc := 404) C dL_law_404 ?_
  refine l_sld (pc := 405) C (i + 7).toNat dL_law_405 (by omega) rfl (by omega) (by omega) ?_
  refine l_swap C (w1 := hs_W SHX dA adx x1) (w2 := hs_W SHY dA ady y) (w3 := lk_O qo cO f) rfl ?_
  refine l_callP (pc := 406) (SH := SHY) (ad := ady) (σ := y) (wr := (lk_O qo cO f ++ hs_W SHX dA adx x1)) C (c_X12_wheel l (xs (i + 1).toNat).toInt ⟨(hs_oR (xs (i + 1).toNat)).1, (hs_oR (xs (i + 1).toNat)).2⟩ (xs (i + 2).toNat).toInt ⟨(hs_oR (xs (i + 2).toNat)).1, (hs_oR (xs (i + 2).toNat)).2⟩ (xs (i + 3).toNat).toInt ⟨(hs_oR (xs (i + 3).toNat)).1, (hs_oR (xs (i + 3).toNat)).2⟩ (xs (i + 4).toNat).toInt ⟨(hs_oR (xs (i + 4).toNat)).1, (hs_oR (xs (i + 4).toNat)).2⟩ (xs (i + 5).toNat).toInt ⟨(hs_oR (xs (i + 5).toNat)).1, (hs_oR (xs (i + 5).toNat)).2⟩ (xs (i + 6).toNat).toInt ⟨(hs_oR (xs (i + 6).toNat)).1, (hs_oR (xs (i + 6).toNat)).2⟩ (xs (i + 7).toNat).toInt ⟨(hs_oR (xs (i + 7).toNat)).1, (hs_oR (xs (i + 7).toNat)).2⟩) [vI ((xs (i + 1).toNat).toInt), vI ((xs (i + 2).toNat).toInt), vI ((xs (i + 3).toNat).toInt), vI ((xs (i + 4).toNat).toInt), vI ((xs (i + 5).toNat).toInt), vI ((xs (i + 6).toNat).toInt), vI ((xs (i + 7).toNat).toInt)] [] rfl rfl rfl dL_law_406 wlL_44 wiX12_wheel weX12_wheel wcX12_wheel wnX12 noX12_wheel (by decide) (by decide) (Nat.le_of_ble_eq_true rfl) (by omega) (by omega) rfl rfl hSy hli.2.1 ?_
  rintro _ y1 ⟨zy, rfl, kzy⟩
  show hs_Wn p l e room_1 s m #[Value.ref b] below meth c D A 7 Q 409 [(4, vI i), (3, .ref qo), (2, .ref (ady 0)), (1, .ref (adx 0)), (0, .ref b)] [vI zy] (hs_W SHY dA ady y1 ++ (lk_O qo cO f ++ hs_W SHX dA adx x1)) cells slots
  have hzz : (zx = -1 ∧ zy = -1) ∨ (zx = x 3 4 ∧ zy = x 3 4) := by
    obtain ⟨r1, r2, r3, r4, r5⟩ := hli.2.2
    rw [← r3, ← r4] at kzy
    rcases Classical.em (1 ≤ (xs (i + 1).toNat).toInt ∧ (xs (i + 1).toNat).toInt ≤ 9 ∧ 0 ≤ (xs (i + 2).toNat).toInt ∧ (xs (i + 2).toNat).toInt < x 3 3 ∧ 0 ≤ (xs (i + 3).toNat).toInt ∧ (xs (i + 3).toNat).toInt ≤ 3 ∧ 200 ≤ (xs (i + 4).toNat).toInt ∧ (xs (i + 4).toNat).toInt ≤ 900 ∧ 0 ≤ (xs (i + 5).toNat).toInt ∧ (xs (i + 5).toNat).toInt ≤ 50 ∧ 0 ≤ (xs (i + 6).toNat).toInt ∧ (xs (i + 6).toNat).toInt < x 3 3 ∧ 0 ≤ (xs (i + 7).toNat).toInt ∧ (xs (i + 7).toNat).toInt ≤ 60 ∧ x 3 4 < 4) with q | q
    · exact Or.inr ⟨(kzx.2 q).1, (kzy.2 q).1⟩
    · exact Or.inl ⟨(kzx.1 q).1, (kzy.1 q).1⟩
  have hr := hli.2.2
  unfold RXY at hr
  have hLI : LI x1 y1 := by
    obtain ⟨r1, r2, r3, r4, r5⟩ := hr
    rw [← r3, ← r4] at kzy
    rcases Classical.em (1 ≤ (xs (i + 1).toNat).toInt ∧ (xs (i + 1).toNat).toInt ≤ 9 ∧ 0 ≤ (xs (i + 2).toNat).toInt ∧ (xs (i + 2).toNat).toInt < x 3 3 ∧ 0 ≤ (xs (i + 3).toNat).toInt ∧ (xs (i + 3).toNat).toInt ≤ 3 ∧ 200 ≤ (xs (i + 4).toNat).toInt ∧ (xs (i + 4).toNat).toInt ≤ 900 ∧ 0 ≤ (xs (i + 5).toNat).toInt ∧ (xs (i + 5).toNat).toInt ≤ 50 ∧ 0 ≤ (xs (i + 6).toNat).toInt ∧ (xs (i + 6).toNat).toInt < x 3 3 ∧ 0 ≤ (xs (i + 7).toNat).toInt ∧ (xs (i + 7).toNat).toInt ≤ 60 ∧ x 3 4 < 4) with q | q
    · have h1 := kzx.2 q
      have h2 := kzy.2 q
      refine ⟨h1.2.1, h2.2.1, ?_⟩
      have h1a := h1.2.2
      have h2a := h2.2.2
      unfold RXY
      exact ⟨by omega, by omega, by omega, by omega, by omega⟩
    · have h1 := (kzx.1 q).2
      have h2 := (kzy.1 q).2
      rw [h1]
      exact li_y hli h2
  refine l_pop (pc := 409) C dL_law_409 rfl ?_
  refine l_goto (pc := 410) C (tgt := 1114) dL_law_410 (by decide) ?_
  refine l_swap C (w1 := hs_W SHY dA ady y1) (w2 := lk_O qo cO f) (w3 := hs_W SHX dA adx x1) rfl ?_
  refine l_swap C (w1 := lk_O qo cO f) (w2 := hs_W SHX dA adx x1) (w3 := hs_W SHY dA ady y1) rfl ?_
  refine l_widen C (c2 := cells + 1) (s2 := slots + 6) (by omega) (by omega) ?_
  exact kend _ _ _ hLI
set_option maxHeartbeats 4000000 in
set_option maxRecDepth 100000 in
theorem a_second {p : Program} {e : Env} {s : State} {m : MethodId} {below : List Frame} {meth : Method} {c : Code} {l : Launch} {b L : Nat} {xs : Nat → Int32} {D : va_G} {dA : Nat → ClassId} {A : Nat → Prop} {Q : State → Prop} {adx ady : Nat → Nat} {qo : Nat} {cO : ClassId} {f : Nat → Int64} {i : Int} {cells slots : Nat} (hi0 : 0 ≤ i) (hi8 : i + 8 ≤ (L : Int)) (hL : L ≤ 4096) (hcl : cells + 1 ≤ 601024) (hsl : slots + 6 ≤ 7293034) (C : hs_Cl p s m b L xs meth c D dA A) (hSx : hs_St adx A s) (hSy : hs_St ady A s) {x y : hs_S} (hli : LI x y) (kend : ∀ (x1 y1 : hs_S) (f1 : Nat → Int64), LI x1 y1 → hs_Wn p l e room_1 s m #[Value.ref b] below meth c D A 7 Q 1114 [(4, vI i), (3, .ref qo), (2, .ref (ady 0)), (1, .ref (adx 0)), (0, .ref b)] [] (hs_W SHX dA adx x1 ++ (hs_W SHY dA ady y1 ++ lk_O qo cO f1)) (cells + 1) (slots + 6)) : hs_Wn p l e room_1 s m #[Value.ref b] below meth c D A 7 Q 413 [(4, vI i), (3, .ref qo), (2, .ref (ady 0)), (1, .ref (adx 0)), (0, .ref b)] [] (hs_W SHX dA adx x ++ (hs_W SHY dA ady y ++ lk_O qo cO f)) cells slots := by
  refine l_aload_n (pc := 413) C dL_law_413 3 rfl ?_
  refine l_aload_n (pc := 414) C dL_law_414 4 rfl ?_
  refine l_iload (pc := 415) C dL_law_415 0 rfl ?_
  refine l_iconst (pc := 417) C dL_law_417 ?_
  refine l_iadd (pc := 418) C dL_law_418 ?_
  refine l_sld (pc := 419) C (i + 1).toNat dL_law_419 (by omega) rfl (by omega) (by omega) ?_
  refine l_aload_n (pc := 420) C dL_law_420 4 rfl ?_
  refine l_iload (pc := 421) C dL_law_421 0 rfl ?_
  refine l_iconst (pc := 423) C dL_law_423 ?_
  refine l_iadd (pc := 424) C dL_law_424 ?_
  refine l_sld (pc := 425) C (i + 2).toNat dL_law_425 (by omega) rfl (by omega) (by omega) ?_
  refine l_callP (pc := 426) (SH := SHX) (ad := adx) (σ := x) (wr := (hs_W SHY dA ady y ++ lk_O qo cO f)) C (c_X11_second l (xs (i + 1).toNat).toInt ⟨(hs_oR (xs (i + 1).toNat)).1, (hs_oR (xs (i + 1).toNat)).2⟩ (xs (i + 2).toNat).toInt ⟨(hs_oR (xs (i + 2).toNat)).1, (hs_oR (xs (i + 2).toNat)).2⟩) [vI ((xs (i + 1).toNat).toInt), vI ((xs (i + 2).toNat).toInt)] [] rfl rfl rfl dL_law_426 wlL_45 wiX11_second weX11_second wcX11_second wnX11 noX11_second (by decide) (by decide) (Nat.le_of_ble_eq_true rfl) (by omega) (by omega) rfl rfl hSx hli.1 ?_
  rintro _ x1 ⟨zx, rfl, kzx⟩
  show hs_Wn p l e room_1 s m #[Value.ref b] below meth c D A 7 Q 429 [(4, vI i), (3, .ref qo), (2, .ref (ady 0)), (1, .ref (adx 0)), (0, .ref b)] [vI zx] (hs_W SHX dA adx x1 ++ (hs_W SHY dA ady y ++ lk_O qo cO f)) cells slots
  refine l_pop (pc := 429) C dL_law_429 rfl ?_
  refine l_aload_n (pc := 430) C dL_law_430 2 rfl ?_
  refine l_aload_n (pc := 431) C dL_law_431 4 rfl ?_
  refine l_iload (pc := 432) C dL_law_432 0 rfl ?_
  refine l_iconst (pc := 434) C dL_law_434 ?_
  refine l_iadd (pc := 435) C dL_law_435 ?_
  refine l_sld (pc := 436) C (i + 1).toNat dL_law_436 (by omega) rfl (by omega) (by omega) ?_
  refine l_aload_n (pc := 437) C dL_law_437 4 rfl ?_
  refine l_iload (pc := 438) C dL_law_438 0 rfl ?_
  refine l_iconst (pc := 440) C dL_law_440 ?_
  refine l_iadd (pc := 441) C dL_law_441 ?_
  refine l_sld (pc := 442) C (i + 2).toNat dL_law_442 (by omega) rfl (by omega) (by omega) ?_
  refine l_swap C (w1 := hs_W SHX dA adx x1) (w2 := hs_W SHY dA ady y) (w3 := lk_O qo cO f) rfl ?_
  refine l_callP (pc := 443) (SH := SHY) (ad := ady) (σ := y) (wr := (lk_O qo cO f ++ hs_W SHX dA adx x1)) C (c_X12_second l (xs (i + 1).toNat).toInt ⟨(hs_oR (xs (i + 1).toNat)).1, (hs_oR (xs (i + 1).toNat)).2⟩ (xs (i + 2).toNat).toInt ⟨(hs_oR (xs (i + 2).toNat)).1, (hs_oR (xs (i + 2).toNat)).2⟩) [vI ((xs (i + 1).toNat).toInt), vI ((xs (i + 2).toNat).toInt)] [] rfl rfl rfl dL_law_443 wlL_49 wiX12_second weX12_second wcX12_second wnX12 noX12_second (by decide) (by decide) (Nat.le_of_ble_eq_true rfl) (by omega) (by omega) rfl rfl hSy hli.2.1 ?_
  rintro _ y1 ⟨zy, rfl, kzy⟩
  show hs_Wn p l e room_1 s m #[Value.ref b] below meth c D A 7 Q 446 [(4, vI i), (3, .ref qo), (2, .ref (ady 0)), (1, .ref (adx 0)), (0, .ref b)] [vI zy] (hs_W SHY dA ady y1 ++ (lk_O qo cO f ++ hs_W SHX dA adx x1)) cells slots
  have hr := hli.2.2
  unfold RXY at hr
  have hLI : LI x1 y1 := li_keep hli kzx.1 kzy.1
  refine l_pop (pc := 446) C dL_law_446 rfl ?_
  refine l_goto (pc := 447) C (tgt := 1114) dL_law_447 (by decide) ?_
  refine l_swap C (w1 := hs_W SHY dA ady y1) (w2 := lk_O qo cO f) (w3 := hs_W SHX dA adx x1) rfl ?_
  refine l_swap C (w1 := lk_O qo cO f) (w2 := hs_W SHX dA adx x1) (w3 := hs_W SHY dA ady y1) rfl ?_
  refine l_widen C (c2 := cells + 1) (s2 := slots + 6) (by omega) (by omega) ?_
  exact kend _ _ _ hLI
set_option maxHeartbeats 4000000 in
set_option maxRecDepth 100000 in
theorem a_step {p : Program} {e : Env} {s : State} {m : MethodId} {below : List Frame} {meth : Method} {c : Code} {l : Launch} {b L : Nat} {xs : Nat → Int32} {D : va_G} {dA : Nat → ClassId} {A : Nat → Prop} {Q : State → Prop} {adx ady : Nat → Nat} {qo : Nat} {cO : ClassId} {f : Nat → Int64} {i : Int} {cells slots : Nat} (hi0 : 0 ≤ i) (hi8 : i + 8 ≤ (L : Int)) (hL : L ≤ 4096) (hcl : cells + 1 ≤ 601024) (hsl : slots + 6 ≤ 7293034) (C : hs_Cl p s m b L xs meth c D dA A) (hSx : hs_St adx A s) (hSy : hs_St ady A s) {x y : hs_S} (hli : LI x y) (kend : ∀ (x1 y1 : hs_S) (f1 : Nat → Int64), LI x1 y1 → hs_Wn p l e room_1 s m #[Value.ref b] below meth c D A 7 Q 1114 [(4, vI i), (3, .ref qo), (2, .ref (ady 0)), (1, .ref (adx 0)), (0, .ref b)] [] (hs_W SHX dA adx x1 ++ (hs_W SHY dA ady y1 ++ lk_O qo cO f1)) (cells + 1) (slots + 6)) : hs_Wn p l e room_1 s m #[Value.ref b] below meth c D A 7 Q 450 [(4, vI i), (3, .ref qo), (2, .ref (ady 0)), (1, .ref (adx 0)), (0, .ref b)] [] (hs_W SHX dA adx x ++ (hs_W SHY dA ady y ++ lk_O qo cO f)) cells slots := by
  refine l_aload_n (pc := 450) C dL_law_450 3 rfl ?_
  refine l_aload_n (pc := 451) C dL_law_451 4 rfl ?_
  refine l_iload (pc := 452) C dL_law_452 0 rfl ?_
  refine l_iconst (pc := 454) C dL_law_454 ?_
  refine l_iadd (pc := 455) C dL_law_455 ?_
  refine l_sld (pc := 456) C (i + 1).toNat dL_law_456 (by omega) rfl (by omega) (by omega) ?_
  refine l_callP (pc := 457) (SH := SHX) (ad := adx) (σ := x) (wr := (hs_W SHY dA ady y ++ lk_O qo cO f)) C (c_X11_step l (xs (i + 1).toNat).toInt ⟨(hs_oR (xs (i + 1).toNat)).1, (hs_oR (xs (i + 1).toNat)).2⟩) [vI ((xs (i + 1).toNat).toInt)] [] rfl rfl rfl dL_law_457 wlL_50 wiX11_step weX11_step wcX11_step wnX11 noX11_step (by decide) (by decide) (Nat.le_of_ble_eq_true rfl) (by omega) (by omega) rfl rfl hSx hli.1 ?_
  rintro _ x1 ⟨zx, rfl, kzx⟩
  show hs_Wn p l e room_1 s m #[Value.ref b] below meth c D A 7 Q 460 [(4, vI i), (3, .ref qo), (2, .ref (ady 0)), (1, .ref (adx 0)), (0, .ref b)] [vI zx] (hs_W SHX dA adx x1 ++ (hs_W SHY dA ady y ++ lk_O qo cO f)) cells slots
  refine l_pop (pc := 460) C dL_law_460 rfl ?_
  refine l_aload_n (pc := 461) C dL_law_461 2 rfl ?_
  refine l_aload_n (pc := 462) C dL_law_462 4 rfl ?_
  refine l_iload (pc := 463) C dL_law_463 0 rfl ?_
  refine l_iconst (pc := 465) C dL_law_465 ?_
  refine l_iadd (pc := 466) C dL_law_466 ?_
  refine l_sld (pc := 467) C (i + 1).toNat dL_law_467 (by omega) rfl (by omega) (by omega) ?_
  refine l_swap C (w1 := hs_W SHX dA adx x1) (w2 := hs_W SHY dA ady y) (w3 := lk_O qo cO f) rfl ?_
  refine l_callP (pc := 468) (SH := SHY) (ad := ady) (σ := y) (wr := (lk_O qo cO f ++ hs_W SHX dA adx x1)) C (c_X12_step l (xs (i + 1).toNat).toInt ⟨(hs_oR (xs (i + 1).toNat)).1, (hs_oR (xs (i + 1).toNat)).2⟩) [vI ((xs (i + 1).toNat).toInt)] [] rfl rfl rfl dL_law_468 wlL_53 wiX12_step weX12_step wcX12_step wnX12 noX12_step (by decide) (by decide) (Nat.le_of_ble_eq_true rfl) (by omega) (by omega) rfl rfl hSy hli.2.1 ?_
  rintro _ y1 ⟨zy, rfl, kzy⟩
  show hs_Wn p l e room_1 s m #[Value.ref b] below meth c D A 7 Q 471 [(4, vI i), (3, .ref qo), (2, .ref (ady 0)), (1, .ref (adx 0)), (0, .ref b)] [vI zy] (hs_W SHY dA ady y1 ++ (lk_O qo cO f ++ hs_W SHX dA adx x1)) cells slots
  have hr := hli.2.2
  unfold RXY at hr
  have hLI : LI x1 y1 := li_keep hli kzx.1 kzy.1
  refine l_pop (pc := 471) C dL_law_471 rfl ?_
  refine l_goto (pc := 472) C (tgt := 1114) dL_law_472 (by decide) ?_
  refine l_swap C (w1 := hs_W SHY dA ady y1) (w2 := lk_O qo cO f) (w3 := hs_W SHX dA adx x1) rfl ?_
  refine l_swap C (w1 := lk_O qo cO f) (w2 := hs_W SHX dA adx x1) (w3 := hs_W SHY dA ady y1) rfl ?_
  refine l_widen C (c2 := cells + 1) (s2 := slots + 6) (by omega) (by omega) ?_
  exact kend _ _ _ hLI
set_option maxHeartbeats 4000000 in
set_option maxRecDepth 100000 in
theorem a_look {p : Program} {e : Env} {s : State} {m : MethodId} {below : List Frame} {meth : Method} {c : Code} {l : Launch} {b L : Nat} {xs : Nat → Int32} {D : va_G} {dA : Nat → ClassId} {A : Nat → Prop} {Q : State → Prop} {adx ady : Nat → Nat} {qo : Nat} {cO : ClassId} {f : Nat → Int64} {i : Int} {cells slots : Nat} (hi0 : 0 ≤ i) (hi8 : i + 8 ≤ (L : Int)) (hL : L ≤ 4096) (hcl : cells + 1 ≤ 601024) (hsl : slots + 6 ≤ 7293034) (C : hs_Cl p s m b L xs meth c D dA A) (hSx : hs_St adx A s) (hSy : hs_St ady A s) {x y : hs_S} (hli : LI x y) (hfl : l.stackTraces = false) (hU : vx_Zq Jvm.Bundle.tN "UNASSIGNED_STACK" Jvm.Bundle.steD A s s.heap) (hN : vx_Zq Jvm.Bundle.tN "SUPPRESSED_SENTINEL" Jvm.Bundle.listD A s s.heap) {sa sb : Nat} (hR : vk_R RX11 177 "no such wheel" sa s) (hR2 : vk_R RX11 206 "no such what" sb s) (hCa : lk_nw s) (hAT : ArrOfT s cO .long ∧ va_RA s cO .long) (kend : ∀ (x1 y1 : hs_S) (f1 : Nat → Int64), LI x1 y1 → hs_Wn p l e room_1 s m #[Value.ref b] below meth c D A 7 Q 1114 [(4, vI i), (3, .ref qo), (2, .ref (ady 0)), (1, .ref (adx 0)), (0, .ref b)] [] (hs_W SHX dA adx x1 ++ (hs_W SHY dA ady y1 ++ lk_O qo cO f1)) (cells + 1) (slots + 6)) : hs_Wn p l e room_1 s m #[Value.ref b] below meth c D A 7 Q 475 [(4, vI i), (3, .ref qo), (2, .ref (ady 0)), (1, .ref (adx 0)), (0, .ref b)] [] (hs_W SHX dA adx x ++ (hs_W SHY dA ady y ++ lk_O qo cO f)) cells slots := by
  refine l_aload_n (pc := 475) C dL_law_475 3 rfl ?_
  refine l_aload_n (pc := 476) C dL_law_476 4 rfl ?_
  refine l_iload (pc := 477) C dL_law_477 0 rfl ?_
  refine l_iconst (pc := 479) C dL_law_479 ?_
  refine l_iadd (pc := 480) C dL_law_480 ?_
  refine l_sld (pc := 481) C (i + 1).toNat dL_law_481 (by omega) rfl (by omega) (by omega) ?_
  refine l_aload_n (pc := 482) C dL_law_482 4 rfl ?_
  refine l_iload (pc := 483) C dL_law_483 0 rfl ?_
  refine l_iconst (pc := 485) C dL_law_485 ?_
  refine l_iadd (pc := 486) C dL_law_486 ?_
  refine l_sld (pc := 487) C (i + 2).toNat dL_law_487 (by omega) rfl (by omega) (by omega) ?_
  refine l_aload_n (pc := 488) C dL_law_488 1 rfl ?_
  refine l_callK (pc := 489) (wy := hs_W SHY dA ady y) (rest := []) hfl C hli.1 (xs (i + 1).toNat).toInt (xs (i + 2).toNat).toInt ⟨(hs_oR (xs (i + 1).toNat)).1, (hs_oR (xs (i + 1).toNat)).2⟩ ⟨(hs_oR (xs (i + 2).toNat)).1, (hs_oR (xs (i + 2).toNat)).2⟩ hSx hU hN hR hR2 hCa hAT dL_law_489 wlL_54 (by decide) hcl hsl ?_
  intro r f1 hrR
  have kzx : GX x x := hli.1
  refine l_istore (pc := 492) C [(5, vI r), (4, vI i), (3, .ref qo), (2, .ref (ady 0)), (1, .ref (adx 0)), (0, .ref b)] dL_law_492 (by decide) rfl ?_
  refine l_aload_n (pc := 494) C dL_law_494 3 rfl ?_
  refine l_aload_n (pc := 495) C dL_law_495 5 rfl ?_
  refine l_iload (pc := 496) C dL_law_496 1 rfl ?_
  refine l_iconst (pc := 498) C dL_law_498 ?_
  refine l_iadd (pc := 499) C dL_law_499 ?_
  refine l_sld (pc := 500) C (i + 1).toNat dL_law_500 (by omega) rfl (by omega) (by omega) ?_
  refine l_aload_n (pc := 501) C dL_law_501 5 rfl ?_
  refine l_iload (pc := 502) C dL_law_502 1 rfl ?_
  refine l_iconst (pc := 504) C dL_law_504 ?_
  refine l_iadd (pc := 505) C dL_law_505 ?_
  refine l_sld (pc := 506) C (i + 2).toNat dL_law_506 (by omega) rfl (by omega) (by omega) ?_
  refine l_swap C (w1 := hs_W SHX dA adx x) (w2 := hs_W SHY dA ady y) (w3 := lk_O qo cO f1) rfl ?_
  refine l_callP (pc := 507) (SH := SHY) (ad := ady) (σ := y) (wr := (lk_O qo cO f1 ++ hs_W SHX dA adx x)) C (c_X12_look l (xs (i + 1).toNat).toInt ⟨(hs_oR (xs (i + 1).toNat)).1, (hs_oR (xs (i + 1).toNat)).2⟩ (xs (i + 2).toNat).toInt ⟨(hs_oR (xs (i + 2).toNat)).1, (hs_oR (xs (i + 2).toNat)).2⟩) [vI ((xs (i + 1).toNat).toInt), vI ((xs (i + 2).toNat).toInt)] [] rfl rfl rfl dL_law_507 wlL_59 wiX12_look weX12_look wcX12_look wnX12 noX12_look (by decide) (by decide) (Nat.le_of_ble_eq_true rfl) (by omega) (by omega) rfl rfl hSy hli.2.1 ?_
  rintro _ y1 ⟨zy, rfl, kzy⟩
  show hs_Wn p l e room_1 s m #[Value.ref b] below meth c D A 7 Q 510 [(5, vI r), (4, vI i), (3, .ref qo), (2, .ref (ady 0)), (1, .ref (adx 0)), (0, .ref b)] [vI zy] (hs_W SHY dA ady y1 ++ (lk_O qo cO f1 ++ hs_W SHX dA adx x)) (cells + 1) (slots + 6)
  have hr := hli.2.2
  unfold RXY at hr
  have hLI : LI x y1 := li_keep hli kzx kzy.1
  refine l_istore (pc := 510) C [(6, vI zy), (5, vI r), (4, vI i), (3, .ref qo), (2, .ref (ady 0)), (1, .ref (adx 0)), (0, .ref b)] dL_law_510 (by decide) rfl ?_
  refine l_goto (pc := 512) C (tgt := 1114) dL_law_512 (by decide) ?_
  refine l_sub C [2, 3, 4, 5, 6] [(4, vI i), (3, .ref qo), (2, .ref (ady 0)), (1, .ref (adx 0)), (0, .ref b)] rfl ?_
  refine l_swap C (w1 := hs_W SHY dA ady y1) (w2 := lk_O qo cO f1) (w3 := hs_W SHX dA adx x) rfl ?_
  refine l_swap C (w1 := lk_O qo cO f1) (w2 := hs_W SHX dA adx x) (w3 := hs_W SHY dA ady y1) rfl ?_
  exact kend _ _ _ hLI
set_option maxHeartbeats 4000000 in
set_option maxRecDepth 100000 in
theorem a_rides {p : Program} {e : Env} {s : State} {m : MethodId} {below : List Frame} {meth : Method} {c : Code} {l : Launch} {b L : Nat} {xs : Nat → Int32} {D : va_G} {dA : Nat → ClassId} {A : Nat → Prop} {Q : State → Prop} {adx ady : Nat → Nat} {qo : Nat} {cO : ClassId} {f : Nat → Int64} {i : Int} {cells slots : Nat} (hi0 : 0 ≤ i) (hi8 : i + 8 ≤ (L : Int)) (hL : L ≤ 4096) (hcl : cells + 1 ≤ 601024) (hsl : slots + 6 ≤ 7293034) (C : hs_Cl p s m b L xs meth c D dA A) (hSx : hs_St adx A s) (hSy : hs_St ady A s) {x y : hs_S} (hli : LI x y) (kend : ∀ (x1 y1 : hs_S) (f1 : Nat → Int64), LI x1 y1 → hs_Wn p l e room_1 s m #[Value.ref b] below meth c D A 7 Q 1114 [(4, vI i), (3, .ref qo), (2, .ref (ady 0)), (1, .ref (adx 0)), (0, .ref b)] [] (hs_W SHX dA adx x1 ++ (hs_W SHY dA ady y1 ++ lk_O qo cO f1)) (cells + 1) (slots + 6)) : hs_Wn p l e room_1 s m #[Value.ref b] below meth c D A 7 Q 515 [(4, vI i), (3, .ref qo), (2, .ref (ady 0)), (1, .ref (adx 0)), (0, .ref b)] [] (hs_W SHX dA adx x ++ (hs_W SHY dA ady y ++ lk_O qo cO f)) cells slots := by
  refine l_aload_n (pc := 515) C dL_law_515 3 rfl ?_
  refine l_callP (pc := 516) (SH := SHX) (ad := adx) (σ := x) (wr := (hs_W SHY dA ady y ++ lk_O qo cO f)) C (c_X11_rides l ) [] [] rfl rfl rfl dL_law_516 wlL_60 wiX11_rides weX11_rides wcX11_rides wnX11 noX11_rides (by decide) (by decide) (Nat.le_of_ble_eq_true rfl) (by omega) (by omega) rfl rfl hSx hli.1 ?_
  rintro _ x1 ⟨zx, rfl, kzx⟩
  show hs_Wn p l e room_1 s m #[Value.ref b] below meth c D A 7 Q 519 [(4, vI i), (3, .ref qo), (2, .ref (ady 0)), (1, .ref (adx 0)), (0, .ref b)] [vI zx] (hs_W SHX dA adx x1 ++ (hs_W SHY dA ady y ++ lk_O qo cO f)) cells slots
  refine l_pop (pc := 519) C dL_law_519 rfl ?_
  refine l_aload_n (pc := 520) C dL_law_520 2 rfl ?_
  refine l_swap C (w1 := hs_W SHX dA adx x1) (w2 := hs_W SHY dA ady y) (w3 := lk_O qo cO f) rfl ?_
  refine l_callP (pc := 521) (SH := SHY) (ad := ady) (σ := y) (wr := (lk_O qo cO f ++ hs_W SHX dA adx x1)) C (c_X12_rides l ) [] [] rfl rfl rfl dL_law_521 wlL_64 wiX12_rides weX12_rides wcX12_rides wnX12 noX12_rides (by decide) (by decide) (Nat.le_of_ble_eq_true rfl) (by omega) (by omega) rfl rfl hSy hli.2.1 ?_
  rintro _ y1 ⟨zy, rfl, kzy⟩
  show hs_Wn p l e room_1 s m #[Value.ref b] below meth c D A 7 Q 524 [(4, vI i), (3, .ref qo), (2, .ref (ady 0)), (1, .ref (adx 0)), (0, .ref b)] [vI zy] (hs_W SHY dA ady y1 ++ (lk_O qo cO f ++ hs_W SHX dA adx x1)) cells slots
  have hr := hli.2.2
  unfold RXY at hr
  have hLI : LI x1 y1 := li_keep hli (show GX x x1 from by have e := kzx.1; rw [← e]; exact hli.1) kzy.1
  refine l_pop (pc := 524) C dL_law_524 rfl ?_
  refine l_goto (pc := 525) C (tgt := 1114) dL_law_525 (by decide) ?_
  refine l_swap C (w1 := hs_W SHY dA ady y1) (w2 := lk_O qo cO f) (w3 := hs_W SHX dA adx x1) rfl ?_
  refine l_swap C (w1 := lk_O qo cO f) (w2 := hs_W SHX dA adx x1) (w3 := hs_W SHY dA ady y1) rfl ?_
  refine l_widen C (c2 := cells + 1) (s2 := slots + 6) (by omega) (by omega) ?_
  exact kend _ _ _ hLI
set_option maxHeartbeats 4000000 in
set_option maxRecDepth 100000 in
theorem a_open {p : Program} {e : Env} {s : State} {m : MethodId} {below : List Frame} {meth : Method} {c : Code} {l : Launch} {b L : Nat} {xs : Nat → Int32} {D : va_G} {dA : Nat → ClassId} {A : Nat → Prop} {Q : State → Prop} {adx ady : Nat → Nat} {qo : Nat} {cO : ClassId} {f : Nat → Int64} {i : Int} {cells slots : Nat} (hi0 : 0 ≤ i) (hi8 : i + 8 ≤ (L : Int)) (hL : L ≤ 4096) (hcl : cells + 1 ≤ 601024) (hsl : slots + 6 ≤ 7293034) (C : hs_Cl p s m b L xs meth c D dA A) (hSx : hs_St adx A s) (hSy : hs_St ady A s) {x y : hs_S} (hli : LI x y) (kend : ∀ (x1 y1 : hs_S) (f1 : Nat → Int64), LI x1 y1 → hs_Wn p l e room_1 s m #[Value.ref b] below meth c D A 7 Q 1114 [(4, vI i), (3, .ref qo), (2, .ref (ady 0)), (1, .ref (adx 0)), (0, .ref b)] [] (hs_W SHX dA adx x1 ++ (hs_W SHY dA ady y1 ++ lk_O qo cO f1)) (cells + 1) (slots + 6)) : hs_Wn p l e room_1 s m #[Value.ref b] below meth c D A 7 Q 528 [(4, vI i), (3, .ref qo), (2, .ref (ady 0)), (1, .ref (adx 0)), (0, .ref b)] [] (hs_W SHX dA adx x ++ (hs_W SHY dA ady y ++ lk_O qo cO f)) cells slots := by
  refine l_aload_n (pc := 528) C dL_law_528 3 rfl ?_
  refine l_callP (pc := 529) (SH := SHX) (ad := adx) (σ := x) (wr := (hs_W SHY dA ady y ++ lk_O qo cO f)) C (c_X11_open l ) [] [] rfl rfl rfl dL_law_529 wlL_65 wiX11_open weX11_open wcX11_open wnX11 noX11_open (by decide) (by decide) (Nat.le_of_ble_eq_true rfl) (by omega) (by omega) rfl rfl hSx hli.1 ?_
  rintro _ x1 ⟨zx, rfl, kzx⟩
  show hs_Wn p l e room_1 s m #[Value.ref b] below meth c D A 7 Q 532 [(4, vI i), (3, .ref qo), (2, .ref (ady 0)), (1, .ref (adx 0)), (0, .ref b)] [vI zx] (hs_W SHX dA adx x1 ++ (hs_W SHY dA ady y ++ lk_O qo cO f)) cells slots
  refine l_pop (pc := 532) C dL_law_532 rfl ?_
  refine l_aload_n (pc := 533) C dL_law_533 2 rfl ?_
  refine l_swap C (w1 := hs_W SHX dA adx x1) (w2 := hs_W SHY dA ady y) (w3 := lk_O qo cO f) rfl ?_
  refine l_callP (pc := 534) (SH := SHY) (ad := ady) (σ := y) (wr := (lk_O qo cO f ++ hs_W SHX dA adx x1)) C (c_X12_open l ) [] [] rfl rfl rfl dL_law_534 wlL_68 wiX12_open weX12_open wcX12_open wnX12 noX12_open (by decide) (by decide) (Nat.le_of_ble_eq_true rfl) (by omega) (by omega) rfl rfl hSy hli.2.1 ?_
  rintro _ y1 ⟨zy, rfl, kzy⟩
  show hs_Wn p l e room_1 s m #[Value.ref b] below meth c D A 7 Q 537 [(4, vI i), (3, .ref qo), (2, .ref (ady 0)), (1, .ref (adx 0)), (0, .ref b)] [vI zy] (hs_W SHY dA ady y1 ++ (lk_O qo cO f ++ hs_W SHX dA adx x1)) cells slots
  have hr := hli.2.2
  unfold RXY at hr
  have hLI : LI x1 y1 := li_keep hli (show GX x x1 from by have e := kzx.1; rw [← e]; exact hli.1) kzy.1
  refine l_pop (pc := 537) C dL_law_537 rfl ?_
  refine l_goto (pc := 538) C (tgt := 1114) dL_law_538 (by decide) ?_
  refine l_swap C (w1 := hs_W SHY dA ady y1) (w2 := lk_O qo cO f) (w3 := hs_W SHX dA adx x1) rfl ?_
  refine l_swap C (w1 := lk_O qo cO f) (w2 := hs_W SHX dA adx x1) (w3 := hs_W SHY dA ady y1) rfl ?_
  refine l_widen C (c2 := cells + 1) (s2 := slots + 6) (by omega) (by omega) ?_
  exact kend _ _ _ hLI
set_option maxHeartbeats 4000000 in
set_option maxRecDepth 100000 in
theorem a_clock {p : Program} {e : Env} {s : State} {m : MethodId} {below : List Frame} {meth : Method} {c : Code} {l : Launch} {b L : Nat} {xs : Nat → Int32} {D : va_G} {dA : Nat → ClassId} {A : Nat → Prop} {Q : State → Prop} {adx ady : Nat → Nat} {qo : Nat} {cO : ClassId} {f : Nat → Int64} {i : Int} {cells slots : Nat} (hi0 : 0 ≤ i) (hi8 : i + 8 ≤ (L : Int)) (hL : L ≤ 4096) (hcl : cells + 1 ≤ 601024) (hsl : slots + 6 ≤ 7293034) (C : hs_Cl p s m b L xs meth c D dA A) (hSx : hs_St adx A s) (hSy : hs_St ady A s) {x y : hs_S} (hli : LI x y) (kend : ∀ (x1 y1 : hs_S) (f1 : Nat → Int64), LI x1 y1 → hs_Wn p l e room_1 s m #[Value.ref b] below meth c D A 7 Q 1114 [(4, vI i), (3, .ref qo), (2, .ref (ady 0)), (1, .ref (adx 0)), (0, .ref b)] [] (hs_W SHX dA adx x1 ++ (hs_W SHY dA ady y1 ++ lk_O qo cO f1)) (cells + 1) (slots + 6)) : hs_Wn p l e room_1 s m #[Value.ref b] below meth c D A 7 Q 541 [(4, vI i), (3, .ref qo), (2, .ref (ady 0)), (1, .ref (adx 0)), (0, .ref b)] [] (hs_W SHX dA adx x ++ (hs_W SHY dA ady y ++ lk_O qo cO f)) cells slots := by
  refine l_aload_n (pc := 541) C dL_law_541 3 rfl ?_
  refine l_aload_n (pc := 542) C dL_law_542 4 rfl ?_
  refine l_iload (pc := 543) C dL_law_543 0 rfl ?_
  refine l_iconst (pc := 545) C dL_law_545 ?_
  refine l_iadd (pc := 546) C dL_law_546 ?_
  refine l_sld (pc := 547) C (i + 1).toNat dL_law_547 (by omega) rfl (by omega) (by omega) ?_
  refine l_callP (pc := 548) (SH := SHX) (ad := adx) (σ := x) (wr := (hs_W SHY dA ady y ++ lk_O qo cO f)) C (c_X11_clock l (xs (i + 1).toNat).toInt ⟨(hs_oR (xs (i + 1).toNat)).1, (hs_oR (xs (i + 1).toNat)).2⟩) [vI ((xs (i + 1).toNat).toInt)] [] rfl rfl rfl dL_law_548 wlL_69 wiX11_clock weX11_clock wcX11_clock wnX11 noX11_clock (by decide) (by decide) (Nat.le_of_ble_eq_true rfl) (by omega) (by omega) rfl rfl hSx hli.1 ?_
  rintro _ x1 ⟨zx, rfl, kzx⟩
  show hs_Wn p l e room_1 s m #[Value.ref b] below meth c D A 7 Q 551 [(4, vI i), (3, .ref qo), (2, .ref (ady 0)), (1, .ref (adx 0)), (0, .ref b)] [vI zx] (hs_W SHX dA adx x1 ++ (hs_W SHY dA ady y ++ lk_O qo cO f)) cells slots
  refine l_pop (pc := 551) C dL_law_551 rfl ?_
  refine l_aload_n (pc := 552) C dL_law_552 2 rfl ?_
  refine l_aload_n (pc := 553) C dL_law_553 4 rfl ?_
  refine l_iload (pc := 554) C dL_law_554 0 rfl ?_
  refine l_iconst (pc := 556) C dL_law_556 ?_
  refine l_iadd (pc := 557) C dL_law_557 ?_
  refine l_sld (pc := 558) C (i + 1).toNat dL_law_558 (by omega) rfl (by omega) (by omega) ?_
  refine l_swap C (w1 := hs_W SHX dA adx x1) (w2 := hs_W SHY dA ady y) (w3 := lk_O qo cO f) rfl ?_
  refine l_callP (pc := 559) (SH := SHY) (ad := ady) (σ := y) (wr := (lk_O qo cO f ++ hs_W SHX dA adx x1)) C (c_X12_clock l (xs (i + 1).toNat).toInt ⟨(hs_oR (xs (i + 1).toNat)).1, (hs_oR (xs (i + 1).toNat)).2⟩) [vI ((xs (i + 1).toNat).toInt)] [] rfl rfl rfl dL_law_559 wlL_72 wiX12_clock weX12_clock wcX12_clock wnX12 noX12_clock (by decide) (by decide) (Nat.le_of_ble_eq_true rfl) (by omega) (by omega) rfl rfl hSy hli.2.1 ?_
  rintro _ y1 ⟨zy, rfl, kzy⟩
  show hs_Wn p l e room_1 s m #[Value.ref b] below meth c D A 7 Q 562 [(4, vI i), (3, .ref qo), (2, .ref (ady 0)), (1, .ref (adx 0)), (0, .ref b)] [vI zy] (hs_W SHY dA ady y1 ++ (lk_O qo cO f ++ hs_W SHX dA adx x1)) cells slots
  have hr := hli.2.2
  unfold RXY at hr
  have hLI : LI x1 y1 := li_keep hli kzx.1 kzy.1
  refine l_pop (pc := 562) C dL_law_562 rfl ?_
  refine l_goto (pc := 563) C (tgt := 1114) dL_law_563 (by decide) ?_
  refine l_swap C (w1 := hs_W SHY dA ady y1) (w2 := lk_O qo cO f) (w3 := hs_W SHX dA adx x1) rfl ?_
  refine l_swap C (w1 := lk_O qo cO f) (w2 := hs_W SHX dA adx x1) (w3 := hs_W SHY dA ady y1) rfl ?_
  refine l_widen C (c2 := cells + 1) (s2 := slots + 6) (by omega) (by omega) ?_
  exact kend _ _ _ hLI
set_option maxHeartbeats 4000000 in
set_option maxRecDepth 100000 in
theorem a_hours {p : Program} {e : Env} {s : State} {m : MethodId} {below : List Frame} {meth : Method} {c : Code} {l : Launch} {b L : Nat} {xs : Nat → Int32} {D : va_G} {dA : Nat → ClassId} {A : Nat → Prop} {Q : State → Prop} {adx ady : Nat → Nat} {qo : Nat} {cO : ClassId} {f : Nat → Int64} {i : Int} {cells slots : Nat} (hi0 : 0 ≤ i) (hi8 : i + 8 ≤ (L : Int)) (hL : L ≤ 4096) (hcl : cells + 1 ≤ 601024) (hsl : slots + 6 ≤ 7293034) (C : hs_Cl p s m b L xs meth c D dA A) (hSx : hs_St adx A s) (hSy : hs_St ady A s) {x y : hs_S} (hli : LI x y) (kend : ∀ (x1 y1 : hs_S) (f1 : Nat → Int64), LI x1 y1 → hs_Wn p l e room_1 s m #[Value.ref b] below meth c D A 7 Q 1114 [(4, vI i), (3, .ref qo), (2, .ref (ady 0)), (1, .ref (adx 0)), (0, .ref b)] [] (hs_W SHX dA adx x1 ++ (hs_W SHY dA ady y1 ++ lk_O qo cO f1)) (cells + 1) (slots + 6)) : hs_Wn p l e room_1 s m #[Value.ref b] below meth c D A 7 Q 566 [(4, vI i), (3, .ref qo), (2, .ref (ady 0)), (1, .ref (adx 0)), (0, .ref b)] [] (hs_W SHX dA adx x ++ (hs_W SHY dA ady y ++ lk_O qo cO f)) cells slots := by
  refine l_aload_n (pc := 566) C dL_law_566 3 rfl ?_
  refine l_aload_n (pc := 567) C dL_law_567 4 rfl ?_
  refine l_iload (pc := 568) C dL_law_568 0 rfl ?_
  refine l_iconst (pc := 570) C dL_law_570 ?_
  refine l_iadd (pc := 571) C dL_law_571 ?_
  refine l_sld (pc := 572) C (i + 1).toNat dL_law_572 (by omega) rfl (by omega) (by omega) ?_
  refine l_callP (pc := 573) (SH := SHX) (ad := adx) (σ := x) (wr := (hs_W SHY dA ady y ++ lk_O qo cO f)) C (c_X11_hours l (xs (i + 1).toNat).toInt ⟨(hs_oR (xs (i + 1).toNat)).1, (hs_oR (xs (i + 1).toNat)).2⟩) [vI ((xs (i + 1).toNat).toInt)] [] rfl rfl rfl dL_law_573 wlL_73 wiX11_hours weX11_hours wcX11_hours wnX11 noX11_hours (by decide) (by decide) (Nat.le_of_ble_eq_true rfl) (by omega) (by omega) rfl rfl hSx hli.1 ?_
  rintro _ x1 ⟨zx, rfl, kzx⟩
  show hs_Wn p l e room_1 s m #[Value.ref b] below meth c D A 7 Q 576 [(4, vI i), (3, .ref qo), (2, .ref (ady 0)), (1, .ref (adx 0)), (0, .ref b)] [vI zx] (hs_W SHX dA adx x1 ++ (hs_W SHY dA ady y ++ lk_O qo cO f)) cells slots
  refine l_pop (pc := 576) C dL_law_576 rfl ?_
  refine l_aload_n (pc := 577) C dL_law_577 2 rfl ?_
  refine l_aload_n (pc := 578) C dL_law_578 4 rfl ?_
  refine l_iload (pc := 579) C dL_law_579 0 rfl ?_
  refine l_iconst (pc := 581) C dL_law_581 ?_
  refine l_iadd (pc := 582) C dL_law_582 ?_
  refine l_sld (pc := 583) C (i + 1).toNat dL_law_583 (by omega) rfl (by omega) (by omega) ?_
  refine l_swap C (w1 := hs_W SHX dA adx x1) (w2 := hs_W SHY dA ady y) (w3 := lk_O qo cO f) rfl ?_
  refine l_callP (pc := 584) (SH := SHY) (ad := ady) (σ := y) (wr := (lk_O qo cO f ++ hs_W SHX dA adx x1)) C (c_X12_hours l (xs (i + 1).toNat).toInt ⟨(hs_oR (xs (i + 1).toNat)).1, (hs_oR (xs (i + 1).toNat)).2⟩) [vI ((xs (i + 1).toNat).toInt)] [] rfl rfl rfl dL_law_584 wlL_76 wiX12_hours weX12_hours wcX12_hours wnX12 noX12_hours (by decide) (by decide) (Nat.le_of_ble_eq_true rfl) (by omega) (by omega) rfl rfl hSy hli.2.1 ?_
  rintro _ y1 ⟨zy, rfl, kzy⟩
  show hs_Wn p l e room_1 s m #[Value.ref b] below meth c D A 7 Q 587 [(4, vI i), (3, .ref qo), (2, .ref (ady 0)), (1, .ref (adx 0)), (0, .ref b)] [vI zy] (hs_W SHY dA ady y1 ++ (lk_O qo cO f ++ hs_W SHX dA adx x1)) cells slots
  have hr := hli.2.2
  unfold RXY at hr
  have hLI : LI x1 y1 := li_keep hli kzx.1 kzy.1
  refine l_pop (pc := 587) C dL_law_587 rfl ?_
  refine l_goto (pc := 588) C (tgt := 1114) dL_law_588 (by decide) ?_
  refine l_swap C (w1 := hs_W SHY dA ady y1) (w2 := lk_O qo cO f) (w3 := hs_W SHX dA adx x1) rfl ?_
  refine l_swap C (w1 := lk_O qo cO f) (w2 := hs_W SHX dA adx x1) (w3 := hs_W SHY dA ady y1) rfl ?_
  refine l_widen C (c2 := cells + 1) (s2 := slots + 6) (by omega) (by omega) ?_
  exact kend _ _ _ hLI
set_option maxHeartbeats 4000000 in
set_option maxRecDepth 100000 in
theorem a_comes {p : Program} {e : Env} {s : State} {m : MethodId} {below : List Frame} {meth : Method} {c : Code} {l : Launch} {b L : Nat} {xs : Nat → Int32} {D : va_G} {dA : Nat → ClassId} {A : Nat → Prop} {Q : State → Prop} {adx ady : Nat → Nat} {qo : Nat} {cO : ClassId} {f : Nat → Int64} {i : Int} {cells slots : Nat} (hi0 : 0 ≤ i) (hi8 : i + 8 ≤ (L : Int)) (hL : L ≤ 4096) (hcl : cells + 1 ≤ 601024) (hsl : slots + 6 ≤ 7293034) (C : hs_Cl p s m b L xs meth c D dA A) (hSx : hs_St adx A s) (hSy : hs_St ady A s) {x y : hs_S} (hli : LI x y) (kend : ∀ (x1 y1 : hs_S) (f1 : Nat → Int64), LI x1 y1 → hs_Wn p l e room_1 s m #[Value.ref b] below meth c D A 7 Q 1114 [(4, vI i), (3, .ref qo), (2, .ref (ady 0)), (1, .ref (adx 0)), (0, .ref b)] [] (hs_W SHX dA adx x1 ++ (hs_W SHY dA ady y1 ++ lk_O qo cO f1)) (cells + 1) (slots + 6)) : hs_Wn p l e room_1 s m #[Value.ref b] below meth c D A 7 Q 591 [(4, vI i), (3, .ref qo), (2, .ref (ady 0)), (1, .ref (adx 0)), (0, .ref b)] [] (hs_W SHX dA adx x ++ (hs_W SHY dA ady y ++ lk_O qo cO f)) cells slots := by
  refine l_aload_n (pc := 591) C dL_law_591 3 rfl ?_
  refine l_aload_n (pc := 592) C dL_law_592 4 rfl ?_
  refine l_iload (pc := 593) C dL_law_593 0 rfl ?_
  refine l_iconst (pc := 595) C dL_law_595 ?_
  refine l_iadd (pc := 596) C dL_law_596 ?_
  refine l_sld (pc := 597) C (i + 1).toNat dL_law_597 (by omega) rfl (by omega) (by omega) ?_
  refine l_aload_n (pc := 598) C dL_law_598 4 rfl ?_
  refine l_iload (pc := 599) C dL_law_599 0 rfl ?_
  refine l_iconst (pc := 601) C dL_law_601 ?_
  refine l_iadd (pc := 602) C dL_law_602 ?_
  refine l_sld (pc := 603) C (i + 2).toNat dL_law_603 (by omega) rfl (by omega) (by omega) ?_
  refine l_if_eq (pc := 604) C (tgt := 611) dL_law_604 (by decide) ⟨(hs_oR (xs (i + 2).toNat)).1, (hs_oR (xs (i + 2).toNat)).2⟩ (fun _ => ?_) (fun _ => ?_)
  · skip
    refine l_iconst (pc := 611) C dL_law_611 ?_
    refine l_callP (pc := 612) (SH := SHX) (ad := adx) (σ := x) (wr := (hs_W SHY dA ady y ++ lk_O qo cO f)) C (c_X11_comes l (xs (i + 1).toNat).toInt 0 ⟨(hs_oR (xs (i + 1).toNat)).1, (hs_oR (xs (i + 1).toNat)).2⟩ (by omega)) [vI ((xs (i + 1).toNat).toInt), vI 0] [] rfl rfl rfl dL_law_612 wlL_77 wiX11_comes weX11_comes wcX11_comes wnX11 noX11_comes (by decide) (by decide) (Nat.le_of_ble_eq_true rfl) (by omega) (by omega) rfl rfl hSx hli.1 ?_
    rintro _ x1 ⟨zx, rfl, kzx⟩
    show hs_Wn p l e room_1 s m #[Value.ref b] below meth c D A 7 Q 615 [(4, vI i), (3, .ref qo), (2, .ref (ady 0)), (1, .ref (adx 0)), (0, .ref b)] [vI zx] (hs_W SHX dA adx x1 ++ (hs_W SHY dA ady y ++ lk_O qo cO f)) cells slots
    refine l_pop (pc := 615) C dL_law_615 rfl ?_
    refine l_aload_n (pc := 616) C dL_law_616 2 rfl ?_
    refine l_aload_n (pc := 617) C dL_law_617 4 rfl ?_
    refine l_iload (pc := 618) C dL_law_618 0 rfl ?_
    refine l_iconst (pc := 620) C dL_law_620 ?_
    refine l_iadd (pc := 621) C dL_law_621 ?_
    refine l_sld (pc := 622) C (i + 1).toNat dL_law_622 (by omega) rfl (by omega) (by omega) ?_
    refine l_aload_n (pc := 623) C dL_law_623 4 rfl ?_
    refine l_iload (pc := 624) C dL_law_624 0 rfl ?_
    refine l_iconst (pc := 626) C dL_law_626 ?_
    refine l_iadd (pc := 627) C dL_law_627 ?_
    refine l_sld (pc := 628) C (i + 2).toNat dL_law_628 (by omega) rfl (by omega) (by omega) ?_
    refine l_if_eq (pc := 629) C (tgt := 636) dL_law_629 (by decide) ⟨(hs_oR (xs (i + 2).toNat)).1, (hs_oR (xs (i + 2).toNat)).2⟩ (fun _ => ?_) (fun _ => ?_)
    · skip
      refine l_iconst (pc := 636) C dL_law_636 ?_
      refine l_swap C (w1 := hs_W SHX dA adx x1) (w2 := hs_W SHY dA ady y) (w3 := lk_O qo cO f) rfl ?_
      refine l_callP (pc := 637) (SH := SHY) (ad := ady) (σ := y) (wr := (lk_O qo cO f ++ hs_W SHX dA adx x1)) C (c_X12_comes l (xs (i + 1).toNat).toInt 0 ⟨(hs_oR (xs (i + 1).toNat)).1, (hs_oR (xs (i + 1).toNat)).2⟩ (by omega)) [vI ((xs (i + 1).toNat).toInt), vI 0] [] rfl rfl rfl dL_law_637 wlL_81 wiX12_comes weX12_comes wcX12_comes wnX12 noX12_comes (by decide) (by decide) (Nat.le_of_ble_eq_true rfl) (by omega) (by omega) rfl rfl hSy hli.2.1 ?_
      rintro _ y1 ⟨zy, rfl, kzy⟩
      show hs_Wn p l e room_1 s m #[Value.ref b] below meth c D A 7 Q 640 [(4, vI i), (3, .ref qo), (2, .ref (ady 0)), (1, .ref (adx 0)), (0, .ref b)] [vI zy] (hs_W SHY dA ady y1 ++ (lk_O qo cO f ++ hs_W SHX dA adx x1)) cells slots
      have hr := hli.2.2
      unfold RXY at hr
      have hLI : LI x1 y1 := li_keep hli (show GX x x1 from by have e := kzx.1; rw [← e]; exact hli.1) kzy.1
      refine l_pop (pc := 640) C dL_law_640 rfl ?_
      refine l_goto (pc := 641) C (tgt := 1114) dL_law_641 (by decide) ?_
      refine l_swap C (w1 := hs_W SHY dA ady y1) (w2 := lk_O qo cO f) (w3 := hs_W SHX dA adx x1) rfl ?_
      refine l_swap C (w1 := lk_O qo cO f) (w2 := hs_W SHX dA adx x1) (w3 := hs_W SHY dA ady y1) rfl ?_
      refine l_widen C (c2 := cells + 1) (s2 := slots + 6) (by omega) (by omega) ?_
      exact kend _ _ _ hLI
    · skip
      refine l_iconst (pc := 632) C dL_law_632 ?_
      refine l_goto (pc := 633) C (tgt := 637) dL_law_633 (by decide) ?_
      refine l_swap C (w1 := hs_W SHX dA adx x1) (w2 := hs_W SHY dA ady y) (w3 := lk_O qo cO f) rfl ?_
      refine l_callP (pc := 637) (SH := SHY) (ad := ady) (σ := y) (wr := (lk_O qo cO f ++ hs_W SHX dA adx x1)) C (c_X12_comes l (xs (i + 1).toNat).toInt 1 ⟨(hs_oR (xs (i + 1).toNat)).1, (hs_oR (xs (i + 1).toNat)).2⟩ (by omega)) [vI ((xs (i + 1).toNat).toInt), vI 1] [] rfl rfl rfl dL_law_637 wlL_81 wiX12_comes weX12_comes wcX12_comes wnX12 noX12_comes (by decide) (by decide) (Nat.le_of_ble_eq_true rfl) (by omega) (by omega) rfl rfl hSy hli.2.1 ?_
      rintro _ y1 ⟨zy, rfl, kzy⟩
      show hs_Wn p l e room_1 s m #[Value.ref b] below meth c D A 7 Q 640 [(4, vI i), (3, .ref qo), (2, .ref (ady 0)), (1, .ref (adx 0)), (0, .ref b)] [vI zy] (hs_W SHY dA ady y1 ++ (lk_O qo cO f ++ hs_W SHX dA adx x1)) cells slots
      have hr := hli.2.2
      unfold RXY at hr
      have hLI : LI x1 y1 := li_keep hli (show GX x x1 from by have e := kzx.1; rw [← e]; exact hli.1) kzy.1
      refine l_pop (pc := 640) C dL_law_640 rfl ?_
      refine l_goto (pc := 641) C (tgt := 1114) dL_law_641 (by decide) ?_
      refine l_swap C (w1 := hs_W SHY dA ady y1) (w2 := lk_O qo cO f) (w3 := hs_W SHX dA adx x1) rfl ?_
      refine l_swap C (w1 := lk_O qo cO f) (w2 := hs_W SHX dA adx x1) (w3 := hs_W SHY dA ady y1) rfl ?_
      refine l_widen C (c2 := cells + 1) (s2 := slots + 6) (by omega) (by omega) ?_
      exact kend _ _ _ hLI
  · skip
    refine l_iconst (pc := 607) C dL_law_607 ?_
    refine l_goto (pc := 608) C (tgt := 612) dL_law_608 (by decide) ?_
    refine l_callP (pc := 612) (SH := SHX) (ad := adx) (σ := x) (wr := (hs_W SHY dA ady y ++ lk_O qo cO f)) C (c_X11_comes l (xs (i + 1).toNat).toInt 1 ⟨(hs_oR (xs (i + 1).toNat)).1, (hs_oR (xs (i + 1).toNat)).2⟩ (by omega)) [vI ((xs (i + 1).toNat).toInt), vI 1] [] rfl rfl rfl dL_law_612 wlL_77 wiX11_comes weX11_comes wcX11_comes wnX11 noX11_comes (by decide) (by decide) (Nat.le_of_ble_eq_true rfl) (by omega) (by omega) rfl rfl hSx hli.1 ?_
    rintro _ x1 ⟨zx, rfl, kzx⟩
    show hs_Wn p l e room_1 s m #[Value.ref b] below meth c D A 7 Q 615 [(4, vI i), (3, .ref qo), (2, .ref (ady 0)), (1, .ref (adx 0)), (0, .ref b)] [vI zx] (hs_W SHX dA adx x1 ++ (hs_W SHY dA ady y ++ lk_O qo cO f)) cells slots
    refine l_pop (pc := 615) C dL_law_615 rfl ?_
    refine l_aload_n (pc := 616) C dL_law_616 2 rfl ?_
    refine l_aload_n (pc := 617) C dL_law_617 4 rfl ?_
    refine l_iload (pc := 618) C dL_law_618 0 rfl ?_
    refine l_iconst (pc := 620) C dL_law_620 ?_
    refine l_iadd (pc := 621) C dL_law_621 ?_
    refine l_sld (pc := 622) C (i + 1).toNat dL_law_622 (by omega) rfl (by omega) (by omega) ?_
    refine l_aload_n (pc := 623) C dL_law_623 4 rfl ?_
    refine l_iload (pc := 624) C dL_law_624 0 rfl ?_
    refine l_iconst (pc := 626) C dL_law_626 ?_
    refine l_iadd (pc := 627) C dL_law_627 ?_
    refine l_sld (pc := 628) C (i + 2).toNat dL_law_628 (by omega) rfl (by omega) (by omega) ?_
    refine l_if_eq (pc := 629) C (tgt := 636) dL_law_629 (by decide) ⟨(hs_oR (xs (i + 2).toNat)).1, (hs_oR (xs (i + 2).toNat)).2⟩ (fun _ => ?_) (fun _ => ?_)
    · skip
      refine l_iconst (pc := 636) C dL_law_636 ?_
      refine l_swap C (w1 := hs_W SHX dA adx x1) (w2 := hs_W SHY dA ady y) (w3 := lk_O qo cO f) rfl ?_
      refine l_callP (pc := 637) (SH := SHY) (ad := ady) (σ := y) (wr := (lk_O qo cO f ++ hs_W SHX dA adx x1)) C (c_X12_comes l (xs (i + 1).toNat).toInt 0 ⟨(hs_oR (xs (i + 1).toNat)).1, (hs_oR (xs (i + 1).toNat)).2⟩ (by omega)) [vI ((xs (i + 1).toNat).toInt), vI 0] [] rfl rfl rfl dL_law_637 wlL_81 wiX12_comes weX12_comes wcX12_comes wnX12 noX12_comes (by decide) (by decide) (Nat.le_of_ble_eq_true rfl) (by omega) (by omega) rfl rfl hSy hli.2.1 ?_
      rintro _ y1 ⟨zy, rfl, kzy⟩
      show hs_Wn p l e room_1 s m #[Value.ref b] below meth c D A 7 Q 640 [(4, vI i), (3, .ref qo), (2, .ref (ady 0)), (1, .ref (adx 0)), (0, .ref b)] [vI zy] (hs_W SHY dA ady y1 ++ (lk_O qo cO f ++ hs_W SHX dA adx x1)) cells slots
      have hr := hli.2.2
      unfold RXY at hr
      have hLI : LI x1 y1 := li_keep hli (show GX x x1 from by have e := kzx.1; rw [← e]; exact hli.1) kzy.1
      refine l_pop (pc := 640) C dL_law_640 rfl ?_
      refine l_goto (pc := 641) C (tgt := 1114) dL_law_641 (by decide) ?_
      refine l_swap C (w1 := hs_W SHY dA ady y1) (w2 := lk_O qo cO f) (w3 := hs_W SHX dA adx x1) rfl ?_
      refine l_swap C (w1 := lk_O qo cO f) (w2 := hs_W SHX dA adx x1) (w3 := hs_W SHY dA ady y1) rfl ?_
      refine l_widen C (c2 := cells + 1) (s2 := slots + 6) (by omega) (by omega) ?_
      exact kend _ _ _ hLI
    · skip
      refine l_iconst (pc := 632) C dL_law_632 ?_
      refine l_goto (pc := 633) C (tgt := 637) dL_law_633 (by decide) ?_
      refine l_swap C (w1 := hs_W SHX dA adx x1) (w2 := hs_W SHY dA ady y) (w3 := lk_O qo cO f) rfl ?_
      refine l_callP (pc := 637) (SH := SHY) (ad := ady) (σ := y) (wr := (lk_O qo cO f ++ hs_W SHX dA adx x1)) C (c_X12_comes l (xs (i + 1).toNat).toInt 1 ⟨(hs_oR (xs (i + 1).toNat)).1, (hs_oR (xs (i + 1).toNat)).2⟩ (by omega)) [vI ((xs (i + 1).toNat).toInt), vI 1] [] rfl rfl rfl dL_law_637 wlL_81 wiX12_comes weX12_comes wcX12_comes wnX12 noX12_comes (by decide) (by decide) (Nat.le_of_ble_eq_true rfl) (by omega) (by omega) rfl rfl hSy hli.2.1 ?_
      rintro _ y1 ⟨zy, rfl, kzy⟩
      show hs_Wn p l e room_1 s m #[Value.ref b] below meth c D A 7 Q 640 [(4, vI i), (3, .ref qo), (2, .ref (ady 0)), (1, .ref (adx 0)), (0, .ref b)] [vI zy] (hs_W SHY dA ady y1 ++ (lk_O qo cO f ++ hs_W SHX dA adx x1)) cells slots
      have hr := hli.2.2
      unfold RXY at hr
      have hLI : LI x1 y1 := li_keep hli (show GX x x1 from by have e := kzx.1; rw [← e]; exact hli.1) kzy.1
      refine l_pop (pc := 640) C dL_law_640 rfl ?_
      refine l_goto (pc := 641) C (tgt := 1114) dL_law_641 (by decide) ?_
      refine l_swap C (w1 := hs_W SHY dA ady y1) (w2 := lk_O qo cO f) (w3 := hs_W SHX dA adx x1) rfl ?_
      refine l_swap C (w1 := lk_O qo cO f) (w2 := hs_W SHX dA adx x1) (w3 := hs_W SHY dA ady y1) rfl ?_
      refine l_widen C (c2 := cells + 1) (s2 := slots + 6) (by omega) (by omega) ?_
      exact kend _ _ _ hLI
set_option maxHeartbeats 4000000 in
set_option maxRecDepth 100000 in
theorem a_change {p : Program} {e : Env} {s : State} {m : MethodId} {below : List Frame} {meth : Method} {c : Code} {l : Launch} {b L : Nat} {xs : Nat → Int32} {D : va_G} {dA : Nat → ClassId} {A : Nat → Prop} {Q : State → Prop} {adx ady : Nat → Nat} {qo : Nat} {cO : ClassId} {f : Nat → Int64} {i : Int} {cells slots : Nat} (hi0 : 0 ≤ i) (hi8 : i + 8 ≤ (L : Int)) (hL : L ≤ 4096) (hcl : cells + 1 ≤ 601024) (hsl : slots + 6 ≤ 7293034) (C : hs_Cl p s m b L xs meth c D dA A) (hSx : hs_St adx A s) (hSy : hs_St ady A s) {x y : hs_S} (hli : LI x y) (kend : ∀ (x1 y1 : hs_S) (f1 : Nat → Int64), LI x1 y1 → hs_Wn p l e room_1 s m #[Value.ref b] below meth c D A 7 Q 1114 [(4, vI i), (3, .ref qo), (2, .ref (ady 0)), (1, .ref (adx 0)), (0, .ref b)] [] (hs_W SHX dA adx x1 ++ (hs_W SHY dA ady y1 ++ lk_O qo cO f1)) (cells + 1) (slots + 6)) : hs_Wn p l e room_1 s m #[Value.ref b] below meth c D A 7 Q 644 [(4, vI i), (3, .ref qo), (2, .ref (ady 0)), (1, .ref (adx 0)), (0, .ref b)] [] (hs_W SHX dA adx x ++ (hs_W SHY dA ady y ++ lk_O qo cO f)) cells slots := by
  refine l_aload_n (pc := 644) C dL_law_644 3 rfl ?_
  refine l_aload_n (pc := 645) C dL_law_645 4 rfl ?_
  refine l_iload (pc := 646) C dL_law_646 0 rfl ?_
  refine l_iconst (pc := 648) C dL_law_648 ?_
  refine l_iadd (pc := 649) C dL_law_649 ?_
  refine l_sld (pc := 650) C (i + 1).toNat dL_law_650 (by omega) rfl (by omega) (by omega) ?_
  refine l_aload_n (pc := 651) C dL_law_651 4 rfl ?_
  refine l_iload (pc := 652) C dL_law_652 0 rfl ?_
  refine l_iconst (pc := 654) C dL_law_654 ?_
  refine l_iadd (pc := 655) C dL_law_655 ?_
  refine l_sld (pc := 656) C (i + 2).toNat dL_law_656 (by omega) rfl (by omega) (by omega) ?_
  refine l_callP (pc := 657) (SH := SHX) (ad := adx) (σ := x) (wr := (hs_W SHY dA ady y ++ lk_O qo cO f)) C (c_X11_change l (xs (i + 1).toNat).toInt ⟨(hs_oR (xs (i + 1).toNat)).1, (hs_oR (xs (i + 1).toNat)).2⟩ (xs (i + 2).toNat).toInt ⟨(hs_oR (xs (i + 2).toNat)).1, (hs_oR (xs (i + 2).toNat)).2⟩) [vI ((xs (i + 1).toNat).toInt), vI ((xs (i + 2).toNat).toInt)] [] rfl rfl rfl dL_law_657 wlL_82 wiX11_change weX11_change wcX11_change wnX11 noX11_change (by decide) (by decide) (Nat.le_of_ble_eq_true rfl) (by omega) (by omega) rfl rfl hSx hli.1 ?_
  rintro _ x1 ⟨zx, rfl, kzx⟩
  show hs_Wn p l e room_1 s m #[Value.ref b] below meth c D A 7 Q 660 [(4, vI i), (3, .ref qo), (2, .ref (ady 0)), (1, .ref (adx 0)), (0, .ref b)] [vI zx] (hs_W SHX dA adx x1 ++ (hs_W SHY dA ady y ++ lk_O qo cO f)) cells slots
  refine l_pop (pc := 660) C dL_law_660 rfl ?_
  refine l_aload_n (pc := 661) C dL_law_661 2 rfl ?_
  refine l_aload_n (pc := 662) C dL_law_662 4 rfl ?_
  refine l_iload (pc := 663) C dL_law_663 0 rfl ?_
  refine l_iconst (pc := 665) C dL_law_665 ?_
  refine l_iadd (pc := 666) C dL_law_666 ?_
  refine l_sld (pc := 667) C (i + 1).toNat dL_law_667 (by omega) rfl (by omega) (by omega) ?_
  refine l_aload_n (pc := 668) C dL_law_668 4 rfl ?_
  refine l_iload (pc := 669) C dL_law_669 0 rfl ?_
  refine l_iconst (pc := 671) C dL_law_671 ?_
  refine l_iadd (pc := 672) C dL_law_672 ?_
  refine l_sld (pc := 673) C (i + 2).toNat dL_law_673 (by omega) rfl (by omega) (by omega) ?_
  refine l_swap C (w1 := hs_W SHX dA adx x1) (w2 := hs_W SHY dA ady y) (w3 := lk_O qo cO f) rfl ?_
  refine l_callP (pc := 674) (SH := SHY) (ad := ady) (σ := y) (wr := (lk_O qo cO f ++ hs_W SHX dA adx x1)) C (c_X12_change l (xs (i + 1).toNat).toInt ⟨(hs_oR (xs (i + 1).toNat)).1, (hs_oR (xs (i + 1).toNat)).2⟩ (xs (i + 2).toNat).toInt ⟨(hs_oR (xs (i + 2).toNat)).1, (hs_oR (xs (i + 2).toNat)).2⟩) [vI ((xs (i + 1).toNat).toInt), vI ((xs (i + 2).toNat).toInt)] [] rfl rfl rfl dL_law_674 wlL_85 wiX12_change weX12_change wcX12_change wnX12 noX12_change (by decide) (by decide) (Nat.le_of_ble_eq_true rfl) (by omega) (by omega) rfl rfl hSy hli.2.1 ?_
  rintro _ y1 ⟨zy, rfl, kzy⟩
  show hs_Wn p l e room_1 s m #[Value.ref b] below meth c D A 7 Q 677 [(4, vI i), (3, .ref qo), (2, .ref (ady 0)), (1, .ref (adx 0)), (0, .ref b)] [vI zy] (hs_W SHY dA ady y1 ++ (lk_O qo cO f ++ hs_W SHX dA adx x1)) cells slots
  have hr := hli.2.2
  unfold RXY at hr
  have hLI : LI x1 y1 := li_keep hli kzx.1 kzy.1
  refine l_pop (pc := 677) C dL_law_677 rfl ?_
  refine l_goto (pc := 678) C (tgt := 1114) dL_law_678 (by decide) ?_
  refine l_swap C (w1 := hs_W SHY dA ady y1) (w2 := lk_O qo cO f) (w3 := hs_W SHX dA adx x1) rfl ?_
  refine l_swap C (w1 := lk_O qo cO f) (w2 := hs_W SHX dA adx x1) (w3 := hs_W SHY dA ady y1) rfl ?_
  refine l_widen C (c2 := cells + 1) (s2 := slots + 6) (by omega) (by omega) ?_
  exact kend _ _ _ hLI
set_option maxHeartbeats 4000000 in
set_option maxRecDepth 100000 in
theorem a_feel {p : Program} {e : Env} {s : State} {m : MethodId} {below : List Frame} {meth : Method} {c : Code} {l : Launch} {b L : Nat} {xs : Nat → Int32} {D : va_G} {dA : Nat → ClassId} {A : Nat → Prop} {Q : State → Prop} {adx ady : Nat → Nat} {qo : Nat} {cO : ClassId} {f : Nat → Int64} {i : Int} {cells slots : Nat} (hi0 : 0 ≤ i) (hi8 : i + 8 ≤ (L : Int)) (hL : L ≤ 4096) (hcl : cells + 1 ≤ 601024) (hsl : slots + 6 ≤ 7293034) (C : hs_Cl p s m b L xs meth c D dA A) (hSx : hs_St adx A s) (hSy : hs_St ady A s) {x y : hs_S} (hli : LI x y) (kend : ∀ (x1 y1 : hs_S) (f1 : Nat → Int64), LI x1 y1 → hs_Wn p l e room_1 s m #[Value.ref b] below meth c D A 7 Q 1114 [(4, vI i), (3, .ref qo), (2, .ref (ady 0)), (1, .ref (adx 0)), (0, .ref b)] [] (hs_W SHX dA adx x1 ++ (hs_W SHY dA ady y1 ++ lk_O qo cO f1)) (cells + 1) (slots + 6)) : hs_Wn p l e room_1 s m #[Value.ref b] below meth c D A 7 Q 681 [(4, vI i), (3, .ref qo), (2, .ref (ady 0)), (1, .ref (adx 0)), (0, .ref b)] [] (hs_W SHX dA adx x ++ (hs_W SHY dA ady y ++ lk_O qo cO f)) cells slots := by
  refine l_aload_n (pc := 681) C dL_law_681 3 rfl ?_
  refine l_aload_n (pc := 682) C dL_law_682 4 rfl ?_
  refine l_iload (pc := 683) C dL_law_683 0 rfl ?_
  refine l_iconst (pc := 685) C dL_law_685 ?_
  refine l_iadd (pc := 686) C dL_law_686 ?_
  refine l_sld (pc := 687) C (i + 1).toNat dL_law_687 (by omega) rfl (by omega) (by omega) ?_
  refine l_aload_n (pc := 688) C dL_law_688 4 rfl ?_
  refine l_iload (pc := 689) C dL_law_689 0 rfl ?_
  refine l_iconst (pc := 691) C dL_law_691 ?_
  refine l_iadd (pc := 692) C dL_law_692 ?_
  refine l_sld (pc := 693) C (i + 2).toNat dL_law_693 (by omega) rfl (by omega) (by omega) ?_
  refine l_callP (pc := 694) (SH := SHX) (ad := adx) (σ := x) (wr := (hs_W SHY dA ady y ++ lk_O qo cO f)) C (c_X11_feel l (xs (i + 1).toNat).toInt ⟨(hs_oR (xs (i + 1).toNat)).1, (hs_oR (xs (i + 1).toNat)).2⟩ (xs (i + 2).toNat).toInt ⟨(hs_oR (xs (i + 2).toNat)).1, (hs_oR (xs (i + 2).toNat)).2⟩) [vI ((xs (i + 1).toNat).toInt), vI ((xs (i + 2).toNat).toInt)] [] rfl rfl rfl dL_law_694 wlL_86 wiX11_feel weX11_feel wcX11_feel wnX11 noX11_feel (by decide) (by decide) (Nat.le_of_ble_eq_true rfl) (by omega) (by omega) rfl rfl hSx hli.1 ?_
  rintro _ x1 ⟨zx, rfl, kzx⟩
  show hs_Wn p l e room_1 s m #[Value.ref b] below meth c D A 7 Q 697 [(4, vI i), (3, .ref qo), (2, .ref (ady 0)), (1, .ref (adx 0)), (0, .ref b)] [vI zx] (hs_W SHX dA adx x1 ++ (hs_W SHY dA ady y ++ lk_O qo cO f)) cells slots
  refine l_pop (pc := 697) C dL_law_697 rfl ?_
  refine l_aload_n (pc := 698) C dL_law_698 2 rfl ?_
  refine l_aload_n (pc := 699) C dL_law_699 4 rfl ?_
  refine l_iload (pc := 700) C dL_law_700 0 rfl ?_
  refine l_iconst (pc := 702) C dL_law_702 ?_
  refine l_iadd (pc := 703) C dL_law_703 ?_
  refine l_sld (pc := 704) C (i + 1).toNat dL_law_704 (by omega) rfl (by omega) (by omega) ?_
  refine l_aload_n (pc := 705) C dL_law_705 4 rfl ?_
  refine l_iload (pc := 706) C dL_law_706 0 rfl ?_
  refine l_iconst (pc := 708) C dL_law_708 ?_
  refine l_iadd (pc := 709) C dL_law_709 ?_
  refine l_sld (pc := 710) C (i + 2).toNat dL_law_710 (by omega) rfl (by omega) (by omega) ?_
  refine l_swap C (w1 := hs_W SHX dA adx x1) (w2 := hs_W SHY dA ady y) (w3 := lk_O qo cO f) rfl ?_
  refine l_callP (pc := 711) (SH := SHY) (ad := ady) (σ := y) (wr := (lk_O qo cO f ++ hs_W SHX dA adx x1)) C (c_X12_feel l (xs (i + 1).toNat).toInt ⟨(hs_oR (xs (i + 1).toNat)).1, (hs_oR (xs (i + 1).toNat)).2⟩ (xs (i + 2).toNat).toInt ⟨(hs_oR (xs (i + 2).toNat)).1, (hs_oR (xs (i + 2).toNat)).2⟩) [vI ((xs (i + 1).toNat).toInt), vI ((xs (i + 2).toNat).toInt)] [] rfl rfl rfl dL_law_711 wlL_89 wiX12_feel weX12_feel wcX12_feel wnX12 noX12_feel (by decide) (by decide) (Nat.le_of_ble_eq_true rfl) (by omega) (by omega) rfl rfl hSy hli.2.1 ?_
  rintro _ y1 ⟨zy, rfl, kzy⟩
  show hs_Wn p l e room_1 s m #[Value.ref b] below meth c D A 7 Q 714 [(4, vI i), (3, .ref qo), (2, .ref (ady 0)), (1, .ref (adx 0)), (0, .ref b)] [vI zy] (hs_W SHY dA ady y1 ++ (lk_O qo cO f ++ hs_W SHX dA adx x1)) cells slots
  have hr := hli.2.2
  unfold RXY at hr
  have hLI : LI x1 y1 := li_keep hli (show GX x x1 from by have e := kzx.1; rw [← e]; exact hli.1) kzy.1
  refine l_pop (pc := 714) C dL_law_714 rfl ?_
  refine l_goto (pc := 715) C (tgt := 1114) dL_law_715 (by decide) ?_
  refine l_swap C (w1 := hs_W SHY dA ady y1) (w2 := lk_O qo cO f) (w3 := hs_W SHX dA adx x1) rfl ?_
  refine l_swap C (w1 := lk_O qo cO f) (w2 := hs_W SHX dA adx x1) (w3 := hs_W SHY dA ady y1) rfl ?_
  refine l_widen C (c2 := cells + 1) (s2 := slots + 6) (by omega) (by omega) ?_
  exact kend _ _ _ hLI
set_option maxHeartbeats 4000000 in
set_option maxRecDepth 100000 in
theorem a_doubt {p : Program} {e : Env} {s : State} {m : MethodId} {below : List Frame} {meth : Method} {c : Code} {l : Launch} {b L : Nat} {xs : Nat → Int32} {D : va_G} {dA : Nat → ClassId} {A : Nat → Prop} {Q : State → Prop} {adx ady : Nat → Nat} {qo : Nat} {cO : ClassId} {f : Nat → Int64} {i : Int} {cells slots : Nat} (hi0 : 0 ≤ i) (hi8 : i + 8 ≤ (L : Int)) (hL : L ≤ 4096) (hcl : cells + 1 ≤ 601024) (hsl : slots + 6 ≤ 7293034) (C : hs_Cl p s m b L xs meth c D dA A) (hSx : hs_St adx A s) (hSy : hs_St ady A s) {x y : hs_S} (hli : LI x y) (kend : ∀ (x1 y1 : hs_S) (f1 : Nat → Int64), LI x1 y1 → hs_Wn p l e room_1 s m #[Value.ref b] below meth c D A 7 Q 1114 [(4, vI i), (3, .ref qo), (2, .ref (ady 0)), (1, .ref (adx 0)), (0, .ref b)] [] (hs_W SHX dA adx x1 ++ (hs_W SHY dA ady y1 ++ lk_O qo cO f1)) (cells + 1) (slots + 6)) : hs_Wn p l e room_1 s m #[Value.ref b] below meth c D A 7 Q 718 [(4, vI i), (3, .ref qo), (2, .ref (ady 0)), (1, .ref (adx 0)), (0, .ref b)] [] (hs_W SHX dA adx x ++ (hs_W SHY dA ady y ++ lk_O qo cO f)) cells slots := by
  refine l_aload_n (pc := 718) C dL_law_718 3 rfl ?_
  refine l_aload_n (pc := 719) C dL_law_719 4 rfl ?_
  refine l_iload (pc := 720) C dL_law_720 0 rfl ?_
  refine l_iconst (pc := 722) C dL_law_722 ?_
  refine l_iadd (pc := 723) C dL_law_723 ?_
  refine l_sld (pc := 724) C (i + 1).toNat dL_law_724 (by omega) rfl (by omega) (by omega) ?_
  refine l_callP (pc := 725) (SH := SHX) (ad := adx) (σ := x) (wr := (hs_W SHY dA ady y ++ lk_O qo cO f)) C (c_X11_doubt l (xs (i + 1).toNat).toInt ⟨(hs_oR (xs (i + 1).toNat)).1, (hs_oR (xs (i + 1).toNat)).2⟩) [vI ((xs (i + 1).toNat).toInt)] [] rfl rfl rfl dL_law_725 wlL_90 wiX11_doubt weX11_doubt wcX11_doubt wnX11 noX11_doubt (by decide) (by decide) (Nat.le_of_ble_eq_true rfl) (by omega) (by omega) rfl rfl hSx hli.1 ?_
  rintro _ x1 ⟨zx, rfl, kzx⟩
  show hs_Wn p l e room_1 s m #[Value.ref b] below meth c D A 7 Q 728 [(4, vI i), (3, .ref qo), (2, .ref (ady 0)), (1, .ref (adx 0)), (0, .ref b)] [vI zx] (hs_W SHX dA adx x1 ++ (hs_W SHY dA ady y ++ lk_O qo cO f)) cells slots
  refine l_pop (pc := 728) C dL_law_728 rfl ?_
  refine l_aload_n (pc := 729) C dL_law_729 2 rfl ?_
  refine l_aload_n (pc := 730) C dL_law_730 4 rfl ?_
  refine l_iload (pc := 731) C dL_law_731 0 rfl ?_
  refine l_iconst (pc := 733) C dL_law_733 ?_
  refine l_iadd (pc := 734) C dL_law_734 ?_
  refine l_sld (pc := 735) C (i + 1).toNat dL_law_735 (by omega) rfl (by omega) (by omega) ?_
  refine l_swap C (w1 := hs_W SHX dA adx x1) (w2 := hs_W SHY dA ady y) (w3 := lk_O qo cO f) rfl ?_
  refine l_callP (pc := 736) (SH := SHY) (ad := ady) (σ := y) (wr := (lk_O qo cO f ++ hs_W SHX dA adx x1)) C (c_X12_doubt l (xs (i + 1).toNat).toInt ⟨(hs_oR (xs (i + 1).toNat)).1, (hs_oR (xs (i + 1).toNat)).2⟩) [vI ((xs (i + 1).toNat).toInt)] [] rfl rfl rfl dL_law_736 wlL_93 wiX12_doubt weX12_doubt wcX12_doubt wnX12 noX12_doubt (by decide) (by decide) (Nat.le_of_ble_eq_true rfl) (by omega) (by omega) rfl rfl hSy hli.2.1 ?_
  rintro _ y1 ⟨zy, rfl, kzy⟩
  show hs_Wn p l e room_1 s m #[Value.ref b] below meth c D A 7 Q 739 [(4, vI i), (3, .ref qo), (2, .ref (ady 0)), (1, .ref (adx 0)), (0, .ref b)] [vI zy] (hs_W SHY dA ady y1 ++ (lk_O qo cO f ++ hs_W SHX dA adx x1)) cells slots
  have hr := hli.2.2
  unfold RXY at hr
  have hLI : LI x1 y1 := li_keep hli kzx.1 kzy.1
  refine l_pop (pc := 739) C dL_law_739 rfl ?_
  refine l_goto (pc := 740) C (tgt := 1114) dL_law_740 (by decide) ?_
  refine l_swap C (w1 := hs_W SHY dA ady y1) (w2 := lk_O qo cO f) (w3 := hs_W SHX dA adx x1) rfl ?_
  refine l_swap C (w1 := lk_O qo cO f) (w2 := hs_W SHX dA adx x1) (w3 := hs_W SHY dA ady y1) rfl ?_
  refine l_widen C (c2 := cells + 1) (s2 := slots + 6) (by omega) (by omega) ?_
  exact kend _ _ _ hLI
set_option maxHeartbeats 4000000 in
set_option maxRecDepth 100000 in
theorem a_may {p : Program} {e : Env} {s : State} {m : MethodId} {below : List Frame} {meth : Method} {c : Code} {l : Launch} {b L : Nat} {xs : Nat → Int32} {D : va_G} {dA : Nat → ClassId} {A : Nat → Prop} {Q : State → Prop} {adx ady : Nat → Nat} {qo : Nat} {cO : ClassId} {f : Nat → Int64} {i : Int} {cells slots : Nat} (hi0 : 0 ≤ i) (hi8 : i + 8 ≤ (L : Int)) (hL : L ≤ 4096) (hcl : cells + 1 ≤ 601024) (hsl : slots + 6 ≤ 7293034) (C : hs_Cl p s m b L xs meth c D dA A) (hSx : hs_St adx A s) (hSy : hs_St ady A s) {x y : hs_S} (hli : LI x y) (kend : ∀ (x1 y1 : hs_S) (f1 : Nat → Int64), LI x1 y1 → hs_Wn p l e room_1 s m #[Value.ref b] below meth c D A 7 Q 1114 [(4, vI i), (3, .ref qo), (2, .ref (ady 0)), (1, .ref (adx 0)), (0, .ref b)] [] (hs_W SHX dA adx x1 ++ (hs_W SHY dA ady y1 ++ lk_O qo cO f1)) (cells + 1) (slots + 6)) : hs_Wn p l e room_1 s m #[Value.ref b] below meth c D A 7 Q 743 [(4, vI i), (3, .ref qo), (2, .ref (ady 0)), (1, .ref (adx 0)), (0, .ref b)] [] (hs_W SHX dA adx x ++ (hs_W SHY dA ady y ++ lk_O qo cO f)) cells slots := by
  refine l_aload_n (pc := 743) C dL_law_743 3 rfl ?_
  refine l_aload_n (pc := 744) C dL_law_744 4 rfl ?_
  refine l_iload (pc := 745) C dL_law_745 0 rfl ?_
  refine l_iconst (pc := 747) C dL_law_747 ?_
  refine l_iadd (pc := 748) C dL_law_748 ?_
  refine l_sld (pc := 749) C (i + 1).toNat dL_law_749 (by omega) rfl (by omega) (by omega) ?_
  refine l_aload_n (pc := 750) C dL_law_750 4 rfl ?_
  refine l_iload (pc := 751) C dL_law_751 0 rfl ?_
  refine l_iconst (pc := 753) C dL_law_753 ?_
  refine l_iadd (pc := 754) C dL_law_754 ?_
  refine l_sld (pc := 755) C (i + 2).toNat dL_law_755 (by omega) rfl (by omega) (by omega) ?_
  refine l_callP (pc := 756) (SH := SHX) (ad := adx) (σ := x) (wr := (hs_W SHY dA ady y ++ lk_O qo cO f)) C (c_X11_may l (xs (i + 1).toNat).toInt ⟨(hs_oR (xs (i + 1).toNat)).1, (hs_oR (xs (i + 1).toNat)).2⟩ (xs (i + 2).toNat).toInt ⟨(hs_oR (xs (i + 2).toNat)).1, (hs_oR (xs (i + 2).toNat)).2⟩) [vI ((xs (i + 1).toNat).toInt), vI ((xs (i + 2).toNat).toInt)] [] rfl rfl rfl dL_law_756 wlL_94 wiX11_may weX11_may wcX11_may wnX11 noX11_may (by decide) (by decide) (Nat.le_of_ble_eq_true rfl) (by omega) (by omega) rfl rfl hSx hli.1 ?_
  rintro _ x1 ⟨zx, rfl, kzx⟩
  show hs_Wn p l e room_1 s m #[Value.ref b] below meth c D A 7 Q 759 [(4, vI i), (3, .ref qo), (2, .ref (ady 0)), (1, .ref (adx 0)), (0, .ref b)] [vI zx] (hs_W SHX dA adx x1 ++ (hs_W SHY dA ady y ++ lk_O qo cO f)) cells slots
  refine l_pop (pc := 759) C dL_law_759 rfl ?_
  refine l_aload_n (pc := 760) C dL_law_760 2 rfl ?_
  refine l_aload_n (pc := 761) C dL_law_761 4 rfl ?_
  refine l_iload (pc := 762) C dL_law_762 0 rfl ?_
  refine l_iconst (pc := 764) C dL_law_764 ?_
  refine l_iadd (pc := 765) C dL_law_765 ?_
  refine l_sld (pc := 766) C (i + 1).toNat dL_law_766 (by omega) rfl (by omega) (by omega) ?_
  refine l_aload_n (pc := 767) C dL_law_767 4 rfl ?_
  refine l_iload (pc := 768) C dL_law_768 0 rfl ?_
  refine l_iconst (pc := 770) C dL_law_770 ?_
  refine l_iadd (pc := 771) C dL_law_771 ?_
  refine l_sld (pc := 772) C (i + 2).toNat dL_law_772 (by omega) rfl (by omega) (by omega) ?_
  refine l_swap C (w1 := hs_W SHX dA adx x1) (w2 := hs_W SHY dA ady y) (w3 := lk_O qo cO f) rfl ?_
  refine l_callP (pc := 773) (SH := SHY) (ad := ady) (σ := y) (wr := (lk_O qo cO f ++ hs_W SHX dA adx x1)) C (c_X12_may l (xs (i + 1).toNat).toInt ⟨(hs_oR (xs (i + 1).toNat)).1, (hs_oR (xs (i + 1).toNat)).2⟩ (xs (i + 2).toNat).toInt ⟨(hs_oR (xs (i + 2).toNat)).1, (hs_oR (xs (i + 2).toNat)).2⟩) [vI ((xs (i + 1).toNat).toInt), vI ((xs (i + 2).toNat).toInt)] [] rfl rfl rfl dL_law_773 wlL_97 wiX12_may weX12_may wcX12_may wnX12 noX12_may (by decide) (by decide) (Nat.le_of_ble_eq_true rfl) (by omega) (by omega) rfl rfl hSy hli.2.1 ?_
  rintro _ y1 ⟨zy, rfl, kzy⟩
  show hs_Wn p l e room_1 s m #[Value.ref b] below meth c D A 7 Q 776 [(4, vI i), (3, .ref qo), (2, .ref (ady 0)), (1, .ref (adx 0)), (0, .ref b)] [vI zy] (hs_W SHY dA ady y1 ++ (lk_O qo cO f ++ hs_W SHX dA adx x1)) cells slots
  have hr := hli.2.2
  unfold RXY at hr
  have hLI : LI x1 y1 := li_keep hli kzx.1 kzy.1
  refine l_pop (pc := 776) C dL_law_776 rfl ?_
  refine l_goto (pc := 777) C (tgt := 1114) dL_law_777 (by decide) ?_
  refine l_swap C (w1 := hs_W SHY dA ady y1) (w2 := lk_O qo cO f) (w3 := hs_W SHX dA adx x1) rfl ?_
  refine l_swap C (w1 := lk_O qo cO f) (w2 := hs_W SHX dA adx x1) (w3 := hs_W SHY dA ady y1) rfl ?_
  refine l_widen C (c2 := cells + 1) (s2 := slots + 6) (by omega) (by omega) ?_
  exact kend _ _ _ hLI
set_option maxHeartbeats 4000000 in
set_option maxRecDepth 100000 in
theorem a_cover {p : Program} {e : Env} {s : State} {m : MethodId} {below : List Frame} {meth : Method} {c : Code} {l : Launch} {b L : Nat} {xs : Nat → Int32} {D : va_G} {dA : Nat → ClassId} {A : Nat → Prop} {Q : State → Prop} {adx ady : Nat → Nat} {qo : Nat} {cO : ClassId} {f : Nat → Int64} {i : Int} {cells slots : Nat} (hi0 : 0 ≤ i) (hi8 : i + 8 ≤ (L : Int)) (hL : L ≤ 4096) (hcl : cells + 1 ≤ 601024) (hsl : slots + 6 ≤ 7293034) (C : hs_Cl p s m b L xs meth c D dA A) (hSx : hs_St adx A s) (hSy : hs_St ady A s) {x y : hs_S} (hli : LI x y) (kend : ∀ (x1 y1 : hs_S) (f1 : Nat → Int64), LI x1 y1 → hs_Wn p l e room_1 s m #[Value.ref b] below meth c D A 7 Q 1114 [(4, vI i), (3, .ref qo), (2, .ref (ady 0)), (1, .ref (adx 0)), (0, .ref b)] [] (hs_W SHX dA adx x1 ++ (hs_W SHY dA ady y1 ++ lk_O qo cO f1)) (cells + 1) (slots + 6)) : hs_Wn p l e room_1 s m #[Value.ref b] below meth c D A 7 Q 780 [(4, vI i), (3, .ref qo), (2, .ref (ady 0)), (1, .ref (adx 0)), (0, .ref b)] [] (hs_W SHX dA adx x ++ (hs_W SHY dA ady y ++ lk_O qo cO f)) cells slots := by
  refine l_aload_n (pc := 780) C dL_law_780 3 rfl ?_
  refine l_aload_n (pc := 781) C dL_law_781 4 rfl ?_
  refine l_iload (pc := 782) C dL_law_782 0 rfl ?_
  refine l_iconst (pc := 784) C dL_law_784 ?_
  refine l_iadd (pc := 785) C dL_law_785 ?_
  refine l_sld (pc := 786) C (i + 1).toNat dL_law_786 (by omega) rfl (by omega) (by omega) ?_
  refine l_aload_n (pc := 787) C dL_law_787 4 rfl ?_
  refine l_iload (pc := 788) C dL_law_788 0 rfl ?_
  refine l_iconst (pc := 790) C dL_law_790 ?_
  refine l_iadd (pc := 791) C dL_law_791 ?_
  refine l_sld (pc := 792) C (i + 2).toNat dL_law_792 (by omega) rfl (by omega) (by omega) ?_
  refine l_callP (pc := 793) (SH := SHX) (ad := adx) (σ := x) (wr := (hs_W SHY dA ady y ++ lk_O qo cO f)) C (c_X11_cover l (xs (i + 1).toNat).toInt ⟨(hs_oR (xs (i + 1).toNat)).1, (hs_oR (xs (i + 1).toNat)).2⟩ (xs (i + 2).toNat).toInt ⟨(hs_oR (xs (i + 2).toNat)).1, (hs_oR (xs (i + 2).toNat)).2⟩) [vI ((xs (i + 1).toNat).toInt), vI ((xs (i + 2).toNat).toInt)] [] rfl rfl rfl dL_law_793 wlL_98 wiX11_cover weX11_cover wcX11_cover wnX11 noX11_cover (by decide) (by decide) (Nat.le_of_ble_eq_true rfl) (by omega) (by omega) rfl rfl hSx hli.1 ?_
  rintro _ x1 ⟨zx, rfl, kzx⟩
  show hs_Wn p l e room_1 s m #[Value.ref b] below meth c D A 7 Q 796 [(4, vI i), (3, .ref qo), (2, .ref (ady 0)), (1, .ref (adx 0)), (0, .ref b)] [vI zx] (hs_W SHX dA adx x1 ++ (hs_W SHY dA ady y ++ lk_O qo cO f)) cells slots
  refine l_pop (pc := 796) C dL_law_796 rfl ?_
  refine l_aload_n (pc := 797) C dL_law_797 2 rfl ?_
  refine l_aload_n (pc := 798) C dL_law_798 4 rfl ?_
  refine l_iload (pc := 799) C dL_law_799 0 rfl ?_
  refine l_iconst (pc := 801) C dL_law_801 ?_
  refine l_iadd (pc := 802) C dL_law_802 ?_
  refine l_sld (pc := 803) C (i + 1).toNat dL_law_803 (by omega) rfl (by omega) (by omega) ?_
  refine l_aload_n (pc := 804) C dL_law_804 4 rfl ?_
  refine l_iload (pc := 805) C dL_law_805 0 rfl ?_
  refine l_iconst (pc := 807) C dL_law_807 ?_
  refine l_iadd (pc := 808) C dL_law_808 ?_
  refine l_sld (pc := 809) C (i + 2).toNat dL_law_809 (by omega) rfl (by omega) (by omega) ?_
  refine l_swap C (w1 := hs_W SHX dA adx x1) (w2 := hs_W SHY dA ady y) (w3 := lk_O qo cO f) rfl ?_
  refine l_callP (pc := 810) (SH := SHY) (ad := ady) (σ := y) (wr := (lk_O qo cO f ++ hs_W SHX dA adx x1)) C (c_X12_cover l (xs (i + 1).toNat).toInt ⟨(hs_oR (xs (i + 1).toNat)).1, (hs_oR (xs (i + 1).toNat)).2⟩ (xs (i + 2).toNat).toInt ⟨(hs_oR (xs (i + 2).toNat)).1, (hs_oR (xs (i + 2).toNat)).2⟩) [vI ((xs (i + 1).toNat).toInt), vI ((xs (i + 2).toNat).toInt)] [] rfl rfl rfl dL_law_810 wlL_101 wiX12_cover weX12_cover wcX12_cover wnX12 noX12_cover (by decide) (by decide) (Nat.le_of_ble_eq_true rfl) (by omega) (by omega) rfl rfl hSy hli.2.1 ?_
  rintro _ y1 ⟨zy, rfl, kzy⟩
  show hs_Wn p l e room_1 s m #[Value.ref b] below meth c D A 7 Q 813 [(4, vI i), (3, .ref qo), (2, .ref (ady 0)), (1, .ref (adx 0)), (0, .ref b)] [vI zy] (hs_W SHY dA ady y1 ++ (lk_O qo cO f ++ hs_W SHX dA adx x1)) cells slots
  have hr := hli.2.2
  unfold RXY at hr
  have hLI : LI x1 y1 := li_keep hli kzx.1 kzy.1
  refine l_pop (pc := 813) C dL_law_813 rfl ?_
  refine l_goto (pc := 814) C (tgt := 1114) dL_law_814 (by decide) ?_
  refine l_swap C (w1 := hs_W SHY dA ady y1) (w2 := lk_O qo cO f) (w3 := hs_W SHX dA adx x1) rfl ?_
  refine l_swap C (w1 := lk_O qo cO f) (w2 := hs_W SHX dA adx x1) (w3 := hs_W SHY dA ady y1) rfl ?_
  refine l_widen C (c2 := cells + 1) (s2 := slots + 6) (by omega) (by omega) ?_
  exact kend _ _ _ hLI
set_option maxHeartbeats 4000000 in
set_option maxRecDepth 100000 in
theorem a_seek {p : Program} {e : Env} {s : State} {m : MethodId} {below : List Frame} {meth : Method} {c : Code} {l : Launch} {b L : Nat} {xs : Nat → Int32} {D : va_G} {dA : Nat → ClassId} {A : Nat → Prop} {Q : State → Prop} {adx ady : Nat → Nat} {qo : Nat} {cO : ClassId} {f : Nat → Int64} {i : Int} {cells slots : Nat} (hi0 : 0 ≤ i) (hi8 : i + 8 ≤ (L : Int)) (hL : L ≤ 4096) (hcl : cells + 1 ≤ 601024) (hsl : slots + 6 ≤ 7293034) (C : hs_Cl p s m b L xs meth c D dA A) (hSx : hs_St adx A s) (hSy : hs_St ady A s) {x y : hs_S} (hli : LI x y) (kend : ∀ (x1 y1 : hs_S) (f1 : Nat → Int64), LI x1 y1 → hs_Wn p l e room_1 s m #[Value.ref b] below meth c D A 7 Q 1114 [(4, vI i), (3, .ref qo), (2, .ref (ady 0)), (1, .ref (adx 0)), (0, .ref b)] [] (hs_W SHX dA adx x1 ++ (hs_W SHY dA ady y1 ++ lk_O qo cO f1)) (cells + 1) (slots + 6)) : hs_Wn p l e room_1 s m #[Value.ref b] below meth c D A 7 Q 817 [(4, vI i), (3, .ref qo), (2, .ref (ady 0)), (1, .ref (adx 0)), (0, .ref b)] [] (hs_W SHX dA adx x ++ (hs_W SHY dA ady y ++ lk_O qo cO f)) cells slots := by
  refine l_aload_n (pc := 817) C dL_law_817 3 rfl ?_
  refine l_aload_n (pc := 818) C dL_law_818 4 rfl ?_
  refine l_iload (pc := 819) C dL_law_819 0 rfl ?_
  refine l_iconst (pc := 821) C dL_law_821 ?_
  refine l_iadd (pc := 822) C dL_law_822 ?_
  refine l_sld (pc := 823) C (i + 1).toNat dL_law_823 (by omega) rfl (by omega) (by omega) ?_
  refine l_callP (pc := 824) (SH := SHX) (ad := adx) (σ := x) (wr := (hs_W SHY dA ady y ++ lk_O qo cO f)) C (c_X11_seek l (xs (i + 1).toNat).toInt ⟨(hs_oR (xs (i + 1).toNat)).1, (hs_oR (xs (i + 1).toNat)).2⟩) [vI ((xs (i + 1).toNat).toInt)] [] rfl rfl rfl dL_law_824 wlL_102 wiX11_seek weX11_seek wcX11_seek wnX11 noX11_seek (by decide) (by decide) (Nat.le_of_ble_eq_true rfl) (by omega) (by omega) rfl rfl hSx hli.1 ?_
  rintro _ x1 ⟨zx, rfl, kzx⟩
  show hs_Wn p l e room_1 s m #[Value.ref b] below meth c D A 7 Q 827 [(4, vI i), (3, .ref qo), (2, .ref (ady 0)), (1, .ref (adx 0)), (0, .ref b)] [vL zx] (hs_W SHX dA adx x1 ++ (hs_W SHY dA ady y ++ lk_O qo cO f)) cells slots
  refine l_pop2 (pc := 827) C dL_law_827 rfl ?_
  refine l_aload_n (pc := 828) C dL_law_828 2 rfl ?_
  refine l_aload_n (pc := 829) C dL_law_829 4 rfl ?_
  refine l_iload (pc := 830) C dL_law_830 0 rfl ?_
  refine l_iconst (pc := 832) C dL_law_832 ?_
  refine l_iadd (pc := 833) C dL_law_833 ?_
  refine l_sld (pc := 834) C (i + 1).toNat dL_law_834 (by omega) rfl (by omega) (by omega) ?_
  refine l_swap C (w1 := hs_W SHX dA adx x1) (w2 := hs_W SHY dA ady y) (w3 := lk_O qo cO f) rfl ?_
  refine l_callP (pc := 835) (SH := SHY) (ad := ady) (σ := y) (wr := (lk_O qo cO f ++ hs_W SHX dA adx x1)) C (c_X12_seek l (xs (i + 1).toNat).toInt ⟨(hs_oR (xs (i + 1).toNat)).1, (hs_oR (xs (i + 1).toNat)).2⟩) [vI ((xs (i + 1).toNat).toInt)] [] rfl rfl rfl dL_law_835 wlL_106 wiX12_seek weX12_seek wcX12_seek wnX12 noX12_seek (by decide) (by decide) (Nat.le_of_ble_eq_true rfl) (by omega) (by omega) rfl rfl hSy hli.2.1 ?_
  rintro _ y1 ⟨zy, rfl, kzy⟩
  show hs_Wn p l e room_1 s m #[Value.ref b] below meth c D A 7 Q 838 [(4, vI i), (3, .ref qo), (2, .ref (ady 0)), (1, .ref (adx 0)), (0, .ref b)] [vL zy] (hs_W SHY dA ady y1 ++ (lk_O qo cO f ++ hs_W SHX dA adx x1)) cells slots
  have hr := hli.2.2
  unfold RXY at hr
  have hLI : LI x1 y1 := li_keep hli kzx kzy
  refine l_pop2 (pc := 838) C dL_law_838 rfl ?_
  refine l_goto (pc := 839) C (tgt := 1114) dL_law_839 (by decide) ?_
  refine l_swap C (w1 := hs_W SHY dA ady y1) (w2 := lk_O qo cO f) (w3 := hs_W SHX dA adx x1) rfl ?_
  refine l_swap C (w1 := lk_O qo cO f) (w2 := hs_W SHX dA adx x1) (w3 := hs_W SHY dA ady y1) rfl ?_
  refine l_widen C (c2 := cells + 1) (s2 := slots + 6) (by omega) (by omega) ?_
  exact kend _ _ _ hLI
set_option maxHeartbeats 4000000 in
set_option maxRecDepth 100000 in
theorem a_best {p : Program} {e : Env} {s : State} {m : MethodId} {below : List Frame} {meth : Method} {c : Code} {l : Launch} {b L : Nat} {xs : Nat → Int32} {D : va_G} {dA : Nat → ClassId} {A : Nat → Prop} {Q : State → Prop} {adx ady : Nat → Nat} {qo : Nat} {cO : ClassId} {f : Nat → Int64} {i : Int} {cells slots : Nat} (hi0 : 0 ≤ i) (hi8 : i + 8 ≤ (L : Int)) (hL : L ≤ 4096) (hcl : cells + 1 ≤ 601024) (hsl : slots + 6 ≤ 7293034) (C : hs_Cl p s m b L xs meth c D dA A) (hSx : hs_St adx A s) (hSy : hs_St ady A s) {x y : hs_S} (hli : LI x y) (kend : ∀ (x1 y1 : hs_S) (f1 : Nat → Int64), LI x1 y1 → hs_Wn p l e room_1 s m #[Value.ref b] below meth c D A 7 Q 1114 [(4, vI i), (3, .ref qo), (2, .ref (ady 0)), (1, .ref (adx 0)), (0, .ref b)] [] (hs_W SHX dA adx x1 ++ (hs_W SHY dA ady y1 ++ lk_O qo cO f1)) (cells + 1) (slots + 6)) : hs_Wn p l e room_1 s m #[Value.ref b] below meth c D A 7 Q 842 [(4, vI i), (3, .ref qo), (2, .ref (ady 0)), (1, .ref (adx 0)), (0, .ref b)] [] (hs_W SHX dA adx x ++ (hs_W SHY dA ady y ++ lk_O qo cO f)) cells slots := by
  refine l_aload_n (pc := 842) C dL_law_842 3 rfl ?_
  refine l_aload_n (pc := 843) C dL_law_843 4 rfl ?_
  refine l_iload (pc := 844) C dL_law_844 0 rfl ?_
  refine l_iconst (pc := 846) C dL_law_846 ?_
  refine l_iadd (pc := 847) C dL_law_847 ?_
  refine l_sld (pc := 848) C (i + 1).toNat dL_law_848 (by omega) rfl (by omega) (by omega) ?_
  refine l_callP (pc := 849) (SH := SHX) (ad := adx) (σ := x) (wr := (hs_W SHY dA ady y ++ lk_O qo cO f)) C (c_X11_best l (xs (i + 1).toNat).toInt ⟨(hs_oR (xs (i + 1).toNat)).1, (hs_oR (xs (i + 1).toNat)).2⟩) [vI ((xs (i + 1).toNat).toInt)] [] rfl rfl rfl dL_law_849 wlL_107 wiX11_best weX11_best wcX11_best wnX11 noX11_best (by decide) (by decide) (Nat.le_of_ble_eq_true rfl) (by omega) (by omega) rfl rfl hSx hli.1 ?_
  rintro _ x1 ⟨zx, rfl, kzx⟩
  show hs_Wn p l e room_1 s m #[Value.ref b] below meth c D A 7 Q 852 [(4, vI i), (3, .ref qo), (2, .ref (ady 0)), (1, .ref (adx 0)), (0, .ref b)] [vL zx] (hs_W SHX dA adx x1 ++ (hs_W SHY dA ady y ++ lk_O qo cO f)) cells slots
  refine l_pop2 (pc := 852) C dL_law_852 rfl ?_
  refine l_aload_n (pc := 853) C dL_law_853 2 rfl ?_
  refine l_aload_n (pc := 854) C dL_law_854 4 rfl ?_
  refine l_iload (pc := 855) C dL_law_855 0 rfl ?_
  refine l_iconst (pc := 857) C dL_law_857 ?_
  refine l_iadd (pc := 858) C dL_law_858 ?_
  refine l_sld (pc := 859) C (i + 1).toNat dL_law_859 (by omega) rfl (by omega) (by omega) ?_
  refine l_swap C (w1 := hs_W SHX dA adx x1) (w2 := hs_W SHY dA ady y) (w3 := lk_O qo cO f) rfl ?_
  refine l_callP (pc := 860) (SH := SHY) (ad := ady) (σ := y) (wr := (lk_O qo cO f ++ hs_W SHX dA adx x1)) C (c_X12_best l (xs (i + 1).toNat).toInt ⟨(hs_oR (xs (i + 1).toNat)).1, (hs_oR (xs (i + 1).toNat)).2⟩) [vI ((xs (i + 1).toNat).toInt)] [] rfl rfl rfl dL_law_860 wlL_110 wiX12_best weX12_best wcX12_best wnX12 noX12_best (by decide) (by decide) (Nat.le_of_ble_eq_true rfl) (by omega) (by omega) rfl rfl hSy hli.2.1 ?_
  rintro _ y1 ⟨zy, rfl, kzy⟩
  show hs_Wn p l e room_1 s m #[Value.ref b] below meth c D A 7 Q 863 [(4, vI i), (3, .ref qo), (2, .ref (ady 0)), (1, .ref (adx 0)), (0, .ref b)] [vL zy] (hs_W SHY dA ady y1 ++ (lk_O qo cO f ++ hs_W SHX dA adx x1)) cells slots
  have hr := hli.2.2
  unfold RXY at hr
  have hLI : LI x1 y1 := li_keep hli kzx kzy
  refine l_pop2 (pc := 863) C dL_law_863 rfl ?_
  refine l_goto (pc := 864) C (tgt := 1114) dL_law_864 (by decide) ?_
  refine l_swap C (w1 := hs_W SHY dA ady y1) (w2 := lk_O qo cO f) (w3 := hs_W SHX dA adx x1) rfl ?_
  refine l_swap C (w1 := lk_O qo cO f) (w2 := hs_W SHX dA adx x1) (w3 := hs_W SHY dA ady y1) rfl ?_
  refine l_widen C (c2 := cells + 1) (s2 := slots + 6) (by omega) (by omega) ?_
  exact kend _ _ _ hLI
set_option maxHeartbeats 4000000 in
set_option maxRecDepth 100000 in
theorem a_days {p : Program} {e : Env} {s : State} {m : MethodId} {below : List Frame} {meth : Method} {c : Code} {l : Launch} {b L : Nat} {xs : Nat → Int32} {D : va_G} {dA : Nat → ClassId} {A : Nat → Prop} {Q : State → Prop} {adx ady : Nat → Nat} {qo : Nat} {cO : ClassId} {f : Nat → Int64} {i : Int} {cells slots : Nat} (hi0 : 0 ≤ i) (hi8 : i + 8 ≤ (L : Int)) (hL : L ≤ 4096) (hcl : cells + 1 ≤ 601024) (hsl : slots + 6 ≤ 7293034) (C : hs_Cl p s m b L xs meth c D dA A) (hSx : hs_St adx A s) (hSy : hs_St ady A s) {x y : hs_S} (hli : LI x y) (kend : ∀ (x1 y1 : hs_S) (f1 : Nat → Int64), LI x1 y1 → hs_Wn p l e room_1 s m #[Value.ref b] below meth c D A 7 Q 1114 [(4, vI i), (3, .ref qo), (2, .ref (ady 0)), (1, .ref (adx 0)), (0, .ref b)] [] (hs_W SHX dA adx x1 ++ (hs_W SHY dA ady y1 ++ lk_O qo cO f1)) (cells + 1) (slots + 6)) : hs_Wn p l e room_1 s m #[Value.ref b] below meth c D A 7 Q 867 [(4, vI i), (3, .ref qo), (2, .ref (ady 0)), (1, .ref (adx 0)), (0, .ref b)] [] (hs_W SHX dA adx x ++ (hs_W SHY dA ady y ++ lk_O qo cO f)) cells slots := by
  refine l_aload_n (pc := 867) C dL_law_867 3 rfl ?_
  refine l_aload_n (pc := 868) C dL_law_868 4 rfl ?_
  refine l_iload (pc := 869) C dL_law_869 0 rfl ?_
  refine l_iconst (pc := 871) C dL_law_871 ?_
  refine l_iadd (pc := 872) C dL_law_872 ?_
  refine l_sld (pc := 873) C (i + 1).toNat dL_law_873 (by omega) rfl (by omega) (by omega) ?_
  refine l_callP (pc := 874) (SH := SHX) (ad := adx) (σ := x) (wr := (hs_W SHY dA ady y ++ lk_O qo cO f)) C (c_X11_days l (xs (i + 1).toNat).toInt ⟨(hs_oR (xs (i + 1).toNat)).1, (hs_oR (xs (i + 1).toNat)).2⟩) [vI ((xs (i + 1).toNat).toInt)] [] rfl rfl rfl dL_law_874 wlL_111 wiX11_days weX11_days wcX11_days wnX11 noX11_days (by decide) (by decide) (Nat.le_of_ble_eq_true rfl) (by omega) (by omega) rfl rfl hSx hli.1 ?_
  rintro _ x1 ⟨zx, rfl, kzx⟩
  show hs_Wn p l e room_1 s m #[Value.ref b] below meth c D A 7 Q 877 [(4, vI i), (3, .ref qo), (2, .ref (ady 0)), (1, .ref (adx 0)), (0, .ref b)] [vI zx] (hs_W SHX dA adx x1 ++ (hs_W SHY dA ady y ++ lk_O qo cO f)) cells slots
  refine l_pop (pc := 877) C dL_law_877 rfl ?_
  refine l_aload_n (pc := 878) C dL_law_878 2 rfl ?_
  refine l_aload_n (pc := 879) C dL_law_879 4 rfl ?_
  refine l_iload (pc := 880) C dL_law_880 0 rfl ?_
  refine l_iconst (pc := 882) C dL_law_882 ?_
  refine l_iadd (pc := 883) C dL_law_883 ?_
  refine l_sld (pc := 884) C (i + 1).toNat dL_law_884 (by omega) rfl (by omega) (by omega) ?_
  refine l_swap C (w1 := hs_W SHX dA adx x1) (w2 := hs_W SHY dA ady y) (w3 := lk_O qo cO f) rfl ?_
  refine l_callP (pc := 885) (SH := SHY) (ad := ady) (σ := y) (wr := (lk_O qo cO f ++ hs_W SHX dA adx x1)) C (c_X12_days l (xs (i + 1).toNat).toInt ⟨(hs_oR (xs (i + 1).toNat)).1, (hs_oR (xs (i + 1).toNat)).2⟩) [vI ((xs (i + 1).toNat).toInt)] [] rfl rfl rfl dL_law_885 wlL_114 wiX12_days weX12_days wcX12_days wnX12 noX12_days (by decide) (by decide) (Nat.le_of_ble_eq_true rfl) (by omega) (by omega) rfl rfl hSy hli.2.1 ?_
  rintro _ y1 ⟨zy, rfl, kzy⟩
  show hs_Wn p l e room_1 s m #[Value.ref b] below meth c D A 7 Q 888 [(4, vI i), (3, .ref qo), (2, .ref (ady 0)), (1, .ref (adx 0)), (0, .ref b)] [vI zy] (hs_W SHY dA ady y1 ++ (lk_O qo cO f ++ hs_W SHX dA adx x1)) cells slots
  have hzz : (zx = -1 ∧ zy = -1) ∨ (zx = x 0 10 + (xs (i + 1).toNat).toInt ∧ zy = x 0 10 + (xs (i + 1).toNat).toInt) := by
    obtain ⟨r1, r2, r3, r4, r5⟩ := hli.2.2
    rw [← r2] at kzy
    rcases Classical.em (0 ≤ (xs (i + 1).toNat).toInt ∧ (xs (i + 1).toNat).toInt ≤ 999 ∧ x 0 10 + (xs (i + 1).toNat).toInt ≤ 999) with q | q
    · exact Or.inr ⟨(kzx.2 q).1, (kzy.2 q).1⟩
    · exact Or.inl ⟨(kzx.1 q).1, (kzy.1 q).1⟩
  have hzr : hs_R zx ∧ hs_R zy := by
    obtain ⟨r1, r2, r3, r4, r5⟩ := hli.2.2
    rw [← r2] at kzy
    have b10 : (0 : Int) ≤ x 0 10 ∧ x 0 10 ≤ 999 := hli.1.1 0 10
    rcases Classical.em (0 ≤ (xs (i + 1).toNat).toInt ∧ (xs (i + 1).toNat).toInt ≤ 999 ∧ x 0 10 + (xs (i + 1).toNat).toInt ≤ 999) with q | q
    · rw [(kzx.2 q).1, (kzy.2 q).1]; exact ⟨⟨by omega, by omega⟩, ⟨by omega, by omega⟩⟩
    · rw [(kzx.1 q).1, (kzy.1 q).1]; exact ⟨⟨by decide, by decide⟩, ⟨by decide, by decide⟩⟩
  have hr := hli.2.2
  unfold RXY at hr
  have hLI : LI x1 y1 := by
    obtain ⟨r1, r2, r3, r4, r5⟩ := hr
    rw [← r2] at kzy
    rcases Classical.em (0 ≤ (xs (i + 1).toNat).toInt ∧ (xs (i + 1).toNat).toInt ≤ 999 ∧ x 0 10 + (xs (i + 1).toNat).toInt ≤ 999) with q | q
    · have h1 := (kzx.2 q).2
      have h2 := (kzy.2 q).2
      have b10 : (0 : Int) ≤ x 0 10 ∧ x 0 10 ≤ 999 := hli.1.1 0 10
      refine ⟨?_, h2.1, ?_⟩
      · rw [h1]; exact ⟨ibx_set (z := x 0 10 + (xs (i + 1).toNat).toInt) hli.1.1 0 10 0 999 rfl (by omega), kx_rf, hli.1.2.2⟩
      · have h2a := h2.2
        rw [h1]
        show x 0 9 = _ ∧ x 0 10 + (xs (i + 1).toNat).toInt = _ ∧ x 3 3 = _ ∧ x 3 4 = _ ∧ x 48 8 = _
        exact ⟨by omega, by omega, by omega, by omega, by omega⟩
    · have h1 := (kzx.1 q).2
      have h2 := (kzy.1 q).2
      rw [h1]
      exact li_y hli h2
  refine l_pop (pc := 888) C dL_law_888 rfl ?_
  refine l_goto (pc := 889) C (tgt := 1114) dL_law_889 (by decide) ?_
  refine l_swap C (w1 := hs_W SHY dA ady y1) (w2 := lk_O qo cO f) (w3 := hs_W SHX dA adx x1) rfl ?_
  refine l_swap C (w1 := lk_O qo cO f) (w2 := hs_W SHX dA adx x1) (w3 := hs_W SHY dA ady y1) rfl ?_
  refine l_widen C (c2 := cells + 1) (s2 := slots + 6) (by omega) (by omega) ?_
  exact kend _ _ _ hLI
set_option maxHeartbeats 4000000 in
set_option maxRecDepth 100000 in
theorem a_tell {p : Program} {e : Env} {s : State} {m : MethodId} {below : List Frame} {meth : Method} {c : Code} {l : Launch} {b L : Nat} {xs : Nat → Int32} {D : va_G} {dA : Nat → ClassId} {A : Nat → Prop} {Q : State → Prop} {adx ady : Nat → Nat} {qo : Nat} {cO : ClassId} {f : Nat → Int64} {i : Int} {cells slots : Nat} (hi0 : 0 ≤ i) (hi8 : i + 8 ≤ (L : Int)) (hL : L ≤ 4096) (hcl : cells + 1 ≤ 601024) (hsl : slots + 6 ≤ 7293034) (C : hs_Cl p s m b L xs meth c D dA A) (hSx : hs_St adx A s) (hSy : hs_St ady A s) {x y : hs_S} (hli : LI x y) (kend : ∀ (x1 y1 : hs_S) (f1 : Nat → Int64), LI x1 y1 → hs_Wn p l e room_1 s m #[Value.ref b] below meth c D A 7 Q 1114 [(4, vI i), (3, .ref qo), (2, .ref (ady 0)), (1, .ref (adx 0)), (0, .ref b)] [] (hs_W SHX dA adx x1 ++ (hs_W SHY dA ady y1 ++ lk_O qo cO f1)) (cells + 1) (slots + 6)) : hs_Wn p l e room_1 s m #[Value.ref b] below meth c D A 7 Q 892 [(4, vI i), (3, .ref qo), (2, .ref (ady 0)), (1, .ref (adx 0)), (0, .ref b)] [] (hs_W SHX dA adx x ++ (hs_W SHY dA ady y ++ lk_O qo cO f)) cells slots := by
  refine l_aload_n (pc := 892) C dL_law_892 3 rfl ?_
  refine l_aload_n (pc := 893) C dL_law_893 4 rfl ?_
  refine l_iload (pc := 894) C dL_law_894 0 rfl ?_
  refine l_iconst (pc := 896) C dL_law_896 ?_
  refine l_iadd (pc := 897) C dL_law_897 ?_
  refine l_sld (pc := 898) C (i + 1).toNat dL_law_898 (by omega) rfl (by omega) (by omega) ?_
  refine l_aload_n (pc := 899) C dL_law_899 4 rfl ?_
  refine l_iload (pc := 900) C dL_law_900 0 rfl ?_
  refine l_iconst (pc := 902) C dL_law_902 ?_
  refine l_iadd (pc := 903) C dL_law_903 ?_
  refine l_sld (pc := 904) C (i + 2).toNat dL_law_904 (by omega) rfl (by omega) (by omega) ?_
  refine l_aload_n (pc := 905) C dL_law_905 4 rfl ?_
  refine l_iload (pc := 906) C dL_law_906 0 rfl ?_
  refine l_iconst (pc := 908) C dL_law_908 ?_
  refine l_iadd (pc := 909) C dL_law_909 ?_
  refine l_sld (pc := 910) C (i + 3).toNat dL_law_910 (by omega) rfl (by omega) (by omega) ?_
  refine l_callP (pc := 911) (SH := SHX) (ad := adx) (σ := x) (wr := (hs_W SHY dA ady y ++ lk_O qo cO f)) C (c_X11_tell l (xs (i + 1).toNat).toInt ⟨(hs_oR (xs (i + 1).toNat)).1, (hs_oR (xs (i + 1).toNat)).2⟩ (xs (i + 2).toNat).toInt ⟨(hs_oR (xs (i + 2).toNat)).1, (hs_oR (xs (i + 2).toNat)).2⟩ (xs (i + 3).toNat).toInt ⟨(hs_oR (xs (i + 3).toNat)).1, (hs_oR (xs (i + 3).toNat)).2⟩) [vI ((xs (i + 1).toNat).toInt), vI ((xs (i + 2).toNat).toInt), vI ((xs (i + 3).toNat).toInt)] [] rfl rfl rfl dL_law_911 wlL_115 wiX11_tell weX11_tell wcX11_tell wnX11 noX11_tell (by decide) (by decide) (Nat.le_of_ble_eq_true rfl) (by omega) (by omega) rfl rfl hSx hli.1 ?_
  rintro _ x1 ⟨zx, rfl, kzx⟩
  show hs_Wn p l e room_1 s m #[Value.ref b] below meth c D A 7 Q 914 [(4, vI i), (3, .ref qo), (2, .ref (ady 0)), (1, .ref (adx 0)), (0, .ref b)] [vI zx] (hs_W SHX dA adx x1 ++ (hs_W SHY dA ady y ++ lk_O qo cO f)) cells slots
  refine l_pop (pc := 914) C dL_law_914 rfl ?_
  refine l_aload_n (pc := 915) C dL_law_915 2 rfl ?_
  refine l_aload_n (pc := 916) C dL_law_916 4 rfl ?_
  refine l_iload (pc := 917) C dL_law_917 0 rfl ?_
  refine l_iconst (pc := 919) C dL_law_919 ?_
  refine l_iadd (pc := 920) C dL_law_920 ?_
  refine l_sld (pc := 921) C (i + 1).toNat dL_law_921 (by omega) rfl (by omega) (by omega) ?_
  refine l_aload_n (pc := 922) C dL_law_922 4 rfl ?_
  refine l_iload (pc := 923) C dL_law_923 0 rfl ?_
  refine l_iconst (pc := 925) C dL_law_925 ?_
  refine l_iadd (pc := 926) C dL_law_926 ?_
  refine l_sld (pc := 927) C (i + 2).toNat dL_law_927 (by omega) rfl (by omega) (by omega) ?_
  refine l_aload_n (pc := 928) C dL_law_928 4 rfl ?_
  refine l_iload (pc := 929) C dL_law_929 0 rfl ?_
  refine l_iconst (pc := 931) C dL_law_931 ?_
  refine l_iadd (pc := 932) C dL_law_932 ?_
  refine l_sld (pc := 933) C (i + 3).toNat dL_law_933 (by omega) rfl (by omega) (by omega) ?_
  refine l_swap C (w1 := hs_W SHX dA adx x1) (w2 := hs_W SHY dA ady y) (w3 := lk_O qo cO f) rfl ?_
  refine l_callP (pc := 934) (SH := SHY) (ad := ady) (σ := y) (wr := (lk_O qo cO f ++ hs_W SHX dA adx x1)) C (c_X12_tell l (xs (i + 1).toNat).toInt ⟨(hs_oR (xs (i + 1).toNat)).1, (hs_oR (xs (i + 1).toNat)).2⟩ (xs (i + 2).toNat).toInt ⟨(hs_oR (xs (i + 2).toNat)).1, (hs_oR (xs (i + 2).toNat)).2⟩ (xs (i + 3).toNat).toInt ⟨(hs_oR (xs (i + 3).toNat)).1, (hs_oR (xs (i + 3).toNat)).2⟩) [vI ((xs (i + 1).toNat).toInt), vI ((xs (i + 2).toNat).toInt), vI ((xs (i + 3).toNat).toInt)] [] rfl rfl rfl dL_law_934 wlL_119 wiX12_tell weX12_tell wcX12_tell wnX12 noX12_tell (by decide) (by decide) (Nat.le_of_ble_eq_true rfl) (by omega) (by omega) rfl rfl hSy hli.2.1 ?_
  rintro _ y1 ⟨zy, rfl, kzy⟩
  show hs_Wn p l e room_1 s m #[Value.ref b] below meth c D A 7 Q 937 [(4, vI i), (3, .ref qo), (2, .ref (ady 0)), (1, .ref (adx 0)), (0, .ref b)] [vI zy] (hs_W SHY dA ady y1 ++ (lk_O qo cO f ++ hs_W SHX dA adx x1)) cells slots
  have hzz : (zx = -1 ∧ zy = -1) ∨ (zx = x 48 8 ∧ zy = x 48 8) := by
    obtain ⟨r1, r2, r3, r4, r5⟩ := hli.2.2
    rw [← r3, ← r4, ← r5] at kzy
    rcases Classical.em (0 ≤ (xs (i + 1).toNat).toInt ∧ (xs (i + 1).toNat).toInt ≤ 5 ∧ 0 ≤ (xs (i + 2).toNat).toInt ∧ (xs (i + 2).toNat).toInt < x 3 4 ∧ ((xs (i + 3).toNat).toInt = -1 ∨ (0 ≤ (xs (i + 3).toNat).toInt ∧ (xs (i + 3).toNat).toInt < x 3 3)) ∧ x 48 8 < 80) with q | q
    · exact Or.inr ⟨(kzx.2 q).1, (kzy.2 q).1⟩
    · exact Or.inl ⟨(kzx.1 q).1, (kzy.1 q).1⟩
  have hr := hli.2.2
  unfold RXY at hr
  have hLI : LI x1 y1 := by
    obtain ⟨r1, r2, r3, r4, r5⟩ := hr
    rw [← r3, ← r4, ← r5] at kzy
    rcases Classical.em (0 ≤ (xs (i + 1).toNat).toInt ∧ (xs (i + 1).toNat).toInt ≤ 5 ∧ 0 ≤ (xs (i + 2).toNat).toInt ∧ (xs (i + 2).toNat).toInt < x 3 4 ∧ ((xs (i + 3).toNat).toInt = -1 ∨ (0 ≤ (xs (i + 3).toNat).toInt ∧ (xs (i + 3).toNat).toInt < x 3 3)) ∧ x 48 8 < 80) with q | q
    · have h1 := (kzx.2 q).2
      have h2 := (kzy.2 q).2
      have b34 : (0 : Int) ≤ x 3 4 ∧ x 3 4 ≤ 4 := hli.1.1 3 4
      have b33 : (10 : Int) ≤ x 3 3 ∧ x 3 3 ≤ 100 := hli.1.1 3 3
      have b10 : (0 : Int) ≤ x 0 10 ∧ x 0 10 ≤ 999 := hli.1.1 0 10
      refine ⟨?_, h2.1, ?_⟩
      · rw [h1]; exact x_tell_good hli.1 (by omega) (by omega) (by omega) (by omega) (by omega) (by omega)
      · have h2a := h2.2
        rw [h1]
        show x 0 9 = _ ∧ x 0 10 = _ ∧ x 3 3 = _ ∧ x 3 4 = _ ∧ x 48 8 + 1 = _
        exact ⟨by omega, by omega, by omega, by omega, by omega⟩
    · have h1 := (kzx.1 q).2
      have h2 := (kzy.1 q).2
      rw [h1]
      exact li_y hli h2
  refine l_pop (pc := 937) C dL_law_937 rfl ?_
  refine l_goto (pc := 938) C (tgt := 1114) dL_law_938 (by decide) ?_
  refine l_swap C (w1 := hs_W SHY dA ady y1) (w2 := lk_O qo cO f) (w3 := hs_W SHX dA adx x1) rfl ?_
  refine l_swap C (w1 := lk_O qo cO f) (w2 := hs_W SHX dA adx x1) (w3 := hs_W SHY dA ady y1) rfl ?_
  refine l_widen C (c2 := cells + 1) (s2 := slots + 6) (by omega) (by omega) ?_
  exact kend _ _ _ hLI
set_option maxHeartbeats 4000000 in
set_option maxRecDepth 100000 in
theorem a_strike {p : Program} {e : Env} {s : State} {m : MethodId} {below : List Frame} {meth : Method} {c : Code} {l : Launch} {b L : Nat} {xs : Nat → Int32} {D : va_G} {dA : Nat → ClassId} {A : Nat → Prop} {Q : State → Prop} {adx ady : Nat → Nat} {qo : Nat} {cO : ClassId} {f : Nat → Int64} {i : Int} {cells slots : Nat} (hi0 : 0 ≤ i) (hi8 : i + 8 ≤ (L : Int)) (hL : L ≤ 4096) (hcl : cells + 1 ≤ 601024) (hsl : slots + 6 ≤ 7293034) (C : hs_Cl p s m b L xs meth c D dA A) (hSx : hs_St adx A s) (hSy : hs_St ady A s) {x y : hs_S} (hli : LI x y) (kend : ∀ (x1 y1 : hs_S) (f1 : Nat → Int64), LI x1 y1 → hs_Wn p l e room_1 s m #[Value.ref b] below meth c D A 7 Q 1114 [(4, vI i), (3, .ref qo), (2, .ref (ady 0)), (1, .ref (adx 0)), (0, .ref b)] [] (hs_W SHX dA adx x1 ++ (hs_W SHY dA ady y1 ++ lk_O qo cO f1)) (cells + 1) (slots + 6)) : hs_Wn p l e room_1 s m #[Value.ref b] below meth c D A 7 Q 941 [(4, vI i), (3, .ref qo), (2, .ref (ady 0)), (1, .ref (adx 0)), (0, .ref b)] [] (hs_W SHX dA adx x ++ (hs_W SHY dA ady y ++ lk_O qo cO f)) cells slots := by
  refine l_aload_n (pc := 941) C dL_law_941 3 rfl ?_
  refine l_aload_n (pc := 942) C dL_law_942 4 rfl ?_
  refine l_iload (pc := 943) C dL_law_943 0 rfl ?_
  refine l_iconst (pc := 945) C dL_law_945 ?_
  refine l_iadd (pc := 946) C dL_law_946 ?_
  refine l_sld (pc := 947) C (i + 1).toNat dL_law_947 (by omega) rfl (by omega) (by omega) ?_
  refine l_callP (pc := 948) (SH := SHX) (ad := adx) (σ := x) (wr := (hs_W SHY dA ady y ++ lk_O qo cO f)) C (c_X11_strike l (xs (i + 1).toNat).toInt ⟨(hs_oR (xs (i + 1).toNat)).1, (hs_oR (xs (i + 1).toNat)).2⟩) [vI ((xs (i + 1).toNat).toInt)] [] rfl rfl rfl dL_law_948 wlL_120 wiX11_strike weX11_strike wcX11_strike wnX11 noX11_strike (by decide) (by decide) (Nat.le_of_ble_eq_true rfl) (by omega) (by omega) rfl rfl hSx hli.1 ?_
  rintro _ x1 ⟨zx, rfl, kzx⟩
  show hs_Wn p l e room_1 s m #[Value.ref b] below meth c D A 7 Q 951 [(4, vI i), (3, .ref qo), (2, .ref (ady 0)), (1, .ref (adx 0)), (0, .ref b)] [vI zx] (hs_W SHX dA adx x1 ++ (hs_W SHY dA ady y ++ lk_O qo cO f)) cells slots
  refine l_aload_n (pc := 951) C dL_law_951 2 rfl ?_
  refine l_aload_n (pc := 952) C dL_law_952 4 rfl ?_
  refine l_iload (pc := 953) C dL_law_953 0 rfl ?_
  refine l_iconst (pc := 955) C dL_law_955 ?_
  refine l_iadd (pc := 956) C dL_law_956 ?_
  refine l_sld (pc := 957) C (i + 1).toNat dL_law_957 (by omega) rfl (by omega) (by omega) ?_
  refine l_swap C (w1 := hs_W SHX dA adx x1) (w2 := hs_W SHY dA ady y) (w3 := lk_O qo cO f) rfl ?_
  refine l_callP (pc := 958) (SH := SHY) (ad := ady) (σ := y) (wr := (lk_O qo cO f ++ hs_W SHX dA adx x1)) C (c_X12_strike l (xs (i + 1).toNat).toInt ⟨(hs_oR (xs (i + 1).toNat)).1, (hs_oR (xs (i + 1).toNat)).2⟩) [vI ((xs (i + 1).toNat).toInt)] [vI zx] rfl rfl rfl dL_law_958 wlL_123 wiX12_strike weX12_strike wcX12_strike wnX12 noX12_strike (by decide) (by decide) (Nat.le_of_ble_eq_true rfl) (by omega) (by omega) rfl rfl hSy hli.2.1 ?_
  rintro _ y1 ⟨zy, rfl, kzy⟩
  show hs_Wn p l e room_1 s m #[Value.ref b] below meth c D A 7 Q 961 [(4, vI i), (3, .ref qo), (2, .ref (ady 0)), (1, .ref (adx 0)), (0, .ref b)] [vI zy, vI zx] (hs_W SHY dA ady y1 ++ (lk_O qo cO f ++ hs_W SHX dA adx x1)) cells slots
  have hzz : (zx = -1 ∧ zy = -1) ∨ (zx = x 48 8 ∧ zy = x 48 8) := by
    obtain ⟨r1, r2, r3, r4, r5⟩ := hli.2.2
    rw [← r5] at kzy
    rcases Classical.em (0 ≤ (xs (i + 1).toNat).toInt ∧ (xs (i + 1).toNat).toInt < x 48 8 ∧ x 48 8 < 80) with q | q
    · exact Or.inr ⟨(kzx.2 q).1, (kzy.2 q).1⟩
    · exact Or.inl ⟨(kzx.1 q).1, (kzy.1 q).1⟩
  have hr := hli.2.2
  unfold RXY at hr
  have hLI : LI x1 y1 := by
    obtain ⟨r1, r2, r3, r4, r5⟩ := hr
    rw [← r5] at kzy
    rcases Classical.em (0 ≤ (xs (i + 1).toNat).toInt ∧ (xs (i + 1).toNat).toInt < x 48 8 ∧ x 48 8 < 80) with q | q
    · have h1 := (kzx.2 q).2
      have h2 := (kzy.2 q).2
      have b34 : (0 : Int) ≤ x 3 4 ∧ x 3 4 ≤ 4 := hli.1.1 3 4
      have b33 : (10 : Int) ≤ x 3 3 ∧ x 3 3 ≤ 100 := hli.1.1 3 3
      have b10 : (0 : Int) ≤ x 0 10 ∧ x 0 10 ≤ 999 := hli.1.1 0 10
      refine ⟨?_, h2.1, ?_⟩
      · rw [h1]; exact x_tell_good hli.1 (by omega) (by omega) (by omega) (by omega) (by omega) (by omega)
      · have h2a := h2.2
        rw [h1]
        show x 0 9 = _ ∧ x 0 10 = _ ∧ x 3 3 = _ ∧ x 3 4 = _ ∧ x 48 8 + 1 = _
        exact ⟨by omega, by omega, by omega, by omega, by omega⟩
    · have h1 := (kzx.1 q).2
      have h2 := (kzy.1 q).2
      rw [h1]
      exact li_y hli h2
  have hz : (zx = -1 ∧ zy = -1) ∨ (zx = x 48 8 ∧ zy = x 48 8) := hzz
  have b34 : (0 : Int) ≤ x 3 4 ∧ x 3 4 ≤ 4 := hli.1.1 3 4
  have b48 : (0 : Int) ≤ x 48 8 ∧ x 48 8 ≤ 80 := hli.1.1 48 8
  have b10 : (0 : Int) ≤ x 0 10 ∧ x 0 10 ≤ 999 := hli.1.1 0 10
  have hx : hs_R zx := ⟨by omega, by omega⟩
  have hy : hs_R zy := ⟨by omega, by omega⟩
  have heq : zx = zy := by omega
  refine l_icmp_eq (pc := 961) C (tgt := 1114) dL_law_961 (by decide) hx hy (fun _ => ?_) (fun h => absurd heq h)
  refine l_swap C (w1 := hs_W SHY dA ady y1) (w2 := lk_O qo cO f) (w3 := hs_W SHX dA adx x1) rfl ?_
  refine l_swap C (w1 := lk_O qo cO f) (w2 := hs_W SHX dA adx x1) (w3 := hs_W SHY dA ady y1) rfl ?_
  refine l_widen C (c2 := cells + 1) (s2 := slots + 6) (by omega) (by omega) ?_
  exact kend _ _ _ hLI
set_option maxHeartbeats 4000000 in
set_option maxRecDepth 100000 in
theorem a_gate {p : Program} {e : Env} {s : State} {m : MethodId} {below : List Frame} {meth : Method} {c : Code} {l : Launch} {b L : Nat} {xs : Nat → Int32} {D : va_G} {dA : Nat → ClassId} {A : Nat → Prop} {Q : State → Prop} {adx ady : Nat → Nat} {qo : Nat} {cO : ClassId} {f : Nat → Int64} {i : Int} {cells slots : Nat} (hi0 : 0 ≤ i) (hi8 : i + 8 ≤ (L : Int)) (hL : L ≤ 4096) (hcl : cells + 1 ≤ 601024) (hsl : slots + 6 ≤ 7293034) (C : hs_Cl p s m b L xs meth c D dA A) (hSx : hs_St adx A s) (hSy : hs_St ady A s) {x y : hs_S} (hli : LI x y) (kend : ∀ (x1 y1 : hs_S) (f1 : Nat → Int64), LI x1 y1 → hs_Wn p l e room_1 s m #[Value.ref b] below meth c D A 7 Q 1114 [(4, vI i), (3, .ref qo), (2, .ref (ady 0)), (1, .ref (adx 0)), (0, .ref b)] [] (hs_W SHX dA adx x1 ++ (hs_W SHY dA ady y1 ++ lk_O qo cO f1)) (cells + 1) (slots + 6)) : hs_Wn p l e room_1 s m #[Value.ref b] below meth c D A 7 Q 966 [(4, vI i), (3, .ref qo), (2, .ref (ady 0)), (1, .ref (adx 0)), (0, .ref b)] [] (hs_W SHX dA adx x ++ (hs_W SHY dA ady y ++ lk_O qo cO f)) cells slots := by
  refine l_aload_n (pc := 966) C dL_law_966 3 rfl ?_
  refine l_aload_n (pc := 967) C dL_law_967 4 rfl ?_
  refine l_iload (pc := 968) C dL_law_968 0 rfl ?_
  refine l_iconst (pc := 970) C dL_law_970 ?_
  refine l_iadd (pc := 971) C dL_law_971 ?_
  refine l_sld (pc := 972) C (i + 1).toNat dL_law_972 (by omega) rfl (by omega) (by omega) ?_
  refine l_aload_n (pc := 973) C dL_law_973 4 rfl ?_
  refine l_iload (pc := 974) C dL_law_974 0 rfl ?_
  refine l_iconst (pc := 976) C dL_law_976 ?_
  refine l_iadd (pc := 977) C dL_law_977 ?_
  refine l_sld (pc := 978) C (i + 2).toNat dL_law_978 (by omega) rfl (by omega) (by omega) ?_
  refine l_callP (pc := 979) (SH := SHX) (ad := adx) (σ := x) (wr := (hs_W SHY dA ady y ++ lk_O qo cO f)) C (c_X11_gate l (xs (i + 1).toNat).toInt ⟨(hs_oR (xs (i + 1).toNat)).1, (hs_oR (xs (i + 1).toNat)).2⟩ (xs (i + 2).toNat).toInt ⟨(hs_oR (xs (i + 2).toNat)).1, (hs_oR (xs (i + 2).toNat)).2⟩) [vI ((xs (i + 1).toNat).toInt), vI ((xs (i + 2).toNat).toInt)] [] rfl rfl rfl dL_law_979 wlL_124 wiX11_gate weX11_gate wcX11_gate wnX11 noX11_gate (by decide) (by decide) (Nat.le_of_ble_eq_true rfl) (by omega) (by omega) rfl rfl hSx hli.1 ?_
  rintro _ x1 ⟨zx, rfl, kzx⟩
  show hs_Wn p l e room_1 s m #[Value.ref b] below meth c D A 7 Q 982 [(4, vI i), (3, .ref qo), (2, .ref (ady 0)), (1, .ref (adx 0)), (0, .ref b)] [vI zx] (hs_W SHX dA adx x1 ++ (hs_W SHY dA ady y ++ lk_O qo cO f)) cells slots
  refine l_pop (pc := 982) C dL_law_982 rfl ?_
  refine l_aload_n (pc := 983) C dL_law_983 2 rfl ?_
  refine l_aload_n (pc := 984) C dL_law_984 4 rfl ?_
  refine l_iload (pc := 985) C dL_law_985 0 rfl ?_
  refine l_iconst (pc := 987) C dL_law_987 ?_
  refine l_iadd (pc := 988) C dL_law_988 ?_
  refine l_sld (pc := 989) C (i + 1).toNat dL_law_989 (by omega) rfl (by omega) (by omega) ?_
  refine l_aload_n (pc := 990) C dL_law_990 4 rfl ?_
  refine l_iload (pc := 991) C dL_law_991 0 rfl ?_
  refine l_iconst (pc := 993) C dL_law_993 ?_
  refine l_iadd (pc := 994) C dL_law_994 ?_
  refine l_sld (pc := 995) C (i + 2).toNat dL_law_995 (by omega) rfl (by omega) (by omega) ?_
  refine l_swap C (w1 := hs_W SHX dA adx x1) (w2 := hs_W SHY dA ady y) (w3 := lk_O qo cO f) rfl ?_
  refine l_callP (pc := 996) (SH := SHY) (ad := ady) (σ := y) (wr := (lk_O qo cO f ++ hs_W SHX dA adx x1)) C (c_X12_gate l (xs (i + 1).toNat).toInt ⟨(hs_oR (xs (i + 1).toNat)).1, (hs_oR (xs (i + 1).toNat)).2⟩ (xs (i + 2).toNat).toInt ⟨(hs_oR (xs (i + 2).toNat)).1, (hs_oR (xs (i + 2).toNat)).2⟩) [vI ((xs (i + 1).toNat).toInt), vI ((xs (i + 2).toNat).toInt)] [] rfl rfl rfl dL_law_996 wlL_127 wiX12_gate weX12_gate wcX12_gate wnX12 noX12_gate (by decide) (by decide) (Nat.le_of_ble_eq_true rfl) (by omega) (by omega) rfl rfl hSy hli.2.1 ?_
  rintro _ y1 ⟨zy, rfl, kzy⟩
  show hs_Wn p l e room_1 s m #[Value.ref b] below meth c D A 7 Q 999 [(4, vI i), (3, .ref qo), (2, .ref (ady 0)), (1, .ref (adx 0)), (0, .ref b)] [vI zy] (hs_W SHY dA ady y1 ++ (lk_O qo cO f ++ hs_W SHX dA adx x1)) cells slots
  have hr := hli.2.2
  unfold RXY at hr
  have hLI : LI x1 y1 := li_keep hli (show GX x x1 from by have e := kzx.1; rw [← e]; exact hli.1) kzy.1
  refine l_pop (pc := 999) C dL_law_999 rfl ?_
  refine l_goto (pc := 1000) C (tgt := 1114) dL_law_1000 (by decide) ?_
  refine l_swap C (w1 := hs_W SHY dA ady y1) (w2 := lk_O qo cO f) (w3 := hs_W SHX dA adx x1) rfl ?_
  refine l_swap C (w1 := lk_O qo cO f) (w2 := hs_W SHX dA adx x1) (w3 := hs_W SHY dA ady y1) rfl ?_
  refine l_widen C (c2 := cells + 1) (s2 := slots + 6) (by omega) (by omega) ?_
  exact kend _ _ _ hLI
set_option maxHeartbeats 4000000 in
set_option maxRecDepth 100000 in
theorem a_knows {p : Program} {e : Env} {s : State} {m : MethodId} {below : List Frame} {meth : Method} {c : Code} {l : Launch} {b L : Nat} {xs : Nat → Int32} {D : va_G} {dA : Nat → ClassId} {A : Nat → Prop} {Q : State → Prop} {adx ady : Nat → Nat} {qo : Nat} {cO : ClassId} {f : Nat → Int64} {i : Int} {cells slots : Nat} (hi0 : 0 ≤ i) (hi8 : i + 8 ≤ (L : Int)) (hL : L ≤ 4096) (hcl : cells + 1 ≤ 601024) (hsl : slots + 6 ≤ 7293034) (C : hs_Cl p s m b L xs meth c D dA A) (hSx : hs_St adx A s) (hSy : hs_St ady A s) {x y : hs_S} (hli : LI x y) (kend : ∀ (x1 y1 : hs_S) (f1 : Nat → Int64), LI x1 y1 → hs_Wn p l e room_1 s m #[Value.ref b] below meth c D A 7 Q 1114 [(4, vI i), (3, .ref qo), (2, .ref (ady 0)), (1, .ref (adx 0)), (0, .ref b)] [] (hs_W SHX dA adx x1 ++ (hs_W SHY dA ady y1 ++ lk_O qo cO f1)) (cells + 1) (slots + 6)) : hs_Wn p l e room_1 s m #[Value.ref b] below meth c D A 7 Q 1003 [(4, vI i), (3, .ref qo), (2, .ref (ady 0)), (1, .ref (adx 0)), (0, .ref b)] [] (hs_W SHX dA adx x ++ (hs_W SHY dA ady y ++ lk_O qo cO f)) cells slots := by
  refine l_aload_n (pc := 1003) C dL_law_1003 3 rfl ?_
  refine l_aload_n (pc := 1004) C dL_law_1004 4 rfl ?_
  refine l_iload (pc := 1005) C dL_law_1005 0 rfl ?_
  refine l_iconst (pc := 1007) C dL_law_1007 ?_
  refine l_iadd (pc := 1008) C dL_law_1008 ?_
  refine l_sld (pc := 1009) C (i + 1).toNat dL_law_1009 (by omega) rfl (by omega) (by omega) ?_
  refine l_aload_n (pc := 1010) C dL_law_1010 4 rfl ?_
  refine l_iload (pc := 1011) C dL_law_1011 0 rfl ?_
  refine l_iconst (pc := 1013) C dL_law_1013 ?_
  refine l_iadd (pc := 1014) C dL_law_1014 ?_
  refine l_sld (pc := 1015) C (i + 2).toNat dL_law_1015 (by omega) rfl (by omega) (by omega) ?_
  refine l_aload_n (pc := 1016) C dL_law_1016 4 rfl ?_
  refine l_iload (pc := 1017) C dL_law_1017 0 rfl ?_
  refine l_iconst (pc := 1019) C dL_law_1019 ?_
  refine l_iadd (pc := 1020) C dL_law_1020 ?_
  refine l_sld (pc := 1021) C (i + 3).toNat dL_law_1021 (by omega) rfl (by omega) (by omega) ?_
  refine l_callP (pc := 1022) (SH := SHX) (ad := adx) (σ := x) (wr := (hs_W SHY dA ady y ++ lk_O qo cO f)) C (c_X11_knows l (xs (i + 1).toNat).toInt ⟨(hs_oR (xs (i + 1).toNat)).1, (hs_oR (xs (i + 1).toNat)).2⟩ (xs (i + 2).toNat).toInt ⟨(hs_oR (xs (i + 2).toNat)).1, (hs_oR (xs (i + 2).toNat)).2⟩ (xs (i + 3).toNat).toInt ⟨(hs_oR (xs (i + 3).toNat)).1, (hs_oR (xs (i + 3).toNat)).2⟩) [vI ((xs (i + 1).toNat).toInt), vI ((xs (i + 2).toNat).toInt), vI ((xs (i + 3).toNat).toInt)] [] rfl rfl rfl dL_law_1022 wlL_128 wiX11_knows weX11_knows wcX11_knows wnX11 noX11_knows (by decide) (by decide) (Nat.le_of_ble_eq_true rfl) (by omega) (by omega) rfl rfl hSx hli.1 ?_
  rintro _ x1 ⟨zx, rfl, kzx⟩
  show hs_Wn p l e room_1 s m #[Value.ref b] below meth c D A 7 Q 1025 [(4, vI i), (3, .ref qo), (2, .ref (ady 0)), (1, .ref (adx 0)), (0, .ref b)] [vI zx] (hs_W SHX dA adx x1 ++ (hs_W SHY dA ady y ++ lk_O qo cO f)) cells slots
  refine l_pop (pc := 1025) C dL_law_1025 rfl ?_
  refine l_aload_n (pc := 1026) C dL_law_1026 2 rfl ?_
  refine l_aload_n (pc := 1027) C dL_law_1027 4 rfl ?_
  refine l_iload (pc := 1028) C dL_law_1028 0 rfl ?_
  refine l_iconst (pc := 1030) C dL_law_1030 ?_
  refine l_iadd (pc := 1031) C dL_law_1031 ?_
  refine l_sld (pc := 1032) C (i + 1).toNat dL_law_1032 (by omega) rfl (by omega) (by omega) ?_
  refine l_aload_n (pc := 1033) C dL_law_1033 4 rfl ?_
  refine l_iload (pc := 1034) C dL_law_1034 0 rfl ?_
  refine l_iconst (pc := 1036) C dL_law_1036 ?_
  refine l_iadd (pc := 1037) C dL_law_1037 ?_
  refine l_sld (pc := 1038) C (i + 2).toNat dL_law_1038 (by omega) rfl (by omega) (by omega) ?_
  refine l_aload_n (pc := 1039) C dL_law_1039 4 rfl ?_
  refine l_iload (pc := 1040) C dL_law_1040 0 rfl ?_
  refine l_iconst (pc := 1042) C dL_law_1042 ?_
  refine l_iadd (pc := 1043) C dL_law_1043 ?_
  refine l_sld (pc := 1044) C (i + 3).toNat dL_law_1044 (by omega) rfl (by omega) (by omega) ?_
  refine l_swap C (w1 := hs_W SHX dA adx x1) (w2 := hs_W SHY dA ady y) (w3 := lk_O qo cO f) rfl ?_
  refine l_callP (pc := 1045) (SH := SHY) (ad := ady) (σ := y) (wr := (lk_O qo cO f ++ hs_W SHX dA adx x1)) C (c_X12_knows l (xs (i + 1).toNat).toInt ⟨(hs_oR (xs (i + 1).toNat)).1, (hs_oR (xs (i + 1).toNat)).2⟩ (xs (i + 2).toNat).toInt ⟨(hs_oR (xs (i + 2).toNat)).1, (hs_oR (xs (i + 2).toNat)).2⟩ (xs (i + 3).toNat).toInt ⟨(hs_oR (xs (i + 3).toNat)).1, (hs_oR (xs (i + 3).toNat)).2⟩) [vI ((xs (i + 1).toNat).toInt), vI ((xs (i + 2).toNat).toInt), vI ((xs (i + 3).toNat).toInt)] [] rfl rfl rfl dL_law_1045 wlL_131 wiX12_knows weX12_knows wcX12_knows wnX12 noX12_knows (by decide) (by decide) (Nat.le_of_ble_eq_true rfl) (by omega) (by omega) rfl rfl hSy hli.2.1 ?_
  rintro _ y1 ⟨zy, rfl, kzy⟩
  show hs_Wn p l e room_1 s m #[Value.ref b] below meth c D A 7 Q 1048 [(4, vI i), (3, .ref qo), (2, .ref (ady 0)), (1, .ref (adx 0)), (0, .ref b)] [vI zy] (hs_W SHY dA ady y1 ++ (lk_O qo cO f ++ hs_W SHX dA adx x1)) cells slots
  have hr := hli.2.2
  unfold RXY at hr
  have hLI : LI x1 y1 := li_keep hli kzx.1 kzy.1
  refine l_pop (pc := 1048) C dL_law_1048 rfl ?_
  refine l_goto (pc := 1049) C (tgt := 1114) dL_law_1049 (by decide) ?_
  refine l_swap C (w1 := hs_W SHY dA ady y1) (w2 := lk_O qo cO f) (w3 := hs_W SHX dA adx x1) rfl ?_
  refine l_swap C (w1 := lk_O qo cO f) (w2 := hs_W SHX dA adx x1) (w3 := hs_W SHY dA ady y1) rfl ?_
  refine l_widen C (c2 := cells + 1) (s2 := slots + 6) (by omega) (by omega) ?_
  exact kend _ _ _ hLI
set_option maxHeartbeats 4000000 in
set_option maxRecDepth 100000 in
theorem a_can {p : Program} {e : Env} {s : State} {m : MethodId} {below : List Frame} {meth : Method} {c : Code} {l : Launch} {b L : Nat} {xs : Nat → Int32} {D : va_G} {dA : Nat → ClassId} {A : Nat → Prop} {Q : State → Prop} {adx ady : Nat → Nat} {qo : Nat} {cO : ClassId} {f : Nat → Int64} {i : Int} {cells slots : Nat} (hi0 : 0 ≤ i) (hi8 : i + 8 ≤ (L : Int)) (hL : L ≤ 4096) (hcl : cells + 1 ≤ 601024) (hsl : slots + 6 ≤ 7293034) (C : hs_Cl p s m b L xs meth c D dA A) (hSx : hs_St adx A s) (hSy : hs_St ady A s) {x y : hs_S} (hli : LI x y) (kend : ∀ (x1 y1 : hs_S) (f1 : Nat → Int64), LI x1 y1 → hs_Wn p l e room_1 s m #[Value.ref b] below meth c D A 7 Q 1114 [(4, vI i), (3, .ref qo), (2, .ref (ady 0)), (1, .ref (adx 0)), (0, .ref b)] [] (hs_W SHX dA adx x1 ++ (hs_W SHY dA ady y1 ++ lk_O qo cO f1)) (cells + 1) (slots + 6)) : hs_Wn p l e room_1 s m #[Value.ref b] below meth c D A 7 Q 1052 [(4, vI i), (3, .ref qo), (2, .ref (ady 0)), (1, .ref (adx 0)), (0, .ref b)] [] (hs_W SHX dA adx x ++ (hs_W SHY dA ady y ++ lk_O qo cO f)) cells slots := by
  refine l_aload_n (pc := 1052) C dL_law_1052 3 rfl ?_
  refine l_aload_n (pc := 1053) C dL_law_1053 4 rfl ?_
  refine l_iload (pc := 1054) C dL_law_1054 0 rfl ?_
  refine l_iconst (pc := 1056) C dL_law_1056 ?_
  refine l_iadd (pc := 1057) C dL_law_1057 ?_
  refine l_sld (pc := 1058) C (i + 1).toNat dL_law_1058 (by omega) rfl (by omega) (by omega) ?_
  refine l_aload_n (pc := 1059) C dL_law_1059 4 rfl ?_
  refine l_iload (pc := 1060) C dL_law_1060 0 rfl ?_
  refine l_iconst (pc := 1062) C dL_law_1062 ?_
  refine l_iadd (pc := 1063) C dL_law_1063 ?_
  refine l_sld (pc := 1064) C (i + 2).toNat dL_law_1064 (by omega) rfl (by omega) (by omega) ?_
  refine l_callP (pc := 1065) (SH := SHX) (ad := adx) (σ := x) (wr := (hs_W SHY dA ady y ++ lk_O qo cO f)) C (c_X11_can l (xs (i + 1).toNat).toInt ⟨(hs_oR (xs (i + 1).toNat)).1, (hs_oR (xs (i + 1).toNat)).2⟩ (xs (i + 2).toNat).toInt ⟨(hs_oR (xs (i + 2).toNat)).1, (hs_oR (xs (i + 2).toNat)).2⟩) [vI ((xs (i + 1).toNat).toInt), vI ((xs (i + 2).toNat).toInt)] [] rfl rfl rfl dL_law_1065 wlL_132 wiX11_can weX11_can wcX11_can wnX11 noX11_can (by decide) (by decide) (Nat.le_of_ble_eq_true rfl) (by omega) (by omega) rfl rfl hSx hli.1 ?_
  rintro _ x1 ⟨zx, rfl, kzx⟩
  show hs_Wn p l e room_1 s m #[Value.ref b] below meth c D A 7 Q 1068 [(4, vI i), (3, .ref qo), (2, .ref (ady 0)), (1, .ref (adx 0)), (0, .ref b)] [vI zx] (hs_W SHX dA adx x1 ++ (hs_W SHY dA ady y ++ lk_O qo cO f)) cells slots
  refine l_pop (pc := 1068) C dL_law_1068 rfl ?_
  refine l_aload_n (pc := 1069) C dL_law_1069 2 rfl ?_
  refine l_aload_n (pc := 1070) C dL_law_1070 4 rfl ?_
  refine l_iload (pc := 1071) C dL_law_1071 0 rfl ?_
  refine l_iconst (pc := 1073) C dL_law_1073 ?_
  refine l_iadd (pc := 1074) C dL_law_1074 ?_
  refine l_sld (pc := 1075) C (i + 1).toNat dL_law_1075 (by omega) rfl (by omega) (by omega) ?_
  refine l_aload_n (pc := 1076) C dL_law_1076 4 rfl ?_
  refine l_iload (pc := 1077) C dL_law_1077 0 rfl ?_
  refine l_iconst (pc := 1079) C dL_law_1079 ?_
  refine l_iadd (pc := 1080) C dL_law_1080 ?_
  refine l_sld (pc := 1081) C (i + 2).toNat dL_law_1081 (by omega) rfl (by omega) (by omega) ?_
  refine l_swap C (w1 := hs_W SHX dA adx x1) (w2 := hs_W SHY dA ady y) (w3 := lk_O qo cO f) rfl ?_
  refine l_callP (pc := 1082) (SH := SHY) (ad := ady) (σ := y) (wr := (lk_O qo cO f ++ hs_W SHX dA adx x1)) C (c_X12_can l (xs (i + 1).toNat).toInt ⟨(hs_oR (xs (i + 1).toNat)).1, (hs_oR (xs (i + 1).toNat)).2⟩ (xs (i + 2).toNat).toInt ⟨(hs_oR (xs (i + 2).toNat)).1, (hs_oR (xs (i + 2).toNat)).2⟩) [vI ((xs (i + 1).toNat).toInt), vI ((xs (i + 2).toNat).toInt)] [] rfl rfl rfl dL_law_1082 wlL_135 wiX12_can weX12_can wcX12_can wnX12 noX12_can (by decide) (by decide) (Nat.le_of_ble_eq_true rfl) (by omega) (by omega) rfl rfl hSy hli.2.1 ?_
  rintro _ y1 ⟨zy, rfl, kzy⟩
  show hs_Wn p l e room_1 s m #[Value.ref b] below meth c D A 7 Q 1085 [(4, vI i), (3, .ref qo), (2, .ref (ady 0)), (1, .ref (adx 0)), (0, .ref b)] [vI zy] (hs_W SHY dA ady y1 ++ (lk_O qo cO f ++ hs_W SHX dA adx x1)) cells slots
  have hr := hli.2.2
  unfold RXY at hr
  have hLI : LI x1 y1 := li_keep hli kzx.1 kzy.1
  refine l_pop (pc := 1085) C dL_law_1085 rfl ?_
  refine l_goto (pc := 1086) C (tgt := 1114) dL_law_1086 (by decide) ?_
  refine l_swap C (w1 := hs_W SHY dA ady y1) (w2 := lk_O qo cO f) (w3 := hs_W SHX dA adx x1) rfl ?_
  refine l_swap C (w1 := lk_O qo cO f) (w2 := hs_W SHX dA adx x1) (w3 := hs_W SHY dA ady y1) rfl ?_
  refine l_widen C (c2 := cells + 1) (s2 := slots + 6) (by omega) (by omega) ?_
  exact kend _ _ _ hLI
set_option maxHeartbeats 4000000 in
set_option maxRecDepth 100000 in
theorem a_count {p : Program} {e : Env} {s : State} {m : MethodId} {below : List Frame} {meth : Method} {c : Code} {l : Launch} {b L : Nat} {xs : Nat → Int32} {D : va_G} {dA : Nat → ClassId} {A : Nat → Prop} {Q : State → Prop} {adx ady : Nat → Nat} {qo : Nat} {cO : ClassId} {f : Nat → Int64} {i : Int} {cells slots : Nat} (hi0 : 0 ≤ i) (hi8 : i + 8 ≤ (L : Int)) (hL : L ≤ 4096) (hcl : cells + 1 ≤ 601024) (hsl : slots + 6 ≤ 7293034) (C : hs_Cl p s m b L xs meth c D dA A) (hSx : hs_St adx A s) (hSy : hs_St ady A s) {x y : hs_S} (hli : LI x y) (kend : ∀ (x1 y1 : hs_S) (f1 : Nat → Int64), LI x1 y1 → hs_Wn p l e room_1 s m #[Value.ref b] below meth c D A 7 Q 1114 [(4, vI i), (3, .ref qo), (2, .ref (ady 0)), (1, .ref (adx 0)), (0, .ref b)] [] (hs_W SHX dA adx x1 ++ (hs_W SHY dA ady y1 ++ lk_O qo cO f1)) (cells + 1) (slots + 6)) : hs_Wn p l e room_1 s m #[Value.ref b] below meth c D A 7 Q 1089 [(4, vI i), (3, .ref qo), (2, .ref (ady 0)), (1, .ref (adx 0)), (0, .ref b)] [] (hs_W SHX dA adx x ++ (hs_W SHY dA ady y ++ lk_O qo cO f)) cells slots := by
  refine l_aload_n (pc := 1089) C dL_law_1089 3 rfl ?_
  refine l_aload_n (pc := 1090) C dL_law_1090 4 rfl ?_
  refine l_iload (pc := 1091) C dL_law_1091 0 rfl ?_
  refine l_iconst (pc := 1093) C dL_law_1093 ?_
  refine l_iadd (pc := 1094) C dL_law_1094 ?_
  refine l_sld (pc := 1095) C (i + 1).toNat dL_law_1095 (by omega) rfl (by omega) (by omega) ?_
  refine l_callP (pc := 1096) (SH := SHX) (ad := adx) (σ := x) (wr := (hs_W SHY dA ady y ++ lk_O qo cO f)) C (c_X11_count l (xs (i + 1).toNat).toInt ⟨(hs_oR (xs (i + 1).toNat)).1, (hs_oR (xs (i + 1).toNat)).2⟩) [vI ((xs (i + 1).toNat).toInt)] [] rfl rfl rfl dL_law_1096 wlL_136 wiX11_count weX11_count wcX11_count wnX11 noX11_count (by decide) (by decide) (Nat.le_of_ble_eq_true rfl) (by omega) (by omega) rfl rfl hSx hli.1 ?_
  rintro _ x1 ⟨zx, rfl, kzx⟩
  show hs_Wn p l e room_1 s m #[Value.ref b] below meth c D A 7 Q 1099 [(4, vI i), (3, .ref qo), (2, .ref (ady 0)), (1, .ref (adx 0)), (0, .ref b)] [vI zx] (hs_W SHX dA adx x1 ++ (hs_W SHY dA ady y ++ lk_O qo cO f)) cells slots
  refine l_pop (pc := 1099) C dL_law_1099 rfl ?_
  refine l_aload_n (pc := 1100) C dL_law_1100 2 rfl ?_
  refine l_aload_n (pc := 1101) C dL_law_1101 4 rfl ?_
  refine l_iload (pc := 1102) C dL_law_1102 0 rfl ?_
  refine l_iconst (pc := 1104) C dL_law_1104 ?_
  refine l_iadd (pc := 1105) C dL_law_1105 ?_
  refine l_sld (pc := 1106) C (i + 1).toNat dL_law_1106 (by omega) rfl (by omega) (by omega) ?_
  refine l_swap C (w1 := hs_W SHX dA adx x1) (w2 := hs_W SHY dA ady y) (w3 := lk_O qo cO f) rfl ?_
  refine l_callP (pc := 1107) (SH := SHY) (ad := ady) (σ := y) (wr := (lk_O qo cO f ++ hs_W SHX dA adx x1)) C (c_X12_count l (xs (i + 1).toNat).toInt ⟨(hs_oR (xs (i + 1).toNat)).1, (hs_oR (xs (i + 1).toNat)).2⟩) [vI ((xs (i + 1).toNat).toInt)] [] rfl rfl rfl dL_law_1107 wlL_139 wiX12_count weX12_count wcX12_count wnX12 noX12_count (by decide) (by decide) (Nat.le_of_ble_eq_true rfl) (by omega) (by omega) rfl rfl hSy hli.2.1 ?_
  rintro _ y1 ⟨zy, rfl, kzy⟩
  show hs_Wn p l e room_1 s m #[Value.ref b] below meth c D A 7 Q 1110 [(4, vI i), (3, .ref qo), (2, .ref (ady 0)), (1, .ref (adx 0)), (0, .ref b)] [vI zy] (hs_W SHY dA ady y1 ++ (lk_O qo cO f ++ hs_W SHX dA adx x1)) cells slots
  have hr := hli.2.2
  unfold RXY at hr
  have hLI : LI x1 y1 := li_keep hli (show GX x x1 from by have e := kzx.1; rw [← e]; exact hli.1) kzy.1
  refine l_pop (pc := 1110) C dL_law_1110 rfl ?_
  refine l_goto (pc := 1111) C (tgt := 1114) dL_law_1111 (by decide) ?_
  refine l_swap C (w1 := hs_W SHY dA ady y1) (w2 := lk_O qo cO f) (w3 := hs_W SHX dA adx x1) rfl ?_
  refine l_swap C (w1 := lk_O qo cO f) (w2 := hs_W SHX dA adx x1) (w3 := hs_W SHY dA ady y1) rfl ?_
  refine l_widen C (c2 := cells + 1) (s2 := slots + 6) (by omega) (by omega) ?_
  exact kend _ _ _ hLI
