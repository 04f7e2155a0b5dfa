set_option maxHeartbeats 4000000 in
set_option maxRecDepth 100000 in
theorem a_feed {p : Program} {e : Env} {s : State} {m : MethodId} {below : List Frame} {meth : Method} {c : Code} {l : Launch} {b L : Nat} {xs : Nat → Int32} {D : va_G} {dA : Nat → ClassId} {A : Nat → Prop} {Q : State → Prop} {adx ady : Nat → Nat} {qo : Nat} {wo : va_W} (hL : L = 8) (C : hs_Cl p s m b L xs meth c D dA A) (kend : ∀ ws : va_W, hs_Wn p l e room_1 s m #[Value.ref b] below meth c D A 7 Q 1144 [(4, vI 0), (3, .ref qo), (2, .ref (ady 0)), (1, .ref (adx 0)), (0, .ref b)] [] ws 96 12449) : hs_Wn p l e room_1 s m #[Value.ref b] below meth c D A 7 Q 164 [(4, vI 0), (3, .ref qo), (2, .ref (ady 0)), (1, .ref (adx 0)), (0, .ref b)] [] (hs_W SHX dA adx σX ++ (hs_W SHY dA ady σY ++ wo)) 96 12449 := by
  refine l_aload_n (pc := 164) C dL_law_164 3 rfl ?_
  refine l_aload_n (pc := 165) C dL_law_165 4 rfl ?_
  refine l_iload (pc := 166) C dL_law_166 0 rfl ?_
  refine l_iconst (pc := 168) C dL_law_168 ?_
  refine l_iadd (pc := 169) C dL_law_169 ?_
  refine l_sld (pc := 170) C 1 dL_law_170 (by decide) (by decide) (by omega) (by omega) ?_
  refine l_aload_n (pc := 171) C dL_law_171 4 rfl ?_
  refine l_iload (pc := 172) C dL_law_172 0 rfl ?_
  refine l_iconst (pc := 174) C dL_law_174 ?_
  refine l_iadd (pc := 175) C dL_law_175 ?_
  refine l_sld (pc := 176) C 2 dL_law_176 (by decide) (by decide) (by omega) (by omega) ?_
  refine l_aload_n (pc := 177) C dL_law_177 4 rfl ?_
  refine l_iload (pc := 178) C dL_law_178 0 rfl ?_
  refine l_iconst (pc := 180) C dL_law_180 ?_
  refine l_iadd (pc := 181) C dL_law_181 ?_
  refine l_sld (pc := 182) C 3 dL_law_182 (by decide) (by decide) (by omega) (by omega) ?_
  refine l_aload_n (pc := 183) C dL_law_183 4 rfl ?_
  refine l_iload (pc := 184) C dL_law_184 0 rfl ?_
  refine l_iconst (pc := 186) C dL_law_186 ?_
  refine l_iadd (pc := 187) C dL_law_187 ?_
  refine l_sld (pc := 188) C 4 dL_law_188 (by decide) (by decide) (by omega) (by omega) ?_
  refine l_aload_n (pc := 189) C dL_law_189 4 rfl ?_
  refine l_iload (pc := 190) C dL_law_190 0 rfl ?_
  refine l_iconst (pc := 192) C dL_law_192 ?_
  refine l_iadd (pc := 193) C dL_law_193 ?_
  refine l_sld (pc := 194) C 5 dL_law_194 (by decide) (by decide) (by omega) (by omega) ?_
  refine l_callP (pc := 195) (SH := SHX) (ad := adx) (σ := σX) (wr := (hs_W SHY dA ady σY ++ wo)) C (c_X11_feed l (xs 1).toInt ⟨by have := hs_oR (xs 1); omega, by have := hs_oR (xs 1); omega⟩ (xs 2).toInt ⟨by have := hs_oR (xs 2); omega, by have := hs_oR (xs 2); omega⟩ (xs 3).toInt ⟨by have := hs_oR (xs 3); omega, by have := hs_oR (xs 3); omega⟩ (xs 4).toInt ⟨by have := hs_oR (xs 4); omega, by have := hs_oR (xs 4); omega⟩ (xs 5).toInt ⟨by have := hs_oR (xs 5); omega, by have := hs_oR (xs 5); omega⟩) [vI (xs 1).toInt, vI (xs 2).toInt, vI (xs 3).toInt, vI (xs 4).toInt, vI (xs 5).toInt] [] rfl rfl rfl dL_law_195 wlL_21 wiX11_feed weX11_feed wcX11_feed wnX11 noX11_feed (by decide) (by decide) (Nat.le_of_ble_eq_true rfl) (by decide) (by decide) rfl rfl gx0 ?_
  rintro _ σ1 ⟨zx, rfl, kzx⟩
  show hs_Wn p l e room_1 s m #[Value.ref b] below meth c D A 7 Q 198 [(4, vI 0), (3, .ref qo), (2, .ref (ady 0)), (1, .ref (adx 0)), (0, .ref b)] [vI zx] (hs_W SHX dA adx σ1 ++ (hs_W SHY dA ady σY ++ wo)) 96 12449
  refine l_aload_n (pc := 198) C dL_law_198 2 rfl ?_
  refine l_aload_n (pc := 199) C dL_law_199 4 rfl ?_
  refine l_iload (pc := 200) C dL_law_200 0 rfl ?_
  refine l_iconst (pc := 202) C dL_law_202 ?_
  refine l_iadd (pc := 203) C dL_law_203 ?_
  refine l_sld (pc := 204) C 1 dL_law_204 (by decide) (by decide) (by omega) (by omega) ?_
  refine l_aload_n (pc := 205) C dL_law_205 4 rfl ?_
  refine l_iload (pc := 206) C dL_law_206 0 rfl ?_
  refine l_iconst (pc := 208) C dL_law_208 ?_
  refine l_iadd (pc := 209) C dL_law_209 ?_
  refine l_sld (pc := 210) C 2 dL_law_210 (by decide) (by decide) (by omega) (by omega) ?_
  refine l_aload_n (pc := 211) C dL_law_211 4 rfl ?_
  refine l_iload (pc := 212) C dL_law_212 0 rfl ?_
  refine l_iconst (pc := 214) C dL_law_214 ?_
  refine l_iadd (pc := 215) C dL_law_215 ?_
  refine l_sld (pc := 216) C 3 dL_law_216 (by decide) (by decide) (by omega) (by omega) ?_
  refine l_aload_n (pc := 217) C dL_law_217 4 rfl ?_
  refine l_iload (pc := 218) C dL_law_218 0 rfl ?_
  refine l_iconst (pc := 220) C dL_law_220 ?_
  refine l_iadd (pc := 221) C dL_law_221 ?_
  refine l_sld (pc := 222) C 4 dL_law_222 (by decide) (by decide) (by omega) (by omega) ?_
  refine l_aload_n (pc := 223) C dL_law_223 4 rfl ?_
  refine l_iload (pc := 224) C dL_law_224 0 rfl ?_
  refine l_iconst (pc := 226) C dL_law_226 ?_
  refine l_iadd (pc := 227) C dL_law_227 ?_
  refine l_sld (pc := 228) C 5 dL_law_228 (by decide) (by decide) (by omega) (by omega) ?_
  refine l_swap C (w1 := hs_W SHX dA adx σ1) (w2 := hs_W SHY dA ady σY) (w3 := wo) rfl ?_
  refine l_callP (pc := 229) (SH := SHY) (ad := ady) (σ := σY) (wr := (wo ++ hs_W SHX dA adx σ1)) C (c_X12_feed l (xs 1).toInt ⟨by have := hs_oR (xs 1); omega, by have := hs_oR (xs 1); omega⟩ (xs 2).toInt ⟨by have := hs_oR (xs 2); omega, by have := hs_oR (xs 2); omega⟩ (xs 3).toInt ⟨by have := hs_oR (xs 3); omega, by have := hs_oR (xs 3); omega⟩ (xs 4).toInt ⟨by have := hs_oR (xs 4); omega, by have := hs_oR (xs 4); omega⟩ (xs 5).toInt ⟨by have := hs_oR (xs 5); omega, by have := hs_oR (xs 5); omega⟩) [vI (xs 1).toInt, vI (xs 2).toInt, vI (xs 3).toInt, vI (xs 4).toInt, vI (xs 5).toInt] [vI zx] rfl rfl rfl dL_law_229 wlL_25 wiX12_feed weX12_feed wcX12_feed wnX12 noX12_feed (by decide) (by decide) (Nat.le_of_ble_eq_true rfl) (by decide) (by decide) rfl rfl gy0 ?_
  rintro _ σ2 ⟨zy, rfl, kzy⟩
  show hs_Wn p l e room_1 s m #[Value.ref b] below meth c D A 7 Q 232 [(4, vI 0), (3, .ref qo), (2, .ref (ady 0)), (1, .ref (adx 0)), (0, .ref b)] [vI zy, vI zx] (hs_W SHY dA ady σ2 ++ (wo ++ hs_W SHX dA adx σ1)) 96 12449
  have hx : hs_R zx := by rw [(kzx.2 (by show (0 : Int) + 20 ≤ 500; omega)).1]; exact ⟨by decide, by decide⟩
  have hy : hs_R zy := by rw [(kzy.2 (by show (0 : Int) + 20 ≤ 500; omega)).1]; exact ⟨by decide, by decide⟩
  have heq : zx = zy := by rw [(kzx.2 (by show (0 : Int) + 20 ≤ 500; omega)).1, (kzy.2 (by show (0 : Int) + 20 ≤ 500; omega)).1]; rfl
  refine l_icmp_eq (pc := 232) C (tgt := 1144) dL_law_232 (by decide) hx hy (fun _ => kend _) (fun h => absurd heq h)
set_option maxHeartbeats 4000000 in
set_option maxRecDepth 100000 in
theorem a_turn {p : Program} {e : Env} {s : State} {m : MethodId} {below : List Frame} {meth : Method} {c : Code} {l : Launch} {b L : Nat} {xs : Nat → Int32} {D : va_G} {dA : Nat → ClassId} {A : Nat → Prop} {Q : State → Prop} {adx ady : Nat → Nat} {qo : Nat} {wo : va_W} (hL : L = 8) (C : hs_Cl p s m b L xs meth c D dA A) (kend : ∀ ws : va_W, hs_Wn p l e room_1 s m #[Value.ref b] below meth c D A 7 Q 1144 [(4, vI 0), (3, .ref qo), (2, .ref (ady 0)), (1, .ref (adx 0)), (0, .ref b)] [] ws 96 12449) : hs_Wn p l e room_1 s m #[Value.ref b] below meth c D A 7 Q 237 [(4, vI 0), (3, .ref qo), (2, .ref (ady 0)), (1, .ref (adx 0)), (0, .ref b)] [] (hs_W SHX dA adx σX ++ (hs_W SHY dA ady σY ++ wo)) 96 12449 := by
  refine l_aload_n (pc := 237) C dL_law_237 3 rfl ?_
  refine l_aload_n (pc := 238) C dL_law_238 4 rfl ?_
  refine l_iload (pc := 239) C dL_law_239 0 rfl ?_
  refine l_iconst (pc := 241) C dL_law_241 ?_
  refine l_iadd (pc := 242) C dL_law_242 ?_
  refine l_sld (pc := 243) C 1 dL_law_243 (by decide) (by decide) (by omega) (by omega) ?_
  refine l_callP (pc := 244) (SH := SHX) (ad := adx) (σ := σX) (wr := (hs_W SHY dA ady σY ++ wo)) C (c0_X11_turn l (xs 1).toInt ⟨by have := hs_oR (xs 1); omega, by have := hs_oR (xs 1); omega⟩) [vI (xs 1).toInt] [] rfl rfl rfl dL_law_244 wlL_26 wiX11_turn weX11_turn wcX11_turn wnX11 noX11_turn (by decide) (by decide) (Nat.le_of_ble_eq_true rfl) (by decide) (by decide) rfl rfl ⟨gx0, rfl⟩ ?_
  rintro _ σ1 ⟨zx, rfl, kzx⟩
  show hs_Wn p l e room_1 s m #[Value.ref b] below meth c D A 7 Q 247 [(4, vI 0), (3, .ref qo), (2, .ref (ady 0)), (1, .ref (adx 0)), (0, .ref b)] [vI zx] (hs_W SHX dA adx σ1 ++ (hs_W SHY dA ady σY ++ wo)) 96 12449
  refine l_aload_n (pc := 247) C dL_law_247 2 rfl ?_
  refine l_aload_n (pc := 248) C dL_law_248 4 rfl ?_
  refine l_iload (pc := 249) C dL_law_249 0 rfl ?_
  refine l_iconst (pc := 251) C dL_law_251 ?_
  refine l_iadd (pc := 252) C dL_law_252 ?_
  refine l_sld (pc := 253) C 1 dL_law_253 (by decide) (by decide) (by omega) (by omega) ?_
  refine l_swap C (w1 := hs_W SHX dA adx σ1) (w2 := hs_W SHY dA ady σY) (w3 := wo) rfl ?_
  refine l_callP (pc := 254) (SH := SHY) (ad := ady) (σ := σY) (wr := (wo ++ hs_W SHX dA adx σ1)) C (c0_X12_turn l (xs 1).toInt ⟨by have := hs_oR (xs 1); omega, by have := hs_oR (xs 1); omega⟩) [vI (xs 1).toInt] [vI zx] rfl rfl rfl dL_law_254 wlL_30 wiX12_turn weX12_turn wcX12_turn wnX12 noX12_turn (by decide) (by decide) (Nat.le_of_ble_eq_true rfl) (by decide) (by decide) rfl rfl ⟨gy0, rfl⟩ ?_
  rintro _ σ2 ⟨zy, rfl, kzy⟩
  show hs_Wn p l e room_1 s m #[Value.ref b] below meth c D A 7 Q 257 [(4, vI 0), (3, .ref qo), (2, .ref (ady 0)), (1, .ref (adx 0)), (0, .ref b)] [vI zy, vI zx] (hs_W SHY dA ady σ2 ++ (wo ++ hs_W SHX dA adx σ1)) 96 12449
  have hx : hs_R zx := by have x34 : σX 3 4 = 0 := rfl; have y06 : σY 0 6 = 0 := rfl; have x22 : σX 2 2 = 0 := rfl; have y17 : σY 0 17 = 0 := rfl; have x33 : σX 3 3 = 20 := rfl; have y03 : σY 0 3 = 20 := rfl; have x122 : σX 12 2 = 0 := rfl; have y20 : σY 0 20 = 0 := rfl; have x010 : σX 0 10 = 0 := rfl; have y18 : σY 0 18 = 0 := rfl; have x488 : σX 48 8 = 0 := rfl; have y61 : σY 0 61 = 0 := rfl; have x09 : σX 0 9 = 0 := rfl; have y01 : σY 0 1 = 0 := rfl; have kx := kzx.2; exact ⟨by omega, by omega⟩
  have hy : hs_R zy := by have x34 : σX 3 4 = 0 := rfl; have y06 : σY 0 6 = 0 := rfl; have x22 : σX 2 2 = 0 := rfl; have y17 : σY 0 17 = 0 := rfl; have x33 : σX 3 3 = 20 := rfl; have y03 : σY 0 3 = 20 := rfl; have x122 : σX 12 2 = 0 := rfl; have y20 : σY 0 20 = 0 := rfl; have x010 : σX 0 10 = 0 := rfl; have y18 : σY 0 18 = 0 := rfl; have x488 : σX 48 8 = 0 := rfl; have y61 : σY 0 61 = 0 := rfl; have x09 : σX 0 9 = 0 := rfl; have y01 : σY 0 1 = 0 := rfl; have ky := kzy.2; exact ⟨by omega, by omega⟩
  have heq : zx = zy := by have x34 : σX 3 4 = 0 := rfl; have y06 : σY 0 6 = 0 := rfl; have x22 : σX 2 2 = 0 := rfl; have y17 : σY 0 17 = 0 := rfl; have x33 : σX 3 3 = 20 := rfl; have y03 : σY 0 3 = 20 := rfl; have x122 : σX 12 2 = 0 := rfl; have y20 : σY 0 20 = 0 := rfl; have x010 : σX 0 10 = 0 := rfl; have y18 : σY 0 18 = 0 := rfl; have x488 : σX 48 8 = 0 := rfl; have y61 : σY 0 61 = 0 := rfl; have x09 : σX 0 9 = 0 := rfl; have y01 : σY 0 1 = 0 := rfl; have kx := kzx.2; have ky := kzy.2; omega
  refine l_icmp_eq (pc := 257) C (tgt := 1144) dL_law_257 (by decide) hx hy (fun _ => kend _) (fun h => absurd heq h)
set_option maxHeartbeats 4000000 in
set_option maxRecDepth 100000 in
theorem a_turned {p : Program} {e : Env} {s : State} {m : MethodId} {below : List Frame} {meth : Method} {c : Code} {l : Launch} {b L : Nat} {xs : Nat → Int32} {D : va_G} {dA : Nat → ClassId} {A : Nat → Prop} {Q : State → Prop} {adx ady : Nat → Nat} {qo : Nat} {wo : va_W} (hL : L = 8) (C : hs_Cl p s m b L xs meth c D dA A) (kend : ∀ ws : va_W, hs_Wn p l e room_1 s m #[Value.ref b] below meth c D A 7 Q 1144 [(4, vI 0), (3, .ref qo), (2, .ref (ady 0)), (1, .ref (adx 0)), (0, .ref b)] [] ws 96 12449) : hs_Wn p l e room_1 s m #[Value.ref b] below meth c D A 7 Q 262 [(4, vI 0), (3, .ref qo), (2, .ref (ady 0)), (1, .ref (adx 0)), (0, .ref b)] [] (hs_W SHX dA adx σX ++ (hs_W SHY dA ady σY ++ wo)) 96 12449 := by
  refine l_aload_n (pc := 262) C dL_law_262 3 rfl ?_
  refine l_aload_n (pc := 263) C dL_law_263 4 rfl ?_
  refine l_iload (pc := 264) C dL_law_264 0 rfl ?_
  refine l_iconst (pc := 266) C dL_law_266 ?_
  refine l_iadd (pc := 267) C dL_law_267 ?_
  refine l_sld (pc := 268) C 1 dL_law_268 (by decide) (by decide) (by omega) (by omega) ?_
  refine l_callP (pc := 269) (SH := SHX) (ad := adx) (σ := σX) (wr := (hs_W SHY dA ady σY ++ wo)) C (c_X11_turned l (xs 1).toInt ⟨by have := hs_oR (xs 1); omega, by have := hs_oR (xs 1); omega⟩) [vI (xs 1).toInt] [] rfl rfl rfl dL_law_269 wlL_31 wiX11_turned weX11_turned wcX11_turned wnX11 noX11_turned (by decide) (by decide) (Nat.le_of_ble_eq_true rfl) (by decide) (by decide) rfl rfl gx0 ?_
  rintro _ σ1 ⟨zx, rfl, kzx⟩
  show hs_Wn p l e room_1 s m #[Value.ref b] below meth c D A 7 Q 272 [(4, vI 0), (3, .ref qo), (2, .ref (ady 0)), (1, .ref (adx 0)), (0, .ref b)] [vI zx] (hs_W SHX dA adx σ1 ++ (hs_W SHY dA ady σY ++ wo)) 96 12449
  refine l_aload_n (pc := 272) C dL_law_272 2 rfl ?_
  refine l_aload_n (pc := 273) C dL_law_273 4 rfl ?_
  refine l_iload (pc := 274) C dL_law_274 0 rfl ?_
  refine l_iconst (pc := 276) C dL_law_276 ?_
  refine l_iadd (pc := 277) C dL_law_277 ?_
  refine l_sld (pc := 278) C 1 dL_law_278 (by decide) (by decide) (by omega) (by omega) ?_
  refine l_swap C (w1 := hs_W SHX dA adx σ1) (w2 := hs_W SHY dA ady σY) (w3 := wo) rfl ?_
  refine l_callP (pc := 279) (SH := SHY) (ad := ady) (σ := σY) (wr := (wo ++ hs_W SHX dA adx σ1)) C (c_X12_turned l (xs 1).toInt ⟨by have := hs_oR (xs 1); omega, by have := hs_oR (xs 1); omega⟩) [vI (xs 1).toInt] [vI zx] rfl rfl rfl dL_law_279 wlL_34 wiX12_turned weX12_turned wcX12_turned wnX12 noX12_turned (by decide) (by decide) (Nat.le_of_ble_eq_true rfl) (by decide) (by decide) rfl rfl gy0 ?_
  rintro _ σ2 ⟨zy, rfl, kzy⟩
  show hs_Wn p l e room_1 s m #[Value.ref b] below meth c D A 7 Q 282 [(4, vI 0), (3, .ref qo), (2, .ref (ady 0)), (1, .ref (adx 0)), (0, .ref b)] [vI zy, vI zx] (hs_W SHY dA ady σ2 ++ (wo ++ hs_W SHX dA adx σ1)) 96 12449
  have hx : hs_R zx := kzx.2.1
  have hy : hs_R zy := kzy.2.1
  have heq : zx = zy := by
    have hxx := kzx.2.2
    have hyy := kzy.2.2
    rcases Classical.em ((xs 1).toInt < 0 ∨ 4 < (xs 1).toInt) with q | q
    · rw [hxx.2.2.2.2.2 q, hyy.2.2.2.2.2 q]
    · rcases (show (xs 1).toInt = 0 ∨ (xs 1).toInt = 1 ∨ (xs 1).toInt = 2 ∨ (xs 1).toInt = 3 ∨ (xs 1).toInt = 4 by omega) with w | w | w | w | w
      · rw [hxx.1 w, hyy.1 w]; rfl
      · rw [hxx.2.1 w, hyy.2.1 w]; rfl
      · rw [hxx.2.2.1 w, hyy.2.2.1 w]; rfl
      · rw [hxx.2.2.2.1 w, hyy.2.2.2.1 w]; rfl
      · rw [hxx.2.2.2.2.1 w, hyy.2.2.2.2.1 w]; rfl
  refine l_icmp_eq (pc := 282) C (tgt := 1144) dL_law_282 (by decide) hx hy (fun _ => kend _) (fun h => absurd heq h)
set_option maxHeartbeats 4000000 in
set_option maxRecDepth 100000 in
theorem a_dial {p : Program} {e : Env} {s : State} {m : MethodId} {below : List Frame} {meth : Method} {c : Code} {l : Launch} {b L : Nat} {xs : Nat → Int32} {D : va_G} {dA : Nat → ClassId} {A : Nat → Prop} {Q : State → Prop} {adx ady : Nat → Nat} {qo : Nat} {wo : va_W} (hL : L = 8) (C : hs_Cl p s m b L xs meth c D dA A) (kend : ∀ ws : va_W, hs_Wn p l e room_1 s m #[Value.ref b] below meth c D A 7 Q 1144 [(4, vI 0), (3, .ref qo), (2, .ref (ady 0)), (1, .ref (adx 0)), (0, .ref b)] [] ws 96 12449) : hs_Wn p l e room_1 s m #[Value.ref b] below meth c D A 7 Q 287 [(4, vI 0), (3, .ref qo), (2, .ref (ady 0)), (1, .ref (adx 0)), (0, .ref b)] [] (hs_W SHX dA adx σX ++ (hs_W SHY dA ady σY ++ wo)) 96 12449 := by
  refine l_aload_n (pc := 287) C dL_law_287 3 rfl ?_
  refine l_aload_n (pc := 288) C dL_law_288 4 rfl ?_
  refine l_iload (pc := 289) C dL_law_289 0 rfl ?_
  refine l_iconst (pc := 291) C dL_law_291 ?_
  refine l_iadd (pc := 292) C dL_law_292 ?_
  refine l_sld (pc := 293) C 1 dL_law_293 (by decide) (by decide) (by omega) (by omega) ?_
  refine l_callP (pc := 294) (SH := SHX) (ad := adx) (σ := σX) (wr := (hs_W SHY dA ady σY ++ wo)) C (c_X11_dial l (xs 1).toInt ⟨by have := hs_oR (xs 1); omega, by have := hs_oR (xs 1); omega⟩) [vI (xs 1).toInt] [] rfl rfl rfl dL_law_294 wlL_35 wiX11_dial weX11_dial wcX11_dial wnX11 noX11_dial (by decide) (by decide) (Nat.le_of_ble_eq_true rfl) (by decide) (by decide) rfl rfl gx0 ?_
  rintro _ σ1 ⟨zx, rfl, kzx⟩
  show hs_Wn p l e room_1 s m #[Value.ref b] below meth c D A 7 Q 297 [(4, vI 0), (3, .ref qo), (2, .ref (ady 0)), (1, .ref (adx 0)), (0, .ref b)] [vI zx] (hs_W SHX dA adx σ1 ++ (hs_W SHY dA ady σY ++ wo)) 96 12449
  refine l_aload_n (pc := 297) C dL_law_297 2 rfl ?_
  refine l_aload_n (pc := 298) C dL_law_298 4 rfl ?_
  refine l_iload (pc := 299) C dL_law_299 0 rfl ?_
  refine l_iconst (pc := 301) C dL_law_301 ?_
  refine l_iadd (pc := 302) C dL_law_302 ?_
  refine l_sld (pc := 303) C 1 dL_law_303 (by decide) (by decide) (by omega) (by omega) ?_
  refine l_swap C (w1 := hs_W SHX dA adx σ1) (w2 := hs_W SHY dA ady σY) (w3 := wo) rfl ?_
  refine l_callP (pc := 304) (SH := SHY) (ad := ady) (σ := σY) (wr := (wo ++ hs_W SHX dA adx σ1)) C (c_X12_dial l (xs 1).toInt ⟨by have := hs_oR (xs 1); omega, by have := hs_oR (xs 1); omega⟩) [vI (xs 1).toInt] [vI zx] rfl rfl rfl dL_law_304 wlL_39 wiX12_dial weX12_dial wcX12_dial wnX12 noX12_dial (by decide) (by decide) (Nat.le_of_ble_eq_true rfl) (by decide) (by decide) rfl rfl gy0 ?_
  rintro _ σ2 ⟨zy, rfl, kzy⟩
  show hs_Wn p l e room_1 s m #[Value.ref b] below meth c D A 7 Q 307 [(4, vI 0), (3, .ref qo), (2, .ref (ady 0)), (1, .ref (adx 0)), (0, .ref b)] [vI zy, vI zx] (hs_W SHY dA ady σ2 ++ (wo ++ hs_W SHX dA adx σ1)) 96 12449
  have hx : hs_R zx := by have x34 : σX 3 4 = 0 := rfl; have y06 : σY 0 6 = 0 := rfl; have x22 : σX 2 2 = 0 := rfl; have y17 : σY 0 17 = 0 := rfl; have x33 : σX 3 3 = 20 := rfl; have y03 : σY 0 3 = 20 := rfl; have x122 : σX 12 2 = 0 := rfl; have y20 : σY 0 20 = 0 := rfl; have x010 : σX 0 10 = 0 := rfl; have y18 : σY 0 18 = 0 := rfl; have x488 : σX 48 8 = 0 := rfl; have y61 : σY 0 61 = 0 := rfl; have x09 : σX 0 9 = 0 := rfl; have y01 : σY 0 1 = 0 := rfl; have kx := kzx; exact ⟨by omega, by omega⟩
  have hy : hs_R zy := by have x34 : σX 3 4 = 0 := rfl; have y06 : σY 0 6 = 0 := rfl; have x22 : σX 2 2 = 0 := rfl; have y17 : σY 0 17 = 0 := rfl; have x33 : σX 3 3 = 20 := rfl; have y03 : σY 0 3 = 20 := rfl; have x122 : σX 12 2 = 0 := rfl; have y20 : σY 0 20 = 0 := rfl; have x010 : σX 0 10 = 0 := rfl; have y18 : σY 0 18 = 0 := rfl; have x488 : σX 48 8 = 0 := rfl; have y61 : σY 0 61 = 0 := rfl; have x09 : σX 0 9 = 0 := rfl; have y01 : σY 0 1 = 0 := rfl; have ky := kzy; exact ⟨by omega, by omega⟩
  have heq : zx = zy := by have x34 : σX 3 4 = 0 := rfl; have y06 : σY 0 6 = 0 := rfl; have x22 : σX 2 2 = 0 := rfl; have y17 : σY 0 17 = 0 := rfl; have x33 : σX 3 3 = 20 := rfl; have y03 : σY 0 3 = 20 := rfl; have x122 : σX 12 2 = 0 := rfl; have y20 : σY 0 20 = 0 := rfl; have x010 : σX 0 10 = 0 := rfl; have y18 : σY 0 18 = 0 := rfl; have x488 : σX 48 8 = 0 := rfl; have y61 : σY 0 61 = 0 := rfl; have x09 : σX 0 9 = 0 := rfl; have y01 : σY 0 1 = 0 := rfl; have kx := kzx; have ky := kzy; omega
  refine l_icmp_eq (pc := 307) C (tgt := 1144) dL_law_307 (by decide) hx hy (fun _ => kend _) (fun h => absurd heq h)
set_option maxHeartbeats 4000000 in
set_option maxRecDepth 100000 in
theorem a_wheel {p : Program} {e : Env} {s : State} {m : MethodId} {below : List Frame} {meth : Method} {c : Code} {l : Launch} {b L : Nat} {xs : Nat → Int32} {D : va_G} {dA : Nat → ClassId} {A : Nat → Prop} {Q : State → Prop} {adx ady : Nat → Nat} {qo : Nat} {wo : va_W} (hL : L = 8) (C : hs_Cl p s m b L xs meth c D dA A) (kend : ∀ ws : va_W, hs_Wn p l e room_1 s m #[Value.ref b] below meth c D A 7 Q 1144 [(4, vI 0), (3, .ref qo), (2, .ref (ady 0)), (1, .ref (adx 0)), (0, .ref b)] [] ws 96 12449) : hs_Wn p l e room_1 s m #[Value.ref b] below meth c D A 7 Q 312 [(4, vI 0), (3, .ref qo), (2, .ref (ady 0)), (1, .ref (adx 0)), (0, .ref b)] [] (hs_W SHX dA adx σX ++ (hs_W SHY dA ady σY ++ wo)) 96 12449 := by
  refine l_aload_n (pc := 312) C dL_law_312 3 rfl ?_
  refine l_aload_n (pc := 313) C dL_law_313 4 rfl ?_
  refine l_iload (pc := 314) C dL_law_314 0 rfl ?_
  refine l_iconst (pc := 316) C dL_law_316 ?_
  refine l_iadd (pc := 317) C dL_law_317 ?_
  refine l_sld (pc := 318) C 1 dL_law_318 (by decide) (by decide) (by omega) (by omega) ?_
  refine l_aload_n (pc := 319) C dL_law_319 4 rfl ?_
  refine l_iload (pc := 320) C dL_law_320 0 rfl ?_
  refine l_iconst (pc := 322) C dL_law_322 ?_
  refine l_iadd (pc := 323) C dL_law_323 ?_
  refine l_sld (pc := 324) C 2 dL_law_324 (by decide) (by decide) (by omega) (by omega) ?_
  refine l_aload_n (pc := 325) C dL_law_325 4 rfl ?_
  refine l_iload (pc := 326) C dL_law_326 0 rfl ?_
  refine l_iconst (pc := 328) C dL_law_328 ?_
  refine l_iadd (pc := 329) C dL_law_329 ?_
  refine l_sld (pc := 330) C 3 dL_law_330 (by decide) (by decide) (by omega) (by omega) ?_
  refine l_aload_n (pc := 331) C dL_law_331 4 rfl ?_
  refine l_iload (pc := 332) C dL_law_332 0 rfl ?_
  refine l_iconst (pc := 334) C dL_law_334 ?_
  refine l_iadd (pc := 335) C dL_law_335 ?_
  refine l_sld (pc := 336) C 4 dL_law_336 (by decide) (by decide) (by omega) (by omega) ?_
  refine l_aload_n (pc := 337) C dL_law_337 4 rfl ?_
  refine l_iload (pc := 338) C dL_law_338 0 rfl ?_
  refine l_iconst (pc := 340) C dL_law_340 ?_
  refine l_iadd (pc := 341) C dL_law_341 ?_
  refine l_sld (pc := 342) C 5 dL_law_342 (by decide) (by decide) (by omega) (by omega) ?_
  refine l_aload_n (pc := 343) C dL_law_343 4 rfl ?_
  refine l_iload (pc := 344) C dL_law_344 0 rfl ?_
  refine l_bipush (pc := 346) C dL_law_346 (by decide) ?_
  refine l_iadd (pc := 348) C dL_law_348 ?_
  refine l_sld (pc := 349) C 6 dL_law_349 (by decide) (by decide) (by omega) (by omega) ?_
  refine l_aload_n (pc := 350) C dL_law_350 4 rfl ?_
  refine l_iload (pc := 351) C dL_law_351 0 rfl ?_
  refine l_bipush (pc := 353) C dL_law_353 (by decide) ?_
  refine l_iadd (pc := 355) C dL_law_355 ?_
  refine l_sld (pc := 356) C 7 dL_law_356 (by decide) (by decide) (by omega) (by omega) ?_
  refine l_callP (pc := 357) (SH := SHX) (ad := adx) (σ := σX) (wr := (hs_W SHY dA ady σY ++ wo)) C (c_X11_wheel l (xs 1).toInt ⟨by have := hs_oR (xs 1); omega, by have := hs_oR (xs 1); omega⟩ (xs 2).toInt ⟨by have := hs_oR (xs 2); omega, by have := hs_oR (xs 2); omega⟩ (xs 3).toInt ⟨by have := hs_oR (xs 3); omega, by have := hs_oR (xs 3); omega⟩ (xs 4).toInt ⟨by have := hs_oR (xs 4); omega, by have := hs_oR (xs 4); omega⟩ (xs 5).toInt ⟨by have := hs_oR (xs 5); omega, by have := hs_oR (xs 5); omega⟩ (xs 6).toInt ⟨by have := hs_oR (xs 6); omega, by have := hs_oR (xs 6); omega⟩ (xs 7).toInt ⟨by have := hs_oR (xs 7); omega, by have := hs_oR (xs 7); omega⟩) [vI (xs 1).toInt, vI (xs 2).toInt, vI (xs 3).toInt, vI (xs 4).toInt, vI (xs 5).toInt, vI (xs 6).toInt, vI (xs 7).toInt] [] rfl rfl rfl dL_law_357 wlL_40 wiX11_wheel weX11_wheel wcX11_wheel wnX11 noX11_wheel (by decide) (by decide) (Nat.le_of_ble_eq_true rfl) (by decide) (by decide) rfl rfl gx0 ?_
  rintro _ σ1 ⟨zx, rfl, kzx⟩
  show hs_Wn p l e room_1 s m #[Value.ref b] below meth c D A 7 Q 360 [(4, vI 0), (3, .ref qo), (2, .ref (ady 0)), (1, .ref (adx 0)), (0, .ref b)] [vI zx] (hs_W SHX dA adx σ1 ++ (hs_W SHY dA ady σY ++ wo)) 96 12449
  refine l_aload_n (pc := 360) C dL_law_360 2 rfl ?_
  refine l_aload_n (pc := 361) C dL_law_361 4 rfl ?_
  refine l_iload (pc := 362) C dL_law_362 0 rfl ?_
  refine l_iconst (pc := 364) C dL_law_364 ?_
  refine l_iadd (pc := 365) C dL_law_365 ?_
  refine l_sld (pc := 366) C 1 dL_law_366 (by decide) (by decide) (by omega) (by omega) ?_
  refine l_aload_n (pc := 367) C dL_law_367 4 rfl ?_
  refine l_iload (pc := 368) C dL_law_368 0 rfl ?_
  refine l_iconst (pc := 370) C dL_law_370 ?_
  refine l_iadd (pc := 371) C dL_law_371 ?_
  refine l_sld (pc := 372) C 2 dL_law_372 (by decide) (by decide) (by omega) (by omega) ?_
  refine l_aload_n (pc := 373) C dL_law_373 4 rfl ?_
  refine l_iload (pc := 374) C dL_law_374 0 rfl ?_
  refine l_iconst (pc := 376) C dL_law_376 ?_
  refine l_iadd (pc := 377) C dL_law_377 ?_
  refine l_sld (pc := 378) C 3 dL_law_378 (by decide) (by decide) (by omega) (by omega) ?_
  refine l_aload_n (pc := 379) C dL_law_379 4 rfl ?_
  refine l_iload (pc := 380) C dL_law_380 0 rfl ?_
  refine l_iconst (pc := 382) C dL_law_382 ?_
  refine l_iadd (pc := 383) C dL_law_383 ?_
  refine l_sld (pc := 384) C 4 dL_law_384 (by decide) (by decide) (by omega) (by omega) ?_
  refine l_aload_n (pc := 385) C dL_law_385 4 rfl ?_
  refine l_iload (pc := 386) C dL_law_386 0 rfl ?_
  refine l_iconst (pc := 388) C dL_law_388 ?_
  refine l_iadd (pc := 389) C dL_law_389 ?_
  refine l_sld (pc := 390) C 5 dL_law_390 (by decide) (by decide) (by omega) (by omega) ?_
  refine l_aload_n (pc := 391) C dL_law_391 4 rfl ?_
  refine l_iload (pc := 392) C dL_law_392 0 rfl ?_
  refine l_bipush (pc := 394) C dL_law_394 (by decide) ?_
  refine l_iadd (pc := 396) C dL_law_396 ?_
  refine l_sld (pc := 397) C 6 dL_law_397 (by decide) (by decide) (by omega) (by omega) ?_
  refine l_aload_n (pc := 398) C dL_law_398 4 rfl ?_
  refine l_iload (pc := 399) C dL_law_399 0 rfl ?_
  refine l_bipush (pc := 401) C dL_law_401 (by decide) ?_
  refine l_iadd (pc := 403) C dL_law_403 ?_
  refine l_sld (pc := 404) C 7 dL_law_404 (by decide) (by decide) (by omega) (by omega) ?_
  refine l_swap C (w1 := hs_W SHX dA adx σ1) (w2 := hs_W SHY dA ady σY) (w3 := wo) rfl ?_
  refine l_callP (pc := 405) (SH := SHY) (ad := ady) (σ := σY) (wr := (wo ++ hs_W SHX dA adx σ1)) C (c_X12_wheel l (xs 1).toInt ⟨by have := hs_oR (xs 1); omega, by have := hs_oR (xs 1); omega⟩ (xs 2).toInt ⟨by have := hs_oR (xs 2); omega, by have := hs_oR (xs 2); omega⟩ (xs 3).toInt ⟨by have := hs_oR (xs 3); omega, by have := hs_oR (xs 3); omega⟩ (xs 4).toInt ⟨by have := hs_oR (xs 4); omega, by have := hs_oR (xs 4); omega⟩ (xs 5).toInt ⟨by have := hs_oR (xs 5); omega, by have := hs_oR (xs 5); omega⟩ (xs 6).toInt ⟨by have := hs_oR (xs 6); omega, by have := hs_oR (xs 6); omega⟩ (xs 7).toInt ⟨by have := hs_oR (xs 7); omega, by have := hs_oR (xs 7); omega⟩) [vI (xs 1).toInt, vI (xs 2).toInt, vI (xs 3).toInt, vI (xs 4).toInt, vI (xs 5).toInt, vI (xs 6).toInt, vI (xs 7).toInt] [vI zx] rfl rfl rfl dL_law_405 wlL_44 wiX12_wheel weX12_wheel wcX12_wheel wnX12 noX12_wheel (by decide) (by decide) (Nat.le_of_ble_eq_true rfl) (by decide) (by decide) rfl rfl gy0 ?_
  rintro _ σ2 ⟨zy, rfl, kzy⟩
  show hs_Wn p l e room_1 s m #[Value.ref b] below meth c D A 7 Q 408 [(4, vI 0), (3, .ref qo), (2, .ref (ady 0)), (1, .ref (adx 0)), (0, .ref b)] [vI zy, vI zx] (hs_W SHY dA ady σ2 ++ (wo ++ hs_W SHX dA adx σ1)) 96 12449
  have hx : hs_R zx := by have x34 : σX 3 4 = 0 := rfl; have y06 : σY 0 6 = 0 := rfl; have x22 : σX 2 2 = 0 := rfl; have y17 : σY 0 17 = 0 := rfl; have x33 : σX 3 3 = 20 := rfl; have y03 : σY 0 3 = 20 := rfl; have x122 : σX 12 2 = 0 := rfl; have y20 : σY 0 20 = 0 := rfl; have x010 : σX 0 10 = 0 := rfl; have y18 : σY 0 18 = 0 := rfl; have x488 : σX 48 8 = 0 := rfl; have y61 : σY 0 61 = 0 := rfl; have x09 : σX 0 9 = 0 := rfl; have y01 : σY 0 1 = 0 := rfl; have kx := kzx; exact ⟨by omega, by omega⟩
  have hy : hs_R zy := by have x34 : σX 3 4 = 0 := rfl; have y06 : σY 0 6 = 0 := rfl; have x22 : σX 2 2 = 0 := rfl; have y17 : σY 0 17 = 0 := rfl; have x33 : σX 3 3 = 20 := rfl; have y03 : σY 0 3 = 20 := rfl; have x122 : σX 12 2 = 0 := rfl; have y20 : σY 0 20 = 0 := rfl; have x010 : σX 0 10 = 0 := rfl; have y18 : σY 0 18 = 0 := rfl; have x488 : σX 48 8 = 0 := rfl; have y61 : σY 0 61 = 0 := rfl; have x09 : σX 0 9 = 0 := rfl; have y01 : σY 0 1 = 0 := rfl; have ky := kzy; exact ⟨by omega, by omega⟩
  have heq : zx = zy := by have x34 : σX 3 4 = 0 := rfl; have y06 : σY 0 6 = 0 := rfl; have x22 : σX 2 2 = 0 := rfl; have y17 : σY 0 17 = 0 := rfl; have x33 : σX 3 3 = 20 := rfl; have y03 : σY 0 3 = 20 := rfl; have x122 : σX 12 2 = 0 := rfl; have y20 : σY 0 20 = 0 := rfl; have x010 : σX 0 10 = 0 := rfl; have y18 : σY 0 18 = 0 := rfl; have x488 : σX 48 8 = 0 := rfl; have y61 : σY 0 61 = 0 := rfl; have x09 : σX 0 9 = 0 := rfl; have y01 : σY 0 1 = 0 := rfl; have kx := kzx; have ky := kzy; omega
  refine l_icmp_eq (pc := 408) C (tgt := 1144) dL_law_408 (by decide) hx hy (fun _ => kend _) (fun h => absurd heq h)
set_option maxHeartbeats 4000000 in
set_option maxRecDepth 100000 in
theorem a_second {p : Program} {e : Env} {s : State} {m : MethodId} {below : List Frame} {meth : Method} {c : Code} {l : Launch} {b L : Nat} {xs : Nat → Int32} {D : va_G} {dA : Nat → ClassId} {A : Nat → Prop} {Q : State → Prop} {adx ady : Nat → Nat} {qo : Nat} {wo : va_W} (hL : L = 8) (C : hs_Cl p s m b L xs meth c D dA A) (kend : ∀ ws : va_W, hs_Wn p l e room_1 s m #[Value.ref b] below meth c D A 7 Q 1144 [(4, vI 0), (3, .ref qo), (2, .ref (ady 0)), (1, .ref (adx 0)), (0, .ref b)] [] ws 96 12449) : hs_Wn p l e room_1 s m #[Value.ref b] below meth c D A 7 Q 413 [(4, vI 0), (3, .ref qo), (2, .ref (ady 0)), (1, .ref (adx 0)), (0, .ref b)] [] (hs_W SHX dA adx σX ++ (hs_W SHY dA ady σY ++ wo)) 96 12449 := by
  refine l_aload_n (pc := 413) C dL_law_413 3 rfl ?_
  refine l_aload_n (pc := 414) C dL_law_414 4 rfl ?_
  refine l_iload (pc := 415) C dL_law_415 0 rfl ?_
  refine l_iconst (pc := 417) C dL_law_417 ?_
  refine l_iadd (pc := 418) C dL_law_418 ?_
  refine l_sld (pc := 419) C 1 dL_law_419 (by decide) (by decide) (by omega) (by omega) ?_
  refine l_aload_n (pc := 420) C dL_law_420 4 rfl ?_
  refine l_iload (pc := 421) C dL_law_421 0 rfl ?_
  refine l_iconst (pc := 423) C dL_law_423 ?_
  refine l_iadd (pc := 424) C dL_law_424 ?_
  refine l_sld (pc := 425) C 2 dL_law_425 (by decide) (by decide) (by omega) (by omega) ?_
  refine l_callP (pc := 426) (SH := SHX) (ad := adx) (σ := σX) (wr := (hs_W SHY dA ady σY ++ wo)) C (c_X11_second l (xs 1).toInt ⟨by have := hs_oR (xs 1); omega, by have := hs_oR (xs 1); omega⟩ (xs 2).toInt ⟨by have := hs_oR (xs 2); omega, by have := hs_oR (xs 2); omega⟩) [vI (xs 1).toInt, vI (xs 2).toInt] [] rfl rfl rfl dL_law_426 wlL_45 wiX11_second weX11_second wcX11_second wnX11 noX11_second (by decide) (by decide) (Nat.le_of_ble_eq_true rfl) (by decide) (by decide) rfl rfl gx0 ?_
  rintro _ σ1 ⟨zx, rfl, kzx⟩
  show hs_Wn p l e room_1 s m #[Value.ref b] below meth c D A 7 Q 429 [(4, vI 0), (3, .ref qo), (2, .ref (ady 0)), (1, .ref (adx 0)), (0, .ref b)] [vI zx] (hs_W SHX dA adx σ1 ++ (hs_W SHY dA ady σY ++ wo)) 96 12449
  refine l_aload_n (pc := 429) C dL_law_429 2 rfl ?_
  refine l_aload_n (pc := 430) C dL_law_430 4 rfl ?_
  refine l_iload (pc := 431) C dL_law_431 0 rfl ?_
  refine l_iconst (pc := 433) C dL_law_433 ?_
  refine l_iadd (pc := 434) C dL_law_434 ?_
  refine l_sld (pc := 435) C 1 dL_law_435 (by decide) (by decide) (by omega) (by omega) ?_
  refine l_aload_n (pc := 436) C dL_law_436 4 rfl ?_
  refine l_iload (pc := 437) C dL_law_437 0 rfl ?_
  refine l_iconst (pc := 439) C dL_law_439 ?_
  refine l_iadd (pc := 440) C dL_law_440 ?_
  refine l_sld (pc := 441) C 2 dL_law_441 (by decide) (by decide) (by omega) (by omega) ?_
  refine l_swap C (w1 := hs_W SHX dA adx σ1) (w2 := hs_W SHY dA ady σY) (w3 := wo) rfl ?_
  refine l_callP (pc := 442) (SH := SHY) (ad := ady) (σ := σY) (wr := (wo ++ hs_W SHX dA adx σ1)) C (c_X12_second l (xs 1).toInt ⟨by have := hs_oR (xs 1); omega, by have := hs_oR (xs 1); omega⟩ (xs 2).toInt ⟨by have := hs_oR (xs 2); omega, by have := hs_oR (xs 2); omega⟩) [vI (xs 1).toInt, vI (xs 2).toInt] [vI zx] rfl rfl rfl dL_law_442 wlL_49 wiX12_second weX12_second wcX12_second wnX12 noX12_second (by decide) (by decide) (Nat.le_of_ble_eq_true rfl) (by decide) (by decide) rfl rfl gy0 ?_
  rintro _ σ2 ⟨zy, rfl, kzy⟩
  show hs_Wn p l e room_1 s m #[Value.ref b] below meth c D A 7 Q 445 [(4, vI 0), (3, .ref qo), (2, .ref (ady 0)), (1, .ref (adx 0)), (0, .ref b)] [vI zy, vI zx] (hs_W SHY dA ady σ2 ++ (wo ++ hs_W SHX dA adx σ1)) 96 12449
  have hx : hs_R zx := by have x34 : σX 3 4 = 0 := rfl; have y06 : σY 0 6 = 0 := rfl; have x22 : σX 2 2 = 0 := rfl; have y17 : σY 0 17 = 0 := rfl; have x33 : σX 3 3 = 20 := rfl; have y03 : σY 0 3 = 20 := rfl; have x122 : σX 12 2 = 0 := rfl; have y20 : σY 0 20 = 0 := rfl; have x010 : σX 0 10 = 0 := rfl; have y18 : σY 0 18 = 0 := rfl; have x488 : σX 48 8 = 0 := rfl; have y61 : σY 0 61 = 0 := rfl; have x09 : σX 0 9 = 0 := rfl; have y01 : σY 0 1 = 0 := rfl; have kx := kzx.2; exact ⟨by omega, by omega⟩
  have hy : hs_R zy := by have x34 : σX 3 4 = 0 := rfl; have y06 : σY 0 6 = 0 := rfl; have x22 : σX 2 2 = 0 := rfl; have y17 : σY 0 17 = 0 := rfl; have x33 : σX 3 3 = 20 := rfl; have y03 : σY 0 3 = 20 := rfl; have x122 : σX 12 2 = 0 := rfl; have y20 : σY 0 20 = 0 := rfl; have x010 : σX 0 10 = 0 := rfl; have y18 : σY 0 18 = 0 := rfl; have x488 : σX 48 8 = 0 := rfl; have y61 : σY 0 61 = 0 := rfl; have x09 : σX 0 9 = 0 := rfl; have y01 : σY 0 1 = 0 := rfl; have ky := kzy.2; exact ⟨by omega, by omega⟩
  have heq : zx = zy := by have x34 : σX 3 4 = 0 := rfl; have y06 : σY 0 6 = 0 := rfl; have x22 : σX 2 2 = 0 := rfl; have y17 : σY 0 17 = 0 := rfl; have x33 : σX 3 3 = 20 := rfl; have y03 : σY 0 3 = 20 := rfl; have x122 : σX 12 2 = 0 := rfl; have y20 : σY 0 20 = 0 := rfl; have x010 : σX 0 10 = 0 := rfl; have y18 : σY 0 18 = 0 := rfl; have x488 : σX 48 8 = 0 := rfl; have y61 : σY 0 61 = 0 := rfl; have x09 : σX 0 9 = 0 := rfl; have y01 : σY 0 1 = 0 := rfl; have kx := kzx.2; have ky := kzy.2; omega
  refine l_icmp_eq (pc := 445) C (tgt := 1144) dL_law_445 (by decide) hx hy (fun _ => kend _) (fun h => absurd heq h)
set_option maxHeartbeats 4000000 in
set_option maxRecDepth 100000 in
theorem a_step {p : Program} {e : Env} {s : State} {m : MethodId} {below : List Frame} {meth : Method} {c : Code} {l : Launch} {b L : Nat} {xs : Nat → Int32} {D : va_G} {dA : Nat → ClassId} {A : Nat → Prop} {Q : State → Prop} {adx ady : Nat → Nat} {qo : Nat} {wo : va_W} (hL : L = 8) (C : hs_Cl p s m b L xs meth c D dA A) (kend : ∀ ws : va_W, hs_Wn p l e room_1 s m #[Value.ref b] below meth c D A 7 Q 1144 [(4, vI 0), (3, .ref qo), (2, .ref (ady 0)), (1, .ref (adx 0)), (0, .ref b)] [] ws 96 12449) : hs_Wn p l e room_1 s m #[Value.ref b] below meth c D A 7 Q 450 [(4, vI 0), (3, .ref qo), (2, .ref (ady 0)), (1, .ref (adx 0)), (0, .ref b)] [] (hs_W SHX dA adx σX ++ (hs_W SHY dA ady σY ++ wo)) 96 12449 := by
  refine l_aload_n (pc := 450) C dL_law_450 3 rfl ?_
  refine l_aload_n (pc := 451) C dL_law_451 4 rfl ?_
  refine l_iload (pc := 452) C dL_law_452 0 rfl ?_
  refine l_iconst (pc := 454) C dL_law_454 ?_
  refine l_iadd (pc := 455) C dL_law_455 ?_
  refine l_sld (pc := 456) C 1 dL_law_456 (by decide) (by decide) (by omega) (by omega) ?_
  refine l_callP (pc := 457) (SH := SHX) (ad := adx) (σ := σX) (wr := (hs_W SHY dA ady σY ++ wo)) C (c_X11_step l (xs 1).toInt ⟨by have := hs_oR (xs 1); omega, by have := hs_oR (xs 1); omega⟩) [vI (xs 1).toInt] [] rfl rfl rfl dL_law_457 wlL_50 wiX11_step weX11_step wcX11_step wnX11 noX11_step (by decide) (by decide) (Nat.le_of_ble_eq_true rfl) (by decide) (by decide) rfl rfl gx0 ?_
  rintro _ σ1 ⟨zx, rfl, kzx⟩
  show hs_Wn p l e room_1 s m #[Value.ref b] below meth c D A 7 Q 460 [(4, vI 0), (3, .ref qo), (2, .ref (ady 0)), (1, .ref (adx 0)), (0, .ref b)] [vI zx] (hs_W SHX dA adx σ1 ++ (hs_W SHY dA ady σY ++ wo)) 96 12449
  refine l_aload_n (pc := 460) C dL_law_460 2 rfl ?_
  refine l_aload_n (pc := 461) C dL_law_461 4 rfl ?_
  refine l_iload (pc := 462) C dL_law_462 0 rfl ?_
  refine l_iconst (pc := 464) C dL_law_464 ?_
  refine l_iadd (pc := 465) C dL_law_465 ?_
  refine l_sld (pc := 466) C 1 dL_law_466 (by decide) (by decide) (by omega) (by omega) ?_
  refine l_swap C (w1 := hs_W SHX dA adx σ1) (w2 := hs_W SHY dA ady σY) (w3 := wo) rfl ?_
  refine l_callP (pc := 467) (SH := SHY) (ad := ady) (σ := σY) (wr := (wo ++ hs_W SHX dA adx σ1)) C (c_X12_step l (xs 1).toInt ⟨by have := hs_oR (xs 1); omega, by have := hs_oR (xs 1); omega⟩) [vI (xs 1).toInt] [vI zx] rfl rfl rfl dL_law_467 wlL_53 wiX12_step weX12_step wcX12_step wnX12 noX12_step (by decide) (by decide) (Nat.le_of_ble_eq_true rfl) (by decide) (by decide) rfl rfl gy0 ?_
  rintro _ σ2 ⟨zy, rfl, kzy⟩
  show hs_Wn p l e room_1 s m #[Value.ref b] below meth c D A 7 Q 470 [(4, vI 0), (3, .ref qo), (2, .ref (ady 0)), (1, .ref (adx 0)), (0, .ref b)] [vI zy, vI zx] (hs_W SHY dA ady σ2 ++ (wo ++ hs_W SHX dA adx σ1)) 96 12449
  have hx : hs_R zx := kzx.2.1
  have hy : hs_R zy := kzy.2.1
  have heq : zx = zy := by
    have hxx := kzx.2.2
    have hyy := kzy.2.2
    rcases Classical.em (-100000 ≤ (xs 1).toInt ∧ (xs 1).toInt ≤ 100000) with q | q
    · rcases Classical.em ((xs 1).toInt = 0) with q2 | q2
      · rw [hxx.2.2 q2, hyy.2.2 q2]; rfl
      · rw [hxx.2.1 q q2, hyy.2.1 q q2]; rfl
    · rw [hxx.1 q, hyy.1 q]
  refine l_icmp_eq (pc := 470) C (tgt := 1144) dL_law_470 (by decide) hx hy (fun _ => kend _) (fun h => absurd heq h)
set_option maxHeartbeats 4000000 in
set_option maxRecDepth 100000 in
theorem a_rides {p : Program} {e : Env} {s : State} {m : MethodId} {below : List Frame} {meth : Method} {c : Code} {l : Launch} {b L : Nat} {xs : Nat → Int32} {D : va_G} {dA : Nat → ClassId} {A : Nat → Prop} {Q : State → Prop} {adx ady : Nat → Nat} {qo : Nat} {wo : va_W} (hL : L = 8) (C : hs_Cl p s m b L xs meth c D dA A) (kend : ∀ ws : va_W, hs_Wn p l e room_1 s m #[Value.ref b] below meth c D A 7 Q 1144 [(4, vI 0), (3, .ref qo), (2, .ref (ady 0)), (1, .ref (adx 0)), (0, .ref b)] [] ws 96 12449) : hs_Wn p l e room_1 s m #[Value.ref b] below meth c D A 7 Q 543 [(4, vI 0), (3, .ref qo), (2, .ref (ady 0)), (1, .ref (adx 0)), (0, .ref b)] [] (hs_W SHX dA adx σX ++ (hs_W SHY dA ady σY ++ wo)) 96 12449 := by
  refine l_aload_n (pc := 543) C dL_law_543 3 rfl ?_
  refine l_callP (pc := 544) (SH := SHX) (ad := adx) (σ := σX) (wr := (hs_W SHY dA ady σY ++ wo)) C (c_X11_rides l ) [] [] rfl rfl rfl dL_law_544 wlL_64 wiX11_rides weX11_rides wcX11_rides wnX11 noX11_rides (by decide) (by decide) (Nat.le_of_ble_eq_true rfl) (by decide) (by decide) rfl rfl gx0 ?_
  rintro _ σ1 ⟨zx, rfl, kzx⟩
  show hs_Wn p l e room_1 s m #[Value.ref b] below meth c D A 7 Q 547 [(4, vI 0), (3, .ref qo), (2, .ref (ady 0)), (1, .ref (adx 0)), (0, .ref b)] [vI zx] (hs_W SHX dA adx σ1 ++ (hs_W SHY dA ady σY ++ wo)) 96 12449
  refine l_aload_n (pc := 547) C dL_law_547 2 rfl ?_
  refine l_swap C (w1 := hs_W SHX dA adx σ1) (w2 := hs_W SHY dA ady σY) (w3 := wo) rfl ?_
  refine l_callP (pc := 548) (SH := SHY) (ad := ady) (σ := σY) (wr := (wo ++ hs_W SHX dA adx σ1)) C (c_X12_rides l ) [] [vI zx] rfl rfl rfl dL_law_548 wlL_67 wiX12_rides weX12_rides wcX12_rides wnX12 noX12_rides (by decide) (by decide) (Nat.le_of_ble_eq_true rfl) (by decide) (by decide) rfl rfl gy0 ?_
  rintro _ σ2 ⟨zy, rfl, kzy⟩
  show hs_Wn p l e room_1 s m #[Value.ref b] below meth c D A 7 Q 551 [(4, vI 0), (3, .ref qo), (2, .ref (ady 0)), (1, .ref (adx 0)), (0, .ref b)] [vI zy, vI zx] (hs_W SHY dA ady σ2 ++ (wo ++ hs_W SHX dA adx σ1)) 96 12449
  have hx : hs_R zx := by have x34 : σX 3 4 = 0 := rfl; have y06 : σY 0 6 = 0 := rfl; have x22 : σX 2 2 = 0 := rfl; have y17 : σY 0 17 = 0 := rfl; have x33 : σX 3 3 = 20 := rfl; have y03 : σY 0 3 = 20 := rfl; have x122 : σX 12 2 = 0 := rfl; have y20 : σY 0 20 = 0 := rfl; have x010 : σX 0 10 = 0 := rfl; have y18 : σY 0 18 = 0 := rfl; have x488 : σX 48 8 = 0 := rfl; have y61 : σY 0 61 = 0 := rfl; have x09 : σX 0 9 = 0 := rfl; have y01 : σY 0 1 = 0 := rfl; have kx := kzx.2; exact ⟨by omega, by omega⟩
  have hy : hs_R zy := by have x34 : σX 3 4 = 0 := rfl; have y06 : σY 0 6 = 0 := rfl; have x22 : σX 2 2 = 0 := rfl; have y17 : σY 0 17 = 0 := rfl; have x33 : σX 3 3 = 20 := rfl; have y03 : σY 0 3 = 20 := rfl; have x122 : σX 12 2 = 0 := rfl; have y20 : σY 0 20 = 0 := rfl; have x010 : σX 0 10 = 0 := rfl; have y18 : σY 0 18 = 0 := rfl; have x488 : σX 48 8 = 0 := rfl; have y61 : σY 0 61 = 0 := rfl; have x09 : σX 0 9 = 0 := rfl; have y01 : σY 0 1 = 0 := rfl; have ky := kzy.2; exact ⟨by omega, by omega⟩
  have heq : zx = zy := by have x34 : σX 3 4 = 0 := rfl; have y06 : σY 0 6 = 0 := rfl; have x22 : σX 2 2 = 0 := rfl; have y17 : σY 0 17 = 0 := rfl; have x33 : σX 3 3 = 20 := rfl; have y03 : σY 0 3 = 20 := rfl; have x122 : σX 12 2 = 0 := rfl; have y20 : σY 0 20 = 0 := rfl; have x010 : σX 0 10 = 0 := rfl; have y18 : σY 0 18 = 0 := rfl; have x488 : σX 48 8 = 0 := rfl; have y61 : σY 0 61 = 0 := rfl; have x09 : σX 0 9 = 0 := rfl; have y01 : σY 0 1 = 0 := rfl; have kx := kzx.2; have ky := kzy.2; omega
  refine l_icmp_eq (pc := 551) C (tgt := 1144) dL_law_551 (by decide) hx hy (fun _ => kend _) (fun h => absurd heq h)
set_option maxHeartbeats 4000000 in
set_option maxRecDepth 100000 in
theorem a_open {p : Program} {e : Env} {s : State} {m : MethodId} {below : List Frame} {meth : Method} {c : Code} {l : Launch} {b L : Nat} {xs : Nat → Int32} {D : va_G} {dA : Nat → ClassId} {A : Nat → Prop} {Q : State → Prop} {adx ady : Nat → Nat} {qo : Nat} {wo : va_W} (hL : L = 8) (C : hs_Cl p s m b L xs meth c D dA A) (kend : ∀ ws : va_W, hs_Wn p l e room_1 s m #[Value.ref b] below meth c D A 7 Q 1144 [(4, vI 0), (3, .ref qo), (2, .ref (ady 0)), (1, .ref (adx 0)), (0, .ref b)] [] ws 96 12449) : hs_Wn p l e room_1 s m #[Value.ref b] below meth c D A 7 Q 556 [(4, vI 0), (3, .ref qo), (2, .ref (ady 0)), (1, .ref (adx 0)), (0, .ref b)] [] (hs_W SHX dA adx σX ++ (hs_W SHY dA ady σY ++ wo)) 96 12449 := by
  refine l_aload_n (pc := 556) C dL_law_556 3 rfl ?_
  refine l_callP (pc := 557) (SH := SHX) (ad := adx) (σ := σX) (wr := (hs_W SHY dA ady σY ++ wo)) C (c_X11_open l ) [] [] rfl rfl rfl dL_law_557 wlL_68 wiX11_open weX11_open wcX11_open wnX11 noX11_open (by decide) (by decide) (Nat.le_of_ble_eq_true rfl) (by decide) (by decide) rfl rfl gx0 ?_
  rintro _ σ1 ⟨zx, rfl, kzx⟩
  show hs_Wn p l e room_1 s m #[Value.ref b] below meth c D A 7 Q 560 [(4, vI 0), (3, .ref qo), (2, .ref (ady 0)), (1, .ref (adx 0)), (0, .ref b)] [vI zx] (hs_W SHX dA adx σ1 ++ (hs_W SHY dA ady σY ++ wo)) 96 12449
  refine l_aload_n (pc := 560) C dL_law_560 2 rfl ?_
  refine l_swap C (w1 := hs_W SHX dA adx σ1) (w2 := hs_W SHY dA ady σY) (w3 := wo) rfl ?_
  refine l_callP (pc := 561) (SH := SHY) (ad := ady) (σ := σY) (wr := (wo ++ hs_W SHX dA adx σ1)) C (c_X12_open l ) [] [vI zx] rfl rfl rfl dL_law_561 wlL_71 wiX12_open weX12_open wcX12_open wnX12 noX12_open (by decide) (by decide) (Nat.le_of_ble_eq_true rfl) (by decide) (by decide) rfl rfl gy0 ?_
  rintro _ σ2 ⟨zy, rfl, kzy⟩
  show hs_Wn p l e room_1 s m #[Value.ref b] below meth c D A 7 Q 564 [(4, vI 0), (3, .ref qo), (2, .ref (ady 0)), (1, .ref (adx 0)), (0, .ref b)] [vI zy, vI zx] (hs_W SHY dA ady σ2 ++ (wo ++ hs_W SHX dA adx σ1)) 96 12449
  have hx : hs_R zx := by have x34 : σX 3 4 = 0 := rfl; have y06 : σY 0 6 = 0 := rfl; have x22 : σX 2 2 = 0 := rfl; have y17 : σY 0 17 = 0 := rfl; have x33 : σX 3 3 = 20 := rfl; have y03 : σY 0 3 = 20 := rfl; have x122 : σX 12 2 = 0 := rfl; have y20 : σY 0 20 = 0 := rfl; have x010 : σX 0 10 = 0 := rfl; have y18 : σY 0 18 = 0 := rfl; have x488 : σX 48 8 = 0 := rfl; have y61 : σY 0 61 = 0 := rfl; have x09 : σX 0 9 = 0 := rfl; have y01 : σY 0 1 = 0 := rfl; have kx := kzx.2; exact ⟨by omega, by omega⟩
  have hy : hs_R zy := by have x34 : σX 3 4 = 0 := rfl; have y06 : σY 0 6 = 0 := rfl; have x22 : σX 2 2 = 0 := rfl; have y17 : σY 0 17 = 0 := rfl; have x33 : σX 3 3 = 20 := rfl; have y03 : σY 0 3 = 20 := rfl; have x122 : σX 12 2 = 0 := rfl; have y20 : σY 0 20 = 0 := rfl; have x010 : σX 0 10 = 0 := rfl; have y18 : σY 0 18 = 0 := rfl; have x488 : σX 48 8 = 0 := rfl; have y61 : σY 0 61 = 0 := rfl; have x09 : σX 0 9 = 0 := rfl; have y01 : σY 0 1 = 0 := rfl; have ky := kzy.2; exact ⟨by omega, by omega⟩
  have heq : zx = zy := by have x34 : σX 3 4 = 0 := rfl; have y06 : σY 0 6 = 0 := rfl; have x22 : σX 2 2 = 0 := rfl; have y17 : σY 0 17 = 0 := rfl; have x33 : σX 3 3 = 20 := rfl; have y03 : σY 0 3 = 20 := rfl; have x122 : σX 12 2 = 0 := rfl; have y20 : σY 0 20 = 0 := rfl; have x010 : σX 0 10 = 0 := rfl; have y18 : σY 0 18 = 0 := rfl; have x488 : σX 48 8 = 0 := rfl; have y61 : σY 0 61 = 0 := rfl; have x09 : σX 0 9 = 0 := rfl; have y01 : σY 0 1 = 0 := rfl; have kx := kzx.2; have ky := kzy.2; omega
  refine l_icmp_eq (pc := 564) C (tgt := 1144) dL_law_564 (by decide) hx hy (fun _ => kend _) (fun h => absurd heq h)
set_option maxHeartbeats 4000000 in
set_option maxRecDepth 100000 in
theorem a_clock {p : Program} {e : Env} {s : State} {m : MethodId} {below : List Frame} {meth : Method} {c : Code} {l : Launch} {b L : Nat} {xs : Nat → Int32} {D : va_G} {dA : Nat → ClassId} {A : Nat → Prop} {Q : State → Prop} {adx ady : Nat → Nat} {qo : Nat} {wo : va_W} (hL : L = 8) (C : hs_Cl p s m b L xs meth c D dA A) (kend : ∀ ws : va_W, hs_Wn p l e room_1 s m #[Value.ref b] below meth c D A 7 Q 1144 [(4, vI 0), (3, .ref qo), (2, .ref (ady 0)), (1, .ref (adx 0)), (0, .ref b)] [] ws 96 12449) : hs_Wn p l e room_1 s m #[Value.ref b] below meth c D A 7 Q 569 [(4, vI 0), (3, .ref qo), (2, .ref (ady 0)), (1, .ref (adx 0)), (0, .ref b)] [] (hs_W SHX dA adx σX ++ (hs_W SHY dA ady σY ++ wo)) 96 12449 := by
  refine l_aload_n (pc := 569) C dL_law_569 3 rfl ?_
  refine l_aload_n (pc := 570) C dL_law_570 4 rfl ?_
  refine l_iload (pc := 571) C dL_law_571 0 rfl ?_
  refine l_iconst (pc := 573) C dL_law_573 ?_
  refine l_iadd (pc := 574) C dL_law_574 ?_
  refine l_sld (pc := 575) C 1 dL_law_575 (by decide) (by decide) (by omega) (by omega) ?_
  refine l_callP (pc := 576) (SH := SHX) (ad := adx) (σ := σX) (wr := (hs_W SHY dA ady σY ++ wo)) C (c_X11_clock l (xs 1).toInt ⟨by have := hs_oR (xs 1); omega, by have := hs_oR (xs 1); omega⟩) [vI (xs 1).toInt] [] rfl rfl rfl dL_law_576 wlL_72 wiX11_clock weX11_clock wcX11_clock wnX11 noX11_clock (by decide) (by decide) (Nat.le_of_ble_eq_true rfl) (by decide) (by decide) rfl rfl gx0 ?_
  rintro _ σ1 ⟨zx, rfl, kzx⟩
  show hs_Wn p l e room_1 s m #[Value.ref b] below meth c D A 7 Q 579 [(4, vI 0), (3, .ref qo), (2, .ref (ady 0)), (1, .ref (adx 0)), (0, .ref b)] [vI zx] (hs_W SHX dA adx σ1 ++ (hs_W SHY dA ady σY ++ wo)) 96 12449
  refine l_aload_n (pc := 579) C dL_law_579 2 rfl ?_
  refine l_aload_n (pc := 580) C dL_law_580 4 rfl ?_
  refine l_iload (pc := 581) C dL_law_581 0 rfl ?_
  refine l_iconst (pc := 583) C dL_law_583 ?_
  refine l_iadd (pc := 584) C dL_law_584 ?_
  refine l_sld (pc := 585) C 1 dL_law_585 (by decide) (by decide) (by omega) (by omega) ?_
  refine l_swap C (w1 := hs_W SHX dA adx σ1) (w2 := hs_W SHY dA ady σY) (w3 := wo) rfl ?_
  refine l_callP (pc := 586) (SH := SHY) (ad := ady) (σ := σY) (wr := (wo ++ hs_W SHX dA adx σ1)) C (c_X12_clock l (xs 1).toInt ⟨by have := hs_oR (xs 1); omega, by have := hs_oR (xs 1); omega⟩) [vI (xs 1).toInt] [vI zx] rfl rfl rfl dL_law_586 wlL_75 wiX12_clock weX12_clock wcX12_clock wnX12 noX12_clock (by decide) (by decide) (Nat.le_of_ble_eq_true rfl) (by decide) (by decide) rfl rfl gy0 ?_
  rintro _ σ2 ⟨zy, rfl, kzy⟩
  show hs_Wn p l e room_1 s m #[Value.ref b] below meth c D A 7 Q 589 [(4, vI 0), (3, .ref qo), (2, .ref (ady 0)), (1, .ref (adx 0)), (0, .ref b)] [vI zy, vI zx] (hs_W SHY dA ady σ2 ++ (wo ++ hs_W SHX dA adx σ1)) 96 12449
  have hx : hs_R zx := by have x34 : σX 3 4 = 0 := rfl; have y06 : σY 0 6 = 0 := rfl; have x22 : σX 2 2 = 0 := rfl; have y17 : σY 0 17 = 0 := rfl; have x33 : σX 3 3 = 20 := rfl; have y03 : σY 0 3 = 20 := rfl; have x122 : σX 12 2 = 0 := rfl; have y20 : σY 0 20 = 0 := rfl; have x010 : σX 0 10 = 0 := rfl; have y18 : σY 0 18 = 0 := rfl; have x488 : σX 48 8 = 0 := rfl; have y61 : σY 0 61 = 0 := rfl; have x09 : σX 0 9 = 0 := rfl; have y01 : σY 0 1 = 0 := rfl; have kx := kzx.2; exact ⟨by omega, by omega⟩
  have hy : hs_R zy := by have x34 : σX 3 4 = 0 := rfl; have y06 : σY 0 6 = 0 := rfl; have x22 : σX 2 2 = 0 := rfl; have y17 : σY 0 17 = 0 := rfl; have x33 : σX 3 3 = 20 := rfl; have y03 : σY 0 3 = 20 := rfl; have x122 : σX 12 2 = 0 := rfl; have y20 : σY 0 20 = 0 := rfl; have x010 : σX 0 10 = 0 := rfl; have y18 : σY 0 18 = 0 := rfl; have x488 : σX 48 8 = 0 := rfl; have y61 : σY 0 61 = 0 := rfl; have x09 : σX 0 9 = 0 := rfl; have y01 : σY 0 1 = 0 := rfl; have ky := kzy.2; exact ⟨by omega, by omega⟩
  have heq : zx = zy := by have x34 : σX 3 4 = 0 := rfl; have y06 : σY 0 6 = 0 := rfl; have x22 : σX 2 2 = 0 := rfl; have y17 : σY 0 17 = 0 := rfl; have x33 : σX 3 3 = 20 := rfl; have y03 : σY 0 3 = 20 := rfl; have x122 : σX 12 2 = 0 := rfl; have y20 : σY 0 20 = 0 := rfl; have x010 : σX 0 10 = 0 := rfl; have y18 : σY 0 18 = 0 := rfl; have x488 : σX 48 8 = 0 := rfl; have y61 : σY 0 61 = 0 := rfl; have x09 : σX 0 9 = 0 := rfl; have y01 : σY 0 1 = 0 := rfl; have kx := kzx.2; have ky := kzy.2; omega
  refine l_icmp_eq (pc := 589) C (tgt := 1144) dL_law_589 (by decide) hx hy (fun _ => kend _) (fun h => absurd heq h)
set_option maxHeartbeats 4000000 in
set_option maxRecDepth 100000 in
theorem a_hours {p : Program} {e : Env} {s : State} {m : MethodId} {below : List Frame} {meth : Method} {c : Code} {l : Launch} {b L : Nat} {xs : Nat → Int32} {D : va_G} {dA : Nat → ClassId} {A : Nat → Prop} {Q : State → Prop} {adx ady : Nat → Nat} {qo : Nat} {wo : va_W} (hL : L = 8) (C : hs_Cl p s m b L xs meth c D dA A) (kend : ∀ ws : va_W, hs_Wn p l e room_1 s m #[Value.ref b] below meth c D A 7 Q 1144 [(4, vI 0), (3, .ref qo), (2, .ref (ady 0)), (1, .ref (adx 0)), (0, .ref b)] [] ws 96 12449) : hs_Wn p l e room_1 s m #[Value.ref b] below meth c D A 7 Q 594 [(4, vI 0), (3, .ref qo), (2, .ref (ady 0)), (1, .ref (adx 0)), (0, .ref b)] [] (hs_W SHX dA adx σX ++ (hs_W SHY dA ady σY ++ wo)) 96 12449 := by
  refine l_aload_n (pc := 594) C dL_law_594 3 rfl ?_
  refine l_aload_n (pc := 595) C dL_law_595 4 rfl ?_
  refine l_iload (pc := 596) C dL_law_596 0 rfl ?_
  refine l_iconst (pc := 598) C dL_law_598 ?_
  refine l_iadd (pc := 599) C dL_law_599 ?_
  refine l_sld (pc := 600) C 1 dL_law_600 (by decide) (by decide) (by omega) (by omega) ?_
  refine l_callP (pc := 601) (SH := SHX) (ad := adx) (σ := σX) (wr := (hs_W SHY dA ady σY ++ wo)) C (c_X11_hours l (xs 1).toInt ⟨by have := hs_oR (xs 1); omega, by have := hs_oR (xs 1); omega⟩) [vI (xs 1).toInt] [] rfl rfl rfl dL_law_601 wlL_76 wiX11_hours weX11_hours wcX11_hours wnX11 noX11_hours (by decide) (by decide) (Nat.le_of_ble_eq_true rfl) (by decide) (by decide) rfl rfl gx0 ?_
  rintro _ σ1 ⟨zx, rfl, kzx⟩
  show hs_Wn p l e room_1 s m #[Value.ref b] below meth c D A 7 Q 604 [(4, vI 0), (3, .ref qo), (2, .ref (ady 0)), (1, .ref (adx 0)), (0, .ref b)] [vI zx] (hs_W SHX dA adx σ1 ++ (hs_W SHY dA ady σY ++ wo)) 96 12449
  refine l_aload_n (pc := 604) C dL_law_604 2 rfl ?_
  refine l_aload_n (pc := 605) C dL_law_605 4 rfl ?_
  refine l_iload (pc := 606) C dL_law_606 0 rfl ?_
  refine l_iconst (pc := 608) C dL_law_608 ?_
  refine l_iadd (pc := 609) C dL_law_609 ?_
  refine l_sld (pc := 610) C 1 dL_law_610 (by decide) (by decide) (by omega) (by omega) ?_
  refine l_swap C (w1 := hs_W SHX dA adx σ1) (w2 := hs_W SHY dA ady σY) (w3 := wo) rfl ?_
  refine l_callP (pc := 611) (SH := SHY) (ad := ady) (σ := σY) (wr := (wo ++ hs_W SHX dA adx σ1)) C (c_X12_hours l (xs 1).toInt ⟨by have := hs_oR (xs 1); omega, by have := hs_oR (xs 1); omega⟩) [vI (xs 1).toInt] [vI zx] rfl rfl rfl dL_law_611 wlL_79 wiX12_hours weX12_hours wcX12_hours wnX12 noX12_hours (by decide) (by decide) (Nat.le_of_ble_eq_true rfl) (by decide) (by decide) rfl rfl gy0 ?_
  rintro _ σ2 ⟨zy, rfl, kzy⟩
  show hs_Wn p l e room_1 s m #[Value.ref b] below meth c D A 7 Q 614 [(4, vI 0), (3, .ref qo), (2, .ref (ady 0)), (1, .ref (adx 0)), (0, .ref b)] [vI zy, vI zx] (hs_W SHY dA ady σ2 ++ (wo ++ hs_W SHX dA adx σ1)) 96 12449
  have hx : hs_R zx := kzx.2.1
  have hy : hs_R zy := kzy.2.1
  have heq : zx = zy := by have x34 : σX 3 4 = 0 := rfl; have y06 : σY 0 6 = 0 := rfl; have x22 : σX 2 2 = 0 := rfl; have y17 : σY 0 17 = 0 := rfl; have x33 : σX 3 3 = 20 := rfl; have y03 : σY 0 3 = 20 := rfl; have x122 : σX 12 2 = 0 := rfl; have y20 : σY 0 20 = 0 := rfl; have x010 : σX 0 10 = 0 := rfl; have y18 : σY 0 18 = 0 := rfl; have x488 : σX 48 8 = 0 := rfl; have y61 : σY 0 61 = 0 := rfl; have x09 : σX 0 9 = 0 := rfl; have y01 : σY 0 1 = 0 := rfl; have kx := kzx.2; have ky := kzy.2; omega
  refine l_icmp_eq (pc := 614) C (tgt := 1144) dL_law_614 (by decide) hx hy (fun _ => kend _) (fun h => absurd heq h)
set_option maxHeartbeats 4000000 in
set_option maxRecDepth 100000 in
theorem a_comes {p : Program} {e : Env} {s : State} {m : MethodId} {below : List Frame} {meth : Method} {c : Code} {l : Launch} {b L : Nat} {xs : Nat → Int32} {D : va_G} {dA : Nat → ClassId} {A : Nat → Prop} {Q : State → Prop} {adx ady : Nat → Nat} {qo : Nat} {wo : va_W} (hL : L = 8) (C : hs_Cl p s m b L xs meth c D dA A) (kend : ∀ ws : va_W, hs_Wn p l e room_1 s m #[Value.ref b] below meth c D A 7 Q 1144 [(4, vI 0), (3, .ref qo), (2, .ref (ady 0)), (1, .ref (adx 0)), (0, .ref b)] [] ws 96 12449) : hs_Wn p l e room_1 s m #[Value.ref b] below meth c D A 7 Q 619 [(4, vI 0), (3, .ref qo), (2, .ref (ady 0)), (1, .ref (adx 0)), (0, .ref b)] [] (hs_W SHX dA adx σX ++ (hs_W SHY dA ady σY ++ wo)) 96 12449 := by
  refine l_aload_n (pc := 619) C dL_law_619 3 rfl ?_
  refine l_aload_n (pc := 620) C dL_law_620 4 rfl ?_
  refine l_iload (pc := 621) C dL_law_621 0 rfl ?_
  refine l_iconst (pc := 623) C dL_law_623 ?_
  refine l_iadd (pc := 624) C dL_law_624 ?_
  refine l_sld (pc := 625) C 1 dL_law_625 (by decide) (by decide) (by omega) (by omega) ?_
  refine l_aload_n (pc := 626) C dL_law_626 4 rfl ?_
  refine l_iload (pc := 627) C dL_law_627 0 rfl ?_
  refine l_iconst (pc := 629) C dL_law_629 ?_
  refine l_iadd (pc := 630) C dL_law_630 ?_
  refine l_sld (pc := 631) C 2 dL_law_631 (by decide) (by decide) (by omega) (by omega) ?_
  refine l_if_eq (pc := 632) C (tgt := 639) dL_law_632 (by decide) ⟨by have := hs_oR (xs 2); omega, by have := hs_oR (xs 2); omega⟩ (fun _ => ?_) (fun _ => ?_)
  · refine l_iconst (pc := 639) C dL_law_639 ?_
    refine l_callP (pc := 640) (SH := SHX) (ad := adx) (σ := σX) (wr := (hs_W SHY dA ady σY ++ wo)) C (c_X11_comes l (xs 1).toInt 0 ⟨by have := hs_oR (xs 1); omega, by have := hs_oR (xs 1); omega⟩ (by omega)) [vI (xs 1).toInt, vI 0] [] rfl rfl rfl dL_law_640 wlL_80 wiX11_comes weX11_comes wcX11_comes wnX11 noX11_comes (by decide) (by decide) (Nat.le_of_ble_eq_true rfl) (by decide) (by decide) rfl rfl gx0 ?_
    rintro _ σ1 ⟨zx, rfl, kzx⟩
    show hs_Wn p l e room_1 s m #[Value.ref b] below meth c D A 7 Q 643 [(4, vI 0), (3, .ref qo), (2, .ref (ady 0)), (1, .ref (adx 0)), (0, .ref b)] [vI zx] (hs_W SHX dA adx σ1 ++ (hs_W SHY dA ady σY ++ wo)) 96 12449
    refine l_aload_n (pc := 643) C dL_law_643 2 rfl ?_
    refine l_aload_n (pc := 644) C dL_law_644 4 rfl ?_
    refine l_iload (pc := 645) C dL_law_645 0 rfl ?_
    refine l_iconst (pc := 647) C dL_law_647 ?_
    refine l_iadd (pc := 648) C dL_law_648 ?_
    refine l_sld (pc := 649) C 1 dL_law_649 (by decide) (by decide) (by omega) (by omega) ?_
    refine l_aload_n (pc := 650) C dL_law_650 4 rfl ?_
    refine l_iload (pc := 651) C dL_law_651 0 rfl ?_
    refine l_iconst (pc := 653) C dL_law_653 ?_
    refine l_iadd (pc := 654) C dL_law_654 ?_
    refine l_sld (pc := 655) C 2 dL_law_655 (by decide) (by decide) (by omega) (by omega) ?_
    refine l_if_eq (pc := 656) C (tgt := 663) dL_law_656 (by decide) ⟨by have := hs_oR (xs 2); omega, by have := hs_oR (xs 2); omega⟩ (fun _ => ?_) (fun _ => ?_)
    · refine l_iconst (pc := 663) C dL_law_663 ?_
      refine l_swap C (w1 := hs_W SHX dA adx σ1) (w2 := hs_W SHY dA ady σY) (w3 := wo) rfl ?_
      refine l_callP (pc := 664) (SH := SHY) (ad := ady) (σ := σY) (wr := (wo ++ hs_W SHX dA adx σ1)) C (c_X12_comes l (xs 1).toInt 0 ⟨by have := hs_oR (xs 1); omega, by have := hs_oR (xs 1); omega⟩ (by omega)) [vI (xs 1).toInt, vI 0] [vI zx] rfl rfl rfl dL_law_664 wlL_84 wiX12_comes weX12_comes wcX12_comes wnX12 noX12_comes (by decide) (by decide) (Nat.le_of_ble_eq_true rfl) (by decide) (by decide) rfl rfl gy0 ?_
      rintro _ σ2 ⟨zy, rfl, kzy⟩
      show hs_Wn p l e room_1 s m #[Value.ref b] below meth c D A 7 Q 667 [(4, vI 0), (3, .ref qo), (2, .ref (ady 0)), (1, .ref (adx 0)), (0, .ref b)] [vI zy, vI zx] (hs_W SHY dA ady σ2 ++ (wo ++ hs_W SHX dA adx σ1)) 96 12449
      have hx : hs_R zx := by have x34 : σX 3 4 = 0 := rfl; have y06 : σY 0 6 = 0 := rfl; have x22 : σX 2 2 = 0 := rfl; have y17 : σY 0 17 = 0 := rfl; have x33 : σX 3 3 = 20 := rfl; have y03 : σY 0 3 = 20 := rfl; have x122 : σX 12 2 = 0 := rfl; have y20 : σY 0 20 = 0 := rfl; have x010 : σX 0 10 = 0 := rfl; have y18 : σY 0 18 = 0 := rfl; have x488 : σX 48 8 = 0 := rfl; have y61 : σY 0 61 = 0 := rfl; have x09 : σX 0 9 = 0 := rfl; have y01 : σY 0 1 = 0 := rfl; have kx := kzx.2; exact ⟨by omega, by omega⟩
      have hy : hs_R zy := by have x34 : σX 3 4 = 0 := rfl; have y06 : σY 0 6 = 0 := rfl; have x22 : σX 2 2 = 0 := rfl; have y17 : σY 0 17 = 0 := rfl; have x33 : σX 3 3 = 20 := rfl; have y03 : σY 0 3 = 20 := rfl; have x122 : σX 12 2 = 0 := rfl; have y20 : σY 0 20 = 0 := rfl; have x010 : σX 0 10 = 0 := rfl; have y18 : σY 0 18 = 0 := rfl; have x488 : σX 48 8 = 0 := rfl; have y61 : σY 0 61 = 0 := rfl; have x09 : σX 0 9 = 0 := rfl; have y01 : σY 0 1 = 0 := rfl; have ky := kzy.2; exact ⟨by omega, by omega⟩
      have heq : zx = zy := by have x34 : σX 3 4 = 0 := rfl; have y06 : σY 0 6 = 0 := rfl; have x22 : σX 2 2 = 0 := rfl; have y17 : σY 0 17 = 0 := rfl; have x33 : σX 3 3 = 20 := rfl; have y03 : σY 0 3 = 20 := rfl; have x122 : σX 12 2 = 0 := rfl; have y20 : σY 0 20 = 0 := rfl; have x010 : σX 0 10 = 0 := rfl; have y18 : σY 0 18 = 0 := rfl; have x488 : σX 48 8 = 0 := rfl; have y61 : σY 0 61 = 0 := rfl; have x09 : σX 0 9 = 0 := rfl; have y01 : σY 0 1 = 0 := rfl; have kx := kzx.2; have ky := kzy.2; omega
      exact l_icmp_eq (pc := 667) C (tgt := 1144) dL_law_667 (by decide) hx hy (fun _ => kend _) (fun h => absurd heq h)
    · refine l_iconst (pc := 659) C dL_law_659 ?_
      refine l_goto (pc := 660) C (tgt := 664) dL_law_660 (by decide) ?_
      refine l_swap C (w1 := hs_W SHX dA adx σ1) (w2 := hs_W SHY dA ady σY) (w3 := wo) rfl ?_
      refine l_callP (pc := 664) (SH := SHY) (ad := ady) (σ := σY) (wr := (wo ++ hs_W SHX dA adx σ1)) C (c_X12_comes l (xs 1).toInt 1 ⟨by have := hs_oR (xs 1); omega, by have := hs_oR (xs 1); omega⟩ (by omega)) [vI (xs 1).toInt, vI 1] [vI zx] rfl rfl rfl dL_law_664 wlL_84 wiX12_comes weX12_comes wcX12_comes wnX12 noX12_comes (by decide) (by decide) (Nat.le_of_ble_eq_true rfl) (by decide) (by decide) rfl rfl gy0 ?_
      rintro _ σ2 ⟨zy, rfl, kzy⟩
      show hs_Wn p l e room_1 s m #[Value.ref b] below meth c D A 7 Q 667 [(4, vI 0), (3, .ref qo), (2, .ref (ady 0)), (1, .ref (adx 0)), (0, .ref b)] [vI zy, vI zx] (hs_W SHY dA ady σ2 ++ (wo ++ hs_W SHX dA adx σ1)) 96 12449
      have hx : hs_R zx := by have x34 : σX 3 4 = 0 := rfl; have y06 : σY 0 6 = 0 := rfl; have x22 : σX 2 2 = 0 := rfl; have y17 : σY 0 17 = 0 := rfl; have x33 : σX 3 3 = 20 := rfl; have y03 : σY 0 3 = 20 := rfl; have x122 : σX 12 2 = 0 := rfl; have y20 : σY 0 20 = 0 := rfl; have x010 : σX 0 10 = 0 := rfl; have y18 : σY 0 18 = 0 := rfl; have x488 : σX 48 8 = 0 := rfl; have y61 : σY 0 61 = 0 := rfl; have x09 : σX 0 9 = 0 := rfl; have y01 : σY 0 1 = 0 := rfl; have kx := kzx.2; exact ⟨by omega, by omega⟩
      have hy : hs_R zy := by have x34 : σX 3 4 = 0 := rfl; have y06 : σY 0 6 = 0 := rfl; have x22 : σX 2 2 = 0 := rfl; have y17 : σY 0 17 = 0 := rfl; have x33 : σX 3 3 = 20 := rfl; have y03 : σY 0 3 = 20 := rfl; have x122 : σX 12 2 = 0 := rfl; have y20 : σY 0 20 = 0 := rfl; have x010 : σX 0 10 = 0 := rfl; have y18 : σY 0 18 = 0 := rfl; have x488 : σX 48 8 = 0 := rfl; have y61 : σY 0 61 = 0 := rfl; have x09 : σX 0 9 = 0 := rfl; have y01 : σY 0 1 = 0 := rfl; have ky := kzy.2; exact ⟨by omega, by omega⟩
      have heq : zx = zy := by have x34 : σX 3 4 = 0 := rfl; have y06 : σY 0 6 = 0 := rfl; have x22 : σX 2 2 = 0 := rfl; have y17 : σY 0 17 = 0 := rfl; have x33 : σX 3 3 = 20 := rfl; have y03 : σY 0 3 = 20 := rfl; have x122 : σX 12 2 = 0 := rfl; have y20 : σY 0 20 = 0 := rfl; have x010 : σX 0 10 = 0 := rfl; have y18 : σY 0 18 = 0 := rfl; have x488 : σX 48 8 = 0 := rfl; have y61 : σY 0 61 = 0 := rfl; have x09 : σX 0 9 = 0 := rfl; have y01 : σY 0 1 = 0 := rfl; have kx := kzx.2; have ky := kzy.2; omega
      exact l_icmp_eq (pc := 667) C (tgt := 1144) dL_law_667 (by decide) hx hy (fun _ => kend _) (fun h => absurd heq h)
  · refine l_iconst (pc := 635) C dL_law_635 ?_
    refine l_goto (pc := 636) C (tgt := 640) dL_law_636 (by decide) ?_
    refine l_callP (pc := 640) (SH := SHX) (ad := adx) (σ := σX) (wr := (hs_W SHY dA ady σY ++ wo)) C (c_X11_comes l (xs 1).toInt 1 ⟨by have := hs_oR (xs 1); omega, by have := hs_oR (xs 1); omega⟩ (by omega)) [vI (xs 1).toInt, vI 1] [] rfl rfl rfl dL_law_640 wlL_80 wiX11_comes weX11_comes wcX11_comes wnX11 noX11_comes (by decide) (by decide) (Nat.le_of_ble_eq_true rfl) (by decide) (by decide) rfl rfl gx0 ?_
    rintro _ σ1 ⟨zx, rfl, kzx⟩
    show hs_Wn p l e room_1 s m #[Value.ref b] below meth c D A 7 Q 643 [(4, vI 0), (3, .ref qo), (2, .ref (ady 0)), (1, .ref (adx 0)), (0, .ref b)] [vI zx] (hs_W SHX dA adx σ1 ++ (hs_W SHY dA ady σY ++ wo)) 96 12449
    refine l_aload_n (pc := 643) C dL_law_643 2 rfl ?_
    refine l_aload_n (pc := 644) C dL_law_644 4 rfl ?_
    refine l_iload (pc := 645) C dL_law_645 0 rfl ?_
    refine l_iconst (pc := 647) C dL_law_647 ?_
    refine l_iadd (pc := 648) C dL_law_648 ?_
    refine l_sld (pc := 649) C 1 dL_law_649 (by decide) (by decide) (by omega) (by omega) ?_
    refine l_aload_n (pc := 650) C dL_law_650 4 rfl ?_
    refine l_iload (pc := 651) C dL_law_651 0 rfl ?_
    refine l_iconst (pc := 653) C dL_law_653 ?_
    refine l_iadd (pc := 654) C dL_law_654 ?_
    refine l_sld (pc := 655) C 2 dL_law_655 (by decide) (by decide) (by omega) (by omega) ?_
    refine l_if_eq (pc := 656) C (tgt := 663) dL_law_656 (by decide) ⟨by have := hs_oR (xs 2); omega, by have := hs_oR (xs 2); omega⟩ (fun _ => ?_) (fun _ => ?_)
    · refine l_iconst (pc := 663) C dL_law_663 ?_
      refine l_swap C (w1 := hs_W SHX dA adx σ1) (w2 := hs_W SHY dA ady σY) (w3 := wo) rfl ?_
      refine l_callP (pc := 664) (SH := SHY) (ad := ady) (σ := σY) (wr := (wo ++ hs_W SHX dA adx σ1)) C (c_X12_comes l (xs 1).toInt 0 ⟨by have := hs_oR (xs 1); omega, by have := hs_oR (xs 1); omega⟩ (by omega)) [vI (xs 1).toInt, vI 0] [vI zx] rfl rfl rfl dL_law_664 wlL_84 wiX12_comes weX12_comes wcX12_comes wnX12 noX12_comes (by decide) (by decide) (Nat.le_of_ble_eq_true rfl) (by decide) (by decide) rfl rfl gy0 ?_
      rintro _ σ2 ⟨zy, rfl, kzy⟩
      show hs_Wn p l e room_1 s m #[Value.ref b] below meth c D A 7 Q 667 [(4, vI 0), (3, .ref qo), (2, .ref (ady 0)), (1, .ref (adx 0)), (0, .ref b)] [vI zy, vI zx] (hs_W SHY dA ady σ2 ++ (wo ++ hs_W SHX dA adx σ1)) 96 12449
      have hx : hs_R zx := by have x34 : σX 3 4 = 0 := rfl; have y06 : σY 0 6 = 0 := rfl; have x22 : σX 2 2 = 0 := rfl; have y17 : σY 0 17 = 0 := rfl; have x33 : σX 3 3 = 20 := rfl; have y03 : σY 0 3 = 20 := rfl; have x122 : σX 12 2 = 0 := rfl; have y20 : σY 0 20 = 0 := rfl; have x010 : σX 0 10 = 0 := rfl; have y18 : σY 0 18 = 0 := rfl; have x488 : σX 48 8 = 0 := rfl; have y61 : σY 0 61 = 0 := rfl; have x09 : σX 0 9 = 0 := rfl; have y01 : σY 0 1 = 0 := rfl; have kx := kzx.2; exact ⟨by omega, by omega⟩
      have hy : hs_R zy := by have x34 : σX 3 4 = 0 := rfl; have y06 : σY 0 6 = 0 := rfl; have x22 : σX 2 2 = 0 := rfl; have y17 : σY 0 17 = 0 := rfl; have x33 : σX 3 3 = 20 := rfl; have y03 : σY 0 3 = 20 := rfl; have x122 : σX 12 2 = 0 := rfl; have y20 : σY 0 20 = 0 := rfl; have x010 : σX 0 10 = 0 := rfl; have y18 : σY 0 18 = 0 := rfl; have x488 : σX 48 8 = 0 := rfl; have y61 : σY 0 61 = 0 := rfl; have x09 : σX 0 9 = 0 := rfl; have y01 : σY 0 1 = 0 := rfl; have ky := kzy.2; exact ⟨by omega, by omega⟩
      have heq : zx = zy := by have x34 : σX 3 4 = 0 := rfl; have y06 : σY 0 6 = 0 := rfl; have x22 : σX 2 2 = 0 := rfl; have y17 : σY 0 17 = 0 := rfl; have x33 : σX 3 3 = 20 := rfl; have y03 : σY 0 3 = 20 := rfl; have x122 : σX 12 2 = 0 := rfl; have y20 : σY 0 20 = 0 := rfl; have x010 : σX 0 10 = 0 := rfl; have y18 : σY 0 18 = 0 := rfl; have x488 : σX 48 8 = 0 := rfl; have y61 : σY 0 61 = 0 := rfl; have x09 : σX 0 9 = 0 := rfl; have y01 : σY 0 1 = 0 := rfl; have kx := kzx.2; have ky := kzy.2; omega
      exact l_icmp_eq (pc := 667) C (tgt := 1144) dL_law_667 (by decide) hx hy (fun _ => kend _) (fun h => absurd heq h)
    · refine l_iconst (pc := 659) C dL_law_659 ?_
      refine l_goto (pc := 660) C (tgt := 664) dL_law_660 (by decide) ?_
      refine l_swap C (w1 := hs_W SHX dA adx σ1) (w2 := hs_W SHY dA ady σY) (w3 := wo) rfl ?_
      refine l_callP (pc := 664) (SH := SHY) (ad := ady) (σ := σY) (wr := (wo ++ hs_W SHX dA adx σ1)) C (c_X12_comes l (xs 1).toInt 1 ⟨by have := hs_oR (xs 1); omega, by have := hs_oR (xs 1); omega⟩ (by omega)) [vI (xs 1).toInt, vI 1] [vI zx] rfl rfl rfl dL_law_664 wlL_84 wiX12_comes weX12_comes wcX12_comes wnX12 noX12_comes (by decide) (by decide) (Nat.le_of_ble_eq_true rfl) (by decide) (by decide) rfl rfl gy0 ?_
      rintro _ σ2 ⟨zy, rfl, kzy⟩
      show hs_Wn p l e room_1 s m #[Value.ref b] below meth c D A 7 Q 667 [(4, vI 0), (3, .ref qo), (2, .ref (ady 0)), (1, .ref (adx 0)), (0, .ref b)] [vI zy, vI zx] (hs_W SHY dA ady σ2 ++ (wo ++ hs_W SHX dA adx σ1)) 96 12449
      have hx : hs_R zx := by have x34 : σX 3 4 = 0 := rfl; have y06 : σY 0 6 = 0 := rfl; have x22 : σX 2 2 = 0 := rfl; have y17 : σY 0 17 = 0 := rfl; have x33 : σX 3 3 = 20 := rfl; have y03 : σY 0 3 = 20 := rfl; have x122 : σX 12 2 = 0 := rfl; have y20 : σY 0 20 = 0 := rfl; have x010 : σX 0 10 = 0 := rfl; have y18 : σY 0 18 = 0 := rfl; have x488 : σX 48 8 = 0 := rfl; have y61 : σY 0 61 = 0 := rfl; have x09 : σX 0 9 = 0 := rfl; have y01 : σY 0 1 = 0 := rfl; have kx := kzx.2; exact ⟨by omega, by omega⟩
      have hy : hs_R zy := by have x34 : σX 3 4 = 0 := rfl; have y06 : σY 0 6 = 0 := rfl; have x22 : σX 2 2 = 0 := rfl; have y17 : σY 0 17 = 0 := rfl; have x33 : σX 3 3 = 20 := rfl; have y03 : σY 0 3 = 20 := rfl; have x122 : σX 12 2 = 0 := rfl; have y20 : σY 0 20 = 0 := rfl; have x010 : σX 0 10 = 0 := rfl; have y18 : σY 0 18 = 0 := rfl; have x488 : σX 48 8 = 0 := rfl; have y61 : σY 0 61 = 0 := rfl; have x09 : σX 0 9 = 0 := rfl; have y01 : σY 0 1 = 0 := rfl; have ky := kzy.2; exact ⟨by omega, by omega⟩
      have heq : zx = zy := by have x34 : σX 3 4 = 0 := rfl; have y06 : σY 0 6 = 0 := rfl; have x22 : σX 2 2 = 0 := rfl; have y17 : σY 0 17 = 0 := rfl; have x33 : σX 3 3 = 20 := rfl; have y03 : σY 0 3 = 20 := rfl; have x122 : σX 12 2 = 0 := rfl; have y20 : σY 0 20 = 0 := rfl; have x010 : σX 0 10 = 0 := rfl; have y18 : σY 0 18 = 0 := rfl; have x488 : σX 48 8 = 0 := rfl; have y61 : σY 0 61 = 0 := rfl; have x09 : σX 0 9 = 0 := rfl; have y01 : σY 0 1 = 0 := rfl; have kx := kzx.2; have ky := kzy.2; omega
      exact l_icmp_eq (pc := 667) C (tgt := 1144) dL_law_667 (by decide) hx hy (fun _ => kend _) (fun h => absurd heq h)
set_option maxHeartbeats 4000000 in
set_option maxRecDepth 100000 in
theorem a_change {p : Program} {e : Env} {s : State} {m : MethodId} {below : List Frame} {meth : Method} {c : Code} {l : Launch} {b L : Nat} {xs : Nat → Int32} {D : va_G} {dA : Nat → ClassId} {A : Nat → Prop} {Q : State → Prop} {adx ady : Nat → Nat} {qo : Nat} {wo : va_W} (hL : L = 8) (C : hs_Cl p s m b L xs meth c D dA A) (kend : ∀ ws : va_W, hs_Wn p l e room_1 s m #[Value.ref b] below meth c D A 7 Q 1144 [(4, vI 0), (3, .ref qo), (2, .ref (ady 0)), (1, .ref (adx 0)), (0, .ref b)] [] ws 96 12449) : hs_Wn p l e room_1 s m #[Value.ref b] below meth c D A 7 Q 672 [(4, vI 0), (3, .ref qo), (2, .ref (ady 0)), (1, .ref (adx 0)), (0, .ref b)] [] (hs_W SHX dA adx σX ++ (hs_W SHY dA ady σY ++ wo)) 96 12449 := by
  refine l_aload_n (pc := 672) C dL_law_672 3 rfl ?_
  refine l_aload_n (pc := 673) C dL_law_673 4 rfl ?_
  refine l_iload (pc := 674) C dL_law_674 0 rfl ?_
  refine l_iconst (pc := 676) C dL_law_676 ?_
  refine l_iadd (pc := 677) C dL_law_677 ?_
  refine l_sld (pc := 678) C 1 dL_law_678 (by decide) (by decide) (by omega) (by omega) ?_
  refine l_aload_n (pc := 679) C dL_law_679 4 rfl ?_
  refine l_iload (pc := 680) C dL_law_680 0 rfl ?_
  refine l_iconst (pc := 682) C dL_law_682 ?_
  refine l_iadd (pc := 683) C dL_law_683 ?_
  refine l_sld (pc := 684) C 2 dL_law_684 (by decide) (by decide) (by omega) (by omega) ?_
  refine l_callP (pc := 685) (SH := SHX) (ad := adx) (σ := σX) (wr := (hs_W SHY dA ady σY ++ wo)) C (c_X11_change l (xs 1).toInt ⟨by have := hs_oR (xs 1); omega, by have := hs_oR (xs 1); omega⟩ (xs 2).toInt ⟨by have := hs_oR (xs 2); omega, by have := hs_oR (xs 2); omega⟩) [vI (xs 1).toInt, vI (xs 2).toInt] [] rfl rfl rfl dL_law_685 wlL_85 wiX11_change weX11_change wcX11_change wnX11 noX11_change (by decide) (by decide) (Nat.le_of_ble_eq_true rfl) (by decide) (by decide) rfl rfl gx0 ?_
  rintro _ σ1 ⟨zx, rfl, kzx⟩
  show hs_Wn p l e room_1 s m #[Value.ref b] below meth c D A 7 Q 688 [(4, vI 0), (3, .ref qo), (2, .ref (ady 0)), (1, .ref (adx 0)), (0, .ref b)] [vI zx] (hs_W SHX dA adx σ1 ++ (hs_W SHY dA ady σY ++ wo)) 96 12449
  refine l_aload_n (pc := 688) C dL_law_688 2 rfl ?_
  refine l_aload_n (pc := 689) C dL_law_689 4 rfl ?_
  refine l_iload (pc := 690) C dL_law_690 0 rfl ?_
  refine l_iconst (pc := 692) C dL_law_692 ?_
  refine l_iadd (pc := 693) C dL_law_693 ?_
  refine l_sld (pc := 694) C 1 dL_law_694 (by decide) (by decide) (by omega) (by omega) ?_
  refine l_aload_n (pc := 695) C dL_law_695 4 rfl ?_
  refine l_iload (pc := 696) C dL_law_696 0 rfl ?_
  refine l_iconst (pc := 698) C dL_law_698 ?_
  refine l_iadd (pc := 699) C dL_law_699 ?_
  refine l_sld (pc := 700) C 2 dL_law_700 (by decide) (by decide) (by omega) (by omega) ?_
  refine l_swap C (w1 := hs_W SHX dA adx σ1) (w2 := hs_W SHY dA ady σY) (w3 := wo) rfl ?_
  refine l_callP (pc := 701) (SH := SHY) (ad := ady) (σ := σY) (wr := (wo ++ hs_W SHX dA adx σ1)) C (c_X12_change l (xs 1).toInt ⟨by have := hs_oR (xs 1); omega, by have := hs_oR (xs 1); omega⟩ (xs 2).toInt ⟨by have := hs_oR (xs 2); omega, by have := hs_oR (xs 2); omega⟩) [vI (xs 1).toInt, vI (xs 2).toInt] [vI zx] rfl rfl rfl dL_law_701 wlL_88 wiX12_change weX12_change wcX12_change wnX12 noX12_change (by decide) (by decide) (Nat.le_of_ble_eq_true rfl) (by decide) (by decide) rfl rfl gy0 ?_
  rintro _ σ2 ⟨zy, rfl, kzy⟩
  show hs_Wn p l e room_1 s m #[Value.ref b] below meth c D A 7 Q 704 [(4, vI 0), (3, .ref qo), (2, .ref (ady 0)), (1, .ref (adx 0)), (0, .ref b)] [vI zy, vI zx] (hs_W SHY dA ady σ2 ++ (wo ++ hs_W SHX dA adx σ1)) 96 12449
  have hx : hs_R zx := by have x34 : σX 3 4 = 0 := rfl; have y06 : σY 0 6 = 0 := rfl; have x22 : σX 2 2 = 0 := rfl; have y17 : σY 0 17 = 0 := rfl; have x33 : σX 3 3 = 20 := rfl; have y03 : σY 0 3 = 20 := rfl; have x122 : σX 12 2 = 0 := rfl; have y20 : σY 0 20 = 0 := rfl; have x010 : σX 0 10 = 0 := rfl; have y18 : σY 0 18 = 0 := rfl; have x488 : σX 48 8 = 0 := rfl; have y61 : σY 0 61 = 0 := rfl; have x09 : σX 0 9 = 0 := rfl; have y01 : σY 0 1 = 0 := rfl; have kx := kzx.2; exact ⟨by omega, by omega⟩
  have hy : hs_R zy := by have x34 : σX 3 4 = 0 := rfl; have y06 : σY 0 6 = 0 := rfl; have x22 : σX 2 2 = 0 := rfl; have y17 : σY 0 17 = 0 := rfl; have x33 : σX 3 3 = 20 := rfl; have y03 : σY 0 3 = 20 := rfl; have x122 : σX 12 2 = 0 := rfl; have y20 : σY 0 20 = 0 := rfl; have x010 : σX 0 10 = 0 := rfl; have y18 : σY 0 18 = 0 := rfl; have x488 : σX 48 8 = 0 := rfl; have y61 : σY 0 61 = 0 := rfl; have x09 : σX 0 9 = 0 := rfl; have y01 : σY 0 1 = 0 := rfl; have ky := kzy.2; exact ⟨by omega, by omega⟩
  have heq : zx = zy := by have x34 : σX 3 4 = 0 := rfl; have y06 : σY 0 6 = 0 := rfl; have x22 : σX 2 2 = 0 := rfl; have y17 : σY 0 17 = 0 := rfl; have x33 : σX 3 3 = 20 := rfl; have y03 : σY 0 3 = 20 := rfl; have x122 : σX 12 2 = 0 := rfl; have y20 : σY 0 20 = 0 := rfl; have x010 : σX 0 10 = 0 := rfl; have y18 : σY 0 18 = 0 := rfl; have x488 : σX 48 8 = 0 := rfl; have y61 : σY 0 61 = 0 := rfl; have x09 : σX 0 9 = 0 := rfl; have y01 : σY 0 1 = 0 := rfl; have kx := kzx.2; have ky := kzy.2; omega
  refine l_icmp_eq (pc := 704) C (tgt := 1144) dL_law_704 (by decide) hx hy (fun _ => kend _) (fun h => absurd heq h)
set_option maxHeartbeats 4000000 in
set_option maxRecDepth 100000 in
theorem a_feel {p : Program} {e : Env} {s : State} {m : MethodId} {below : List Frame} {meth : Method} {c : Code} {l : Launch} {b L : Nat} {xs : Nat → Int32} {D : va_G} {dA : Nat → ClassId} {A : Nat → Prop} {Q : State → Prop} {adx ady : Nat → Nat} {qo : Nat} {wo : va_W} (hL : L = 8) (C : hs_Cl p s m b L xs meth c D dA A) (kend : ∀ ws : va_W, hs_Wn p l e room_1 s m #[Value.ref b] below meth c D A 7 Q 1144 [(4, vI 0), (3, .ref qo), (2, .ref (ady 0)), (1, .ref (adx 0)), (0, .ref b)] [] ws 96 12449) : hs_Wn p l e room_1 s m #[Value.ref b] below meth c D A 7 Q 709 [(4, vI 0), (3, .ref qo), (2, .ref (ady 0)), (1, .ref (adx 0)), (0, .ref b)] [] (hs_W SHX dA adx σX ++ (hs_W SHY dA ady σY ++ wo)) 96 12449 := by
  refine l_aload_n (pc := 709) C dL_law_709 3 rfl ?_
  refine l_aload_n (pc := 710) C dL_law_710 4 rfl ?_
  refine l_iload (pc := 711) C dL_law_711 0 rfl ?_
  refine l_iconst (pc := 713) C dL_law_713 ?_
  refine l_iadd (pc := 714) C dL_law_714 ?_
  refine l_sld (pc := 715) C 1 dL_law_715 (by decide) (by decide) (by omega) (by omega) ?_
  refine l_aload_n (pc := 716) C dL_law_716 4 rfl ?_
  refine l_iload (pc := 717) C dL_law_717 0 rfl ?_
  refine l_iconst (pc := 719) C dL_law_719 ?_
  refine l_iadd (pc := 720) C dL_law_720 ?_
  refine l_sld (pc := 721) C 2 dL_law_721 (by decide) (by decide) (by omega) (by omega) ?_
  refine l_callP (pc := 722) (SH := SHX) (ad := adx) (σ := σX) (wr := (hs_W SHY dA ady σY ++ wo)) C (c_X11_feel l (xs 1).toInt ⟨by have := hs_oR (xs 1); omega, by have := hs_oR (xs 1); omega⟩ (xs 2).toInt ⟨by have := hs_oR (xs 2); omega, by have := hs_oR (xs 2); omega⟩) [vI (xs 1).toInt, vI (xs 2).toInt] [] rfl rfl rfl dL_law_722 wlL_89 wiX11_feel weX11_feel wcX11_feel wnX11 noX11_feel (by decide) (by decide) (Nat.le_of_ble_eq_true rfl) (by decide) (by decide) rfl rfl gx0 ?_
  rintro _ σ1 ⟨zx, rfl, kzx⟩
  show hs_Wn p l e room_1 s m #[Value.ref b] below meth c D A 7 Q 725 [(4, vI 0), (3, .ref qo), (2, .ref (ady 0)), (1, .ref (adx 0)), (0, .ref b)] [vI zx] (hs_W SHX dA adx σ1 ++ (hs_W SHY dA ady σY ++ wo)) 96 12449
  refine l_aload_n (pc := 725) C dL_law_725 2 rfl ?_
  refine l_aload_n (pc := 726) C dL_law_726 4 rfl ?_
  refine l_iload (pc := 727) C dL_law_727 0 rfl ?_
  refine l_iconst (pc := 729) C dL_law_729 ?_
  refine l_iadd (pc := 730) C dL_law_730 ?_
  refine l_sld (pc := 731) C 1 dL_law_731 (by decide) (by decide) (by omega) (by omega) ?_
  refine l_aload_n (pc := 732) C dL_law_732 4 rfl ?_
  refine l_iload (pc := 733) C dL_law_733 0 rfl ?_
  refine l_iconst (pc := 735) C dL_law_735 ?_
  refine l_iadd (pc := 736) C dL_law_736 ?_
  refine l_sld (pc := 737) C 2 dL_law_737 (by decide) (by decide) (by omega) (by omega) ?_
  refine l_swap C (w1 := hs_W SHX dA adx σ1) (w2 := hs_W SHY dA ady σY) (w3 := wo) rfl ?_
  refine l_callP (pc := 738) (SH := SHY) (ad := ady) (σ := σY) (wr := (wo ++ hs_W SHX dA adx σ1)) C (c_X12_feel l (xs 1).toInt ⟨by have := hs_oR (xs 1); omega, by have := hs_oR (xs 1); omega⟩ (xs 2).toInt ⟨by have := hs_oR (xs 2); omega, by have := hs_oR (xs 2); omega⟩) [vI (xs 1).toInt, vI (xs 2).toInt] [vI zx] rfl rfl rfl dL_law_738 wlL_92 wiX12_feel weX12_feel wcX12_feel wnX12 noX12_feel (by decide) (by decide) (Nat.le_of_ble_eq_true rfl) (by decide) (by decide) rfl rfl gy0 ?_
  rintro _ σ2 ⟨zy, rfl, kzy⟩
  show hs_Wn p l e room_1 s m #[Value.ref b] below meth c D A 7 Q 741 [(4, vI 0), (3, .ref qo), (2, .ref (ady 0)), (1, .ref (adx 0)), (0, .ref b)] [vI zy, vI zx] (hs_W SHY dA ady σ2 ++ (wo ++ hs_W SHX dA adx σ1)) 96 12449
  have hx : hs_R zx := by have x34 : σX 3 4 = 0 := rfl; have y06 : σY 0 6 = 0 := rfl; have x22 : σX 2 2 = 0 := rfl; have y17 : σY 0 17 = 0 := rfl; have x33 : σX 3 3 = 20 := rfl; have y03 : σY 0 3 = 20 := rfl; have x122 : σX 12 2 = 0 := rfl; have y20 : σY 0 20 = 0 := rfl; have x010 : σX 0 10 = 0 := rfl; have y18 : σY 0 18 = 0 := rfl; have x488 : σX 48 8 = 0 := rfl; have y61 : σY 0 61 = 0 := rfl; have x09 : σX 0 9 = 0 := rfl; have y01 : σY 0 1 = 0 := rfl; have kx := kzx.2; exact ⟨by omega, by omega⟩
  have hy : hs_R zy := by have x34 : σX 3 4 = 0 := rfl; have y06 : σY 0 6 = 0 := rfl; have x22 : σX 2 2 = 0 := rfl; have y17 : σY 0 17 = 0 := rfl; have x33 : σX 3 3 = 20 := rfl; have y03 : σY 0 3 = 20 := rfl; have x122 : σX 12 2 = 0 := rfl; have y20 : σY 0 20 = 0 := rfl; have x010 : σX 0 10 = 0 := rfl; have y18 : σY 0 18 = 0 := rfl; have x488 : σX 48 8 = 0 := rfl; have y61 : σY 0 61 = 0 := rfl; have x09 : σX 0 9 = 0 := rfl; have y01 : σY 0 1 = 0 := rfl; have ky := kzy.2; exact ⟨by omega, by omega⟩
  have heq : zx = zy := by have x34 : σX 3 4 = 0 := rfl; have y06 : σY 0 6 = 0 := rfl; have x22 : σX 2 2 = 0 := rfl; have y17 : σY 0 17 = 0 := rfl; have x33 : σX 3 3 = 20 := rfl; have y03 : σY 0 3 = 20 := rfl; have x122 : σX 12 2 = 0 := rfl; have y20 : σY 0 20 = 0 := rfl; have x010 : σX 0 10 = 0 := rfl; have y18 : σY 0 18 = 0 := rfl; have x488 : σX 48 8 = 0 := rfl; have y61 : σY 0 61 = 0 := rfl; have x09 : σX 0 9 = 0 := rfl; have y01 : σY 0 1 = 0 := rfl; have kx := kzx.2; have ky := kzy.2; omega
  refine l_icmp_eq (pc := 741) C (tgt := 1144) dL_law_741 (by decide) hx hy (fun _ => kend _) (fun h => absurd heq h)
set_option maxHeartbeats 4000000 in
set_option maxRecDepth 100000 in
theorem a_doubt {p : Program} {e : Env} {s : State} {m : MethodId} {below : List Frame} {meth : Method} {c : Code} {l : Launch} {b L : Nat} {xs : Nat → Int32} {D : va_G} {dA : Nat → ClassId} {A : Nat → Prop} {Q : State → Prop} {adx ady : Nat → Nat} {qo : Nat} {wo : va_W} (hL : L = 8) (C : hs_Cl p s m b L xs meth c D dA A) (kend : ∀ ws : va_W, hs_Wn p l e room_1 s m #[Value.ref b] below meth c D A 7 Q 1144 [(4, vI 0), (3, .ref qo), (2, .ref (ady 0)), (1, .ref (adx 0)), (0, .ref b)] [] ws 96 12449) : hs_Wn p l e room_1 s m #[Value.ref b] below meth c D A 7 Q 746 [(4, vI 0), (3, .ref qo), (2, .ref (ady 0)), (1, .ref (adx 0)), (0, .ref b)] [] (hs_W SHX dA adx σX ++ (hs_W SHY dA ady σY ++ wo)) 96 12449 := by
  refine l_aload_n (pc := 746) C dL_law_746 3 rfl ?_
  refine l_aload_n (pc := 747) C dL_law_747 4 rfl ?_
  refine l_iload (pc := 748) C dL_law_748 0 rfl ?_
  refine l_iconst (pc := 750) C dL_law_750 ?_
  refine l_iadd (pc := 751) C dL_law_751 ?_
  refine l_sld (pc := 752) C 1 dL_law_752 (by decide) (by decide) (by omega) (by omega) ?_
  refine l_callP (pc := 753) (SH := SHX) (ad := adx) (σ := σX) (wr := (hs_W SHY dA ady σY ++ wo)) C (c_X11_doubt l (xs 1).toInt ⟨by have := hs_oR (xs 1); omega, by have := hs_oR (xs 1); omega⟩) [vI (xs 1).toInt] [] rfl rfl rfl dL_law_753 wlL_93 wiX11_doubt weX11_doubt wcX11_doubt wnX11 noX11_doubt (by decide) (by decide) (Nat.le_of_ble_eq_true rfl) (by decide) (by decide) rfl rfl gx0 ?_
  rintro _ σ1 ⟨zx, rfl, kzx⟩
  show hs_Wn p l e room_1 s m #[Value.ref b] below meth c D A 7 Q 756 [(4, vI 0), (3, .ref qo), (2, .ref (ady 0)), (1, .ref (adx 0)), (0, .ref b)] [vI zx] (hs_W SHX dA adx σ1 ++ (hs_W SHY dA ady σY ++ wo)) 96 12449
  refine l_aload_n (pc := 756) C dL_law_756 2 rfl ?_
  refine l_aload_n (pc := 757) C dL_law_757 4 rfl ?_
  refine l_iload (pc := 758) C dL_law_758 0 rfl ?_
  refine l_iconst (pc := 760) C dL_law_760 ?_
  refine l_iadd (pc := 761) C dL_law_761 ?_
  refine l_sld (pc := 762) C 1 dL_law_762 (by decide) (by decide) (by omega) (by omega) ?_
  refine l_swap C (w1 := hs_W SHX dA adx σ1) (w2 := hs_W SHY dA ady σY) (w3 := wo) rfl ?_
  refine l_callP (pc := 763) (SH := SHY) (ad := ady) (σ := σY) (wr := (wo ++ hs_W SHX dA adx σ1)) C (c_X12_doubt l (xs 1).toInt ⟨by have := hs_oR (xs 1); omega, by have := hs_oR (xs 1); omega⟩) [vI (xs 1).toInt] [vI zx] rfl rfl rfl dL_law_763 wlL_96 wiX12_doubt weX12_doubt wcX12_doubt wnX12 noX12_doubt (by decide) (by decide) (Nat.le_of_ble_eq_true rfl) (by decide) (by decide) rfl rfl gy0 ?_
  rintro _ σ2 ⟨zy, rfl, kzy⟩
  show hs_Wn p l e room_1 s m #[Value.ref b] below meth c D A 7 Q 766 [(4, vI 0), (3, .ref qo), (2, .ref (ady 0)), (1, .ref (adx 0)), (0, .ref b)] [vI zy, vI zx] (hs_W SHY dA ady σ2 ++ (wo ++ hs_W SHX dA adx σ1)) 96 12449
  have hx : hs_R zx := by have x34 : σX 3 4 = 0 := rfl; have y06 : σY 0 6 = 0 := rfl; have x22 : σX 2 2 = 0 := rfl; have y17 : σY 0 17 = 0 := rfl; have x33 : σX 3 3 = 20 := rfl; have y03 : σY 0 3 = 20 := rfl; have x122 : σX 12 2 = 0 := rfl; have y20 : σY 0 20 = 0 := rfl; have x010 : σX 0 10 = 0 := rfl; have y18 : σY 0 18 = 0 := rfl; have x488 : σX 48 8 = 0 := rfl; have y61 : σY 0 61 = 0 := rfl; have x09 : σX 0 9 = 0 := rfl; have y01 : σY 0 1 = 0 := rfl; have kx := kzx.2; exact ⟨by omega, by omega⟩
  have hy : hs_R zy := by have x34 : σX 3 4 = 0 := rfl; have y06 : σY 0 6 = 0 := rfl; have x22 : σX 2 2 = 0 := rfl; have y17 : σY 0 17 = 0 := rfl; have x33 : σX 3 3 = 20 := rfl; have y03 : σY 0 3 = 20 := rfl; have x122 : σX 12 2 = 0 := rfl; have y20 : σY 0 20 = 0 := rfl; have x010 : σX 0 10 = 0 := rfl; have y18 : σY 0 18 = 0 := rfl; have x488 : σX 48 8 = 0 := rfl; have y61 : σY 0 61 = 0 := rfl; have x09 : σX 0 9 = 0 := rfl; have y01 : σY 0 1 = 0 := rfl; have ky := kzy.2; exact ⟨by omega, by omega⟩
  have heq : zx = zy := by have x34 : σX 3 4 = 0 := rfl; have y06 : σY 0 6 = 0 := rfl; have x22 : σX 2 2 = 0 := rfl; have y17 : σY 0 17 = 0 := rfl; have x33 : σX 3 3 = 20 := rfl; have y03 : σY 0 3 = 20 := rfl; have x122 : σX 12 2 = 0 := rfl; have y20 : σY 0 20 = 0 := rfl; have x010 : σX 0 10 = 0 := rfl; have y18 : σY 0 18 = 0 := rfl; have x488 : σX 48 8 = 0 := rfl; have y61 : σY 0 61 = 0 := rfl; have x09 : σX 0 9 = 0 := rfl; have y01 : σY 0 1 = 0 := rfl; have kx := kzx.2; have ky := kzy.2; omega
  refine l_icmp_eq (pc := 766) C (tgt := 1144) dL_law_766 (by decide) hx hy (fun _ => kend _) (fun h => absurd heq h)
set_option maxHeartbeats 4000000 in
set_option maxRecDepth 100000 in
theorem a_may {p : Program} {e : Env} {s : State} {m : MethodId} {below : List Frame} {meth : Method} {c : Code} {l : Launch} {b L : Nat} {xs : Nat → Int32} {D : va_G} {dA : Nat → ClassId} {A : Nat → Prop} {Q : State → Prop} {adx ady : Nat → Nat} {qo : Nat} {wo : va_W} (hL : L = 8) (C : hs_Cl p s m b L xs meth c D dA A) (kend : ∀ ws : va_W, hs_Wn p l e room_1 s m #[Value.ref b] below meth c D A 7 Q 1144 [(4, vI 0), (3, .ref qo), (2, .ref (ady 0)), (1, .ref (adx 0)), (0, .ref b)] [] ws 96 12449) : hs_Wn p l e room_1 s m #[Value.ref b] below meth c D A 7 Q 771 [(4, vI 0), (3, .ref qo), (2, .ref (ady 0)), (1, .ref (adx 0)), (0, .ref b)] [] (hs_W SHX dA adx σX ++ (hs_W SHY dA ady σY ++ wo)) 96 12449 := by
  refine l_aload_n (pc := 771) C dL_law_771 3 rfl ?_
  refine l_aload_n (pc := 772) C dL_law_772 4 rfl ?_
  refine l_iload (pc := 773) C dL_law_773 0 rfl ?_
  refine l_iconst (pc := 775) C dL_law_775 ?_
  refine l_iadd (pc := 776) C dL_law_776 ?_
  refine l_sld (pc := 777) C 1 dL_law_777 (by decide) (by decide) (by omega) (by omega) ?_
  refine l_aload_n (pc := 778) C dL_law_778 4 rfl ?_
  refine l_iload (pc := 779) C dL_law_779 0 rfl ?_
  refine l_iconst (pc := 781) C dL_law_781 ?_
  refine l_iadd (pc := 782) C dL_law_782 ?_
  refine l_sld (pc := 783) C 2 dL_law_783 (by decide) (by decide) (by omega) (by omega) ?_
  refine l_callP (pc := 784) (SH := SHX) (ad := adx) (σ := σX) (wr := (hs_W SHY dA ady σY ++ wo)) C (c0_X11_may l (xs 1).toInt ⟨by have := hs_oR (xs 1); omega, by have := hs_oR (xs 1); omega⟩ (xs 2).toInt ⟨by have := hs_oR (xs 2); omega, by have := hs_oR (xs 2); omega⟩) [vI (xs 1).toInt, vI (xs 2).toInt] [] rfl rfl rfl dL_law_784 wlL_97 wiX11_may weX11_may wcX11_may wnX11 noX11_may (by decide) (by decide) (Nat.le_of_ble_eq_true rfl) (by decide) (by decide) rfl rfl ⟨gx0, rfl⟩ ?_
  rintro _ σ1 ⟨zx, rfl, kzx⟩
  show hs_Wn p l e room_1 s m #[Value.ref b] below meth c D A 7 Q 787 [(4, vI 0), (3, .ref qo), (2, .ref (ady 0)), (1, .ref (adx 0)), (0, .ref b)] [vI zx] (hs_W SHX dA adx σ1 ++ (hs_W SHY dA ady σY ++ wo)) 96 12449
  refine l_aload_n (pc := 787) C dL_law_787 2 rfl ?_
  refine l_aload_n (pc := 788) C dL_law_788 4 rfl ?_
  refine l_iload (pc := 789) C dL_law_789 0 rfl ?_
  refine l_iconst (pc := 791) C dL_law_791 ?_
  refine l_iadd (pc := 792) C dL_law_792 ?_
  refine l_sld (pc := 793) C 1 dL_law_793 (by decide) (by decide) (by omega) (by omega) ?_
  refine l_aload_n (pc := 794) C dL_law_794 4 rfl ?_
  refine l_iload (pc := 795) C dL_law_795 0 rfl ?_
  refine l_iconst (pc := 797) C dL_law_797 ?_
  refine l_iadd (pc := 798) C dL_law_798 ?_
  refine l_sld (pc := 799) C 2 dL_law_799 (by decide) (by decide) (by omega) (by omega) ?_
  refine l_swap C (w1 := hs_W SHX dA adx σ1) (w2 := hs_W SHY dA ady σY) (w3 := wo) rfl ?_
  refine l_callP (pc := 800) (SH := SHY) (ad := ady) (σ := σY) (wr := (wo ++ hs_W SHX dA adx σ1)) C (c0_X12_may l (xs 1).toInt ⟨by have := hs_oR (xs 1); omega, by have := hs_oR (xs 1); omega⟩ (xs 2).toInt ⟨by have := hs_oR (xs 2); omega, by have := hs_oR (xs 2); omega⟩) [vI (xs 1).toInt, vI (xs 2).toInt] [vI zx] rfl rfl rfl dL_law_800 wlL_100 wiX12_may weX12_may wcX12_may wnX12 noX12_may (by decide) (by decide) (Nat.le_of_ble_eq_true rfl) (by decide) (by decide) rfl rfl ⟨gy0, rfl⟩ ?_
  rintro _ σ2 ⟨zy, rfl, kzy⟩
  show hs_Wn p l e room_1 s m #[Value.ref b] below meth c D A 7 Q 803 [(4, vI 0), (3, .ref qo), (2, .ref (ady 0)), (1, .ref (adx 0)), (0, .ref b)] [vI zy, vI zx] (hs_W SHY dA ady σ2 ++ (wo ++ hs_W SHX dA adx σ1)) 96 12449
  have hx : hs_R zx := by rw [← kzx.2]; exact ⟨by decide, by decide⟩
  have hy : hs_R zy := by rw [← kzy.2]; exact ⟨by decide, by decide⟩
  have heq : zx = zy := kzx.2.symm.trans kzy.2
  refine l_icmp_eq (pc := 803) C (tgt := 1144) dL_law_803 (by decide) hx hy (fun _ => kend _) (fun h => absurd heq h)
set_option maxHeartbeats 4000000 in
set_option maxRecDepth 100000 in
theorem a_cover {p : Program} {e : Env} {s : State} {m : MethodId} {below : List Frame} {meth : Method} {c : Code} {l : Launch} {b L : Nat} {xs : Nat → Int32} {D : va_G} {dA : Nat → ClassId} {A : Nat → Prop} {Q : State → Prop} {adx ady : Nat → Nat} {qo : Nat} {wo : va_W} (hL : L = 8) (C : hs_Cl p s m b L xs meth c D dA A) (kend : ∀ ws : va_W, hs_Wn p l e room_1 s m #[Value.ref b] below meth c D A 7 Q 1144 [(4, vI 0), (3, .ref qo), (2, .ref (ady 0)), (1, .ref (adx 0)), (0, .ref b)] [] ws 96 12449) : hs_Wn p l e room_1 s m #[Value.ref b] below meth c D A 7 Q 808 [(4, vI 0), (3, .ref qo), (2, .ref (ady 0)), (1, .ref (adx 0)), (0, .ref b)] [] (hs_W SHX dA adx σX ++ (hs_W SHY dA ady σY ++ wo)) 96 12449 := by
  refine l_aload_n (pc := 808) C dL_law_808 3 rfl ?_
  refine l_aload_n (pc := 809) C dL_law_809 4 rfl ?_
  refine l_iload (pc := 810) C dL_law_810 0 rfl ?_
  refine l_iconst (pc := 812) C dL_law_812 ?_
  refine l_iadd (pc := 813) C dL_law_813 ?_
  refine l_sld (pc := 814) C 1 dL_law_814 (by decide) (by decide) (by omega) (by omega) ?_
  refine l_aload_n (pc := 815) C dL_law_815 4 rfl ?_
  refine l_iload (pc := 816) C dL_law_816 0 rfl ?_
  refine l_iconst (pc := 818) C dL_law_818 ?_
  refine l_iadd (pc := 819) C dL_law_819 ?_
  refine l_sld (pc := 820) C 2 dL_law_820 (by decide) (by decide) (by omega) (by omega) ?_
  refine l_callP (pc := 821) (SH := SHX) (ad := adx) (σ := σX) (wr := (hs_W SHY dA ady σY ++ wo)) C (c0_X11_cover l (xs 1).toInt ⟨by have := hs_oR (xs 1); omega, by have := hs_oR (xs 1); omega⟩ (xs 2).toInt ⟨by have := hs_oR (xs 2); omega, by have := hs_oR (xs 2); omega⟩) [vI (xs 1).toInt, vI (xs 2).toInt] [] rfl rfl rfl dL_law_821 wlL_101 wiX11_cover weX11_cover wcX11_cover wnX11 noX11_cover (by decide) (by decide) (Nat.le_of_ble_eq_true rfl) (by decide) (by decide) rfl rfl ⟨gx0, rfl⟩ ?_
  rintro _ σ1 ⟨zx, rfl, kzx⟩
  show hs_Wn p l e room_1 s m #[Value.ref b] below meth c D A 7 Q 824 [(4, vI 0), (3, .ref qo), (2, .ref (ady 0)), (1, .ref (adx 0)), (0, .ref b)] [vI zx] (hs_W SHX dA adx σ1 ++ (hs_W SHY dA ady σY ++ wo)) 96 12449
  refine l_aload_n (pc := 824) C dL_law_824 2 rfl ?_
  refine l_aload_n (pc := 825) C dL_law_825 4 rfl ?_
  refine l_iload (pc := 826) C dL_law_826 0 rfl ?_
  refine l_iconst (pc := 828) C dL_law_828 ?_
  refine l_iadd (pc := 829) C dL_law_829 ?_
  refine l_sld (pc := 830) C 1 dL_law_830 (by decide) (by decide) (by omega) (by omega) ?_
  refine l_aload_n (pc := 831) C dL_law_831 4 rfl ?_
  refine l_iload (pc := 832) C dL_law_832 0 rfl ?_
  refine l_iconst (pc := 834) C dL_law_834 ?_
  refine l_iadd (pc := 835) C dL_law_835 ?_
  refine l_sld (pc := 836) C 2 dL_law_836 (by decide) (by decide) (by omega) (by omega) ?_
  refine l_swap C (w1 := hs_W SHX dA adx σ1) (w2 := hs_W SHY dA ady σY) (w3 := wo) rfl ?_
  refine l_callP (pc := 837) (SH := SHY) (ad := ady) (σ := σY) (wr := (wo ++ hs_W SHX dA adx σ1)) C (c0_X12_cover l (xs 1).toInt ⟨by have := hs_oR (xs 1); omega, by have := hs_oR (xs 1); omega⟩ (xs 2).toInt ⟨by have := hs_oR (xs 2); omega, by have := hs_oR (xs 2); omega⟩) [vI (xs 1).toInt, vI (xs 2).toInt] [vI zx] rfl rfl rfl dL_law_837 wlL_104 wiX12_cover weX12_cover wcX12_cover wnX12 noX12_cover (by decide) (by decide) (Nat.le_of_ble_eq_true rfl) (by decide) (by decide) rfl rfl ⟨gy0, rfl⟩ ?_
  rintro _ σ2 ⟨zy, rfl, kzy⟩
  show hs_Wn p l e room_1 s m #[Value.ref b] below meth c D A 7 Q 840 [(4, vI 0), (3, .ref qo), (2, .ref (ady 0)), (1, .ref (adx 0)), (0, .ref b)] [vI zy, vI zx] (hs_W SHY dA ady σ2 ++ (wo ++ hs_W SHX dA adx σ1)) 96 12449
  have hx : hs_R zx := by rw [← kzx.2]; exact ⟨by decide, by decide⟩
  have hy : hs_R zy := by rw [← kzy.2]; exact ⟨by decide, by decide⟩
  have heq : zx = zy := kzx.2.symm.trans kzy.2
  refine l_icmp_eq (pc := 840) C (tgt := 1144) dL_law_840 (by decide) hx hy (fun _ => kend _) (fun h => absurd heq h)
set_option maxHeartbeats 4000000 in
set_option maxRecDepth 100000 in
theorem a_seek {p : Program} {e : Env} {s : State} {m : MethodId} {below : List Frame} {meth : Method} {c : Code} {l : Launch} {b L : Nat} {xs : Nat → Int32} {D : va_G} {dA : Nat → ClassId} {A : Nat → Prop} {Q : State → Prop} {adx ady : Nat → Nat} {qo : Nat} {wo : va_W} (hL : L = 8) (C : hs_Cl p s m b L xs meth c D dA A) (kend : ∀ ws : va_W, hs_Wn p l e room_1 s m #[Value.ref b] below meth c D A 7 Q 1144 [(4, vI 0), (3, .ref qo), (2, .ref (ady 0)), (1, .ref (adx 0)), (0, .ref b)] [] ws 96 12449) : hs_Wn p l e room_1 s m #[Value.ref b] below meth c D A 7 Q 845 [(4, vI 0), (3, .ref qo), (2, .ref (ady 0)), (1, .ref (adx 0)), (0, .ref b)] [] (hs_W SHX dA adx σX ++ (hs_W SHY dA ady σY ++ wo)) 96 12449 := by
  refine l_aload_n (pc := 845) C dL_law_845 3 rfl ?_
  refine l_aload_n (pc := 846) C dL_law_846 4 rfl ?_
  refine l_iload (pc := 847) C dL_law_847 0 rfl ?_
  refine l_iconst (pc := 849) C dL_law_849 ?_
  refine l_iadd (pc := 850) C dL_law_850 ?_
  refine l_sld (pc := 851) C 1 dL_law_851 (by decide) (by decide) (by omega) (by omega) ?_
  refine l_callP (pc := 852) (SH := SHX) (ad := adx) (σ := σX) (wr := (hs_W SHY dA ady σY ++ wo)) C (c0_X11_seek l (xs 1).toInt ⟨by have := hs_oR (xs 1); omega, by have := hs_oR (xs 1); omega⟩) [vI (xs 1).toInt] [] rfl rfl rfl dL_law_852 wlL_105 wiX11_seek weX11_seek wcX11_seek wnX11 noX11_seek (by decide) (by decide) (Nat.le_of_ble_eq_true rfl) (by decide) (by decide) rfl rfl ⟨gx0, rfl⟩ ?_
  rintro _ σ1 ⟨zx, rfl, kzx⟩
  show hs_Wn p l e room_1 s m #[Value.ref b] below meth c D A 7 Q 855 [(4, vI 0), (3, .ref qo), (2, .ref (ady 0)), (1, .ref (adx 0)), (0, .ref b)] [vL zx] (hs_W SHX dA adx σ1 ++ (hs_W SHY dA ady σY ++ wo)) 96 12449
  refine l_aload_n (pc := 855) C dL_law_855 2 rfl ?_
  refine l_aload_n (pc := 856) C dL_law_856 4 rfl ?_
  refine l_iload (pc := 857) C dL_law_857 0 rfl ?_
  refine l_iconst (pc := 859) C dL_law_859 ?_
  refine l_iadd (pc := 860) C dL_law_860 ?_
  refine l_sld (pc := 861) C 1 dL_law_861 (by decide) (by decide) (by omega) (by omega) ?_
  refine l_swap C (w1 := hs_W SHX dA adx σ1) (w2 := hs_W SHY dA ady σY) (w3 := wo) rfl ?_
  refine l_callP (pc := 862) (SH := SHY) (ad := ady) (σ := σY) (wr := (wo ++ hs_W SHX dA adx σ1)) C (c0_X12_seek l (xs 1).toInt ⟨by have := hs_oR (xs 1); omega, by have := hs_oR (xs 1); omega⟩) [vI (xs 1).toInt] [vL zx] rfl rfl rfl dL_law_862 wlL_109 wiX12_seek weX12_seek wcX12_seek wnX12 noX12_seek (by decide) (by decide) (Nat.le_of_ble_eq_true rfl) (by decide) (by decide) rfl rfl ⟨gy0, rfl⟩ ?_
  rintro _ σ2 ⟨zy, rfl, kzy⟩
  show hs_Wn p l e room_1 s m #[Value.ref b] below meth c D A 7 Q 865 [(4, vI 0), (3, .ref qo), (2, .ref (ady 0)), (1, .ref (adx 0)), (0, .ref b)] [vL zy, vL zx] (hs_W SHY dA ady σ2 ++ (wo ++ hs_W SHX dA adx σ1)) 96 12449
  have hx : hs_RL zx := by rw [← kzx.2]; exact ⟨by decide, by decide⟩
  have hy : hs_RL zy := by rw [← kzy.2]; exact ⟨by decide, by decide⟩
  have heq : zx = zy := kzx.2.symm.trans kzy.2
  refine l_lcmp (pc := 865) C dL_law_865 hx hy (fun z hz ez => ?_)
  refine l_if_eq (pc := 866) C (tgt := 1144) dL_law_866 (by decide) hz (fun _ => kend _) (fun h => absurd (ez.mpr heq) h)
set_option maxHeartbeats 4000000 in
set_option maxRecDepth 100000 in
theorem a_best {p : Program} {e : Env} {s : State} {m : MethodId} {below : List Frame} {meth : Method} {c : Code} {l : Launch} {b L : Nat} {xs : Nat → Int32} {D : va_G} {dA : Nat → ClassId} {A : Nat → Prop} {Q : State → Prop} {adx ady : Nat → Nat} {qo : Nat} {wo : va_W} (hL : L = 8) (C : hs_Cl p s m b L xs meth c D dA A) (kend : ∀ ws : va_W, hs_Wn p l e room_1 s m #[Value.ref b] below meth c D A 7 Q 1144 [(4, vI 0), (3, .ref qo), (2, .ref (ady 0)), (1, .ref (adx 0)), (0, .ref b)] [] ws 96 12449) : hs_Wn p l e room_1 s m #[Value.ref b] below meth c D A 7 Q 871 [(4, vI 0), (3, .ref qo), (2, .ref (ady 0)), (1, .ref (adx 0)), (0, .ref b)] [] (hs_W SHX dA adx σX ++ (hs_W SHY dA ady σY ++ wo)) 96 12449 := by
  refine l_aload_n (pc := 871) C dL_law_871 3 rfl ?_
  refine l_aload_n (pc := 872) C dL_law_872 4 rfl ?_
  refine l_iload (pc := 873) C dL_law_873 0 rfl ?_
  refine l_iconst (pc := 875) C dL_law_875 ?_
  refine l_iadd (pc := 876) C dL_law_876 ?_
  refine l_sld (pc := 877) C 1 dL_law_877 (by decide) (by decide) (by omega) (by omega) ?_
  refine l_callP (pc := 878) (SH := SHX) (ad := adx) (σ := σX) (wr := (hs_W SHY dA ady σY ++ wo)) C (c0_X11_best l (xs 1).toInt ⟨by have := hs_oR (xs 1); omega, by have := hs_oR (xs 1); omega⟩) [vI (xs 1).toInt] [] rfl rfl rfl dL_law_878 wlL_110 wiX11_best weX11_best wcX11_best wnX11 noX11_best (by decide) (by decide) (Nat.le_of_ble_eq_true rfl) (by decide) (by decide) rfl rfl ⟨gx0, rfl⟩ ?_
  rintro _ σ1 ⟨zx, rfl, kzx⟩
  show hs_Wn p l e room_1 s m #[Value.ref b] below meth c D A 7 Q 881 [(4, vI 0), (3, .ref qo), (2, .ref (ady 0)), (1, .ref (adx 0)), (0, .ref b)] [vL zx] (hs_W SHX dA adx σ1 ++ (hs_W SHY dA ady σY ++ wo)) 96 12449
  refine l_aload_n (pc := 881) C dL_law_881 2 rfl ?_
  refine l_aload_n (pc := 882) C dL_law_882 4 rfl ?_
  refine l_iload (pc := 883) C dL_law_883 0 rfl ?_
  refine l_iconst (pc := 885) C dL_law_885 ?_
  refine l_iadd (pc := 886) C dL_law_886 ?_
  refine l_sld (pc := 887) C 1 dL_law_887 (by decide) (by decide) (by omega) (by omega) ?_
  refine l_swap C (w1 := hs_W SHX dA adx σ1) (w2 := hs_W SHY dA ady σY) (w3 := wo) rfl ?_
  refine l_callP (pc := 888) (SH := SHY) (ad := ady) (σ := σY) (wr := (wo ++ hs_W SHX dA adx σ1)) C (c0_X12_best l (xs 1).toInt ⟨by have := hs_oR (xs 1); omega, by have := hs_oR (xs 1); omega⟩) [vI (xs 1).toInt] [vL zx] rfl rfl rfl dL_law_888 wlL_113 wiX12_best weX12_best wcX12_best wnX12 noX12_best (by decide) (by decide) (Nat.le_of_ble_eq_true rfl) (by decide) (by decide) rfl rfl ⟨gy0, rfl⟩ ?_
  rintro _ σ2 ⟨zy, rfl, kzy⟩
  show hs_Wn p l e room_1 s m #[Value.ref b] below meth c D A 7 Q 891 [(4, vI 0), (3, .ref qo), (2, .ref (ady 0)), (1, .ref (adx 0)), (0, .ref b)] [vL zy, vL zx] (hs_W SHY dA ady σ2 ++ (wo ++ hs_W SHX dA adx σ1)) 96 12449
  have hx : hs_RL zx := by rw [← kzx.2]; exact ⟨by decide, by decide⟩
  have hy : hs_RL zy := by rw [← kzy.2]; exact ⟨by decide, by decide⟩
  have heq : zx = zy := kzx.2.symm.trans kzy.2
  refine l_lcmp (pc := 891) C dL_law_891 hx hy (fun z hz ez => ?_)
  refine l_if_eq (pc := 892) C (tgt := 1144) dL_law_892 (by decide) hz (fun _ => kend _) (fun h => absurd (ez.mpr heq) h)
set_option maxHeartbeats 4000000 in
set_option maxRecDepth 100000 in
theorem a_days {p : Program} {e : Env} {s : State} {m : MethodId} {below : List Frame} {meth : Method} {c : Code} {l : Launch} {b L : Nat} {xs : Nat → Int32} {D : va_G} {dA : Nat → ClassId} {A : Nat → Prop} {Q : State → Prop} {adx ady : Nat → Nat} {qo : Nat} {wo : va_W} (hL : L = 8) (C : hs_Cl p s m b L xs meth c D dA A) (kend : ∀ ws : va_W, hs_Wn p l e room_1 s m #[Value.ref b] below meth c D A 7 Q 1144 [(4, vI 0), (3, .ref qo), (2, .ref (ady 0)), (1, .ref (adx 0)), (0, .ref b)] [] ws 96 12449) : hs_Wn p l e room_1 s m #[Value.ref b] below meth c D A 7 Q 897 [(4, vI 0), (3, .ref qo), (2, .ref (ady 0)), (1, .ref (adx 0)), (0, .ref b)] [] (hs_W SHX dA adx σX ++ (hs_W SHY dA ady σY ++ wo)) 96 12449 := by
  refine l_aload_n (pc := 897) C dL_law_897 3 rfl ?_
  refine l_aload_n (pc := 898) C dL_law_898 4 rfl ?_
  refine l_iload (pc := 899) C dL_law_899 0 rfl ?_
  refine l_iconst (pc := 901) C dL_law_901 ?_
  refine l_iadd (pc := 902) C dL_law_902 ?_
  refine l_sld (pc := 903) C 1 dL_law_903 (by decide) (by decide) (by omega) (by omega) ?_
  refine l_callP (pc := 904) (SH := SHX) (ad := adx) (σ := σX) (wr := (hs_W SHY dA ady σY ++ wo)) C (c_X11_days l (xs 1).toInt ⟨by have := hs_oR (xs 1); omega, by have := hs_oR (xs 1); omega⟩) [vI (xs 1).toInt] [] rfl rfl rfl dL_law_904 wlL_114 wiX11_days weX11_days wcX11_days wnX11 noX11_days (by decide) (by decide) (Nat.le_of_ble_eq_true rfl) (by decide) (by decide) rfl rfl gx0 ?_
  rintro _ σ1 ⟨zx, rfl, kzx⟩
  show hs_Wn p l e room_1 s m #[Value.ref b] below meth c D A 7 Q 907 [(4, vI 0), (3, .ref qo), (2, .ref (ady 0)), (1, .ref (adx 0)), (0, .ref b)] [vI zx] (hs_W SHX dA adx σ1 ++ (hs_W SHY dA ady σY ++ wo)) 96 12449
  refine l_aload_n (pc := 907) C dL_law_907 2 rfl ?_
  refine l_aload_n (pc := 908) C dL_law_908 4 rfl ?_
  refine l_iload (pc := 909) C dL_law_909 0 rfl ?_
  refine l_iconst (pc := 911) C dL_law_911 ?_
  refine l_iadd (pc := 912) C dL_law_912 ?_
  refine l_sld (pc := 913) C 1 dL_law_913 (by decide) (by decide) (by omega) (by omega) ?_
  refine l_swap C (w1 := hs_W SHX dA adx σ1) (w2 := hs_W SHY dA ady σY) (w3 := wo) rfl ?_
  refine l_callP (pc := 914) (SH := SHY) (ad := ady) (σ := σY) (wr := (wo ++ hs_W SHX dA adx σ1)) C (c_X12_days l (xs 1).toInt ⟨by have := hs_oR (xs 1); omega, by have := hs_oR (xs 1); omega⟩) [vI (xs 1).toInt] [vI zx] rfl rfl rfl dL_law_914 wlL_117 wiX12_days weX12_days wcX12_days wnX12 noX12_days (by decide) (by decide) (Nat.le_of_ble_eq_true rfl) (by decide) (by decide) rfl rfl gy0 ?_
  rintro _ σ2 ⟨zy, rfl, kzy⟩
  show hs_Wn p l e room_1 s m #[Value.ref b] below meth c D A 7 Q 917 [(4, vI 0), (3, .ref qo), (2, .ref (ady 0)), (1, .ref (adx 0)), (0, .ref b)] [vI zy, vI zx] (hs_W SHY dA ady σ2 ++ (wo ++ hs_W SHX dA adx σ1)) 96 12449
  have hx : hs_R zx := by have x34 : σX 3 4 = 0 := rfl; have y06 : σY 0 6 = 0 := rfl; have x22 : σX 2 2 = 0 := rfl; have y17 : σY 0 17 = 0 := rfl; have x33 : σX 3 3 = 20 := rfl; have y03 : σY 0 3 = 20 := rfl; have x122 : σX 12 2 = 0 := rfl; have y20 : σY 0 20 = 0 := rfl; have x010 : σX 0 10 = 0 := rfl; have y18 : σY 0 18 = 0 := rfl; have x488 : σX 48 8 = 0 := rfl; have y61 : σY 0 61 = 0 := rfl; have x09 : σX 0 9 = 0 := rfl; have y01 : σY 0 1 = 0 := rfl; have kx := kzx; exact ⟨by omega, by omega⟩
  have hy : hs_R zy := by have x34 : σX 3 4 = 0 := rfl; have y06 : σY 0 6 = 0 := rfl; have x22 : σX 2 2 = 0 := rfl; have y17 : σY 0 17 = 0 := rfl; have x33 : σX 3 3 = 20 := rfl; have y03 : σY 0 3 = 20 := rfl; have x122 : σX 12 2 = 0 := rfl; have y20 : σY 0 20 = 0 := rfl; have x010 : σX 0 10 = 0 := rfl; have y18 : σY 0 18 = 0 := rfl; have x488 : σX 48 8 = 0 := rfl; have y61 : σY 0 61 = 0 := rfl; have x09 : σX 0 9 = 0 := rfl; have y01 : σY 0 1 = 0 := rfl; have ky := kzy; exact ⟨by omega, by omega⟩
  have heq : zx = zy := by have x34 : σX 3 4 = 0 := rfl; have y06 : σY 0 6 = 0 := rfl; have x22 : σX 2 2 = 0 := rfl; have y17 : σY 0 17 = 0 := rfl; have x33 : σX 3 3 = 20 := rfl; have y03 : σY 0 3 = 20 := rfl; have x122 : σX 12 2 = 0 := rfl; have y20 : σY 0 20 = 0 := rfl; have x010 : σX 0 10 = 0 := rfl; have y18 : σY 0 18 = 0 := rfl; have x488 : σX 48 8 = 0 := rfl; have y61 : σY 0 61 = 0 := rfl; have x09 : σX 0 9 = 0 := rfl; have y01 : σY 0 1 = 0 := rfl; have kx := kzx; have ky := kzy; omega
  refine l_icmp_eq (pc := 917) C (tgt := 1144) dL_law_917 (by decide) hx hy (fun _ => kend _) (fun h => absurd heq h)
set_option maxHeartbeats 4000000 in
set_option maxRecDepth 100000 in
theorem a_tell {p : Program} {e : Env} {s : State} {m : MethodId} {below : List Frame} {meth : Method} {c : Code} {l : Launch} {b L : Nat} {xs : Nat → Int32} {D : va_G} {dA : Nat → ClassId} {A : Nat → Prop} {Q : State → Prop} {adx ady : Nat → Nat} {qo : Nat} {wo : va_W} (hL : L = 8) (C : hs_Cl p s m b L xs meth c D dA A) (kend : ∀ ws : va_W, hs_Wn p l e room_1 s m #[Value.ref b] below meth c D A 7 Q 1144 [(4, vI 0), (3, .ref qo), (2, .ref (ady 0)), (1, .ref (adx 0)), (0, .ref b)] [] ws 96 12449) : hs_Wn p l e room_1 s m #[Value.ref b] below meth c D A 7 Q 922 [(4, vI 0), (3, .ref qo), (2, .ref (ady 0)), (1, .ref (adx 0)), (0, .ref b)] [] (hs_W SHX dA adx σX ++ (hs_W SHY dA ady σY ++ wo)) 96 12449 := by
  refine l_aload_n (pc := 922) C dL_law_922 3 rfl ?_
  refine l_aload_n (pc := 923) C dL_law_923 4 rfl ?_
  refine l_iload (pc := 924) C dL_law_924 0 rfl ?_
  refine l_iconst (pc := 926) C dL_law_926 ?_
  refine l_iadd (pc := 927) C dL_law_927 ?_
  refine l_sld (pc := 928) C 1 dL_law_928 (by decide) (by decide) (by omega) (by omega) ?_
  refine l_aload_n (pc := 929) C dL_law_929 4 rfl ?_
  refine l_iload (pc := 930) C dL_law_930 0 rfl ?_
  refine l_iconst (pc := 932) C dL_law_932 ?_
  refine l_iadd (pc := 933) C dL_law_933 ?_
  refine l_sld (pc := 934) C 2 dL_law_934 (by decide) (by decide) (by omega) (by omega) ?_
  refine l_aload_n (pc := 935) C dL_law_935 4 rfl ?_
  refine l_iload (pc := 936) C dL_law_936 0 rfl ?_
  refine l_iconst (pc := 938) C dL_law_938 ?_
  refine l_iadd (pc := 939) C dL_law_939 ?_
  refine l_sld (pc := 940) C 3 dL_law_940 (by decide) (by decide) (by omega) (by omega) ?_
  refine l_callP (pc := 941) (SH := SHX) (ad := adx) (σ := σX) (wr := (hs_W SHY dA ady σY ++ wo)) C (c_X11_tell l (xs 1).toInt ⟨by have := hs_oR (xs 1); omega, by have := hs_oR (xs 1); omega⟩ (xs 2).toInt ⟨by have := hs_oR (xs 2); omega, by have := hs_oR (xs 2); omega⟩ (xs 3).toInt ⟨by have := hs_oR (xs 3); omega, by have := hs_oR (xs 3); omega⟩) [vI (xs 1).toInt, vI (xs 2).toInt, vI (xs 3).toInt] [] rfl rfl rfl dL_law_941 wlL_118 wiX11_tell weX11_tell wcX11_tell wnX11 noX11_tell (by decide) (by decide) (Nat.le_of_ble_eq_true rfl) (by decide) (by decide) rfl rfl gx0 ?_
  rintro _ σ1 ⟨zx, rfl, kzx⟩
  show hs_Wn p l e room_1 s m #[Value.ref b] below meth c D A 7 Q 944 [(4, vI 0), (3, .ref qo), (2, .ref (ady 0)), (1, .ref (adx 0)), (0, .ref b)] [vI zx] (hs_W SHX dA adx σ1 ++ (hs_W SHY dA ady σY ++ wo)) 96 12449
  refine l_aload_n (pc := 944) C dL_law_944 2 rfl ?_
  refine l_aload_n (pc := 945) C dL_law_945 4 rfl ?_
  refine l_iload (pc := 946) C dL_law_946 0 rfl ?_
  refine l_iconst (pc := 948) C dL_law_948 ?_
  refine l_iadd (pc := 949) C dL_law_949 ?_
  refine l_sld (pc := 950) C 1 dL_law_950 (by decide) (by decide) (by omega) (by omega) ?_
  refine l_aload_n (pc := 951) C dL_law_951 4 rfl ?_
  refine l_iload (pc := 952) C dL_law_952 0 rfl ?_
  refine l_iconst (pc := 954) C dL_law_954 ?_
  refine l_iadd (pc := 955) C dL_law_955 ?_
  refine l_sld (pc := 956) C 2 dL_law_956 (by decide) (by decide) (by omega) (by omega) ?_
  refine l_aload_n (pc := 957) C dL_law_957 4 rfl ?_
  refine l_iload (pc := 958) C dL_law_958 0 rfl ?_
  refine l_iconst (pc := 960) C dL_law_960 ?_
  refine l_iadd (pc := 961) C dL_law_961 ?_
  refine l_sld (pc := 962) C 3 dL_law_962 (by decide) (by decide) (by omega) (by omega) ?_
  refine l_swap C (w1 := hs_W SHX dA adx σ1) (w2 := hs_W SHY dA ady σY) (w3 := wo) rfl ?_
  refine l_callP (pc := 963) (SH := SHY) (ad := ady) (σ := σY) (wr := (wo ++ hs_W SHX dA adx σ1)) C (c_X12_tell l (xs 1).toInt ⟨by have := hs_oR (xs 1); omega, by have := hs_oR (xs 1); omega⟩ (xs 2).toInt ⟨by have := hs_oR (xs 2); omega, by have := hs_oR (xs 2); omega⟩ (xs 3).toInt ⟨by have := hs_oR (xs 3); omega, by have := hs_oR (xs 3); omega⟩) [vI (xs 1).toInt, vI (xs 2).toInt, vI (xs 3).toInt] [vI zx] rfl rfl rfl dL_law_963 wlL_122 wiX12_tell weX12_tell wcX12_tell wnX12 noX12_tell (by decide) (by decide) (Nat.le_of_ble_eq_true rfl) (by decide) (by decide) rfl rfl gy0 ?_
  rintro _ σ2 ⟨zy, rfl, kzy⟩
  show hs_Wn p l e room_1 s m #[Value.ref b] below meth c D A 7 Q 966 [(4, vI 0), (3, .ref qo), (2, .ref (ady 0)), (1, .ref (adx 0)), (0, .ref b)] [vI zy, vI zx] (hs_W SHY dA ady σ2 ++ (wo ++ hs_W SHX dA adx σ1)) 96 12449
  have hx : hs_R zx := by have x34 : σX 3 4 = 0 := rfl; have y06 : σY 0 6 = 0 := rfl; have x22 : σX 2 2 = 0 := rfl; have y17 : σY 0 17 = 0 := rfl; have x33 : σX 3 3 = 20 := rfl; have y03 : σY 0 3 = 20 := rfl; have x122 : σX 12 2 = 0 := rfl; have y20 : σY 0 20 = 0 := rfl; have x010 : σX 0 10 = 0 := rfl; have y18 : σY 0 18 = 0 := rfl; have x488 : σX 48 8 = 0 := rfl; have y61 : σY 0 61 = 0 := rfl; have x09 : σX 0 9 = 0 := rfl; have y01 : σY 0 1 = 0 := rfl; have kx := kzx; exact ⟨by omega, by omega⟩
  have hy : hs_R zy := by have x34 : σX 3 4 = 0 := rfl; have y06 : σY 0 6 = 0 := rfl; have x22 : σX 2 2 = 0 := rfl; have y17 : σY 0 17 = 0 := rfl; have x33 : σX 3 3 = 20 := rfl; have y03 : σY 0 3 = 20 := rfl; have x122 : σX 12 2 = 0 := rfl; have y20 : σY 0 20 = 0 := rfl; have x010 : σX 0 10 = 0 := rfl; have y18 : σY 0 18 = 0 := rfl; have x488 : σX 48 8 = 0 := rfl; have y61 : σY 0 61 = 0 := rfl; have x09 : σX 0 9 = 0 := rfl; have y01 : σY 0 1 = 0 := rfl; have ky := kzy; exact ⟨by omega, by omega⟩
  have heq : zx = zy := by have x34 : σX 3 4 = 0 := rfl; have y06 : σY 0 6 = 0 := rfl; have x22 : σX 2 2 = 0 := rfl; have y17 : σY 0 17 = 0 := rfl; have x33 : σX 3 3 = 20 := rfl; have y03 : σY 0 3 = 20 := rfl; have x122 : σX 12 2 = 0 := rfl; have y20 : σY 0 20 = 0 := rfl; have x010 : σX 0 10 = 0 := rfl; have y18 : σY 0 18 = 0 := rfl; have x488 : σX 48 8 = 0 := rfl; have y61 : σY 0 61 = 0 := rfl; have x09 : σX 0 9 = 0 := rfl; have y01 : σY 0 1 = 0 := rfl; have kx := kzx; have ky := kzy; omega
  refine l_icmp_eq (pc := 966) C (tgt := 1144) dL_law_966 (by decide) hx hy (fun _ => kend _) (fun h => absurd heq h)
set_option maxHeartbeats 4000000 in
set_option maxRecDepth 100000 in
theorem a_strike {p : Program} {e : Env} {s : State} {m : MethodId} {below : List Frame} {meth : Method} {c : Code} {l : Launch} {b L : Nat} {xs : Nat → Int32} {D : va_G} {dA : Nat → ClassId} {A : Nat → Prop} {Q : State → Prop} {adx ady : Nat → Nat} {qo : Nat} {wo : va_W} (hL : L = 8) (C : hs_Cl p s m b L xs meth c D dA A) (kend : ∀ ws : va_W, hs_Wn p l e room_1 s m #[Value.ref b] below meth c D A 7 Q 1144 [(4, vI 0), (3, .ref qo), (2, .ref (ady 0)), (1, .ref (adx 0)), (0, .ref b)] [] ws 96 12449) : hs_Wn p l e room_1 s m #[Value.ref b] below meth c D A 7 Q 971 [(4, vI 0), (3, .ref qo), (2, .ref (ady 0)), (1, .ref (adx 0)), (0, .ref b)] [] (hs_W SHX dA adx σX ++ (hs_W SHY dA ady σY ++ wo)) 96 12449 := by
  refine l_aload_n (pc := 971) C dL_law_971 3 rfl ?_
  refine l_aload_n (pc := 972) C dL_law_972 4 rfl ?_
  refine l_iload (pc := 973) C dL_law_973 0 rfl ?_
  refine l_iconst (pc := 975) C dL_law_975 ?_
  refine l_iadd (pc := 976) C dL_law_976 ?_
  refine l_sld (pc := 977) C 1 dL_law_977 (by decide) (by decide) (by omega) (by omega) ?_
  refine l_callP (pc := 978) (SH := SHX) (ad := adx) (σ := σX) (wr := (hs_W SHY dA ady σY ++ wo)) C (c_X11_strike l (xs 1).toInt ⟨by have := hs_oR (xs 1); omega, by have := hs_oR (xs 1); omega⟩) [vI (xs 1).toInt] [] rfl rfl rfl dL_law_978 wlL_123 wiX11_strike weX11_strike wcX11_strike wnX11 noX11_strike (by decide) (by decide) (Nat.le_of_ble_eq_true rfl) (by decide) (by decide) rfl rfl gx0 ?_
  rintro _ σ1 ⟨zx, rfl, kzx⟩
  show hs_Wn p l e room_1 s m #[Value.ref b] below meth c D A 7 Q 981 [(4, vI 0), (3, .ref qo), (2, .ref (ady 0)), (1, .ref (adx 0)), (0, .ref b)] [vI zx] (hs_W SHX dA adx σ1 ++ (hs_W SHY dA ady σY ++ wo)) 96 12449
  refine l_aload_n (pc := 981) C dL_law_981 2 rfl ?_
  refine l_aload_n (pc := 982) C dL_law_982 4 rfl ?_
  refine l_iload (pc := 983) C dL_law_983 0 rfl ?_
  refine l_iconst (pc := 985) C dL_law_985 ?_
  refine l_iadd (pc := 986) C dL_law_986 ?_
  refine l_sld (pc := 987) C 1 dL_law_987 (by decide) (by decide) (by omega) (by omega) ?_
  refine l_swap C (w1 := hs_W SHX dA adx σ1) (w2 := hs_W SHY dA ady σY) (w3 := wo) rfl ?_
  refine l_callP (pc := 988) (SH := SHY) (ad := ady) (σ := σY) (wr := (wo ++ hs_W SHX dA adx σ1)) C (c_X12_strike l (xs 1).toInt ⟨by have := hs_oR (xs 1); omega, by have := hs_oR (xs 1); omega⟩) [vI (xs 1).toInt] [vI zx] rfl rfl rfl dL_law_988 wlL_126 wiX12_strike weX12_strike wcX12_strike wnX12 noX12_strike (by decide) (by decide) (Nat.le_of_ble_eq_true rfl) (by decide) (by decide) rfl rfl gy0 ?_
  rintro _ σ2 ⟨zy, rfl, kzy⟩
  show hs_Wn p l e room_1 s m #[Value.ref b] below meth c D A 7 Q 991 [(4, vI 0), (3, .ref qo), (2, .ref (ady 0)), (1, .ref (adx 0)), (0, .ref b)] [vI zy, vI zx] (hs_W SHY dA ady σ2 ++ (wo ++ hs_W SHX dA adx σ1)) 96 12449
  have hx : hs_R zx := by have x34 : σX 3 4 = 0 := rfl; have y06 : σY 0 6 = 0 := rfl; have x22 : σX 2 2 = 0 := rfl; have y17 : σY 0 17 = 0 := rfl; have x33 : σX 3 3 = 20 := rfl; have y03 : σY 0 3 = 20 := rfl; have x122 : σX 12 2 = 0 := rfl; have y20 : σY 0 20 = 0 := rfl; have x010 : σX 0 10 = 0 := rfl; have y18 : σY 0 18 = 0 := rfl; have x488 : σX 48 8 = 0 := rfl; have y61 : σY 0 61 = 0 := rfl; have x09 : σX 0 9 = 0 := rfl; have y01 : σY 0 1 = 0 := rfl; have kx := kzx; exact ⟨by omega, by omega⟩
  have hy : hs_R zy := by have x34 : σX 3 4 = 0 := rfl; have y06 : σY 0 6 = 0 := rfl; have x22 : σX 2 2 = 0 := rfl; have y17 : σY 0 17 = 0 := rfl; have x33 : σX 3 3 = 20 := rfl; have y03 : σY 0 3 = 20 := rfl; have x122 : σX 12 2 = 0 := rfl; have y20 : σY 0 20 = 0 := rfl; have x010 : σX 0 10 = 0 := rfl; have y18 : σY 0 18 = 0 := rfl; have x488 : σX 48 8 = 0 := rfl; have y61 : σY 0 61 = 0 := rfl; have x09 : σX 0 9 = 0 := rfl; have y01 : σY 0 1 = 0 := rfl; have ky := kzy; exact ⟨by omega, by omega⟩
  have heq : zx = zy := by have x34 : σX 3 4 = 0 := rfl; have y06 : σY 0 6 = 0 := rfl; have x22 : σX 2 2 = 0 := rfl; have y17 : σY 0 17 = 0 := rfl; have x33 : σX 3 3 = 20 := rfl; have y03 : σY 0 3 = 20 := rfl; have x122 : σX 12 2 = 0 := rfl; have y20 : σY 0 20 = 0 := rfl; have x010 : σX 0 10 = 0 := rfl; have y18 : σY 0 18 = 0 := rfl; have x488 : σX 48 8 = 0 := rfl; have y61 : σY 0 61 = 0 := rfl; have x09 : σX 0 9 = 0 := rfl; have y01 : σY 0 1 = 0 := rfl; have kx := kzx; have ky := kzy; omega
  refine l_icmp_eq (pc := 991) C (tgt := 1144) dL_law_991 (by decide) hx hy (fun _ => kend _) (fun h => absurd heq h)
set_option maxHeartbeats 4000000 in
set_option maxRecDepth 100000 in
theorem a_gate {p : Program} {e : Env} {s : State} {m : MethodId} {below : List Frame} {meth : Method} {c : Code} {l : Launch} {b L : Nat} {xs : Nat → Int32} {D : va_G} {dA : Nat → ClassId} {A : Nat → Prop} {Q : State → Prop} {adx ady : Nat → Nat} {qo : Nat} {wo : va_W} (hL : L = 8) (C : hs_Cl p s m b L xs meth c D dA A) (kend : ∀ ws : va_W, hs_Wn p l e room_1 s m #[Value.ref b] below meth c D A 7 Q 1144 [(4, vI 0), (3, .ref qo), (2, .ref (ady 0)), (1, .ref (adx 0)), (0, .ref b)] [] ws 96 12449) : hs_Wn p l e room_1 s m #[Value.ref b] below meth c D A 7 Q 996 [(4, vI 0), (3, .ref qo), (2, .ref (ady 0)), (1, .ref (adx 0)), (0, .ref b)] [] (hs_W SHX dA adx σX ++ (hs_W SHY dA ady σY ++ wo)) 96 12449 := by
  refine l_aload_n (pc := 996) C dL_law_996 3 rfl ?_
  refine l_aload_n (pc := 997) C dL_law_997 4 rfl ?_
  refine l_iload (pc := 998) C dL_law_998 0 rfl ?_
  refine l_iconst (pc := 1000) C dL_law_1000 ?_
  refine l_iadd (pc := 1001) C dL_law_1001 ?_
  refine l_sld (pc := 1002) C 1 dL_law_1002 (by decide) (by decide) (by omega) (by omega) ?_
  refine l_aload_n (pc := 1003) C dL_law_1003 4 rfl ?_
  refine l_iload (pc := 1004) C dL_law_1004 0 rfl ?_
  refine l_iconst (pc := 1006) C dL_law_1006 ?_
  refine l_iadd (pc := 1007) C dL_law_1007 ?_
  refine l_sld (pc := 1008) C 2 dL_law_1008 (by decide) (by decide) (by omega) (by omega) ?_
  refine l_callP (pc := 1009) (SH := SHX) (ad := adx) (σ := σX) (wr := (hs_W SHY dA ady σY ++ wo)) C (c_X11_gate l (xs 1).toInt ⟨by have := hs_oR (xs 1); omega, by have := hs_oR (xs 1); omega⟩ (xs 2).toInt ⟨by have := hs_oR (xs 2); omega, by have := hs_oR (xs 2); omega⟩) [vI (xs 1).toInt, vI (xs 2).toInt] [] rfl rfl rfl dL_law_1009 wlL_127 wiX11_gate weX11_gate wcX11_gate wnX11 noX11_gate (by decide) (by decide) (Nat.le_of_ble_eq_true rfl) (by decide) (by decide) rfl rfl gx0 ?_
  rintro _ σ1 ⟨zx, rfl, kzx⟩
  show hs_Wn p l e room_1 s m #[Value.ref b] below meth c D A 7 Q 1012 [(4, vI 0), (3, .ref qo), (2, .ref (ady 0)), (1, .ref (adx 0)), (0, .ref b)] [vI zx] (hs_W SHX dA adx σ1 ++ (hs_W SHY dA ady σY ++ wo)) 96 12449
  refine l_aload_n (pc := 1012) C dL_law_1012 2 rfl ?_
  refine l_aload_n (pc := 1013) C dL_law_1013 4 rfl ?_
  refine l_iload (pc := 1014) C dL_law_1014 0 rfl ?_
  refine l_iconst (pc := 1016) C dL_law_1016 ?_
  refine l_iadd (pc := 1017) C dL_law_1017 ?_
  refine l_sld (pc := 1018) C 1 dL_law_1018 (by decide) (by decide) (by omega) (by omega) ?_
  refine l_aload_n (pc := 1019) C dL_law_1019 4 rfl ?_
  refine l_iload (pc := 1020) C dL_law_1020 0 rfl ?_
  refine l_iconst (pc := 1022) C dL_law_1022 ?_
  refine l_iadd (pc := 1023) C dL_law_1023 ?_
  refine l_sld (pc := 1024) C 2 dL_law_1024 (by decide) (by decide) (by omega) (by omega) ?_
  refine l_swap C (w1 := hs_W SHX dA adx σ1) (w2 := hs_W SHY dA ady σY) (w3 := wo) rfl ?_
  refine l_callP (pc := 1025) (SH := SHY) (ad := ady) (σ := σY) (wr := (wo ++ hs_W SHX dA adx σ1)) C (c_X12_gate l (xs 1).toInt ⟨by have := hs_oR (xs 1); omega, by have := hs_oR (xs 1); omega⟩ (xs 2).toInt ⟨by have := hs_oR (xs 2); omega, by have := hs_oR (xs 2); omega⟩) [vI (xs 1).toInt, vI (xs 2).toInt] [vI zx] rfl rfl rfl dL_law_1025 wlL_130 wiX12_gate weX12_gate wcX12_gate wnX12 noX12_gate (by decide) (by decide) (Nat.le_of_ble_eq_true rfl) (by decide) (by decide) rfl rfl gy0 ?_
  rintro _ σ2 ⟨zy, rfl, kzy⟩
  show hs_Wn p l e room_1 s m #[Value.ref b] below meth c D A 7 Q 1028 [(4, vI 0), (3, .ref qo), (2, .ref (ady 0)), (1, .ref (adx 0)), (0, .ref b)] [vI zy, vI zx] (hs_W SHY dA ady σ2 ++ (wo ++ hs_W SHX dA adx σ1)) 96 12449
  have hx : hs_R zx := by have x34 : σX 3 4 = 0 := rfl; have y06 : σY 0 6 = 0 := rfl; have x22 : σX 2 2 = 0 := rfl; have y17 : σY 0 17 = 0 := rfl; have x33 : σX 3 3 = 20 := rfl; have y03 : σY 0 3 = 20 := rfl; have x122 : σX 12 2 = 0 := rfl; have y20 : σY 0 20 = 0 := rfl; have x010 : σX 0 10 = 0 := rfl; have y18 : σY 0 18 = 0 := rfl; have x488 : σX 48 8 = 0 := rfl; have y61 : σY 0 61 = 0 := rfl; have x09 : σX 0 9 = 0 := rfl; have y01 : σY 0 1 = 0 := rfl; have kx := kzx.2; exact ⟨by omega, by omega⟩
  have hy : hs_R zy := by have x34 : σX 3 4 = 0 := rfl; have y06 : σY 0 6 = 0 := rfl; have x22 : σX 2 2 = 0 := rfl; have y17 : σY 0 17 = 0 := rfl; have x33 : σX 3 3 = 20 := rfl; have y03 : σY 0 3 = 20 := rfl; have x122 : σX 12 2 = 0 := rfl; have y20 : σY 0 20 = 0 := rfl; have x010 : σX 0 10 = 0 := rfl; have y18 : σY 0 18 = 0 := rfl; have x488 : σX 48 8 = 0 := rfl; have y61 : σY 0 61 = 0 := rfl; have x09 : σX 0 9 = 0 := rfl; have y01 : σY 0 1 = 0 := rfl; have ky := kzy.2; exact ⟨by omega, by omega⟩
  have heq : zx = zy := by have x34 : σX 3 4 = 0 := rfl; have y06 : σY 0 6 = 0 := rfl; have x22 : σX 2 2 = 0 := rfl; have y17 : σY 0 17 = 0 := rfl; have x33 : σX 3 3 = 20 := rfl; have y03 : σY 0 3 = 20 := rfl; have x122 : σX 12 2 = 0 := rfl; have y20 : σY 0 20 = 0 := rfl; have x010 : σX 0 10 = 0 := rfl; have y18 : σY 0 18 = 0 := rfl; have x488 : σX 48 8 = 0 := rfl; have y61 : σY 0 61 = 0 := rfl; have x09 : σX 0 9 = 0 := rfl; have y01 : σY 0 1 = 0 := rfl; have kx := kzx.2; have ky := kzy.2; omega
  refine l_icmp_eq (pc := 1028) C (tgt := 1144) dL_law_1028 (by decide) hx hy (fun _ => kend _) (fun h => absurd heq h)
set_option maxHeartbeats 4000000 in
set_option maxRecDepth 100000 in
theorem a_knows {p : Program} {e : Env} {s : State} {m : MethodId} {below : List Frame} {meth : Method} {c : Code} {l : Launch} {b L : Nat} {xs : Nat → Int32} {D : va_G} {dA : Nat → ClassId} {A : Nat → Prop} {Q : State → Prop} {adx ady : Nat → Nat} {qo : Nat} {wo : va_W} (hL : L = 8) (C : hs_Cl p s m b L xs meth c D dA A) (kend : ∀ ws : va_W, hs_Wn p l e room_1 s m #[Value.ref b] below meth c D A 7 Q 1144 [(4, vI 0), (3, .ref qo), (2, .ref (ady 0)), (1, .ref (adx 0)), (0, .ref b)] [] ws 96 12449) : hs_Wn p l e room_1 s m #[Value.ref b] below meth c D A 7 Q 1033 [(4, vI 0), (3, .ref qo), (2, .ref (ady 0)), (1, .ref (adx 0)), (0, .ref b)] [] (hs_W SHX dA adx σX ++ (hs_W SHY dA ady σY ++ wo)) 96 12449 := by
  refine l_aload_n (pc := 1033) C dL_law_1033 3 rfl ?_
  refine l_aload_n (pc := 1034) C dL_law_1034 4 rfl ?_
  refine l_iload (pc := 1035) C dL_law_1035 0 rfl ?_
  refine l_iconst (pc := 1037) C dL_law_1037 ?_
  refine l_iadd (pc := 1038) C dL_law_1038 ?_
  refine l_sld (pc := 1039) C 1 dL_law_1039 (by decide) (by decide) (by omega) (by omega) ?_
  refine l_aload_n (pc := 1040) C dL_law_1040 4 rfl ?_
  refine l_iload (pc := 1041) C dL_law_1041 0 rfl ?_
  refine l_iconst (pc := 1043) C dL_law_1043 ?_
  refine l_iadd (pc := 1044) C dL_law_1044 ?_
  refine l_sld (pc := 1045) C 2 dL_law_1045 (by decide) (by decide) (by omega) (by omega) ?_
  refine l_aload_n (pc := 1046) C dL_law_1046 4 rfl ?_
  refine l_iload (pc := 1047) C dL_law_1047 0 rfl ?_
  refine l_iconst (pc := 1049) C dL_law_1049 ?_
  refine l_iadd (pc := 1050) C dL_law_1050 ?_
  refine l_sld (pc := 1051) C 3 dL_law_1051 (by decide) (by decide) (by omega) (by omega) ?_
  refine l_callP (pc := 1052) (SH := SHX) (ad := adx) (σ := σX) (wr := (hs_W SHY dA ady σY ++ wo)) C (c_X11_knows l (xs 1).toInt ⟨by have := hs_oR (xs 1); omega, by have := hs_oR (xs 1); omega⟩ (xs 2).toInt ⟨by have := hs_oR (xs 2); omega, by have := hs_oR (xs 2); omega⟩ (xs 3).toInt ⟨by have := hs_oR (xs 3); omega, by have := hs_oR (xs 3); omega⟩) [vI (xs 1).toInt, vI (xs 2).toInt, vI (xs 3).toInt] [] rfl rfl rfl dL_law_1052 wlL_131 wiX11_knows weX11_knows wcX11_knows wnX11 noX11_knows (by decide) (by decide) (Nat.le_of_ble_eq_true rfl) (by decide) (by decide) rfl rfl gx0 ?_
  rintro _ σ1 ⟨zx, rfl, kzx⟩
  show hs_Wn p l e room_1 s m #[Value.ref b] below meth c D A 7 Q 1055 [(4, vI 0), (3, .ref qo), (2, .ref (ady 0)), (1, .ref (adx 0)), (0, .ref b)] [vI zx] (hs_W SHX dA adx σ1 ++ (hs_W SHY dA ady σY ++ wo)) 96 12449
  refine l_aload_n (pc := 1055) C dL_law_1055 2 rfl ?_
  refine l_aload_n (pc := 1056) C dL_law_1056 4 rfl ?_
  refine l_iload (pc := 1057) C dL_law_1057 0 rfl ?_
  refine l_iconst (pc := 1059) C dL_law_1059 ?_
  refine l_iadd (pc := 1060) C dL_law_1060 ?_
  refine l_sld (pc := 1061) C 1 dL_law_1061 (by decide) (by decide) (by omega) (by omega) ?_
  refine l_aload_n (pc := 1062) C dL_law_1062 4 rfl ?_
  refine l_iload (pc := 1063) C dL_law_1063 0 rfl ?_
  refine l_iconst (pc := 1065) C dL_law_1065 ?_
  refine l_iadd (pc := 1066) C dL_law_1066 ?_
  refine l_sld (pc := 1067) C 2 dL_law_1067 (by decide) (by decide) (by omega) (by omega) ?_
  refine l_aload_n (pc := 1068) C dL_law_1068 4 rfl ?_
  refine l_iload (pc := 1069) C dL_law_1069 0 rfl ?_
  refine l_iconst (pc := 1071) C dL_law_1071 ?_
  refine l_iadd (pc := 1072) C dL_law_1072 ?_
  refine l_sld (pc := 1073) C 3 dL_law_1073 (by decide) (by decide) (by omega) (by omega) ?_
  refine l_swap C (w1 := hs_W SHX dA adx σ1) (w2 := hs_W SHY dA ady σY) (w3 := wo) rfl ?_
  refine l_callP (pc := 1074) (SH := SHY) (ad := ady) (σ := σY) (wr := (wo ++ hs_W SHX dA adx σ1)) C (c_X12_knows l (xs 1).toInt ⟨by have := hs_oR (xs 1); omega, by have := hs_oR (xs 1); omega⟩ (xs 2).toInt ⟨by have := hs_oR (xs 2); omega, by have := hs_oR (xs 2); omega⟩ (xs 3).toInt ⟨by have := hs_oR (xs 3); omega, by have := hs_oR (xs 3); omega⟩) [vI (xs 1).toInt, vI (xs 2).toInt, vI (xs 3).toInt] [vI zx] rfl rfl rfl dL_law_1074 wlL_134 wiX12_knows weX12_knows wcX12_knows wnX12 noX12_knows (by decide) (by decide) (Nat.le_of_ble_eq_true rfl) (by decide) (by decide) rfl rfl gy0 ?_
  rintro _ σ2 ⟨zy, rfl, kzy⟩
  show hs_Wn p l e room_1 s m #[Value.ref b] below meth c D A 7 Q 1077 [(4, vI 0), (3, .ref qo), (2, .ref (ady 0)), (1, .ref (adx 0)), (0, .ref b)] [vI zy, vI zx] (hs_W SHY dA ady σ2 ++ (wo ++ hs_W SHX dA adx σ1)) 96 12449
  have hx : hs_R zx := kzx.2.1
  have hy : hs_R zy := kzy.2.1
  have heq : zx = zy := by have x34 : σX 3 4 = 0 := rfl; have y06 : σY 0 6 = 0 := rfl; have x22 : σX 2 2 = 0 := rfl; have y17 : σY 0 17 = 0 := rfl; have x33 : σX 3 3 = 20 := rfl; have y03 : σY 0 3 = 20 := rfl; have x122 : σX 12 2 = 0 := rfl; have y20 : σY 0 20 = 0 := rfl; have x010 : σX 0 10 = 0 := rfl; have y18 : σY 0 18 = 0 := rfl; have x488 : σX 48 8 = 0 := rfl; have y61 : σY 0 61 = 0 := rfl; have x09 : σX 0 9 = 0 := rfl; have y01 : σY 0 1 = 0 := rfl; have kx := kzx.2; have ky := kzy.2; omega
  refine l_icmp_eq (pc := 1077) C (tgt := 1144) dL_law_1077 (by decide) hx hy (fun _ => kend _) (fun h => absurd heq h)
set_option maxHeartbeats 4000000 in
set_option maxRecDepth 100000 in
theorem a_can {p : Program} {e : Env} {s : State} {m : MethodId} {below : List Frame} {meth : Method} {c : Code} {l : Launch} {b L : Nat} {xs : Nat → Int32} {D : va_G} {dA : Nat → ClassId} {A : Nat → Prop} {Q : State → Prop} {adx ady : Nat → Nat} {qo : Nat} {wo : va_W} (hL : L = 8) (C : hs_Cl p s m b L xs meth c D dA A) (kend : ∀ ws : va_W, hs_Wn p l e room_1 s m #[Value.ref b] below meth c D A 7 Q 1144 [(4, vI 0), (3, .ref qo), (2, .ref (ady 0)), (1, .ref (adx 0)), (0, .ref b)] [] ws 96 12449) : hs_Wn p l e room_1 s m #[Value.ref b] below meth c D A 7 Q 1082 [(4, vI 0), (3, .ref qo), (2, .ref (ady 0)), (1, .ref (adx 0)), (0, .ref b)] [] (hs_W SHX dA adx σX ++ (hs_W SHY dA ady σY ++ wo)) 96 12449 := by
  refine l_aload_n (pc := 1082) C dL_law_1082 3 rfl ?_
  refine l_aload_n (pc := 1083) C dL_law_1083 4 rfl ?_
  refine l_iload (pc := 1084) C dL_law_1084 0 rfl ?_
  refine l_iconst (pc := 1086) C dL_law_1086 ?_
  refine l_iadd (pc := 1087) C dL_law_1087 ?_
  refine l_sld (pc := 1088) C 1 dL_law_1088 (by decide) (by decide) (by omega) (by omega) ?_
  refine l_aload_n (pc := 1089) C dL_law_1089 4 rfl ?_
  refine l_iload (pc := 1090) C dL_law_1090 0 rfl ?_
  refine l_iconst (pc := 1092) C dL_law_1092 ?_
  refine l_iadd (pc := 1093) C dL_law_1093 ?_
  refine l_sld (pc := 1094) C 2 dL_law_1094 (by decide) (by decide) (by omega) (by omega) ?_
  refine l_callP (pc := 1095) (SH := SHX) (ad := adx) (σ := σX) (wr := (hs_W SHY dA ady σY ++ wo)) C (c_X11_can l (xs 1).toInt ⟨by have := hs_oR (xs 1); omega, by have := hs_oR (xs 1); omega⟩ (xs 2).toInt ⟨by have := hs_oR (xs 2); omega, by have := hs_oR (xs 2); omega⟩) [vI (xs 1).toInt, vI (xs 2).toInt] [] rfl rfl rfl dL_law_1095 wlL_135 wiX11_can weX11_can wcX11_can wnX11 noX11_can (by decide) (by decide) (Nat.le_of_ble_eq_true rfl) (by decide) (by decide) rfl rfl gx0 ?_
  rintro _ σ1 ⟨zx, rfl, kzx⟩
  show hs_Wn p l e room_1 s m #[Value.ref b] below meth c D A 7 Q 1098 [(4, vI 0), (3, .ref qo), (2, .ref (ady 0)), (1, .ref (adx 0)), (0, .ref b)] [vI zx] (hs_W SHX dA adx σ1 ++ (hs_W SHY dA ady σY ++ wo)) 96 12449
  refine l_aload_n (pc := 1098) C dL_law_1098 2 rfl ?_
  refine l_aload_n (pc := 1099) C dL_law_1099 4 rfl ?_
  refine l_iload (pc := 1100) C dL_law_1100 0 rfl ?_
  refine l_iconst (pc := 1102) C dL_law_1102 ?_
  refine l_iadd (pc := 1103) C dL_law_1103 ?_
  refine l_sld (pc := 1104) C 1 dL_law_1104 (by decide) (by decide) (by omega) (by omega) ?_
  refine l_aload_n (pc := 1105) C dL_law_1105 4 rfl ?_
  refine l_iload (pc := 1106) C dL_law_1106 0 rfl ?_
  refine l_iconst (pc := 1108) C dL_law_1108 ?_
  refine l_iadd (pc := 1109) C dL_law_1109 ?_
  refine l_sld (pc := 1110) C 2 dL_law_1110 (by decide) (by decide) (by omega) (by omega) ?_
  refine l_swap C (w1 := hs_W SHX dA adx σ1) (w2 := hs_W SHY dA ady σY) (w3 := wo) rfl ?_
  refine l_callP (pc := 1111) (SH := SHY) (ad := ady) (σ := σY) (wr := (wo ++ hs_W SHX dA adx σ1)) C (c_X12_can l (xs 1).toInt ⟨by have := hs_oR (xs 1); omega, by have := hs_oR (xs 1); omega⟩ (xs 2).toInt ⟨by have := hs_oR (xs 2); omega, by have := hs_oR (xs 2); omega⟩) [vI (xs 1).toInt, vI (xs 2).toInt] [vI zx] rfl rfl rfl dL_law_1111 wlL_138 wiX12_can weX12_can wcX12_can wnX12 noX12_can (by decide) (by decide) (Nat.le_of_ble_eq_true rfl) (by decide) (by decide) rfl rfl gy0 ?_
  rintro _ σ2 ⟨zy, rfl, kzy⟩
  show hs_Wn p l e room_1 s m #[Value.ref b] below meth c D A 7 Q 1114 [(4, vI 0), (3, .ref qo), (2, .ref (ady 0)), (1, .ref (adx 0)), (0, .ref b)] [vI zy, vI zx] (hs_W SHY dA ady σ2 ++ (wo ++ hs_W SHX dA adx σ1)) 96 12449
  have hx : hs_R zx := kzx.2.1
  have hy : hs_R zy := kzy.2.1
  have heq : zx = zy := by have x34 : σX 3 4 = 0 := rfl; have y06 : σY 0 6 = 0 := rfl; have x22 : σX 2 2 = 0 := rfl; have y17 : σY 0 17 = 0 := rfl; have x33 : σX 3 3 = 20 := rfl; have y03 : σY 0 3 = 20 := rfl; have x122 : σX 12 2 = 0 := rfl; have y20 : σY 0 20 = 0 := rfl; have x010 : σX 0 10 = 0 := rfl; have y18 : σY 0 18 = 0 := rfl; have x488 : σX 48 8 = 0 := rfl; have y61 : σY 0 61 = 0 := rfl; have x09 : σX 0 9 = 0 := rfl; have y01 : σY 0 1 = 0 := rfl; have kx := kzx.2; have ky := kzy.2; omega
  refine l_icmp_eq (pc := 1114) C (tgt := 1144) dL_law_1114 (by decide) hx hy (fun _ => kend _) (fun h => absurd heq h)
set_option maxHeartbeats 4000000 in
set_option maxRecDepth 100000 in
theorem a_count {p : Program} {e : Env} {s : State} {m : MethodId} {below : List Frame} {meth : Method} {c : Code} {l : Launch} {b L : Nat} {xs : Nat → Int32} {D : va_G} {dA : Nat → ClassId} {A : Nat → Prop} {Q : State → Prop} {adx ady : Nat → Nat} {qo : Nat} {wo : va_W} (hL : L = 8) (C : hs_Cl p s m b L xs meth c D dA A) (kend : ∀ ws : va_W, hs_Wn p l e room_1 s m #[Value.ref b] below meth c D A 7 Q 1144 [(4, vI 0), (3, .ref qo), (2, .ref (ady 0)), (1, .ref (adx 0)), (0, .ref b)] [] ws 96 12449) : hs_Wn p l e room_1 s m #[Value.ref b] below meth c D A 7 Q 1119 [(4, vI 0), (3, .ref qo), (2, .ref (ady 0)), (1, .ref (adx 0)), (0, .ref b)] [] (hs_W SHX dA adx σX ++ (hs_W SHY dA ady σY ++ wo)) 96 12449 := by
  refine l_aload_n (pc := 1119) C dL_law_1119 3 rfl ?_
  refine l_aload_n (pc := 1120) C dL_law_1120 4 rfl ?_
  refine l_iload (pc := 1121) C dL_law_1121 0 rfl ?_
  refine l_iconst (pc := 1123) C dL_law_1123 ?_
  refine l_iadd (pc := 1124) C dL_law_1124 ?_
  refine l_sld (pc := 1125) C 1 dL_law_1125 (by decide) (by decide) (by omega) (by omega) ?_
  refine l_callP (pc := 1126) (SH := SHX) (ad := adx) (σ := σX) (wr := (hs_W SHY dA ady σY ++ wo)) C (c_X11_count l (xs 1).toInt ⟨by have := hs_oR (xs 1); omega, by have := hs_oR (xs 1); omega⟩) [vI (xs 1).toInt] [] rfl rfl rfl dL_law_1126 wlL_139 wiX11_count weX11_count wcX11_count wnX11 noX11_count (by decide) (by decide) (Nat.le_of_ble_eq_true rfl) (by decide) (by decide) rfl rfl gx0 ?_
  rintro _ σ1 ⟨zx, rfl, kzx⟩
  show hs_Wn p l e room_1 s m #[Value.ref b] below meth c D A 7 Q 1129 [(4, vI 0), (3, .ref qo), (2, .ref (ady 0)), (1, .ref (adx 0)), (0, .ref b)] [vI zx] (hs_W SHX dA adx σ1 ++ (hs_W SHY dA ady σY ++ wo)) 96 12449
  refine l_aload_n (pc := 1129) C dL_law_1129 2 rfl ?_
  refine l_aload_n (pc := 1130) C dL_law_1130 4 rfl ?_
  refine l_iload (pc := 1131) C dL_law_1131 0 rfl ?_
  refine l_iconst (pc := 1133) C dL_law_1133 ?_
  refine l_iadd (pc := 1134) C dL_law_1134 ?_
  refine l_sld (pc := 1135) C 1 dL_law_1135 (by decide) (by decide) (by omega) (by omega) ?_
  refine l_swap C (w1 := hs_W SHX dA adx σ1) (w2 := hs_W SHY dA ady σY) (w3 := wo) rfl ?_
  refine l_callP (pc := 1136) (SH := SHY) (ad := ady) (σ := σY) (wr := (wo ++ hs_W SHX dA adx σ1)) C (c_X12_count l (xs 1).toInt ⟨by have := hs_oR (xs 1); omega, by have := hs_oR (xs 1); omega⟩) [vI (xs 1).toInt] [vI zx] rfl rfl rfl dL_law_1136 wlL_142 wiX12_count weX12_count wcX12_count wnX12 noX12_count (by decide) (by decide) (Nat.le_of_ble_eq_true rfl) (by decide) (by decide) rfl rfl gy0 ?_
  rintro _ σ2 ⟨zy, rfl, kzy⟩
  show hs_Wn p l e room_1 s m #[Value.ref b] below meth c D A 7 Q 1139 [(4, vI 0), (3, .ref qo), (2, .ref (ady 0)), (1, .ref (adx 0)), (0, .ref b)] [vI zy, vI zx] (hs_W SHY dA ady σ2 ++ (wo ++ hs_W SHX dA adx σ1)) 96 12449
  have hx : hs_R zx := kzx.2.1
  have hy : hs_R zy := kzy.2.1
  have heq : zx = zy := by
    have hxx := kzx.2.2
    have hyy := kzy.2.2
    rcases Classical.em ((xs 1).toInt < 0 ∨ 7 < (xs 1).toInt) with q | q
    · rw [hxx.2.2.2.2.2.2.2.2 q, hyy.2.2.2.2.2.2.2.2 q]
    · rcases (show (xs 1).toInt = 0 ∨ (xs 1).toInt = 1 ∨ (xs 1).toInt = 2 ∨ (xs 1).toInt = 3 ∨ (xs 1).toInt = 4 ∨ (xs 1).toInt = 5 ∨ (xs 1).toInt = 6 ∨ (xs 1).toInt = 7 by omega) with w | w | w | w | w | w | w | w
      · rw [hxx.1 w, hyy.1 w]; rfl
      · rw [hxx.2.1 w, hyy.2.1 w]; rfl
      · rw [hxx.2.2.1 w, hyy.2.2.1 w]; rfl
      · rw [hxx.2.2.2.1 w, hyy.2.2.2.1 w]; rfl
      · rw [hxx.2.2.2.2.1 w, hyy.2.2.2.2.1 w]; rfl
      · rw [hxx.2.2.2.2.2.1 w, hyy.2.2.2.2.2.1 w]; rfl
      · rw [hxx.2.2.2.2.2.2.1 w, hyy.2.2.2.2.2.2.1 w]; rfl
      · rw [hxx.2.2.2.2.2.2.2.1 w, hyy.2.2.2.2.2.2.2.1 w]; rfl
  refine l_icmp_eq (pc := 1139) C (tgt := 1144) dL_law_1139 (by decide) hx hy (fun _ => kend _) (fun h => absurd heq h)
