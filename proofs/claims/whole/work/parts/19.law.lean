set_option maxHeartbeats 1000000 in
set_option maxRecDepth 20000 in
theorem wL_0 {p : Program} {l : Launch} (hls : l.stackTraces = false) {e : Env} {s : State} {m : MethodId} {args : Array Value} {below : List Frame} {meth : Method} {c : Code} {D : va_G} {ca : Nat → ClassId} {z : Nat} {G : xG} {X : va_W} {ad av : Nat → Nat} {b L : Nat} {xs : Nat → Int32} {Q : State → Prop} {H0 : Heap} (hF : xFix z G X) (hx : p.tables.exec = Jvm.exec) (hb : c.code = cL_law) (hml : c.maxLocals = 9) (hts : ∀ w ∈ xAll, w.before args s = true) (hown : s.vm.findClass RL = some m.cls) (hK : va_K D vwCl (xT ca) s) (hE : xEv z ad av s s.heap) (hX : va_X b L xs s s.heap) (hbl : b < s.heap.size) (hbA : ¬ z ≤ b) {x md out od : Nat} (kx : xI_Coat G x) (km : xI_Model G md) (ko : xI_Longs 1 G out) {j : Nat} (hj : j + 4 ≤ L) (hL : L ≤ 2048) {cells slots : Nat} (hc : cells + 20 ≤ 603072) (hs : slots + 2000 ≤ 7211114) {μ μ1 : xM} (h : gL_0 x md out (xs (j + 1)) (xs (j + 2)) (xs (j + 3)) μ = some μ1) {H : Heap} {locs : List Loc} {ls : Array Slot} (hR : xRep D ca G X μ H) (hS : va_S (fun q => z ≤ q) s.heap H locs) (hl : lv_has ls 9 [(0, .ref b), (1, .ref x), (2, .ref md), (3, .ref out), (4, .ref od), (5, .int (nI j))])
    (kk : ∀ (H : Heap) (locs : List Loc) (ls : Array Slot), xRep D ca G X μ1 H → va_S (fun q => z ≤ q) s.heap H locs → lv_has ls 9 [(0, .ref b), (1, .ref x), (2, .ref md), (3, .ref out), (4, .ref od), (5, .int (nI j))] → W p l e room_1 s m args below meth c H locs (cells + 20) (slots + 2000) Q (F0 m 1973 ls [])) : W p l e room_1 s m args below meth c H locs cells slots Q (F0 m 188 ls []) := by
  rw [gL_0] at h
  refine lv_aload_n (pc := 188) hx hb dL_law_188 rfl (lv_at hl 1 rfl) ?_
  refine lv_aload_n (pc := 189) hx hb dL_law_189 rfl (lv_at hl 0 rfl) ?_
  refine lv_iload (pc := 190) hx hb dL_law_190 (lv_at hl 5 rfl) ?_
  refine lv_iconst (pc := 192) hx hb dL_law_192 kc_1 ?_
  refine lv_iadd (pc := 193) hx hb dL_law_193 ?_
  refine xr_sld (pc := 194) (j + 1) hx hb hX hbl hbA hS (xhI1 hj hL) (xhV1 hj hL) dL_law_194 ?_
  refine lv_aload_n (pc := 195) hx hb dL_law_195 rfl (lv_at hl 0 rfl) ?_
  refine lv_iload (pc := 196) hx hb dL_law_196 (lv_at hl 5 rfl) ?_
  refine lv_iconst (pc := 198) hx hb dL_law_198 kc_2 ?_
  refine lv_iadd (pc := 199) hx hb dL_law_199 ?_
  refine xr_sld (pc := 200) (j + 2) hx hb hX hbl hbA hS (xhI2 hj hL) (xhV2 hj hL) dL_law_200 ?_
  refine lv_aload_n (pc := 201) hx hb dL_law_201 rfl (lv_at hl 0 rfl) ?_
  refine lv_iload (pc := 202) hx hb dL_law_202 (lv_at hl 5 rfl) ?_
  refine lv_iconst (pc := 204) hx hb dL_law_204 kc_3 ?_
  refine lv_iadd (pc := 205) hx hb dL_law_205 ?_
  refine xr_sld (pc := 206) (j + 3) hx hb hX hbl hbA hS (xhI3 hj hL) (xhV3 hj hL) dL_law_206 ?_
  refine lv_aload_n (pc := 207) hx hb dL_law_207 rfl (lv_at hl 3 rfl) ?_
  obtain ⟨r1, m1, c1, h⟩ := xb_inv h
  refine xl_call (pc := 208) (As := [.ref _, .int _, .int _, .int _, .ref _]) (rest := []) ⟨hx, hb, hml, hown, hts⟩ (mL_pledge hls hF _ _ _ _ _ kx ko c1) fhL_pledge q_m_L_118 ⟨Nat.le_of_ble_eq_true rfl, Nat.le_of_ble_eq_true rfl⟩ hR hK hE hS rfl hl.1 rfl (Nat.le_of_ble_eq_true rfl) dL_law_208 ⟨by omega, by omega⟩ (fun H locs hR hS => ?_)
  refine lv_istore (pc := 211) (lv' := [(6, .int _), (0, .ref _), (1, .ref _), (2, .ref _), (3, .ref _), (4, .ref _), (5, .int _)]) hx hb dL_law_211 hl (Nat.le_of_ble_eq_true rfl) rfl (fun ls hl => ?_)
  refine lv_aload_n (pc := 213) hx hb dL_law_213 rfl (lv_at hl 3 rfl) ?_
  refine lv_aload_n (pc := 214) hx hb dL_law_214 rfl (lv_at hl 1 rfl) ?_
  refine lv_iload (pc := 215) hx hb dL_law_215 (lv_at hl 6 rfl) ?_
  refine lv_iconst (pc := 217) hx hb dL_law_217 kc_1 ?_
  refine lv_iadd (pc := 218) hx hb dL_law_218 ?_
  refine xr_sld (pc := 219) (j + 1) hx hb hX hbl hbA hS (xhI1 hj hL) (xhV1 hj hL) dL_law_219 ?_
  refine lv_aload_n (pc := 220) hx hb dL_law_220 rfl (lv_at hl 1 rfl) ?_
  refine lv_iload (pc := 221) hx hb dL_law_221 (lv_at hl 6 rfl) ?_
  refine lv_iconst (pc := 223) hx hb dL_law_223 kc_2 ?_
  refine lv_iadd (pc := 224) hx hb dL_law_224 ?_
  refine xr_sld (pc := 225) (j + 2) hx hb hX hbl hbA hS (xhI2 hj hL) (xhV2 hj hL) dL_law_225 ?_
  refine lv_aload_n (pc := 226) hx hb dL_law_226 rfl (lv_at hl 1 rfl) ?_
  refine lv_iload (pc := 227) hx hb dL_law_227 (lv_at hl 6 rfl) ?_
  refine lv_iconst (pc := 229) hx hb dL_law_229 kc_3 ?_
  refine lv_iadd (pc := 230) hx hb dL_law_230 ?_
  refine xr_sld (pc := 231) (j + 3) hx hb hX hbl hbA hS (xhI3 hj hL) (xhV3 hj hL) dL_law_231 ?_
  obtain ⟨r2, m2, c2, h⟩ := xb_inv h
  refine xl_iV (pc := 232) (As := [.int _, .int _, .int _]) (rest := []) ⟨hx, hb, hml, hown, hts⟩ (mX8_pledge hF _ _ _ _ km c2) fdX8_pledge q_m_L_123 ⟨Nat.le_of_ble_eq_true rfl, Nat.le_of_ble_eq_true rfl⟩ (xRecv hK hR (ci := 12) rfl km.1) hR hK hE hS rfl hl.1 rfl (Nat.le_of_ble_eq_true rfl) dL_law_232 ⟨by omega, by omega⟩ (fun H locs hR hS => ?_)
  refine lv_istore (pc := 235) (lv' := [(7, .int _), (6, .int _), (0, .ref _), (1, .ref _), (2, .ref _), (3, .ref _), (4, .ref _), (5, .int _)]) hx hb dL_law_235 hl (Nat.le_of_ble_eq_true rfl) rfl (fun ls hl => ?_)
  refine lv_aload_n (pc := 237) hx hb dL_law_237 rfl (lv_at hl 4 rfl) ?_
  obtain ⟨r3, m3, c3, h⟩ := xb_inv h
  refine xl_iV (pc := 238) (As := []) (rest := []) ⟨hx, hb, hml, hown, hts⟩ (mX8_thrown hF _ km c3) fdX8_thrown q_m_L_124 ⟨Nat.le_of_ble_eq_true rfl, Nat.le_of_ble_eq_true rfl⟩ (xRecv hK hR (ci := 12) rfl km.1) hR hK hE hS rfl hl.1 rfl (Nat.le_of_ble_eq_true rfl) dL_law_238 ⟨by omega, by omega⟩ (fun H locs hR hS => ?_)
  refine lv_iload (pc := 241) hx hb dL_law_241 (lv_at hl 1 rfl) ?_
  refine lv_icmp_eq (pc := 243) (tgt := 248) hx hb dL_law_243 (by decide) (fun c4 => ?_) (fun c4 => ?_)
  · have h := xpos c4 h
    refine lv_iload (pc := 248) hx hb dL_law_248 (lv_at hl 1 rfl) ?_
    refine lv_if_ne (pc := 250) (tgt := 265) hx hb dL_law_250 (by decide) (fun c5 => ?_) (fun c5 => ?_)
    · have h := xneg c5 h
      refine lv_goto (pc := 265) (tgt := 1973) hx hb dL_law_265 (by decide) ?_
      cases h
      refine W.widen (k := cells + 20) (n := slots + 2000) (by omega) (by omega) ?_
      exact kk H locs ls hR hS (lv_sub hl [2, 3, 4, 5, 6, 7] rfl)
    · have h := xpos c5 h
      refine lv_aload_n (pc := 253) hx hb dL_law_253 rfl (lv_at hl 5 rfl) ?_
      refine lv_iconst (pc := 254) hx hb dL_law_254 kc_0 ?_
      refine xr_laldk (pc := 255) 0 hx hb hK hR ko.1 ko.2 tn_0 (vl_0 (by decide)) dL_law_255 ?_
      refine lv_iload (pc := 256) hx hb dL_law_256 (lv_at hl 0 rfl) ?_
      refine lv_i2l (pc := 258) hx hb dL_law_258 rfl ?_
      refine W.lcmp (pc := 259) hx hb dL_law_259 ?_
      refine lv_if_eq (pc := 260) (tgt := 265) hx hb dL_law_260 (by decide) (fun c6 => ?_) (fun c6 => ?_)
      · have h := xpos c6 h
        refine lv_goto (pc := 265) (tgt := 1973) hx hb dL_law_265 (by decide) ?_
        cases h
        refine W.widen (k := cells + 20) (n := slots + 2000) (by omega) (by omega) ?_
        exact kk H locs ls hR hS (lv_sub hl [2, 3, 4, 5, 6, 7] rfl)
      · have h := xneg c6 h
        refine lv_iconst (pc := 263) hx hb dL_law_263 kc_0 ?_
        cases h
  · have h := xneg c4 h
    refine lv_iconst (pc := 246) hx hb dL_law_246 kc_0 ?_
    cases h
set_option maxHeartbeats 1000000 in
set_option maxRecDepth 20000 in
theorem wL_1 {p : Program} {l : Launch} (hls : l.stackTraces = false) {e : Env} {s : State} {m : MethodId} {args : Array Value} {below : List Frame} {meth : Method} {c : Code} {D : va_G} {ca : Nat → ClassId} {z : Nat} {G : xG} {X : va_W} {ad av : Nat → Nat} {b L : Nat} {xs : Nat → Int32} {Q : State → Prop} {H0 : Heap} (hF : xFix z G X) (hx : p.tables.exec = Jvm.exec) (hb : c.code = cL_law) (hml : c.maxLocals = 9) (hts : ∀ w ∈ xAll, w.before args s = true) (hown : s.vm.findClass RL = some m.cls) (hK : va_K D vwCl (xT ca) s) (hE : xEv z ad av s s.heap) (hX : va_X b L xs s s.heap) (hbl : b < s.heap.size) (hbA : ¬ z ≤ b) {x md out od : Nat} (kx : xI_Coat G x) (km : xI_Model G md) (ko : xI_Longs 1 G out) {j : Nat} (hj : j + 4 ≤ L) (hL : L ≤ 2048) {cells slots : Nat} (hc : cells + 20 ≤ 603072) (hs : slots + 2000 ≤ 7211114) {μ μ1 : xM} (h : gL_1 x md out (xs (j + 1)) (xs (j + 2)) (xs (j + 3)) μ = some μ1) {H : Heap} {locs : List Loc} {ls : Array Slot} (hR : xRep D ca G X μ H) (hS : va_S (fun q => z ≤ q) s.heap H locs) (hl : lv_has ls 9 [(0, .ref b), (1, .ref x), (2, .ref md), (3, .ref out), (4, .ref od), (5, .int (nI j))])
    (kk : ∀ (H : Heap) (locs : List Loc) (ls : Array Slot), xRep D ca G X μ1 H → va_S (fun q => z ≤ q) s.heap H locs → lv_has ls 9 [(0, .ref b), (1, .ref x), (2, .ref md), (3, .ref out), (4, .ref od), (5, .int (nI j))] → W p l e room_1 s m args below meth c H locs (cells + 20) (slots + 2000) Q (F0 m 1973 ls [])) : W p l e room_1 s m args below meth c H locs cells slots Q (F0 m 268 ls []) := by
  rw [gL_1] at h
  refine lv_aload_n (pc := 268) hx hb dL_law_268 rfl (lv_at hl 1 rfl) ?_
  refine lv_aload_n (pc := 269) hx hb dL_law_269 rfl (lv_at hl 0 rfl) ?_
  refine lv_iload (pc := 270) hx hb dL_law_270 (lv_at hl 5 rfl) ?_
  refine lv_iconst (pc := 272) hx hb dL_law_272 kc_1 ?_
  refine lv_iadd (pc := 273) hx hb dL_law_273 ?_
  refine xr_sld (pc := 274) (j + 1) hx hb hX hbl hbA hS (xhI1 hj hL) (xhV1 hj hL) dL_law_274 ?_
  refine lv_aload_n (pc := 275) hx hb dL_law_275 rfl (lv_at hl 3 rfl) ?_
  obtain ⟨r1, m1, c1, h⟩ := xb_inv h
  refine xl_call (pc := 276) (As := [.ref _, .int _, .ref _]) (rest := []) ⟨hx, hb, hml, hown, hts⟩ (mL_rate hls hF _ _ _ kx ko c1) fhL_rate q_m_L_127 ⟨Nat.le_of_ble_eq_true rfl, Nat.le_of_ble_eq_true rfl⟩ hR hK hE hS rfl hl.1 rfl (Nat.le_of_ble_eq_true rfl) dL_law_276 ⟨by omega, by omega⟩ (fun H locs hR hS => ?_)
  refine lv_istore (pc := 279) (lv' := [(6, .int _), (0, .ref _), (1, .ref _), (2, .ref _), (3, .ref _), (4, .ref _), (5, .int _)]) hx hb dL_law_279 hl (Nat.le_of_ble_eq_true rfl) rfl (fun ls hl => ?_)
  refine lv_aload_n (pc := 281) hx hb dL_law_281 rfl (lv_at hl 3 rfl) ?_
  refine lv_aload_n (pc := 282) hx hb dL_law_282 rfl (lv_at hl 1 rfl) ?_
  refine lv_iload (pc := 283) hx hb dL_law_283 (lv_at hl 6 rfl) ?_
  refine lv_iconst (pc := 285) hx hb dL_law_285 kc_1 ?_
  refine lv_iadd (pc := 286) hx hb dL_law_286 ?_
  refine xr_sld (pc := 287) (j + 1) hx hb hX hbl hbA hS (xhI1 hj hL) (xhV1 hj hL) dL_law_287 ?_
  obtain ⟨r2, m2, c2, h⟩ := xb_inv h
  refine xl_iV (pc := 288) (As := [.int _]) (rest := []) ⟨hx, hb, hml, hown, hts⟩ (mX8_rate hF _ _ km c2) fdX8_rate q_m_L_130 ⟨Nat.le_of_ble_eq_true rfl, Nat.le_of_ble_eq_true rfl⟩ (xRecv hK hR (ci := 12) rfl km.1) hR hK hE hS rfl hl.1 rfl (Nat.le_of_ble_eq_true rfl) dL_law_288 ⟨by omega, by omega⟩ (fun H locs hR hS => ?_)
  refine lv_istore (pc := 291) (lv' := [(7, .int _), (6, .int _), (0, .ref _), (1, .ref _), (2, .ref _), (3, .ref _), (4, .ref _), (5, .int _)]) hx hb dL_law_291 hl (Nat.le_of_ble_eq_true rfl) rfl (fun ls hl => ?_)
  refine lv_aload_n (pc := 293) hx hb dL_law_293 rfl (lv_at hl 4 rfl) ?_
  obtain ⟨r3, m3, c3, h⟩ := xb_inv h
  refine xl_iV (pc := 294) (As := []) (rest := []) ⟨hx, hb, hml, hown, hts⟩ (mX8_thrown hF _ km c3) fdX8_thrown q_m_L_124 ⟨Nat.le_of_ble_eq_true rfl, Nat.le_of_ble_eq_true rfl⟩ (xRecv hK hR (ci := 12) rfl km.1) hR hK hE hS rfl hl.1 rfl (Nat.le_of_ble_eq_true rfl) dL_law_294 ⟨by omega, by omega⟩ (fun H locs hR hS => ?_)
  refine lv_iload (pc := 297) hx hb dL_law_297 (lv_at hl 1 rfl) ?_
  refine lv_icmp_eq (pc := 299) (tgt := 304) hx hb dL_law_299 (by decide) (fun c4 => ?_) (fun c4 => ?_)
  · have h := xpos c4 h
    refine lv_iload (pc := 304) hx hb dL_law_304 (lv_at hl 1 rfl) ?_
    refine lv_if_ne (pc := 306) (tgt := 321) hx hb dL_law_306 (by decide) (fun c5 => ?_) (fun c5 => ?_)
    · have h := xneg c5 h
      refine lv_goto (pc := 321) (tgt := 1973) hx hb dL_law_321 (by decide) ?_
      cases h
      refine W.widen (k := cells + 20) (n := slots + 2000) (by omega) (by omega) ?_
      exact kk H locs ls hR hS (lv_sub hl [2, 3, 4, 5, 6, 7] rfl)
    · have h := xpos c5 h
      refine lv_aload_n (pc := 309) hx hb dL_law_309 rfl (lv_at hl 5 rfl) ?_
      refine lv_iconst (pc := 310) hx hb dL_law_310 kc_0 ?_
      refine xr_laldk (pc := 311) 0 hx hb hK hR ko.1 ko.2 tn_0 (vl_0 (by decide)) dL_law_311 ?_
      refine lv_iload (pc := 312) hx hb dL_law_312 (lv_at hl 0 rfl) ?_
      refine lv_i2l (pc := 314) hx hb dL_law_314 rfl ?_
      refine W.lcmp (pc := 315) hx hb dL_law_315 ?_
      refine lv_if_eq (pc := 316) (tgt := 321) hx hb dL_law_316 (by decide) (fun c6 => ?_) (fun c6 => ?_)
      · have h := xpos c6 h
        refine lv_goto (pc := 321) (tgt := 1973) hx hb dL_law_321 (by decide) ?_
        cases h
        refine W.widen (k := cells + 20) (n := slots + 2000) (by omega) (by omega) ?_
        exact kk H locs ls hR hS (lv_sub hl [2, 3, 4, 5, 6, 7] rfl)
      · have h := xneg c6 h
        refine lv_iconst (pc := 319) hx hb dL_law_319 kc_0 ?_
        cases h
  · have h := xneg c4 h
    refine lv_iconst (pc := 302) hx hb dL_law_302 kc_0 ?_
    cases h
set_option maxHeartbeats 1000000 in
set_option maxRecDepth 20000 in
theorem wL_2 {p : Program} {l : Launch} (hls : l.stackTraces = false) {e : Env} {s : State} {m : MethodId} {args : Array Value} {below : List Frame} {meth : Method} {c : Code} {D : va_G} {ca : Nat → ClassId} {z : Nat} {G : xG} {X : va_W} {ad av : Nat → Nat} {b L : Nat} {xs : Nat → Int32} {Q : State → Prop} {H0 : Heap} (hF : xFix z G X) (hx : p.tables.exec = Jvm.exec) (hb : c.code = cL_law) (hml : c.maxLocals = 9) (hts : ∀ w ∈ xAll, w.before args s = true) (hown : s.vm.findClass RL = some m.cls) (hK : va_K D vwCl (xT ca) s) (hE : xEv z ad av s s.heap) (hX : va_X b L xs s s.heap) (hbl : b < s.heap.size) (hbA : ¬ z ≤ b) {x md out od : Nat} (kx : xI_Coat G x) (km : xI_Model G md) (ko : xI_Longs 1 G out) {j : Nat} (hj : j + 4 ≤ L) (hL : L ≤ 2048) {cells slots : Nat} (hc : cells + 20 ≤ 603072) (hs : slots + 2000 ≤ 7211114) {μ μ1 : xM} (h : gL_2 x md out (xs (j + 1)) (xs (j + 2)) (xs (j + 3)) μ = some μ1) {H : Heap} {locs : List Loc} {ls : Array Slot} (hR : xRep D ca G X μ H) (hS : va_S (fun q => z ≤ q) s.heap H locs) (hl : lv_has ls 9 [(0, .ref b), (1, .ref x), (2, .ref md), (3, .ref out), (4, .ref od), (5, .int (nI j))])
    (kk : ∀ (H : Heap) (locs : List Loc) (ls : Array Slot), xRep D ca G X μ1 H → va_S (fun q => z ≤ q) s.heap H locs → lv_has ls 9 [(0, .ref b), (1, .ref x), (2, .ref md), (3, .ref out), (4, .ref od), (5, .int (nI j))] → W p l e room_1 s m args below meth c H locs (cells + 20) (slots + 2000) Q (F0 m 1973 ls [])) : W p l e room_1 s m args below meth c H locs cells slots Q (F0 m 324 ls []) := by
  rw [gL_2] at h
  refine lv_aload_n (pc := 324) hx hb dL_law_324 rfl (lv_at hl 1 rfl) ?_
  refine lv_aload_n (pc := 325) hx hb dL_law_325 rfl (lv_at hl 0 rfl) ?_
  refine lv_iload (pc := 326) hx hb dL_law_326 (lv_at hl 5 rfl) ?_
  refine lv_iconst (pc := 328) hx hb dL_law_328 kc_1 ?_
  refine lv_iadd (pc := 329) hx hb dL_law_329 ?_
  refine xr_sld (pc := 330) (j + 1) hx hb hX hbl hbA hS (xhI1 hj hL) (xhV1 hj hL) dL_law_330 ?_
  refine lv_aload_n (pc := 331) hx hb dL_law_331 rfl (lv_at hl 3 rfl) ?_
  obtain ⟨r1, m1, c1, h⟩ := xb_inv h
  refine xl_call (pc := 332) (As := [.ref _, .int _, .ref _]) (rest := []) ⟨hx, hb, hml, hown, hts⟩ (mL_fee hls hF _ _ _ kx ko c1) fhL_fee q_m_L_131 ⟨Nat.le_of_ble_eq_true rfl, Nat.le_of_ble_eq_true rfl⟩ hR hK hE hS rfl hl.1 rfl (Nat.le_of_ble_eq_true rfl) dL_law_332 ⟨by omega, by omega⟩ (fun H locs hR hS => ?_)
  refine lv_istore (pc := 335) (lv' := [(6, .int _), (0, .ref _), (1, .ref _), (2, .ref _), (3, .ref _), (4, .ref _), (5, .int _)]) hx hb dL_law_335 hl (Nat.le_of_ble_eq_true rfl) rfl (fun ls hl => ?_)
  refine lv_aload_n (pc := 337) hx hb dL_law_337 rfl (lv_at hl 3 rfl) ?_
  refine lv_aload_n (pc := 338) hx hb dL_law_338 rfl (lv_at hl 1 rfl) ?_
  refine lv_iload (pc := 339) hx hb dL_law_339 (lv_at hl 6 rfl) ?_
  refine lv_iconst (pc := 341) hx hb dL_law_341 kc_1 ?_
  refine lv_iadd (pc := 342) hx hb dL_law_342 ?_
  refine xr_sld (pc := 343) (j + 1) hx hb hX hbl hbA hS (xhI1 hj hL) (xhV1 hj hL) dL_law_343 ?_
  obtain ⟨r2, m2, c2, h⟩ := xb_inv h
  refine xl_iV (pc := 344) (As := [.int _]) (rest := []) ⟨hx, hb, hml, hown, hts⟩ (mX8_fee hF _ _ km c2) fdX8_fee q_m_L_133 ⟨Nat.le_of_ble_eq_true rfl, Nat.le_of_ble_eq_true rfl⟩ (xRecv hK hR (ci := 12) rfl km.1) hR hK hE hS rfl hl.1 rfl (Nat.le_of_ble_eq_true rfl) dL_law_344 ⟨by omega, by omega⟩ (fun H locs hR hS => ?_)
  refine lv_istore (pc := 347) (lv' := [(7, .int _), (6, .int _), (0, .ref _), (1, .ref _), (2, .ref _), (3, .ref _), (4, .ref _), (5, .int _)]) hx hb dL_law_347 hl (Nat.le_of_ble_eq_true rfl) rfl (fun ls hl => ?_)
  refine lv_aload_n (pc := 349) hx hb dL_law_349 rfl (lv_at hl 4 rfl) ?_
  obtain ⟨r3, m3, c3, h⟩ := xb_inv h
  refine xl_iV (pc := 350) (As := []) (rest := []) ⟨hx, hb, hml, hown, hts⟩ (mX8_thrown hF _ km c3) fdX8_thrown q_m_L_124 ⟨Nat.le_of_ble_eq_true rfl, Nat.le_of_ble_eq_true rfl⟩ (xRecv hK hR (ci := 12) rfl km.1) hR hK hE hS rfl hl.1 rfl (Nat.le_of_ble_eq_true rfl) dL_law_350 ⟨by omega, by omega⟩ (fun H locs hR hS => ?_)
  refine lv_iload (pc := 353) hx hb dL_law_353 (lv_at hl 1 rfl) ?_
  refine lv_icmp_eq (pc := 355) (tgt := 360) hx hb dL_law_355 (by decide) (fun c4 => ?_) (fun c4 => ?_)
  · have h := xpos c4 h
    refine lv_iload (pc := 360) hx hb dL_law_360 (lv_at hl 1 rfl) ?_
    refine lv_if_ne (pc := 362) (tgt := 377) hx hb dL_law_362 (by decide) (fun c5 => ?_) (fun c5 => ?_)
    · have h := xneg c5 h
      refine lv_goto (pc := 377) (tgt := 1973) hx hb dL_law_377 (by decide) ?_
      cases h
      refine W.widen (k := cells + 20) (n := slots + 2000) (by omega) (by omega) ?_
      exact kk H locs ls hR hS (lv_sub hl [2, 3, 4, 5, 6, 7] rfl)
    · have h := xpos c5 h
      refine lv_aload_n (pc := 365) hx hb dL_law_365 rfl (lv_at hl 5 rfl) ?_
      refine lv_iconst (pc := 366) hx hb dL_law_366 kc_0 ?_
      refine xr_laldk (pc := 367) 0 hx hb hK hR ko.1 ko.2 tn_0 (vl_0 (by decide)) dL_law_367 ?_
      refine lv_iload (pc := 368) hx hb dL_law_368 (lv_at hl 0 rfl) ?_
      refine lv_i2l (pc := 370) hx hb dL_law_370 rfl ?_
      refine W.lcmp (pc := 371) hx hb dL_law_371 ?_
      refine lv_if_eq (pc := 372) (tgt := 377) hx hb dL_law_372 (by decide) (fun c6 => ?_) (fun c6 => ?_)
      · have h := xpos c6 h
        refine lv_goto (pc := 377) (tgt := 1973) hx hb dL_law_377 (by decide) ?_
        cases h
        refine W.widen (k := cells + 20) (n := slots + 2000) (by omega) (by omega) ?_
        exact kk H locs ls hR hS (lv_sub hl [2, 3, 4, 5, 6, 7] rfl)
      · have h := xneg c6 h
        refine lv_iconst (pc := 375) hx hb dL_law_375 kc_0 ?_
        cases h
  · have h := xneg c4 h
    refine lv_iconst (pc := 358) hx hb dL_law_358 kc_0 ?_
    cases h
set_option maxHeartbeats 1000000 in
set_option maxRecDepth 20000 in
theorem wL_3 {p : Program} {l : Launch} (hls : l.stackTraces = false) {e : Env} {s : State} {m : MethodId} {args : Array Value} {below : List Frame} {meth : Method} {c : Code} {D : va_G} {ca : Nat → ClassId} {z : Nat} {G : xG} {X : va_W} {ad av : Nat → Nat} {b L : Nat} {xs : Nat → Int32} {Q : State → Prop} {H0 : Heap} (hF : xFix z G X) (hx : p.tables.exec = Jvm.exec) (hb : c.code = cL_law) (hml : c.maxLocals = 9) (hts : ∀ w ∈ xAll, w.before args s = true) (hown : s.vm.findClass RL = some m.cls) (hK : va_K D vwCl (xT ca) s) (hE : xEv z ad av s s.heap) (hX : va_X b L xs s s.heap) (hbl : b < s.heap.size) (hbA : ¬ z ≤ b) {x md out od : Nat} (kx : xI_Coat G x) (km : xI_Model G md) (ko : xI_Longs 1 G out) {j : Nat} (hj : j + 4 ≤ L) (hL : L ≤ 2048) {cells slots : Nat} (hc : cells + 20 ≤ 603072) (hs : slots + 2000 ≤ 7211114) {μ μ1 : xM} (h : gL_3 x md out (xs (j + 1)) (xs (j + 2)) (xs (j + 3)) μ = some μ1) {H : Heap} {locs : List Loc} {ls : Array Slot} (hR : xRep D ca G X μ H) (hS : va_S (fun q => z ≤ q) s.heap H locs) (hl : lv_has ls 9 [(0, .ref b), (1, .ref x), (2, .ref md), (3, .ref out), (4, .ref od), (5, .int (nI j))])
    (kk : ∀ (H : Heap) (locs : List Loc) (ls : Array Slot), xRep D ca G X μ1 H → va_S (fun q => z ≤ q) s.heap H locs → lv_has ls 9 [(0, .ref b), (1, .ref x), (2, .ref md), (3, .ref out), (4, .ref od), (5, .int (nI j))] → W p l e room_1 s m args below meth c H locs (cells + 20) (slots + 2000) Q (F0 m 1973 ls [])) : W p l e room_1 s m args below meth c H locs cells slots Q (F0 m 380 ls []) := by
  rw [gL_3] at h
  refine lv_aload_n (pc := 380) hx hb dL_law_380 rfl (lv_at hl 1 rfl) ?_
  refine lv_aload_n (pc := 381) hx hb dL_law_381 rfl (lv_at hl 0 rfl) ?_
  refine lv_iload (pc := 382) hx hb dL_law_382 (lv_at hl 5 rfl) ?_
  refine lv_iconst (pc := 384) hx hb dL_law_384 kc_1 ?_
  refine lv_iadd (pc := 385) hx hb dL_law_385 ?_
  refine xr_sld (pc := 386) (j + 1) hx hb hX hbl hbA hS (xhI1 hj hL) (xhV1 hj hL) dL_law_386 ?_
  refine lv_aload_n (pc := 387) hx hb dL_law_387 rfl (lv_at hl 3 rfl) ?_
  obtain ⟨r1, m1, c1, h⟩ := xb_inv h
  refine xl_call (pc := 388) (As := [.ref _, .int _, .ref _]) (rest := []) ⟨hx, hb, hml, hown, hts⟩ (mL_pass hls hF _ _ _ kx ko c1) fhL_pass q_m_L_134 ⟨Nat.le_of_ble_eq_true rfl, Nat.le_of_ble_eq_true rfl⟩ hR hK hE hS rfl hl.1 rfl (Nat.le_of_ble_eq_true rfl) dL_law_388 ⟨by omega, by omega⟩ (fun H locs hR hS => ?_)
  refine lv_istore (pc := 391) (lv' := [(6, .int _), (0, .ref _), (1, .ref _), (2, .ref _), (3, .ref _), (4, .ref _), (5, .int _)]) hx hb dL_law_391 hl (Nat.le_of_ble_eq_true rfl) rfl (fun ls hl => ?_)
  refine lv_aload_n (pc := 393) hx hb dL_law_393 rfl (lv_at hl 3 rfl) ?_
  refine lv_aload_n (pc := 394) hx hb dL_law_394 rfl (lv_at hl 1 rfl) ?_
  refine lv_iload (pc := 395) hx hb dL_law_395 (lv_at hl 6 rfl) ?_
  refine lv_iconst (pc := 397) hx hb dL_law_397 kc_1 ?_
  refine lv_iadd (pc := 398) hx hb dL_law_398 ?_
  refine xr_sld (pc := 399) (j + 1) hx hb hX hbl hbA hS (xhI1 hj hL) (xhV1 hj hL) dL_law_399 ?_
  obtain ⟨r2, m2, c2, h⟩ := xb_inv h
  refine xl_iV (pc := 400) (As := [.int _]) (rest := []) ⟨hx, hb, hml, hown, hts⟩ (mX8_pass hF _ _ km c2) fdX8_pass q_m_L_136 ⟨Nat.le_of_ble_eq_true rfl, Nat.le_of_ble_eq_true rfl⟩ (xRecv hK hR (ci := 12) rfl km.1) hR hK hE hS rfl hl.1 rfl (Nat.le_of_ble_eq_true rfl) dL_law_400 ⟨by omega, by omega⟩ (fun H locs hR hS => ?_)
  refine lv_istore (pc := 403) (lv' := [(7, .int _), (6, .int _), (0, .ref _), (1, .ref _), (2, .ref _), (3, .ref _), (4, .ref _), (5, .int _)]) hx hb dL_law_403 hl (Nat.le_of_ble_eq_true rfl) rfl (fun ls hl => ?_)
  refine lv_aload_n (pc := 405) hx hb dL_law_405 rfl (lv_at hl 4 rfl) ?_
  obtain ⟨r3, m3, c3, h⟩ := xb_inv h
  refine xl_iV (pc := 406) (As := []) (rest := []) ⟨hx, hb, hml, hown, hts⟩ (mX8_thrown hF _ km c3) fdX8_thrown q_m_L_124 ⟨Nat.le_of_ble_eq_true rfl, Nat.le_of_ble_eq_true rfl⟩ (xRecv hK hR (ci := 12) rfl km.1) hR hK hE hS rfl hl.1 rfl (Nat.le_of_ble_eq_true rfl) dL_law_406 ⟨by omega, by omega⟩ (fun H locs hR hS => ?_)
  refine lv_iload (pc := 409) hx hb dL_law_409 (lv_at hl 1 rfl) ?_
  refine lv_icmp_eq (pc := 411) (tgt := 416) hx hb dL_law_411 (by decide) (fun c4 => ?_) (fun c4 => ?_)
  · have h := xpos c4 h
    refine lv_iload (pc := 416) hx hb dL_law_416 (lv_at hl 1 rfl) ?_
    refine lv_if_ne (pc := 418) (tgt := 433) hx hb dL_law_418 (by decide) (fun c5 => ?_) (fun c5 => ?_)
    · have h := xneg c5 h
      refine lv_goto (pc := 433) (tgt := 1973) hx hb dL_law_433 (by decide) ?_
      cases h
      refine W.widen (k := cells + 20) (n := slots + 2000) (by omega) (by omega) ?_
      exact kk H locs ls hR hS (lv_sub hl [2, 3, 4, 5, 6, 7] rfl)
    · have h := xpos c5 h
      refine lv_aload_n (pc := 421) hx hb dL_law_421 rfl (lv_at hl 5 rfl) ?_
      refine lv_iconst (pc := 422) hx hb dL_law_422 kc_0 ?_
      refine xr_laldk (pc := 423) 0 hx hb hK hR ko.1 ko.2 tn_0 (vl_0 (by decide)) dL_law_423 ?_
      refine lv_iload (pc := 424) hx hb dL_law_424 (lv_at hl 0 rfl) ?_
      refine lv_i2l (pc := 426) hx hb dL_law_426 rfl ?_
      refine W.lcmp (pc := 427) hx hb dL_law_427 ?_
      refine lv_if_eq (pc := 428) (tgt := 433) hx hb dL_law_428 (by decide) (fun c6 => ?_) (fun c6 => ?_)
      · have h := xpos c6 h
        refine lv_goto (pc := 433) (tgt := 1973) hx hb dL_law_433 (by decide) ?_
        cases h
        refine W.widen (k := cells + 20) (n := slots + 2000) (by omega) (by omega) ?_
        exact kk H locs ls hR hS (lv_sub hl [2, 3, 4, 5, 6, 7] rfl)
      · have h := xneg c6 h
        refine lv_iconst (pc := 431) hx hb dL_law_431 kc_0 ?_
        cases h
  · have h := xneg c4 h
    refine lv_iconst (pc := 414) hx hb dL_law_414 kc_0 ?_
    cases h
set_option maxHeartbeats 1000000 in
set_option maxRecDepth 20000 in
theorem wL_4 {p : Program} {l : Launch} (hls : l.stackTraces = false) {e : Env} {s : State} {m : MethodId} {args : Array Value} {below : List Frame} {meth : Method} {c : Code} {D : va_G} {ca : Nat → ClassId} {z : Nat} {G : xG} {X : va_W} {ad av : Nat → Nat} {b L : Nat} {xs : Nat → Int32} {Q : State → Prop} {H0 : Heap} (hF : xFix z G X) (hx : p.tables.exec = Jvm.exec) (hb : c.code = cL_law) (hml : c.maxLocals = 9) (hts : ∀ w ∈ xAll, w.before args s = true) (hown : s.vm.findClass RL = some m.cls) (hK : va_K D vwCl (xT ca) s) (hE : xEv z ad av s s.heap) (hX : va_X b L xs s s.heap) (hbl : b < s.heap.size) (hbA : ¬ z ≤ b) {x md out od : Nat} (kx : xI_Coat G x) (km : xI_Model G md) (ko : xI_Longs 1 G out) {j : Nat} (hj : j + 4 ≤ L) (hL : L ≤ 2048) {cells slots : Nat} (hc : cells + 20 ≤ 603072) (hs : slots + 2000 ≤ 7211114) {μ μ1 : xM} (h : gL_4 x md out (xs (j + 1)) (xs (j + 2)) (xs (j + 3)) μ = some μ1) {H : Heap} {locs : List Loc} {ls : Array Slot} (hR : xRep D ca G X μ H) (hS : va_S (fun q => z ≤ q) s.heap H locs) (hl : lv_has ls 9 [(0, .ref b), (1, .ref x), (2, .ref md), (3, .ref out), (4, .ref od), (5, .int (nI j))])
    (kk : ∀ (H : Heap) (locs : List Loc) (ls : Array Slot), xRep D ca G X μ1 H → va_S (fun q => z ≤ q) s.heap H locs → lv_has ls 9 [(0, .ref b), (1, .ref x), (2, .ref md), (3, .ref out), (4, .ref od), (5, .int (nI j))] → W p l e room_1 s m args below meth c H locs (cells + 20) (slots + 2000) Q (F0 m 1973 ls [])) : W p l e room_1 s m args below meth c H locs cells slots Q (F0 m 436 ls []) := by
  rw [gL_4] at h
  refine lv_aload_n (pc := 436) hx hb dL_law_436 rfl (lv_at hl 1 rfl) ?_
  refine lv_aload_n (pc := 437) hx hb dL_law_437 rfl (lv_at hl 0 rfl) ?_
  refine lv_iload (pc := 438) hx hb dL_law_438 (lv_at hl 5 rfl) ?_
  refine lv_iconst (pc := 440) hx hb dL_law_440 kc_1 ?_
  refine lv_iadd (pc := 441) hx hb dL_law_441 ?_
  refine xr_sld (pc := 442) (j + 1) hx hb hX hbl hbA hS (xhI1 hj hL) (xhV1 hj hL) dL_law_442 ?_
  refine lv_aload_n (pc := 443) hx hb dL_law_443 rfl (lv_at hl 3 rfl) ?_
  obtain ⟨r1, m1, c1, h⟩ := xb_inv h
  refine xl_call (pc := 444) (As := [.ref _, .int _, .ref _]) (rest := []) ⟨hx, hb, hml, hown, hts⟩ (mL_redeem hls hF _ _ _ kx ko c1) fhL_redeem q_m_L_137 ⟨Nat.le_of_ble_eq_true rfl, Nat.le_of_ble_eq_true rfl⟩ hR hK hE hS rfl hl.1 rfl (Nat.le_of_ble_eq_true rfl) dL_law_444 ⟨by omega, by omega⟩ (fun H locs hR hS => ?_)
  refine lv_istore (pc := 447) (lv' := [(6, .int _), (0, .ref _), (1, .ref _), (2, .ref _), (3, .ref _), (4, .ref _), (5, .int _)]) hx hb dL_law_447 hl (Nat.le_of_ble_eq_true rfl) rfl (fun ls hl => ?_)
  refine lv_aload_n (pc := 449) hx hb dL_law_449 rfl (lv_at hl 3 rfl) ?_
  refine lv_aload_n (pc := 450) hx hb dL_law_450 rfl (lv_at hl 1 rfl) ?_
  refine lv_iload (pc := 451) hx hb dL_law_451 (lv_at hl 6 rfl) ?_
  refine lv_iconst (pc := 453) hx hb dL_law_453 kc_1 ?_
  refine lv_iadd (pc := 454) hx hb dL_law_454 ?_
  refine xr_sld (pc := 455) (j + 1) hx hb hX hbl hbA hS (xhI1 hj hL) (xhV1 hj hL) dL_law_455 ?_
  obtain ⟨r2, m2, c2, h⟩ := xb_inv h
  refine xl_iV (pc := 456) (As := [.int _]) (rest := []) ⟨hx, hb, hml, hown, hts⟩ (mX8_redeem hF _ _ km c2) fdX8_redeem q_m_L_139 ⟨Nat.le_of_ble_eq_true rfl, Nat.le_of_ble_eq_true rfl⟩ (xRecv hK hR (ci := 12) rfl km.1) hR hK hE hS rfl hl.1 rfl (Nat.le_of_ble_eq_true rfl) dL_law_456 ⟨by omega, by omega⟩ (fun H locs hR hS => ?_)
  refine lv_istore (pc := 459) (lv' := [(7, .int _), (6, .int _), (0, .ref _), (1, .ref _), (2, .ref _), (3, .ref _), (4, .ref _), (5, .int _)]) hx hb dL_law_459 hl (Nat.le_of_ble_eq_true rfl) rfl (fun ls hl => ?_)
  refine lv_aload_n (pc := 461) hx hb dL_law_461 rfl (lv_at hl 4 rfl) ?_
  obtain ⟨r3, m3, c3, h⟩ := xb_inv h
  refine xl_iV (pc := 462) (As := []) (rest := []) ⟨hx, hb, hml, hown, hts⟩ (mX8_thrown hF _ km c3) fdX8_thrown q_m_L_124 ⟨Nat.le_of_ble_eq_true rfl, Nat.le_of_ble_eq_true rfl⟩ (xRecv hK hR (ci := 12) rfl km.1) hR hK hE hS rfl hl.1 rfl (Nat.le_of_ble_eq_true rfl) dL_law_462 ⟨by omega, by omega⟩ (fun H locs hR hS => ?_)
  refine lv_iload (pc := 465) hx hb dL_law_465 (lv_at hl 1 rfl) ?_
  refine lv_icmp_eq (pc := 467) (tgt := 472) hx hb dL_law_467 (by decide) (fun c4 => ?_) (fun c4 => ?_)
  · have h := xpos c4 h
    refine lv_iload (pc := 472) hx hb dL_law_472 (lv_at hl 1 rfl) ?_
    refine lv_if_ne (pc := 474) (tgt := 489) hx hb dL_law_474 (by decide) (fun c5 => ?_) (fun c5 => ?_)
    · have h := xneg c5 h
      refine lv_goto (pc := 489) (tgt := 1973) hx hb dL_law_489 (by decide) ?_
      cases h
      refine W.widen (k := cells + 20) (n := slots + 2000) (by omega) (by omega) ?_
      exact kk H locs ls hR hS (lv_sub hl [2, 3, 4, 5, 6, 7] rfl)
    · have h := xpos c5 h
      refine lv_aload_n (pc := 477) hx hb dL_law_477 rfl (lv_at hl 5 rfl) ?_
      refine lv_iconst (pc := 478) hx hb dL_law_478 kc_0 ?_
      refine xr_laldk (pc := 479) 0 hx hb hK hR ko.1 ko.2 tn_0 (vl_0 (by decide)) dL_law_479 ?_
      refine lv_iload (pc := 480) hx hb dL_law_480 (lv_at hl 0 rfl) ?_
      refine lv_i2l (pc := 482) hx hb dL_law_482 rfl ?_
      refine W.lcmp (pc := 483) hx hb dL_law_483 ?_
      refine lv_if_eq (pc := 484) (tgt := 489) hx hb dL_law_484 (by decide) (fun c6 => ?_) (fun c6 => ?_)
      · have h := xpos c6 h
        refine lv_goto (pc := 489) (tgt := 1973) hx hb dL_law_489 (by decide) ?_
        cases h
        refine W.widen (k := cells + 20) (n := slots + 2000) (by omega) (by omega) ?_
        exact kk H locs ls hR hS (lv_sub hl [2, 3, 4, 5, 6, 7] rfl)
      · have h := xneg c6 h
        refine lv_iconst (pc := 487) hx hb dL_law_487 kc_0 ?_
        cases h
  · have h := xneg c4 h
    refine lv_iconst (pc := 470) hx hb dL_law_470 kc_0 ?_
    cases h
set_option maxHeartbeats 1000000 in
set_option maxRecDepth 20000 in
theorem wL_5 {p : Program} {l : Launch} (hls : l.stackTraces = false) {e : Env} {s : State} {m : MethodId} {args : Array Value} {below : List Frame} {meth : Method} {c : Code} {D : va_G} {ca : Nat → ClassId} {z : Nat} {G : xG} {X : va_W} {ad av : Nat → Nat} {b L : Nat} {xs : Nat → Int32} {Q : State → Prop} {H0 : Heap} (hF : xFix z G X) (hx : p.tables.exec = Jvm.exec) (hb : c.code = cL_law) (hml : c.maxLocals = 9) (hts : ∀ w ∈ xAll, w.before args s = true) (hown : s.vm.findClass RL = some m.cls) (hK : va_K D vwCl (xT ca) s) (hE : xEv z ad av s s.heap) (hX : va_X b L xs s s.heap) (hbl : b < s.heap.size) (hbA : ¬ z ≤ b) {x md out od : Nat} (kx : xI_Coat G x) (km : xI_Model G md) (ko : xI_Longs 1 G out) {j : Nat} (hj : j + 4 ≤ L) (hL : L ≤ 2048) {cells slots : Nat} (hc : cells + 20 ≤ 603072) (hs : slots + 2000 ≤ 7211114) {μ μ1 : xM} (h : gL_5 x md out (xs (j + 1)) (xs (j + 2)) (xs (j + 3)) μ = some μ1) {H : Heap} {locs : List Loc} {ls : Array Slot} (hR : xRep D ca G X μ H) (hS : va_S (fun q => z ≤ q) s.heap H locs) (hl : lv_has ls 9 [(0, .ref b), (1, .ref x), (2, .ref md), (3, .ref out), (4, .ref od), (5, .int (nI j))])
    (kk : ∀ (H : Heap) (locs : List Loc) (ls : Array Slot), xRep D ca G X μ1 H → va_S (fun q => z ≤ q) s.heap H locs → lv_has ls 9 [(0, .ref b), (1, .ref x), (2, .ref md), (3, .ref out), (4, .ref od), (5, .int (nI j))] → W p l e room_1 s m args below meth c H locs (cells + 20) (slots + 2000) Q (F0 m 1973 ls [])) : W p l e room_1 s m args below meth c H locs cells slots Q (F0 m 492 ls []) := by
  rw [gL_5] at h
  refine lv_aload_n (pc := 492) hx hb dL_law_492 rfl (lv_at hl 1 rfl) ?_
  refine lv_aload_n (pc := 493) hx hb dL_law_493 rfl (lv_at hl 0 rfl) ?_
  refine lv_iload (pc := 494) hx hb dL_law_494 (lv_at hl 5 rfl) ?_
  refine lv_iconst (pc := 496) hx hb dL_law_496 kc_1 ?_
  refine lv_iadd (pc := 497) hx hb dL_law_497 ?_
  refine xr_sld (pc := 498) (j + 1) hx hb hX hbl hbA hS (xhI1 hj hL) (xhV1 hj hL) dL_law_498 ?_
  refine lv_aload_n (pc := 499) hx hb dL_law_499 rfl (lv_at hl 0 rfl) ?_
  refine lv_iload (pc := 500) hx hb dL_law_500 (lv_at hl 5 rfl) ?_
  refine lv_iconst (pc := 502) hx hb dL_law_502 kc_2 ?_
  refine lv_iadd (pc := 503) hx hb dL_law_503 ?_
  refine xr_sld (pc := 504) (j + 2) hx hb hX hbl hbA hS (xhI2 hj hL) (xhV2 hj hL) dL_law_504 ?_
  refine lv_aload_n (pc := 505) hx hb dL_law_505 rfl (lv_at hl 3 rfl) ?_
  obtain ⟨r1, m1, c1, h⟩ := xb_inv h
  refine xl_call (pc := 506) (As := [.ref _, .int _, .int _, .ref _]) (rest := []) ⟨hx, hb, hml, hown, hts⟩ (mL_pay hls hF _ _ _ _ kx ko c1) fhL_pay q_m_L_140 ⟨Nat.le_of_ble_eq_true rfl, Nat.le_of_ble_eq_true rfl⟩ hR hK hE hS rfl hl.1 rfl (Nat.le_of_ble_eq_true rfl) dL_law_506 ⟨by omega, by omega⟩ (fun H locs hR hS => ?_)
  refine lv_istore (pc := 509) (lv' := [(6, .int _), (0, .ref _), (1, .ref _), (2, .ref _), (3, .ref _), (4, .ref _), (5, .int _)]) hx hb dL_law_509 hl (Nat.le_of_ble_eq_true rfl) rfl (fun ls hl => ?_)
  refine lv_aload_n (pc := 511) hx hb dL_law_511 rfl (lv_at hl 3 rfl) ?_
  refine lv_aload_n (pc := 512) hx hb dL_law_512 rfl (lv_at hl 1 rfl) ?_
  refine lv_iload (pc := 513) hx hb dL_law_513 (lv_at hl 6 rfl) ?_
  refine lv_iconst (pc := 515) hx hb dL_law_515 kc_1 ?_
  refine lv_iadd (pc := 516) hx hb dL_law_516 ?_
  refine xr_sld (pc := 517) (j + 1) hx hb hX hbl hbA hS (xhI1 hj hL) (xhV1 hj hL) dL_law_517 ?_
  refine lv_aload_n (pc := 518) hx hb dL_law_518 rfl (lv_at hl 1 rfl) ?_
  refine lv_iload (pc := 519) hx hb dL_law_519 (lv_at hl 6 rfl) ?_
  refine lv_iconst (pc := 521) hx hb dL_law_521 kc_2 ?_
  refine lv_iadd (pc := 522) hx hb dL_law_522 ?_
  refine xr_sld (pc := 523) (j + 2) hx hb hX hbl hbA hS (xhI2 hj hL) (xhV2 hj hL) dL_law_523 ?_
  obtain ⟨r2, m2, c2, h⟩ := xb_inv h
  refine xl_iV (pc := 524) (As := [.int _, .int _]) (rest := []) ⟨hx, hb, hml, hown, hts⟩ (mX8_pay hF _ _ _ km c2) fdX8_pay q_m_L_143 ⟨Nat.le_of_ble_eq_true rfl, Nat.le_of_ble_eq_true rfl⟩ (xRecv hK hR (ci := 12) rfl km.1) hR hK hE hS rfl hl.1 rfl (Nat.le_of_ble_eq_true rfl) dL_law_524 ⟨by omega, by omega⟩ (fun H locs hR hS => ?_)
  refine lv_istore (pc := 527) (lv' := [(7, .int _), (6, .int _), (0, .ref _), (1, .ref _), (2, .ref _), (3, .ref _), (4, .ref _), (5, .int _)]) hx hb dL_law_527 hl (Nat.le_of_ble_eq_true rfl) rfl (fun ls hl => ?_)
  refine lv_aload_n (pc := 529) hx hb dL_law_529 rfl (lv_at hl 4 rfl) ?_
  obtain ⟨r3, m3, c3, h⟩ := xb_inv h
  refine xl_iV (pc := 530) (As := []) (rest := []) ⟨hx, hb, hml, hown, hts⟩ (mX8_thrown hF _ km c3) fdX8_thrown q_m_L_124 ⟨Nat.le_of_ble_eq_true rfl, Nat.le_of_ble_eq_true rfl⟩ (xRecv hK hR (ci := 12) rfl km.1) hR hK hE hS rfl hl.1 rfl (Nat.le_of_ble_eq_true rfl) dL_law_530 ⟨by omega, by omega⟩ (fun H locs hR hS => ?_)
  refine lv_iload (pc := 533) hx hb dL_law_533 (lv_at hl 1 rfl) ?_
  refine lv_icmp_eq (pc := 535) (tgt := 540) hx hb dL_law_535 (by decide) (fun c4 => ?_) (fun c4 => ?_)
  · have h := xpos c4 h
    refine lv_iload (pc := 540) hx hb dL_law_540 (lv_at hl 1 rfl) ?_
    refine lv_if_ne (pc := 542) (tgt := 557) hx hb dL_law_542 (by decide) (fun c5 => ?_) (fun c5 => ?_)
    · have h := xneg c5 h
      refine lv_goto (pc := 557) (tgt := 1973) hx hb dL_law_557 (by decide) ?_
      cases h
      refine W.widen (k := cells + 20) (n := slots + 2000) (by omega) (by omega) ?_
      exact kk H locs ls hR hS (lv_sub hl [2, 3, 4, 5, 6, 7] rfl)
    · have h := xpos c5 h
      refine lv_aload_n (pc := 545) hx hb dL_law_545 rfl (lv_at hl 5 rfl) ?_
      refine lv_iconst (pc := 546) hx hb dL_law_546 kc_0 ?_
      refine xr_laldk (pc := 547) 0 hx hb hK hR ko.1 ko.2 tn_0 (vl_0 (by decide)) dL_law_547 ?_
      refine lv_iload (pc := 548) hx hb dL_law_548 (lv_at hl 0 rfl) ?_
      refine lv_i2l (pc := 550) hx hb dL_law_550 rfl ?_
      refine W.lcmp (pc := 551) hx hb dL_law_551 ?_
      refine lv_if_eq (pc := 552) (tgt := 557) hx hb dL_law_552 (by decide) (fun c6 => ?_) (fun c6 => ?_)
      · have h := xpos c6 h
        refine lv_goto (pc := 557) (tgt := 1973) hx hb dL_law_557 (by decide) ?_
        cases h
        refine W.widen (k := cells + 20) (n := slots + 2000) (by omega) (by omega) ?_
        exact kk H locs ls hR hS (lv_sub hl [2, 3, 4, 5, 6, 7] rfl)
      · have h := xneg c6 h
        refine lv_iconst (pc := 555) hx hb dL_law_555 kc_0 ?_
        cases h
  · have h := xneg c4 h
    refine lv_iconst (pc := 538) hx hb dL_law_538 kc_0 ?_
    cases h
set_option maxHeartbeats 1000000 in
set_option maxRecDepth 20000 in
theorem wL_6 {p : Program} {l : Launch} (hls : l.stackTraces = false) {e : Env} {s : State} {m : MethodId} {args : Array Value} {below : List Frame} {meth : Method} {c : Code} {D : va_G} {ca : Nat → ClassId} {z : Nat} {G : xG} {X : va_W} {ad av : Nat → Nat} {b L : Nat} {xs : Nat → Int32} {Q : State → Prop} {H0 : Heap} (hF : xFix z G X) (hx : p.tables.exec = Jvm.exec) (hb : c.code = cL_law) (hml : c.maxLocals = 9) (hts : ∀ w ∈ xAll, w.before args s = true) (hown : s.vm.findClass RL = some m.cls) (hK : va_K D vwCl (xT ca) s) (hE : xEv z ad av s s.heap) (hX : va_X b L xs s s.heap) (hbl : b < s.heap.size) (hbA : ¬ z ≤ b) {x md out od : Nat} (kx : xI_Coat G x) (km : xI_Model G md) (ko : xI_Longs 1 G out) {j : Nat} (hj : j + 4 ≤ L) (hL : L ≤ 2048) {cells slots : Nat} (hc : cells + 20 ≤ 603072) (hs : slots + 2000 ≤ 7211114) {μ μ1 : xM} (h : gL_6 x md out (xs (j + 1)) (xs (j + 2)) (xs (j + 3)) μ = some μ1) {H : Heap} {locs : List Loc} {ls : Array Slot} (hR : xRep D ca G X μ H) (hS : va_S (fun q => z ≤ q) s.heap H locs) (hl : lv_has ls 9 [(0, .ref b), (1, .ref x), (2, .ref md), (3, .ref out), (4, .ref od), (5, .int (nI j))])
    (kk : ∀ (H : Heap) (locs : List Loc) (ls : Array Slot), xRep D ca G X μ1 H → va_S (fun q => z ≤ q) s.heap H locs → lv_has ls 9 [(0, .ref b), (1, .ref x), (2, .ref md), (3, .ref out), (4, .ref od), (5, .int (nI j))] → W p l e room_1 s m args below meth c H locs (cells + 20) (slots + 2000) Q (F0 m 1973 ls [])) : W p l e room_1 s m args below meth c H locs cells slots Q (F0 m 560 ls []) := by
  rw [gL_6] at h
  refine lv_aload_n (pc := 560) hx hb dL_law_560 rfl (lv_at hl 1 rfl) ?_
  refine lv_aload_n (pc := 561) hx hb dL_law_561 rfl (lv_at hl 0 rfl) ?_
  refine lv_iload (pc := 562) hx hb dL_law_562 (lv_at hl 5 rfl) ?_
  refine lv_iconst (pc := 564) hx hb dL_law_564 kc_1 ?_
  refine lv_iadd (pc := 565) hx hb dL_law_565 ?_
  refine xr_sld (pc := 566) (j + 1) hx hb hX hbl hbA hS (xhI1 hj hL) (xhV1 hj hL) dL_law_566 ?_
  refine lv_aload_n (pc := 567) hx hb dL_law_567 rfl (lv_at hl 3 rfl) ?_
  obtain ⟨r1, m1, c1, h⟩ := xb_inv h
  refine xl_call (pc := 568) (As := [.ref _, .int _, .ref _]) (rest := []) ⟨hx, hb, hml, hown, hts⟩ (mL_renew hls hF _ _ _ kx ko c1) fhL_renew q_m_L_144 ⟨Nat.le_of_ble_eq_true rfl, Nat.le_of_ble_eq_true rfl⟩ hR hK hE hS rfl hl.1 rfl (Nat.le_of_ble_eq_true rfl) dL_law_568 ⟨by omega, by omega⟩ (fun H locs hR hS => ?_)
  refine lv_istore (pc := 571) (lv' := [(6, .int _), (0, .ref _), (1, .ref _), (2, .ref _), (3, .ref _), (4, .ref _), (5, .int _)]) hx hb dL_law_571 hl (Nat.le_of_ble_eq_true rfl) rfl (fun ls hl => ?_)
  refine lv_aload_n (pc := 573) hx hb dL_law_573 rfl (lv_at hl 3 rfl) ?_
  refine lv_aload_n (pc := 574) hx hb dL_law_574 rfl (lv_at hl 1 rfl) ?_
  refine lv_iload (pc := 575) hx hb dL_law_575 (lv_at hl 6 rfl) ?_
  refine lv_iconst (pc := 577) hx hb dL_law_577 kc_1 ?_
  refine lv_iadd (pc := 578) hx hb dL_law_578 ?_
  refine xr_sld (pc := 579) (j + 1) hx hb hX hbl hbA hS (xhI1 hj hL) (xhV1 hj hL) dL_law_579 ?_
  obtain ⟨r2, m2, c2, h⟩ := xb_inv h
  refine xl_iV (pc := 580) (As := [.int _]) (rest := []) ⟨hx, hb, hml, hown, hts⟩ (mX8_renew hF _ _ km c2) fdX8_renew q_m_L_146 ⟨Nat.le_of_ble_eq_true rfl, Nat.le_of_ble_eq_true rfl⟩ (xRecv hK hR (ci := 12) rfl km.1) hR hK hE hS rfl hl.1 rfl (Nat.le_of_ble_eq_true rfl) dL_law_580 ⟨by omega, by omega⟩ (fun H locs hR hS => ?_)
  refine lv_istore (pc := 583) (lv' := [(7, .int _), (6, .int _), (0, .ref _), (1, .ref _), (2, .ref _), (3, .ref _), (4, .ref _), (5, .int _)]) hx hb dL_law_583 hl (Nat.le_of_ble_eq_true rfl) rfl (fun ls hl => ?_)
  refine lv_aload_n (pc := 585) hx hb dL_law_585 rfl (lv_at hl 4 rfl) ?_
  obtain ⟨r3, m3, c3, h⟩ := xb_inv h
  refine xl_iV (pc := 586) (As := []) (rest := []) ⟨hx, hb, hml, hown, hts⟩ (mX8_thrown hF _ km c3) fdX8_thrown q_m_L_124 ⟨Nat.le_of_ble_eq_true rfl, Nat.le_of_ble_eq_true rfl⟩ (xRecv hK hR (ci := 12) rfl km.1) hR hK hE hS rfl hl.1 rfl (Nat.le_of_ble_eq_true rfl) dL_law_586 ⟨by omega, by omega⟩ (fun H locs hR hS => ?_)
  refine lv_iload (pc := 589) hx hb dL_law_589 (lv_at hl 1 rfl) ?_
  refine lv_icmp_eq (pc := 591) (tgt := 596) hx hb dL_law_591 (by decide) (fun c4 => ?_) (fun c4 => ?_)
  · have h := xpos c4 h
    refine lv_iload (pc := 596) hx hb dL_law_596 (lv_at hl 1 rfl) ?_
    refine lv_if_ne (pc := 598) (tgt := 613) hx hb dL_law_598 (by decide) (fun c5 => ?_) (fun c5 => ?_)
    · have h := xneg c5 h
      refine lv_goto (pc := 613) (tgt := 1973) hx hb dL_law_613 (by decide) ?_
      cases h
      refine W.widen (k := cells + 20) (n := slots + 2000) (by omega) (by omega) ?_
      exact kk H locs ls hR hS (lv_sub hl [2, 3, 4, 5, 6, 7] rfl)
    · have h := xpos c5 h
      refine lv_aload_n (pc := 601) hx hb dL_law_601 rfl (lv_at hl 5 rfl) ?_
      refine lv_iconst (pc := 602) hx hb dL_law_602 kc_0 ?_
      refine xr_laldk (pc := 603) 0 hx hb hK hR ko.1 ko.2 tn_0 (vl_0 (by decide)) dL_law_603 ?_
      refine lv_iload (pc := 604) hx hb dL_law_604 (lv_at hl 0 rfl) ?_
      refine lv_i2l (pc := 606) hx hb dL_law_606 rfl ?_
      refine W.lcmp (pc := 607) hx hb dL_law_607 ?_
      refine lv_if_eq (pc := 608) (tgt := 613) hx hb dL_law_608 (by decide) (fun c6 => ?_) (fun c6 => ?_)
      · have h := xpos c6 h
        refine lv_goto (pc := 613) (tgt := 1973) hx hb dL_law_613 (by decide) ?_
        cases h
        refine W.widen (k := cells + 20) (n := slots + 2000) (by omega) (by omega) ?_
        exact kk H locs ls hR hS (lv_sub hl [2, 3, 4, 5, 6, 7] rfl)
      · have h := xneg c6 h
        refine lv_iconst (pc := 611) hx hb dL_law_611 kc_0 ?_
        cases h
  · have h := xneg c4 h
    refine lv_iconst (pc := 594) hx hb dL_law_594 kc_0 ?_
    cases h
set_option maxHeartbeats 1000000 in
set_option maxRecDepth 20000 in
theorem wL_7 {p : Program} {l : Launch} (hls : l.stackTraces = false) {e : Env} {s : State} {m : MethodId} {args : Array Value} {below : List Frame} {meth : Method} {c : Code} {D : va_G} {ca : Nat → ClassId} {z : Nat} {G : xG} {X : va_W} {ad av : Nat → Nat} {b L : Nat} {xs : Nat → Int32} {Q : State → Prop} {H0 : Heap} (hF : xFix z G X) (hx : p.tables.exec = Jvm.exec) (hb : c.code = cL_law) (hml : c.maxLocals = 9) (hts : ∀ w ∈ xAll, w.before args s = true) (hown : s.vm.findClass RL = some m.cls) (hK : va_K D vwCl (xT ca) s) (hE : xEv z ad av s s.heap) (hX : va_X b L xs s s.heap) (hbl : b < s.heap.size) (hbA : ¬ z ≤ b) {x md out od : Nat} (kx : xI_Coat G x) (km : xI_Model G md) (ko : xI_Longs 1 G out) {j : Nat} (hj : j + 4 ≤ L) (hL : L ≤ 2048) {cells slots : Nat} (hc : cells + 20 ≤ 603072) (hs : slots + 2000 ≤ 7211114) {μ μ1 : xM} (h : gL_7 x md out (xs (j + 1)) (xs (j + 2)) (xs (j + 3)) μ = some μ1) {H : Heap} {locs : List Loc} {ls : Array Slot} (hR : xRep D ca G X μ H) (hS : va_S (fun q => z ≤ q) s.heap H locs) (hl : lv_has ls 9 [(0, .ref b), (1, .ref x), (2, .ref md), (3, .ref out), (4, .ref od), (5, .int (nI j))])
    (kk : ∀ (H : Heap) (locs : List Loc) (ls : Array Slot), xRep D ca G X μ1 H → va_S (fun q => z ≤ q) s.heap H locs → lv_has ls 9 [(0, .ref b), (1, .ref x), (2, .ref md), (3, .ref out), (4, .ref od), (5, .int (nI j))] → W p l e room_1 s m args below meth c H locs (cells + 20) (slots + 2000) Q (F0 m 1973 ls [])) : W p l e room_1 s m args below meth c H locs cells slots Q (F0 m 616 ls []) := by
  rw [gL_7] at h
  refine lv_aload_n (pc := 616) hx hb dL_law_616 rfl (lv_at hl 1 rfl) ?_
  refine lv_aload_n (pc := 617) hx hb dL_law_617 rfl (lv_at hl 0 rfl) ?_
  refine lv_iload (pc := 618) hx hb dL_law_618 (lv_at hl 5 rfl) ?_
  refine lv_iconst (pc := 620) hx hb dL_law_620 kc_1 ?_
  refine lv_iadd (pc := 621) hx hb dL_law_621 ?_
  refine xr_sld (pc := 622) (j + 1) hx hb hX hbl hbA hS (xhI1 hj hL) (xhV1 hj hL) dL_law_622 ?_
  refine lv_aload_n (pc := 623) hx hb dL_law_623 rfl (lv_at hl 0 rfl) ?_
  refine lv_iload (pc := 624) hx hb dL_law_624 (lv_at hl 5 rfl) ?_
  refine lv_iconst (pc := 626) hx hb dL_law_626 kc_2 ?_
  refine lv_iadd (pc := 627) hx hb dL_law_627 ?_
  refine xr_sld (pc := 628) (j + 2) hx hb hX hbl hbA hS (xhI2 hj hL) (xhV2 hj hL) dL_law_628 ?_
  refine lv_aload_n (pc := 629) hx hb dL_law_629 rfl (lv_at hl 3 rfl) ?_
  obtain ⟨r1, m1, c1, h⟩ := xb_inv h
  refine xl_call (pc := 630) (As := [.ref _, .int _, .int _, .ref _]) (rest := []) ⟨hx, hb, hml, hown, hts⟩ (mL_pledgeOf hls hF _ _ _ _ kx ko c1) fhL_pledgeOf q_m_L_147 ⟨Nat.le_of_ble_eq_true rfl, Nat.le_of_ble_eq_true rfl⟩ hR hK hE hS rfl hl.1 rfl (Nat.le_of_ble_eq_true rfl) dL_law_630 ⟨by omega, by omega⟩ (fun H locs hR hS => ?_)
  refine lv_istore (pc := 633) (lv' := [(6, .int _), (0, .ref _), (1, .ref _), (2, .ref _), (3, .ref _), (4, .ref _), (5, .int _)]) hx hb dL_law_633 hl (Nat.le_of_ble_eq_true rfl) rfl (fun ls hl => ?_)
  refine lv_aload_n (pc := 635) hx hb dL_law_635 rfl (lv_at hl 3 rfl) ?_
  refine lv_aload_n (pc := 636) hx hb dL_law_636 rfl (lv_at hl 1 rfl) ?_
  refine lv_iload (pc := 637) hx hb dL_law_637 (lv_at hl 6 rfl) ?_
  refine lv_iconst (pc := 639) hx hb dL_law_639 kc_1 ?_
  refine lv_iadd (pc := 640) hx hb dL_law_640 ?_
  refine xr_sld (pc := 641) (j + 1) hx hb hX hbl hbA hS (xhI1 hj hL) (xhV1 hj hL) dL_law_641 ?_
  refine lv_aload_n (pc := 642) hx hb dL_law_642 rfl (lv_at hl 1 rfl) ?_
  refine lv_iload (pc := 643) hx hb dL_law_643 (lv_at hl 6 rfl) ?_
  refine lv_iconst (pc := 645) hx hb dL_law_645 kc_2 ?_
  refine lv_iadd (pc := 646) hx hb dL_law_646 ?_
  refine xr_sld (pc := 647) (j + 2) hx hb hX hbl hbA hS (xhI2 hj hL) (xhV2 hj hL) dL_law_647 ?_
  obtain ⟨r2, m2, c2, h⟩ := xb_inv h
  refine xl_iV (pc := 648) (As := [.int _, .int _]) (rest := []) ⟨hx, hb, hml, hown, hts⟩ (mX8_pledgeOf hF _ _ _ km c2) fdX8_pledgeOf q_m_L_149 ⟨Nat.le_of_ble_eq_true rfl, Nat.le_of_ble_eq_true rfl⟩ (xRecv hK hR (ci := 12) rfl km.1) hR hK hE hS rfl hl.1 rfl (Nat.le_of_ble_eq_true rfl) dL_law_648 ⟨by omega, by omega⟩ (fun H locs hR hS => ?_)
  refine lv_istore (pc := 651) (lv' := [(7, .int _), (6, .int _), (0, .ref _), (1, .ref _), (2, .ref _), (3, .ref _), (4, .ref _), (5, .int _)]) hx hb dL_law_651 hl (Nat.le_of_ble_eq_true rfl) rfl (fun ls hl => ?_)
  refine lv_aload_n (pc := 653) hx hb dL_law_653 rfl (lv_at hl 4 rfl) ?_
  obtain ⟨r3, m3, c3, h⟩ := xb_inv h
  refine xl_iV (pc := 654) (As := []) (rest := []) ⟨hx, hb, hml, hown, hts⟩ (mX8_thrown hF _ km c3) fdX8_thrown q_m_L_124 ⟨Nat.le_of_ble_eq_true rfl, Nat.le_of_ble_eq_true rfl⟩ (xRecv hK hR (ci := 12) rfl km.1) hR hK hE hS rfl hl.1 rfl (Nat.le_of_ble_eq_true rfl) dL_law_654 ⟨by omega, by omega⟩ (fun H locs hR hS => ?_)
  refine lv_iload (pc := 657) hx hb dL_law_657 (lv_at hl 1 rfl) ?_
  refine lv_icmp_eq (pc := 659) (tgt := 664) hx hb dL_law_659 (by decide) (fun c4 => ?_) (fun c4 => ?_)
  · have h := xpos c4 h
    refine lv_iload (pc := 664) hx hb dL_law_664 (lv_at hl 1 rfl) ?_
    refine lv_if_ne (pc := 666) (tgt := 681) hx hb dL_law_666 (by decide) (fun c5 => ?_) (fun c5 => ?_)
    · have h := xneg c5 h
      refine lv_goto (pc := 681) (tgt := 1973) hx hb dL_law_681 (by decide) ?_
      cases h
      refine W.widen (k := cells + 20) (n := slots + 2000) (by omega) (by omega) ?_
      exact kk H locs ls hR hS (lv_sub hl [2, 3, 4, 5, 6, 7] rfl)
    · have h := xpos c5 h
      refine lv_aload_n (pc := 669) hx hb dL_law_669 rfl (lv_at hl 5 rfl) ?_
      refine lv_iconst (pc := 670) hx hb dL_law_670 kc_0 ?_
      refine xr_laldk (pc := 671) 0 hx hb hK hR ko.1 ko.2 tn_0 (vl_0 (by decide)) dL_law_671 ?_
      refine lv_iload (pc := 672) hx hb dL_law_672 (lv_at hl 0 rfl) ?_
      refine lv_i2l (pc := 674) hx hb dL_law_674 rfl ?_
      refine W.lcmp (pc := 675) hx hb dL_law_675 ?_
      refine lv_if_eq (pc := 676) (tgt := 681) hx hb dL_law_676 (by decide) (fun c6 => ?_) (fun c6 => ?_)
      · have h := xpos c6 h
        refine lv_goto (pc := 681) (tgt := 1973) hx hb dL_law_681 (by decide) ?_
        cases h
        refine W.widen (k := cells + 20) (n := slots + 2000) (by omega) (by omega) ?_
        exact kk H locs ls hR hS (lv_sub hl [2, 3, 4, 5, 6, 7] rfl)
      · have h := xneg c6 h
        refine lv_iconst (pc := 679) hx hb dL_law_679 kc_0 ?_
        cases h
  · have h := xneg c4 h
    refine lv_iconst (pc := 662) hx hb dL_law_662 kc_0 ?_
    cases h
set_option maxHeartbeats 1000000 in
set_option maxRecDepth 20000 in
theorem wL_8 {p : Program} {l : Launch} (hls : l.stackTraces = false) {e : Env} {s : State} {m : MethodId} {args : Array Value} {below : List Frame} {meth : Method} {c : Code} {D : va_G} {ca : Nat → ClassId} {z : Nat} {G : xG} {X : va_W} {ad av : Nat → Nat} {b L : Nat} {xs : Nat → Int32} {Q : State → Prop} {H0 : Heap} (hF : xFix z G X) (hx : p.tables.exec = Jvm.exec) (hb : c.code = cL_law) (hml : c.maxLocals = 9) (hts : ∀ w ∈ xAll, w.before args s = true) (hown : s.vm.findClass RL = some m.cls) (hK : va_K D vwCl (xT ca) s) (hE : xEv z ad av s s.heap) (hX : va_X b L xs s s.heap) (hbl : b < s.heap.size) (hbA : ¬ z ≤ b) {x md out od : Nat} (kx : xI_Coat G x) (km : xI_Model G md) (ko : xI_Longs 1 G out) {j : Nat} (hj : j + 4 ≤ L) (hL : L ≤ 2048) {cells slots : Nat} (hc : cells + 20 ≤ 603072) (hs : slots + 2000 ≤ 7211114) {μ μ1 : xM} (h : gL_8 x md out (xs (j + 1)) (xs (j + 2)) (xs (j + 3)) μ = some μ1) {H : Heap} {locs : List Loc} {ls : Array Slot} (hR : xRep D ca G X μ H) (hS : va_S (fun q => z ≤ q) s.heap H locs) (hl : lv_has ls 9 [(0, .ref b), (1, .ref x), (2, .ref md), (3, .ref out), (4, .ref od), (5, .int (nI j))])
    (kk : ∀ (H : Heap) (locs : List Loc) (ls : Array Slot), xRep D ca G X μ1 H → va_S (fun q => z ≤ q) s.heap H locs → lv_has ls 9 [(0, .ref b), (1, .ref x), (2, .ref md), (3, .ref out), (4, .ref od), (5, .int (nI j))] → W p l e room_1 s m args below meth c H locs (cells + 20) (slots + 2000) Q (F0 m 1973 ls [])) : W p l e room_1 s m args below meth c H locs cells slots Q (F0 m 684 ls []) := by
  rw [gL_8] at h
  refine lv_aload_n (pc := 684) hx hb dL_law_684 rfl (lv_at hl 1 rfl) ?_
  refine lv_aload_n (pc := 685) hx hb dL_law_685 rfl (lv_at hl 0 rfl) ?_
  refine lv_iload (pc := 686) hx hb dL_law_686 (lv_at hl 5 rfl) ?_
  refine lv_iconst (pc := 688) hx hb dL_law_688 kc_1 ?_
  refine lv_iadd (pc := 689) hx hb dL_law_689 ?_
  refine xr_sld (pc := 690) (j + 1) hx hb hX hbl hbA hS (xhI1 hj hL) (xhV1 hj hL) dL_law_690 ?_
  refine lv_aload_n (pc := 691) hx hb dL_law_691 rfl (lv_at hl 0 rfl) ?_
  refine lv_iload (pc := 692) hx hb dL_law_692 (lv_at hl 5 rfl) ?_
  refine lv_iconst (pc := 694) hx hb dL_law_694 kc_2 ?_
  refine lv_iadd (pc := 695) hx hb dL_law_695 ?_
  refine xr_sld (pc := 696) (j + 2) hx hb hX hbl hbA hS (xhI2 hj hL) (xhV2 hj hL) dL_law_696 ?_
  refine lv_aload_n (pc := 697) hx hb dL_law_697 rfl (lv_at hl 3 rfl) ?_
  obtain ⟨r1, m1, c1, h⟩ := xb_inv h
  refine xl_call (pc := 698) (As := [.ref _, .int _, .int _, .ref _]) (rest := []) ⟨hx, hb, hml, hown, hts⟩ (mL_sell hls hF _ _ _ _ kx ko c1) fhL_sell q_m_L_150 ⟨Nat.le_of_ble_eq_true rfl, Nat.le_of_ble_eq_true rfl⟩ hR hK hE hS rfl hl.1 rfl (Nat.le_of_ble_eq_true rfl) dL_law_698 ⟨by omega, by omega⟩ (fun H locs hR hS => ?_)
  refine lv_istore (pc := 701) (lv' := [(6, .int _), (0, .ref _), (1, .ref _), (2, .ref _), (3, .ref _), (4, .ref _), (5, .int _)]) hx hb dL_law_701 hl (Nat.le_of_ble_eq_true rfl) rfl (fun ls hl => ?_)
  refine lv_aload_n (pc := 703) hx hb dL_law_703 rfl (lv_at hl 3 rfl) ?_
  refine lv_aload_n (pc := 704) hx hb dL_law_704 rfl (lv_at hl 1 rfl) ?_
  refine lv_iload (pc := 705) hx hb dL_law_705 (lv_at hl 6 rfl) ?_
  refine lv_iconst (pc := 707) hx hb dL_law_707 kc_1 ?_
  refine lv_iadd (pc := 708) hx hb dL_law_708 ?_
  refine xr_sld (pc := 709) (j + 1) hx hb hX hbl hbA hS (xhI1 hj hL) (xhV1 hj hL) dL_law_709 ?_
  refine lv_aload_n (pc := 710) hx hb dL_law_710 rfl (lv_at hl 1 rfl) ?_
  refine lv_iload (pc := 711) hx hb dL_law_711 (lv_at hl 6 rfl) ?_
  refine lv_iconst (pc := 713) hx hb dL_law_713 kc_2 ?_
  refine lv_iadd (pc := 714) hx hb dL_law_714 ?_
  refine xr_sld (pc := 715) (j + 2) hx hb hX hbl hbA hS (xhI2 hj hL) (xhV2 hj hL) dL_law_715 ?_
  obtain ⟨r2, m2, c2, h⟩ := xb_inv h
  refine xl_iV (pc := 716) (As := [.int _, .int _]) (rest := []) ⟨hx, hb, hml, hown, hts⟩ (mX8_sell hF _ _ _ km c2) fdX8_sell q_m_L_152 ⟨Nat.le_of_ble_eq_true rfl, Nat.le_of_ble_eq_true rfl⟩ (xRecv hK hR (ci := 12) rfl km.1) hR hK hE hS rfl hl.1 rfl (Nat.le_of_ble_eq_true rfl) dL_law_716 ⟨by omega, by omega⟩ (fun H locs hR hS => ?_)
  refine lv_istore (pc := 719) (lv' := [(7, .int _), (6, .int _), (0, .ref _), (1, .ref _), (2, .ref _), (3, .ref _), (4, .ref _), (5, .int _)]) hx hb dL_law_719 hl (Nat.le_of_ble_eq_true rfl) rfl (fun ls hl => ?_)
  refine lv_aload_n (pc := 721) hx hb dL_law_721 rfl (lv_at hl 4 rfl) ?_
  obtain ⟨r3, m3, c3, h⟩ := xb_inv h
  refine xl_iV (pc := 722) (As := []) (rest := []) ⟨hx, hb, hml, hown, hts⟩ (mX8_thrown hF _ km c3) fdX8_thrown q_m_L_124 ⟨Nat.le_of_ble_eq_true rfl, Nat.le_of_ble_eq_true rfl⟩ (xRecv hK hR (ci := 12) rfl km.1) hR hK hE hS rfl hl.1 rfl (Nat.le_of_ble_eq_true rfl) dL_law_722 ⟨by omega, by omega⟩ (fun H locs hR hS => ?_)
  refine lv_iload (pc := 725) hx hb dL_law_725 (lv_at hl 1 rfl) ?_
  refine lv_icmp_eq (pc := 727) (tgt := 732) hx hb dL_law_727 (by decide) (fun c4 => ?_) (fun c4 => ?_)
  · have h := xpos c4 h
    refine lv_iload (pc := 732) hx hb dL_law_732 (lv_at hl 1 rfl) ?_
    refine lv_if_ne (pc := 734) (tgt := 749) hx hb dL_law_734 (by decide) (fun c5 => ?_) (fun c5 => ?_)
    · have h := xneg c5 h
      refine lv_goto (pc := 749) (tgt := 1973) hx hb dL_law_749 (by decide) ?_
      cases h
      refine W.widen (k := cells + 20) (n := slots + 2000) (by omega) (by omega) ?_
      exact kk H locs ls hR hS (lv_sub hl [2, 3, 4, 5, 6, 7] rfl)
    · have h := xpos c5 h
      refine lv_aload_n (pc := 737) hx hb dL_law_737 rfl (lv_at hl 5 rfl) ?_
      refine lv_iconst (pc := 738) hx hb dL_law_738 kc_0 ?_
      refine xr_laldk (pc := 739) 0 hx hb hK hR ko.1 ko.2 tn_0 (vl_0 (by decide)) dL_law_739 ?_
      refine lv_iload (pc := 740) hx hb dL_law_740 (lv_at hl 0 rfl) ?_
      refine lv_i2l (pc := 742) hx hb dL_law_742 rfl ?_
      refine W.lcmp (pc := 743) hx hb dL_law_743 ?_
      refine lv_if_eq (pc := 744) (tgt := 749) hx hb dL_law_744 (by decide) (fun c6 => ?_) (fun c6 => ?_)
      · have h := xpos c6 h
        refine lv_goto (pc := 749) (tgt := 1973) hx hb dL_law_749 (by decide) ?_
        cases h
        refine W.widen (k := cells + 20) (n := slots + 2000) (by omega) (by omega) ?_
        exact kk H locs ls hR hS (lv_sub hl [2, 3, 4, 5, 6, 7] rfl)
      · have h := xneg c6 h
        refine lv_iconst (pc := 747) hx hb dL_law_747 kc_0 ?_
        cases h
  · have h := xneg c4 h
    refine lv_iconst (pc := 730) hx hb dL_law_730 kc_0 ?_
    cases h
set_option maxHeartbeats 1000000 in
set_option maxRecDepth 20000 in
theorem wL_9 {p : Program} {l : Launch} (hls : l.stackTraces = false) {e : Env} {s : State} {m : MethodId} {args : Array Value} {below : List Frame} {meth : Method} {c : Code} {D : va_G} {ca : Nat → ClassId} {z : Nat} {G : xG} {X : va_W} {ad av : Nat → Nat} {b L : Nat} {xs : Nat → Int32} {Q : State → Prop} {H0 : Heap} (hF : xFix z G X) (hx : p.tables.exec = Jvm.exec) (hb : c.code = cL_law) (hml : c.maxLocals = 9) (hts : ∀ w ∈ xAll, w.before args s = true) (hown : s.vm.findClass RL = some m.cls) (hK : va_K D vwCl (xT ca) s) (hE : xEv z ad av s s.heap) (hX : va_X b L xs s s.heap) (hbl : b < s.heap.size) (hbA : ¬ z ≤ b) {x md out od : Nat} (kx : xI_Coat G x) (km : xI_Model G md) (ko : xI_Longs 1 G out) {j : Nat} (hj : j + 4 ≤ L) (hL : L ≤ 2048) {cells slots : Nat} (hc : cells + 20 ≤ 603072) (hs : slots + 2000 ≤ 7211114) {μ μ1 : xM} (h : gL_9 x md out (xs (j + 1)) (xs (j + 2)) (xs (j + 3)) μ = some μ1) {H : Heap} {locs : List Loc} {ls : Array Slot} (hR : xRep D ca G X μ H) (hS : va_S (fun q => z ≤ q) s.heap H locs) (hl : lv_has ls 9 [(0, .ref b), (1, .ref x), (2, .ref md), (3, .ref out), (4, .ref od), (5, .int (nI j))])
    (kk : ∀ (H : Heap) (locs : List Loc) (ls : Array Slot), xRep D ca G X μ1 H → va_S (fun q => z ≤ q) s.heap H locs → lv_has ls 9 [(0, .ref b), (1, .ref x), (2, .ref md), (3, .ref out), (4, .ref od), (5, .int (nI j))] → W p l e room_1 s m args below meth c H locs (cells + 20) (slots + 2000) Q (F0 m 1973 ls [])) : W p l e room_1 s m args below meth c H locs cells slots Q (F0 m 752 ls []) := by
  rw [gL_9] at h
  refine lv_aload_n (pc := 752) hx hb dL_law_752 rfl (lv_at hl 1 rfl) ?_
  refine lv_aload_n (pc := 753) hx hb dL_law_753 rfl (lv_at hl 0 rfl) ?_
  refine lv_iload (pc := 754) hx hb dL_law_754 (lv_at hl 5 rfl) ?_
  refine lv_iconst (pc := 756) hx hb dL_law_756 kc_1 ?_
  refine lv_iadd (pc := 757) hx hb dL_law_757 ?_
  refine xr_sld (pc := 758) (j + 1) hx hb hX hbl hbA hS (xhI1 hj hL) (xhV1 hj hL) dL_law_758 ?_
  refine lv_aload_n (pc := 759) hx hb dL_law_759 rfl (lv_at hl 3 rfl) ?_
  obtain ⟨r1, m1, c1, h⟩ := xb_inv h
  refine xl_call (pc := 760) (As := [.ref _, .int _, .ref _]) (rest := []) ⟨hx, hb, hml, hown, hts⟩ (mL_claim hls hF _ _ _ kx ko c1) fhL_claim q_m_L_153 ⟨Nat.le_of_ble_eq_true rfl, Nat.le_of_ble_eq_true rfl⟩ hR hK hE hS rfl hl.1 rfl (Nat.le_of_ble_eq_true rfl) dL_law_760 ⟨by omega, by omega⟩ (fun H locs hR hS => ?_)
  refine lv_istore (pc := 763) (lv' := [(6, .int _), (0, .ref _), (1, .ref _), (2, .ref _), (3, .ref _), (4, .ref _), (5, .int _)]) hx hb dL_law_763 hl (Nat.le_of_ble_eq_true rfl) rfl (fun ls hl => ?_)
  refine lv_aload_n (pc := 765) hx hb dL_law_765 rfl (lv_at hl 3 rfl) ?_
  refine lv_aload_n (pc := 766) hx hb dL_law_766 rfl (lv_at hl 1 rfl) ?_
  refine lv_iload (pc := 767) hx hb dL_law_767 (lv_at hl 6 rfl) ?_
  refine lv_iconst (pc := 769) hx hb dL_law_769 kc_1 ?_
  refine lv_iadd (pc := 770) hx hb dL_law_770 ?_
  refine xr_sld (pc := 771) (j + 1) hx hb hX hbl hbA hS (xhI1 hj hL) (xhV1 hj hL) dL_law_771 ?_
  obtain ⟨r2, m2, c2, h⟩ := xb_inv h
  refine xl_iV (pc := 772) (As := [.int _]) (rest := []) ⟨hx, hb, hml, hown, hts⟩ (mX8_claim hF _ _ km c2) fdX8_claim q_m_L_155 ⟨Nat.le_of_ble_eq_true rfl, Nat.le_of_ble_eq_true rfl⟩ (xRecv hK hR (ci := 12) rfl km.1) hR hK hE hS rfl hl.1 rfl (Nat.le_of_ble_eq_true rfl) dL_law_772 ⟨by omega, by omega⟩ (fun H locs hR hS => ?_)
  refine lv_istore (pc := 775) (lv' := [(7, .int _), (6, .int _), (0, .ref _), (1, .ref _), (2, .ref _), (3, .ref _), (4, .ref _), (5, .int _)]) hx hb dL_law_775 hl (Nat.le_of_ble_eq_true rfl) rfl (fun ls hl => ?_)
  refine lv_aload_n (pc := 777) hx hb dL_law_777 rfl (lv_at hl 4 rfl) ?_
  obtain ⟨r3, m3, c3, h⟩ := xb_inv h
  refine xl_iV (pc := 778) (As := []) (rest := []) ⟨hx, hb, hml, hown, hts⟩ (mX8_thrown hF _ km c3) fdX8_thrown q_m_L_124 ⟨Nat.le_of_ble_eq_true rfl, Nat.le_of_ble_eq_true rfl⟩ (xRecv hK hR (ci := 12) rfl km.1) hR hK hE hS rfl hl.1 rfl (Nat.le_of_ble_eq_true rfl) dL_law_778 ⟨by omega, by omega⟩ (fun H locs hR hS => ?_)
  refine lv_iload (pc := 781) hx hb dL_law_781 (lv_at hl 1 rfl) ?_
  refine lv_icmp_eq (pc := 783) (tgt := 788) hx hb dL_law_783 (by decide) (fun c4 => ?_) (fun c4 => ?_)
  · have h := xpos c4 h
    refine lv_iload (pc := 788) hx hb dL_law_788 (lv_at hl 1 rfl) ?_
    refine lv_if_ne (pc := 790) (tgt := 805) hx hb dL_law_790 (by decide) (fun c5 => ?_) (fun c5 => ?_)
    · have h := xneg c5 h
      refine lv_goto (pc := 805) (tgt := 1973) hx hb dL_law_805 (by decide) ?_
      cases h
      refine W.widen (k := cells + 20) (n := slots + 2000) (by omega) (by omega) ?_
      exact kk H locs ls hR hS (lv_sub hl [2, 3, 4, 5, 6, 7] rfl)
    · have h := xpos c5 h
      refine lv_aload_n (pc := 793) hx hb dL_law_793 rfl (lv_at hl 5 rfl) ?_
      refine lv_iconst (pc := 794) hx hb dL_law_794 kc_0 ?_
      refine xr_laldk (pc := 795) 0 hx hb hK hR ko.1 ko.2 tn_0 (vl_0 (by decide)) dL_law_795 ?_
      refine lv_iload (pc := 796) hx hb dL_law_796 (lv_at hl 0 rfl) ?_
      refine lv_i2l (pc := 798) hx hb dL_law_798 rfl ?_
      refine W.lcmp (pc := 799) hx hb dL_law_799 ?_
      refine lv_if_eq (pc := 800) (tgt := 805) hx hb dL_law_800 (by decide) (fun c6 => ?_) (fun c6 => ?_)
      · have h := xpos c6 h
        refine lv_goto (pc := 805) (tgt := 1973) hx hb dL_law_805 (by decide) ?_
        cases h
        refine W.widen (k := cells + 20) (n := slots + 2000) (by omega) (by omega) ?_
        exact kk H locs ls hR hS (lv_sub hl [2, 3, 4, 5, 6, 7] rfl)
      · have h := xneg c6 h
        refine lv_iconst (pc := 803) hx hb dL_law_803 kc_0 ?_
        cases h
  · have h := xneg c4 h
    refine lv_iconst (pc := 786) hx hb dL_law_786 kc_0 ?_
    cases h
set_option maxHeartbeats 1000000 in
set_option maxRecDepth 20000 in
theorem wL_10 {p : Program} {l : Launch} (hls : l.stackTraces = false) {e : Env} {s : State} {m : MethodId} {args : Array Value} {below : List Frame} {meth : Method} {c : Code} {D : va_G} {ca : Nat → ClassId} {z : Nat} {G : xG} {X : va_W} {ad av : Nat → Nat} {b L : Nat} {xs : Nat → Int32} {Q : State → Prop} {H0 : Heap} (hF : xFix z G X) (hx : p.tables.exec = Jvm.exec) (hb : c.code = cL_law) (hml : c.maxLocals = 9) (hts : ∀ w ∈ xAll, w.before args s = true) (hown : s.vm.findClass RL = some m.cls) (hK : va_K D vwCl (xT ca) s) (hE : xEv z ad av s s.heap) (hX : va_X b L xs s s.heap) (hbl : b < s.heap.size) (hbA : ¬ z ≤ b) {x md out od : Nat} (kx : xI_Coat G x) (km : xI_Model G md) (ko : xI_Longs 1 G out) {j : Nat} (hj : j + 4 ≤ L) (hL : L ≤ 2048) {cells slots : Nat} (hc : cells + 20 ≤ 603072) (hs : slots + 2000 ≤ 7211114) {μ μ1 : xM} (h : gL_10 x md out (xs (j + 1)) (xs (j + 2)) (xs (j + 3)) μ = some μ1) {H : Heap} {locs : List Loc} {ls : Array Slot} (hR : xRep D ca G X μ H) (hS : va_S (fun q => z ≤ q) s.heap H locs) (hl : lv_has ls 9 [(0, .ref b), (1, .ref x), (2, .ref md), (3, .ref out), (4, .ref od), (5, .int (nI j))])
    (kk : ∀ (H : Heap) (locs : List Loc) (ls : Array Slot), xRep D ca G X μ1 H → va_S (fun q => z ≤ q) s.heap H locs → lv_has ls 9 [(0, .ref b), (1, .ref x), (2, .ref md), (3, .ref out), (4, .ref od), (5, .int (nI j))] → W p l e room_1 s m args below meth c H locs (cells + 20) (slots + 2000) Q (F0 m 1973 ls [])) : W p l e room_1 s m args below meth c H locs cells slots Q (F0 m 808 ls []) := by
  rw [gL_10] at h
  refine lv_aload_n (pc := 808) hx hb dL_law_808 rfl (lv_at hl 1 rfl) ?_
  refine lv_aload_n (pc := 809) hx hb dL_law_809 rfl (lv_at hl 0 rfl) ?_
  refine lv_iload (pc := 810) hx hb dL_law_810 (lv_at hl 5 rfl) ?_
  refine lv_iconst (pc := 812) hx hb dL_law_812 kc_1 ?_
  refine lv_iadd (pc := 813) hx hb dL_law_813 ?_
  refine xr_sld (pc := 814) (j + 1) hx hb hX hbl hbA hS (xhI1 hj hL) (xhV1 hj hL) dL_law_814 ?_
  refine lv_aload_n (pc := 815) hx hb dL_law_815 rfl (lv_at hl 3 rfl) ?_
  obtain ⟨r1, m1, c1, h⟩ := xb_inv h
  refine xl_call (pc := 816) (As := [.ref _, .int _, .ref _]) (rest := []) ⟨hx, hb, hml, hown, hts⟩ (mL_lotAt hls hF _ _ _ kx ko c1) fhL_lotAt q_m_L_156 ⟨Nat.le_of_ble_eq_true rfl, Nat.le_of_ble_eq_true rfl⟩ hR hK hE hS rfl hl.1 rfl (Nat.le_of_ble_eq_true rfl) dL_law_816 ⟨by omega, by omega⟩ (fun H locs hR hS => ?_)
  refine lv_istore (pc := 819) (lv' := [(6, .int _), (0, .ref _), (1, .ref _), (2, .ref _), (3, .ref _), (4, .ref _), (5, .int _)]) hx hb dL_law_819 hl (Nat.le_of_ble_eq_true rfl) rfl (fun ls hl => ?_)
  refine lv_aload_n (pc := 821) hx hb dL_law_821 rfl (lv_at hl 3 rfl) ?_
  refine lv_aload_n (pc := 822) hx hb dL_law_822 rfl (lv_at hl 1 rfl) ?_
  refine lv_iload (pc := 823) hx hb dL_law_823 (lv_at hl 6 rfl) ?_
  refine lv_iconst (pc := 825) hx hb dL_law_825 kc_1 ?_
  refine lv_iadd (pc := 826) hx hb dL_law_826 ?_
  refine xr_sld (pc := 827) (j + 1) hx hb hX hbl hbA hS (xhI1 hj hL) (xhV1 hj hL) dL_law_827 ?_
  obtain ⟨r2, m2, c2, h⟩ := xb_inv h
  refine xl_iV (pc := 828) (As := [.int _]) (rest := []) ⟨hx, hb, hml, hown, hts⟩ (mX8_lotAt hF _ _ km c2) fdX8_lotAt q_m_L_158 ⟨Nat.le_of_ble_eq_true rfl, Nat.le_of_ble_eq_true rfl⟩ (xRecv hK hR (ci := 12) rfl km.1) hR hK hE hS rfl hl.1 rfl (Nat.le_of_ble_eq_true rfl) dL_law_828 ⟨by omega, by omega⟩ (fun H locs hR hS => ?_)
  refine lv_istore (pc := 831) (lv' := [(7, .int _), (6, .int _), (0, .ref _), (1, .ref _), (2, .ref _), (3, .ref _), (4, .ref _), (5, .int _)]) hx hb dL_law_831 hl (Nat.le_of_ble_eq_true rfl) rfl (fun ls hl => ?_)
  refine lv_aload_n (pc := 833) hx hb dL_law_833 rfl (lv_at hl 4 rfl) ?_
  obtain ⟨r3, m3, c3, h⟩ := xb_inv h
  refine xl_iV (pc := 834) (As := []) (rest := []) ⟨hx, hb, hml, hown, hts⟩ (mX8_thrown hF _ km c3) fdX8_thrown q_m_L_124 ⟨Nat.le_of_ble_eq_true rfl, Nat.le_of_ble_eq_true rfl⟩ (xRecv hK hR (ci := 12) rfl km.1) hR hK hE hS rfl hl.1 rfl (Nat.le_of_ble_eq_true rfl) dL_law_834 ⟨by omega, by omega⟩ (fun H locs hR hS => ?_)
  refine lv_iload (pc := 837) hx hb dL_law_837 (lv_at hl 1 rfl) ?_
  refine lv_icmp_eq (pc := 839) (tgt := 844) hx hb dL_law_839 (by decide) (fun c4 => ?_) (fun c4 => ?_)
  · have h := xpos c4 h
    refine lv_iload (pc := 844) hx hb dL_law_844 (lv_at hl 1 rfl) ?_
    refine lv_if_ne (pc := 846) (tgt := 861) hx hb dL_law_846 (by decide) (fun c5 => ?_) (fun c5 => ?_)
    · have h := xneg c5 h
      refine lv_goto (pc := 861) (tgt := 1973) hx hb dL_law_861 (by decide) ?_
      cases h
      refine W.widen (k := cells + 20) (n := slots + 2000) (by omega) (by omega) ?_
      exact kk H locs ls hR hS (lv_sub hl [2, 3, 4, 5, 6, 7] rfl)
    · have h := xpos c5 h
      refine lv_aload_n (pc := 849) hx hb dL_law_849 rfl (lv_at hl 5 rfl) ?_
      refine lv_iconst (pc := 850) hx hb dL_law_850 kc_0 ?_
      refine xr_laldk (pc := 851) 0 hx hb hK hR ko.1 ko.2 tn_0 (vl_0 (by decide)) dL_law_851 ?_
      refine lv_iload (pc := 852) hx hb dL_law_852 (lv_at hl 0 rfl) ?_
      refine lv_i2l (pc := 854) hx hb dL_law_854 rfl ?_
      refine W.lcmp (pc := 855) hx hb dL_law_855 ?_
      refine lv_if_eq (pc := 856) (tgt := 861) hx hb dL_law_856 (by decide) (fun c6 => ?_) (fun c6 => ?_)
      · have h := xpos c6 h
        refine lv_goto (pc := 861) (tgt := 1973) hx hb dL_law_861 (by decide) ?_
        cases h
        refine W.widen (k := cells + 20) (n := slots + 2000) (by omega) (by omega) ?_
        exact kk H locs ls hR hS (lv_sub hl [2, 3, 4, 5, 6, 7] rfl)
      · have h := xneg c6 h
        refine lv_iconst (pc := 859) hx hb dL_law_859 kc_0 ?_
        cases h
  · have h := xneg c4 h
    refine lv_iconst (pc := 842) hx hb dL_law_842 kc_0 ?_
    cases h
set_option maxHeartbeats 1000000 in
set_option maxRecDepth 20000 in
theorem wL_11 {p : Program} {l : Launch} (hls : l.stackTraces = false) {e : Env} {s : State} {m : MethodId} {args : Array Value} {below : List Frame} {meth : Method} {c : Code} {D : va_G} {ca : Nat → ClassId} {z : Nat} {G : xG} {X : va_W} {ad av : Nat → Nat} {b L : Nat} {xs : Nat → Int32} {Q : State → Prop} {H0 : Heap} (hF : xFix z G X) (hx : p.tables.exec = Jvm.exec) (hb : c.code = cL_law) (hml : c.maxLocals = 9) (hts : ∀ w ∈ xAll, w.before args s = true) (hown : s.vm.findClass RL = some m.cls) (hK : va_K D vwCl (xT ca) s) (hE : xEv z ad av s s.heap) (hX : va_X b L xs s s.heap) (hbl : b < s.heap.size) (hbA : ¬ z ≤ b) {x md out od : Nat} (kx : xI_Coat G x) (km : xI_Model G md) (ko : xI_Longs 1 G out) {j : Nat} (hj : j + 4 ≤ L) (hL : L ≤ 2048) {cells slots : Nat} (hc : cells + 20 ≤ 603072) (hs : slots + 2000 ≤ 7211114) {μ μ1 : xM} (h : gL_11 x md out (xs (j + 1)) (xs (j + 2)) (xs (j + 3)) μ = some μ1) {H : Heap} {locs : List Loc} {ls : Array Slot} (hR : xRep D ca G X μ H) (hS : va_S (fun q => z ≤ q) s.heap H locs) (hl : lv_has ls 9 [(0, .ref b), (1, .ref x), (2, .ref md), (3, .ref out), (4, .ref od), (5, .int (nI j))])
    (kk : ∀ (H : Heap) (locs : List Loc) (ls : Array Slot), xRep D ca G X μ1 H → va_S (fun q => z ≤ q) s.heap H locs → lv_has ls 9 [(0, .ref b), (1, .ref x), (2, .ref md), (3, .ref out), (4, .ref od), (5, .int (nI j))] → W p l e room_1 s m args below meth c H locs (cells + 20) (slots + 2000) Q (F0 m 1973 ls [])) : W p l e room_1 s m args below meth c H locs cells slots Q (F0 m 864 ls []) := by
  rw [gL_11] at h
  refine lv_aload_n (pc := 864) hx hb dL_law_864 rfl (lv_at hl 1 rfl) ?_
  refine lv_aload_n (pc := 865) hx hb dL_law_865 rfl (lv_at hl 0 rfl) ?_
  refine lv_iload (pc := 866) hx hb dL_law_866 (lv_at hl 5 rfl) ?_
  refine lv_iconst (pc := 868) hx hb dL_law_868 kc_1 ?_
  refine lv_iadd (pc := 869) hx hb dL_law_869 ?_
  refine xr_sld (pc := 870) (j + 1) hx hb hX hbl hbA hS (xhI1 hj hL) (xhV1 hj hL) dL_law_870 ?_
  refine lv_aload_n (pc := 871) hx hb dL_law_871 rfl (lv_at hl 3 rfl) ?_
  obtain ⟨r1, m1, c1, h⟩ := xb_inv h
  refine xl_call (pc := 872) (As := [.ref _, .int _, .ref _]) (rest := []) ⟨hx, hb, hml, hown, hts⟩ (mL_ranked hls hF _ _ _ kx ko c1) fhL_ranked q_m_L_159 ⟨Nat.le_of_ble_eq_true rfl, Nat.le_of_ble_eq_true rfl⟩ hR hK hE hS rfl hl.1 rfl (Nat.le_of_ble_eq_true rfl) dL_law_872 ⟨by omega, by omega⟩ (fun H locs hR hS => ?_)
  refine lv_istore (pc := 875) (lv' := [(6, .int _), (0, .ref _), (1, .ref _), (2, .ref _), (3, .ref _), (4, .ref _), (5, .int _)]) hx hb dL_law_875 hl (Nat.le_of_ble_eq_true rfl) rfl (fun ls hl => ?_)
  refine lv_aload_n (pc := 877) hx hb dL_law_877 rfl (lv_at hl 3 rfl) ?_
  refine lv_aload_n (pc := 878) hx hb dL_law_878 rfl (lv_at hl 1 rfl) ?_
  refine lv_iload (pc := 879) hx hb dL_law_879 (lv_at hl 6 rfl) ?_
  refine lv_iconst (pc := 881) hx hb dL_law_881 kc_1 ?_
  refine lv_iadd (pc := 882) hx hb dL_law_882 ?_
  refine xr_sld (pc := 883) (j + 1) hx hb hX hbl hbA hS (xhI1 hj hL) (xhV1 hj hL) dL_law_883 ?_
  obtain ⟨r2, m2, c2, h⟩ := xb_inv h
  refine xl_iV (pc := 884) (As := [.int _]) (rest := []) ⟨hx, hb, hml, hown, hts⟩ (mX8_ranked hF _ _ km c2) fdX8_ranked q_m_L_161 ⟨Nat.le_of_ble_eq_true rfl, Nat.le_of_ble_eq_true rfl⟩ (xRecv hK hR (ci := 12) rfl km.1) hR hK hE hS rfl hl.1 rfl (Nat.le_of_ble_eq_true rfl) dL_law_884 ⟨by omega, by omega⟩ (fun H locs hR hS => ?_)
  refine lv_istore (pc := 887) (lv' := [(7, .int _), (6, .int _), (0, .ref _), (1, .ref _), (2, .ref _), (3, .ref _), (4, .ref _), (5, .int _)]) hx hb dL_law_887 hl (Nat.le_of_ble_eq_true rfl) rfl (fun ls hl => ?_)
  refine lv_aload_n (pc := 889) hx hb dL_law_889 rfl (lv_at hl 4 rfl) ?_
  obtain ⟨r3, m3, c3, h⟩ := xb_inv h
  refine xl_iV (pc := 890) (As := []) (rest := []) ⟨hx, hb, hml, hown, hts⟩ (mX8_thrown hF _ km c3) fdX8_thrown q_m_L_124 ⟨Nat.le_of_ble_eq_true rfl, Nat.le_of_ble_eq_true rfl⟩ (xRecv hK hR (ci := 12) rfl km.1) hR hK hE hS rfl hl.1 rfl (Nat.le_of_ble_eq_true rfl) dL_law_890 ⟨by omega, by omega⟩ (fun H locs hR hS => ?_)
  refine lv_iload (pc := 893) hx hb dL_law_893 (lv_at hl 1 rfl) ?_
  refine lv_icmp_eq (pc := 895) (tgt := 900) hx hb dL_law_895 (by decide) (fun c4 => ?_) (fun c4 => ?_)
  · have h := xpos c4 h
    refine lv_iload (pc := 900) hx hb dL_law_900 (lv_at hl 1 rfl) ?_
    refine lv_if_ne (pc := 902) (tgt := 917) hx hb dL_law_902 (by decide) (fun c5 => ?_) (fun c5 => ?_)
    · have h := xneg c5 h
      refine lv_goto (pc := 917) (tgt := 1973) hx hb dL_law_917 (by decide) ?_
      cases h
      refine W.widen (k := cells + 20) (n := slots + 2000) (by omega) (by omega) ?_
      exact kk H locs ls hR hS (lv_sub hl [2, 3, 4, 5, 6, 7] rfl)
    · have h := xpos c5 h
      refine lv_aload_n (pc := 905) hx hb dL_law_905 rfl (lv_at hl 5 rfl) ?_
      refine lv_iconst (pc := 906) hx hb dL_law_906 kc_0 ?_
      refine xr_laldk (pc := 907) 0 hx hb hK hR ko.1 ko.2 tn_0 (vl_0 (by decide)) dL_law_907 ?_
      refine lv_iload (pc := 908) hx hb dL_law_908 (lv_at hl 0 rfl) ?_
      refine lv_i2l (pc := 910) hx hb dL_law_910 rfl ?_
      refine W.lcmp (pc := 911) hx hb dL_law_911 ?_
      refine lv_if_eq (pc := 912) (tgt := 917) hx hb dL_law_912 (by decide) (fun c6 => ?_) (fun c6 => ?_)
      · have h := xpos c6 h
        refine lv_goto (pc := 917) (tgt := 1973) hx hb dL_law_917 (by decide) ?_
        cases h
        refine W.widen (k := cells + 20) (n := slots + 2000) (by omega) (by omega) ?_
        exact kk H locs ls hR hS (lv_sub hl [2, 3, 4, 5, 6, 7] rfl)
      · have h := xneg c6 h
        refine lv_iconst (pc := 915) hx hb dL_law_915 kc_0 ?_
        cases h
  · have h := xneg c4 h
    refine lv_iconst (pc := 898) hx hb dL_law_898 kc_0 ?_
    cases h
set_option maxHeartbeats 1000000 in
set_option maxRecDepth 20000 in
theorem wL_12 {p : Program} {l : Launch} (hls : l.stackTraces = false) {e : Env} {s : State} {m : MethodId} {args : Array Value} {below : List Frame} {meth : Method} {c : Code} {D : va_G} {ca : Nat → ClassId} {z : Nat} {G : xG} {X : va_W} {ad av : Nat → Nat} {b L : Nat} {xs : Nat → Int32} {Q : State → Prop} {H0 : Heap} (hF : xFix z G X) (hx : p.tables.exec = Jvm.exec) (hb : c.code = cL_law) (hml : c.maxLocals = 9) (hts : ∀ w ∈ xAll, w.before args s = true) (hown : s.vm.findClass RL = some m.cls) (hK : va_K D vwCl (xT ca) s) (hE : xEv z ad av s s.heap) (hX : va_X b L xs s s.heap) (hbl : b < s.heap.size) (hbA : ¬ z ≤ b) {x md out od : Nat} (kx : xI_Coat G x) (km : xI_Model G md) (ko : xI_Longs 1 G out) {j : Nat} (hj : j + 4 ≤ L) (hL : L ≤ 2048) {cells slots : Nat} (hc : cells + 20 ≤ 603072) (hs : slots + 2000 ≤ 7211114) {μ μ1 : xM} (h : gL_12 x md out (xs (j + 1)) (xs (j + 2)) (xs (j + 3)) μ = some μ1) {H : Heap} {locs : List Loc} {ls : Array Slot} (hR : xRep D ca G X μ H) (hS : va_S (fun q => z ≤ q) s.heap H locs) (hl : lv_has ls 9 [(0, .ref b), (1, .ref x), (2, .ref md), (3, .ref out), (4, .ref od), (5, .int (nI j))])
    (kk : ∀ (H : Heap) (locs : List Loc) (ls : Array Slot), xRep D ca G X μ1 H → va_S (fun q => z ≤ q) s.heap H locs → lv_has ls 9 [(0, .ref b), (1, .ref x), (2, .ref md), (3, .ref out), (4, .ref od), (5, .int (nI j))] → W p l e room_1 s m args below meth c H locs (cells + 20) (slots + 2000) Q (F0 m 1973 ls [])) : W p l e room_1 s m args below meth c H locs cells slots Q (F0 m 920 ls []) := by
  rw [gL_12] at h
  refine lv_aload_n (pc := 920) hx hb dL_law_920 rfl (lv_at hl 1 rfl) ?_
  refine lv_aload_n (pc := 921) hx hb dL_law_921 rfl (lv_at hl 0 rfl) ?_
  refine lv_iload (pc := 922) hx hb dL_law_922 (lv_at hl 5 rfl) ?_
  refine lv_iconst (pc := 924) hx hb dL_law_924 kc_1 ?_
  refine lv_iadd (pc := 925) hx hb dL_law_925 ?_
  refine xr_sld (pc := 926) (j + 1) hx hb hX hbl hbA hS (xhI1 hj hL) (xhV1 hj hL) dL_law_926 ?_
  refine lv_aload_n (pc := 927) hx hb dL_law_927 rfl (lv_at hl 0 rfl) ?_
  refine lv_iload (pc := 928) hx hb dL_law_928 (lv_at hl 5 rfl) ?_
  refine lv_iconst (pc := 930) hx hb dL_law_930 kc_2 ?_
  refine lv_iadd (pc := 931) hx hb dL_law_931 ?_
  refine xr_sld (pc := 932) (j + 2) hx hb hX hbl hbA hS (xhI2 hj hL) (xhV2 hj hL) dL_law_932 ?_
  refine lv_aload_n (pc := 933) hx hb dL_law_933 rfl (lv_at hl 3 rfl) ?_
  obtain ⟨r1, m1, c1, h⟩ := xb_inv h
  refine xl_call (pc := 934) (As := [.ref _, .int _, .int _, .ref _]) (rest := []) ⟨hx, hb, hml, hown, hts⟩ (mL_quote hls hF _ _ _ _ kx ko c1) fhL_quote q_m_L_162 ⟨Nat.le_of_ble_eq_true rfl, Nat.le_of_ble_eq_true rfl⟩ hR hK hE hS rfl hl.1 rfl (Nat.le_of_ble_eq_true rfl) dL_law_934 ⟨by omega, by omega⟩ (fun H locs hR hS => ?_)
  refine lv_istore (pc := 937) (lv' := [(6, .int _), (0, .ref _), (1, .ref _), (2, .ref _), (3, .ref _), (4, .ref _), (5, .int _)]) hx hb dL_law_937 hl (Nat.le_of_ble_eq_true rfl) rfl (fun ls hl => ?_)
  refine lv_aload_n (pc := 939) hx hb dL_law_939 rfl (lv_at hl 3 rfl) ?_
  refine lv_aload_n (pc := 940) hx hb dL_law_940 rfl (lv_at hl 1 rfl) ?_
  refine lv_iload (pc := 941) hx hb dL_law_941 (lv_at hl 6 rfl) ?_
  refine lv_iconst (pc := 943) hx hb dL_law_943 kc_1 ?_
  refine lv_iadd (pc := 944) hx hb dL_law_944 ?_
  refine xr_sld (pc := 945) (j + 1) hx hb hX hbl hbA hS (xhI1 hj hL) (xhV1 hj hL) dL_law_945 ?_
  refine lv_aload_n (pc := 946) hx hb dL_law_946 rfl (lv_at hl 1 rfl) ?_
  refine lv_iload (pc := 947) hx hb dL_law_947 (lv_at hl 6 rfl) ?_
  refine lv_iconst (pc := 949) hx hb dL_law_949 kc_2 ?_
  refine lv_iadd (pc := 950) hx hb dL_law_950 ?_
  refine xr_sld (pc := 951) (j + 2) hx hb hX hbl hbA hS (xhI2 hj hL) (xhV2 hj hL) dL_law_951 ?_
  obtain ⟨r2, m2, c2, h⟩ := xb_inv h
  refine xl_iV (pc := 952) (As := [.int _, .int _]) (rest := []) ⟨hx, hb, hml, hown, hts⟩ (mX8_quote hF _ _ _ km c2) fdX8_quote q_m_L_164 ⟨Nat.le_of_ble_eq_true rfl, Nat.le_of_ble_eq_true rfl⟩ (xRecv hK hR (ci := 12) rfl km.1) hR hK hE hS rfl hl.1 rfl (Nat.le_of_ble_eq_true rfl) dL_law_952 ⟨by omega, by omega⟩ (fun H locs hR hS => ?_)
  refine lv_istore (pc := 955) (lv' := [(7, .int _), (6, .int _), (0, .ref _), (1, .ref _), (2, .ref _), (3, .ref _), (4, .ref _), (5, .int _)]) hx hb dL_law_955 hl (Nat.le_of_ble_eq_true rfl) rfl (fun ls hl => ?_)
  refine lv_aload_n (pc := 957) hx hb dL_law_957 rfl (lv_at hl 4 rfl) ?_
  obtain ⟨r3, m3, c3, h⟩ := xb_inv h
  refine xl_iV (pc := 958) (As := []) (rest := []) ⟨hx, hb, hml, hown, hts⟩ (mX8_thrown hF _ km c3) fdX8_thrown q_m_L_124 ⟨Nat.le_of_ble_eq_true rfl, Nat.le_of_ble_eq_true rfl⟩ (xRecv hK hR (ci := 12) rfl km.1) hR hK hE hS rfl hl.1 rfl (Nat.le_of_ble_eq_true rfl) dL_law_958 ⟨by omega, by omega⟩ (fun H locs hR hS => ?_)
  refine lv_iload (pc := 961) hx hb dL_law_961 (lv_at hl 1 rfl) ?_
  refine lv_icmp_eq (pc := 963) (tgt := 968) hx hb dL_law_963 (by decide) (fun c4 => ?_) (fun c4 => ?_)
  · have h := xpos c4 h
    refine lv_iload (pc := 968) hx hb dL_law_968 (lv_at hl 1 rfl) ?_
    refine lv_if_ne (pc := 970) (tgt := 985) hx hb dL_law_970 (by decide) (fun c5 => ?_) (fun c5 => ?_)
    · have h := xneg c5 h
      refine lv_goto (pc := 985) (tgt := 1973) hx hb dL_law_985 (by decide) ?_
      cases h
      refine W.widen (k := cells + 20) (n := slots + 2000) (by omega) (by omega) ?_
      exact kk H locs ls hR hS (lv_sub hl [2, 3, 4, 5, 6, 7] rfl)
    · have h := xpos c5 h
      refine lv_aload_n (pc := 973) hx hb dL_law_973 rfl (lv_at hl 5 rfl) ?_
      refine lv_iconst (pc := 974) hx hb dL_law_974 kc_0 ?_
      refine xr_laldk (pc := 975) 0 hx hb hK hR ko.1 ko.2 tn_0 (vl_0 (by decide)) dL_law_975 ?_
      refine lv_iload (pc := 976) hx hb dL_law_976 (lv_at hl 0 rfl) ?_
      refine lv_i2l (pc := 978) hx hb dL_law_978 rfl ?_
      refine W.lcmp (pc := 979) hx hb dL_law_979 ?_
      refine lv_if_eq (pc := 980) (tgt := 985) hx hb dL_law_980 (by decide) (fun c6 => ?_) (fun c6 => ?_)
      · have h := xpos c6 h
        refine lv_goto (pc := 985) (tgt := 1973) hx hb dL_law_985 (by decide) ?_
        cases h
        refine W.widen (k := cells + 20) (n := slots + 2000) (by omega) (by omega) ?_
        exact kk H locs ls hR hS (lv_sub hl [2, 3, 4, 5, 6, 7] rfl)
      · have h := xneg c6 h
        refine lv_iconst (pc := 983) hx hb dL_law_983 kc_0 ?_
        cases h
  · have h := xneg c4 h
    refine lv_iconst (pc := 966) hx hb dL_law_966 kc_0 ?_
    cases h
set_option maxHeartbeats 1000000 in
set_option maxRecDepth 20000 in
theorem wL_13 {p : Program} {l : Launch} (hls : l.stackTraces = false) {e : Env} {s : State} {m : MethodId} {args : Array Value} {below : List Frame} {meth : Method} {c : Code} {D : va_G} {ca : Nat → ClassId} {z : Nat} {G : xG} {X : va_W} {ad av : Nat → Nat} {b L : Nat} {xs : Nat → Int32} {Q : State → Prop} {H0 : Heap} (hF : xFix z G X) (hx : p.tables.exec = Jvm.exec) (hb : c.code = cL_law) (hml : c.maxLocals = 9) (hts : ∀ w ∈ xAll, w.before args s = true) (hown : s.vm.findClass RL = some m.cls) (hK : va_K D vwCl (xT ca) s) (hE : xEv z ad av s s.heap) (hX : va_X b L xs s s.heap) (hbl : b < s.heap.size) (hbA : ¬ z ≤ b) {x md out od : Nat} (kx : xI_Coat G x) (km : xI_Model G md) (ko : xI_Longs 1 G out) {j : Nat} (hj : j + 4 ≤ L) (hL : L ≤ 2048) {cells slots : Nat} (hc : cells + 20 ≤ 603072) (hs : slots + 2000 ≤ 7211114) {μ μ1 : xM} (h : gL_13 x md out (xs (j + 1)) (xs (j + 2)) (xs (j + 3)) μ = some μ1) {H : Heap} {locs : List Loc} {ls : Array Slot} (hR : xRep D ca G X μ H) (hS : va_S (fun q => z ≤ q) s.heap H locs) (hl : lv_has ls 9 [(0, .ref b), (1, .ref x), (2, .ref md), (3, .ref out), (4, .ref od), (5, .int (nI j))])
    (kk : ∀ (H : Heap) (locs : List Loc) (ls : Array Slot), xRep D ca G X μ1 H → va_S (fun q => z ≤ q) s.heap H locs → lv_has ls 9 [(0, .ref b), (1, .ref x), (2, .ref md), (3, .ref out), (4, .ref od), (5, .int (nI j))] → W p l e room_1 s m args below meth c H locs (cells + 20) (slots + 2000) Q (F0 m 1973 ls [])) : W p l e room_1 s m args below meth c H locs cells slots Q (F0 m 988 ls []) := by
  rw [gL_13] at h
  refine lv_aload_n (pc := 988) hx hb dL_law_988 rfl (lv_at hl 1 rfl) ?_
  refine lv_aload_n (pc := 989) hx hb dL_law_989 rfl (lv_at hl 0 rfl) ?_
  refine lv_iload (pc := 990) hx hb dL_law_990 (lv_at hl 5 rfl) ?_
  refine lv_iconst (pc := 992) hx hb dL_law_992 kc_1 ?_
  refine lv_iadd (pc := 993) hx hb dL_law_993 ?_
  refine xr_sld (pc := 994) (j + 1) hx hb hX hbl hbA hS (xhI1 hj hL) (xhV1 hj hL) dL_law_994 ?_
  refine lv_aload_n (pc := 995) hx hb dL_law_995 rfl (lv_at hl 0 rfl) ?_
  refine lv_iload (pc := 996) hx hb dL_law_996 (lv_at hl 5 rfl) ?_
  refine lv_iconst (pc := 998) hx hb dL_law_998 kc_2 ?_
  refine lv_iadd (pc := 999) hx hb dL_law_999 ?_
  refine xr_sld (pc := 1000) (j + 2) hx hb hX hbl hbA hS (xhI2 hj hL) (xhV2 hj hL) dL_law_1000 ?_
  refine lv_aload_n (pc := 1001) hx hb dL_law_1001 rfl (lv_at hl 3 rfl) ?_
  obtain ⟨r1, m1, c1, h⟩ := xb_inv h
  refine xl_call (pc := 1002) (As := [.ref _, .int _, .int _, .ref _]) (rest := []) ⟨hx, hb, hml, hown, hts⟩ (mL_quoteAgain hls hF _ _ _ _ kx ko c1) fhL_quoteAgain q_m_L_165 ⟨Nat.le_of_ble_eq_true rfl, Nat.le_of_ble_eq_true rfl⟩ hR hK hE hS rfl hl.1 rfl (Nat.le_of_ble_eq_true rfl) dL_law_1002 ⟨by omega, by omega⟩ (fun H locs hR hS => ?_)
  refine lv_istore (pc := 1005) (lv' := [(6, .int _), (0, .ref _), (1, .ref _), (2, .ref _), (3, .ref _), (4, .ref _), (5, .int _)]) hx hb dL_law_1005 hl (Nat.le_of_ble_eq_true rfl) rfl (fun ls hl => ?_)
  refine lv_aload_n (pc := 1007) hx hb dL_law_1007 rfl (lv_at hl 3 rfl) ?_
  refine lv_aload_n (pc := 1008) hx hb dL_law_1008 rfl (lv_at hl 1 rfl) ?_
  refine lv_iload (pc := 1009) hx hb dL_law_1009 (lv_at hl 6 rfl) ?_
  refine lv_iconst (pc := 1011) hx hb dL_law_1011 kc_1 ?_
  refine lv_iadd (pc := 1012) hx hb dL_law_1012 ?_
  refine xr_sld (pc := 1013) (j + 1) hx hb hX hbl hbA hS (xhI1 hj hL) (xhV1 hj hL) dL_law_1013 ?_
  refine lv_aload_n (pc := 1014) hx hb dL_law_1014 rfl (lv_at hl 1 rfl) ?_
  refine lv_iload (pc := 1015) hx hb dL_law_1015 (lv_at hl 6 rfl) ?_
  refine lv_iconst (pc := 1017) hx hb dL_law_1017 kc_2 ?_
  refine lv_iadd (pc := 1018) hx hb dL_law_1018 ?_
  refine xr_sld (pc := 1019) (j + 2) hx hb hX hbl hbA hS (xhI2 hj hL) (xhV2 hj hL) dL_law_1019 ?_
  obtain ⟨r2, m2, c2, h⟩ := xb_inv h
  refine xl_iV (pc := 1020) (As := [.int _, .int _]) (rest := []) ⟨hx, hb, hml, hown, hts⟩ (mX8_quoteAgain hF _ _ _ km c2) fdX8_quoteAgain q_m_L_167 ⟨Nat.le_of_ble_eq_true rfl, Nat.le_of_ble_eq_true rfl⟩ (xRecv hK hR (ci := 12) rfl km.1) hR hK hE hS rfl hl.1 rfl (Nat.le_of_ble_eq_true rfl) dL_law_1020 ⟨by omega, by omega⟩ (fun H locs hR hS => ?_)
  refine lv_istore (pc := 1023) (lv' := [(7, .int _), (6, .int _), (0, .ref _), (1, .ref _), (2, .ref _), (3, .ref _), (4, .ref _), (5, .int _)]) hx hb dL_law_1023 hl (Nat.le_of_ble_eq_true rfl) rfl (fun ls hl => ?_)
  refine lv_aload_n (pc := 1025) hx hb dL_law_1025 rfl (lv_at hl 4 rfl) ?_
  obtain ⟨r3, m3, c3, h⟩ := xb_inv h
  refine xl_iV (pc := 1026) (As := []) (rest := []) ⟨hx, hb, hml, hown, hts⟩ (mX8_thrown hF _ km c3) fdX8_thrown q_m_L_124 ⟨Nat.le_of_ble_eq_true rfl, Nat.le_of_ble_eq_true rfl⟩ (xRecv hK hR (ci := 12) rfl km.1) hR hK hE hS rfl hl.1 rfl (Nat.le_of_ble_eq_true rfl) dL_law_1026 ⟨by omega, by omega⟩ (fun H locs hR hS => ?_)
  refine lv_iload (pc := 1029) hx hb dL_law_1029 (lv_at hl 1 rfl) ?_
  refine lv_icmp_eq (pc := 1031) (tgt := 1036) hx hb dL_law_1031 (by decide) (fun c4 => ?_) (fun c4 => ?_)
  · have h := xpos c4 h
    refine lv_iload (pc := 1036) hx hb dL_law_1036 (lv_at hl 1 rfl) ?_
    refine lv_if_ne (pc := 1038) (tgt := 1053) hx hb dL_law_1038 (by decide) (fun c5 => ?_) (fun c5 => ?_)
    · have h := xneg c5 h
      refine lv_goto (pc := 1053) (tgt := 1973) hx hb dL_law_1053 (by decide) ?_
      cases h
      refine W.widen (k := cells + 20) (n := slots + 2000) (by omega) (by omega) ?_
      exact kk H locs ls hR hS (lv_sub hl [2, 3, 4, 5, 6, 7] rfl)
    · have h := xpos c5 h
      refine lv_aload_n (pc := 1041) hx hb dL_law_1041 rfl (lv_at hl 5 rfl) ?_
      refine lv_iconst (pc := 1042) hx hb dL_law_1042 kc_0 ?_
      refine xr_laldk (pc := 1043) 0 hx hb hK hR ko.1 ko.2 tn_0 (vl_0 (by decide)) dL_law_1043 ?_
      refine lv_iload (pc := 1044) hx hb dL_law_1044 (lv_at hl 0 rfl) ?_
      refine lv_i2l (pc := 1046) hx hb dL_law_1046 rfl ?_
      refine W.lcmp (pc := 1047) hx hb dL_law_1047 ?_
      refine lv_if_eq (pc := 1048) (tgt := 1053) hx hb dL_law_1048 (by decide) (fun c6 => ?_) (fun c6 => ?_)
      · have h := xpos c6 h
        refine lv_goto (pc := 1053) (tgt := 1973) hx hb dL_law_1053 (by decide) ?_
        cases h
        refine W.widen (k := cells + 20) (n := slots + 2000) (by omega) (by omega) ?_
        exact kk H locs ls hR hS (lv_sub hl [2, 3, 4, 5, 6, 7] rfl)
      · have h := xneg c6 h
        refine lv_iconst (pc := 1051) hx hb dL_law_1051 kc_0 ?_
        cases h
  · have h := xneg c4 h
    refine lv_iconst (pc := 1034) hx hb dL_law_1034 kc_0 ?_
    cases h
set_option maxHeartbeats 1000000 in
set_option maxRecDepth 20000 in
theorem wL_14 {p : Program} {l : Launch} (hls : l.stackTraces = false) {e : Env} {s : State} {m : MethodId} {args : Array Value} {below : List Frame} {meth : Method} {c : Code} {D : va_G} {ca : Nat → ClassId} {z : Nat} {G : xG} {X : va_W} {ad av : Nat → Nat} {b L : Nat} {xs : Nat → Int32} {Q : State → Prop} {H0 : Heap} (hF : xFix z G X) (hx : p.tables.exec = Jvm.exec) (hb : c.code = cL_law) (hml : c.maxLocals = 9) (hts : ∀ w ∈ xAll, w.before args s = true) (hown : s.vm.findClass RL = some m.cls) (hK : va_K D vwCl (xT ca) s) (hE : xEv z ad av s s.heap) (hX : va_X b L xs s s.heap) (hbl : b < s.heap.size) (hbA : ¬ z ≤ b) {x md out od : Nat} (kx : xI_Coat G x) (km : xI_Model G md) (ko : xI_Longs 1 G out) {j : Nat} (hj : j + 4 ≤ L) (hL : L ≤ 2048) {cells slots : Nat} (hc : cells + 20 ≤ 603072) (hs : slots + 2000 ≤ 7211114) {μ μ1 : xM} (h : gL_14 x md out (xs (j + 1)) (xs (j + 2)) (xs (j + 3)) μ = some μ1) {H : Heap} {locs : List Loc} {ls : Array Slot} (hR : xRep D ca G X μ H) (hS : va_S (fun q => z ≤ q) s.heap H locs) (hl : lv_has ls 9 [(0, .ref b), (1, .ref x), (2, .ref md), (3, .ref out), (4, .ref od), (5, .int (nI j))])
    (kk : ∀ (H : Heap) (locs : List Loc) (ls : Array Slot), xRep D ca G X μ1 H → va_S (fun q => z ≤ q) s.heap H locs → lv_has ls 9 [(0, .ref b), (1, .ref x), (2, .ref md), (3, .ref out), (4, .ref od), (5, .int (nI j))] → W p l e room_1 s m args below meth c H locs (cells + 20) (slots + 2000) Q (F0 m 1973 ls [])) : W p l e room_1 s m args below meth c H locs cells slots Q (F0 m 1056 ls []) := by
  rw [gL_14] at h
  refine lv_aload_n (pc := 1056) hx hb dL_law_1056 rfl (lv_at hl 1 rfl) ?_
  refine lv_aload_n (pc := 1057) hx hb dL_law_1057 rfl (lv_at hl 0 rfl) ?_
  refine lv_iload (pc := 1058) hx hb dL_law_1058 (lv_at hl 5 rfl) ?_
  refine lv_iconst (pc := 1060) hx hb dL_law_1060 kc_1 ?_
  refine lv_iadd (pc := 1061) hx hb dL_law_1061 ?_
  refine xr_sld (pc := 1062) (j + 1) hx hb hX hbl hbA hS (xhI1 hj hL) (xhV1 hj hL) dL_law_1062 ?_
  refine lv_aload_n (pc := 1063) hx hb dL_law_1063 rfl (lv_at hl 3 rfl) ?_
  obtain ⟨r1, m1, c1, h⟩ := xb_inv h
  refine xl_call (pc := 1064) (As := [.ref _, .int _, .ref _]) (rest := []) ⟨hx, hb, hml, hown, hts⟩ (mL_willBeLots hls hF _ _ _ kx ko c1) fhL_willBeLots q_m_L_168 ⟨Nat.le_of_ble_eq_true rfl, Nat.le_of_ble_eq_true rfl⟩ hR hK hE hS rfl hl.1 rfl (Nat.le_of_ble_eq_true rfl) dL_law_1064 ⟨by omega, by omega⟩ (fun H locs hR hS => ?_)
  refine lv_istore (pc := 1067) (lv' := [(6, .int _), (0, .ref _), (1, .ref _), (2, .ref _), (3, .ref _), (4, .ref _), (5, .int _)]) hx hb dL_law_1067 hl (Nat.le_of_ble_eq_true rfl) rfl (fun ls hl => ?_)
  refine lv_aload_n (pc := 1069) hx hb dL_law_1069 rfl (lv_at hl 3 rfl) ?_
  refine lv_aload_n (pc := 1070) hx hb dL_law_1070 rfl (lv_at hl 1 rfl) ?_
  refine lv_iload (pc := 1071) hx hb dL_law_1071 (lv_at hl 6 rfl) ?_
  refine lv_iconst (pc := 1073) hx hb dL_law_1073 kc_1 ?_
  refine lv_iadd (pc := 1074) hx hb dL_law_1074 ?_
  refine xr_sld (pc := 1075) (j + 1) hx hb hX hbl hbA hS (xhI1 hj hL) (xhV1 hj hL) dL_law_1075 ?_
  obtain ⟨r2, m2, c2, h⟩ := xb_inv h
  refine xl_iV (pc := 1076) (As := [.int _]) (rest := []) ⟨hx, hb, hml, hown, hts⟩ (mX8_willBeLots hF _ _ km c2) fdX8_willBeLots q_m_L_170 ⟨Nat.le_of_ble_eq_true rfl, Nat.le_of_ble_eq_true rfl⟩ (xRecv hK hR (ci := 12) rfl km.1) hR hK hE hS rfl hl.1 rfl (Nat.le_of_ble_eq_true rfl) dL_law_1076 ⟨by omega, by omega⟩ (fun H locs hR hS => ?_)
  refine lv_istore (pc := 1079) (lv' := [(7, .int _), (6, .int _), (0, .ref _), (1, .ref _), (2, .ref _), (3, .ref _), (4, .ref _), (5, .int _)]) hx hb dL_law_1079 hl (Nat.le_of_ble_eq_true rfl) rfl (fun ls hl => ?_)
  refine lv_aload_n (pc := 1081) hx hb dL_law_1081 rfl (lv_at hl 4 rfl) ?_
  obtain ⟨r3, m3, c3, h⟩ := xb_inv h
  refine xl_iV (pc := 1082) (As := []) (rest := []) ⟨hx, hb, hml, hown, hts⟩ (mX8_thrown hF _ km c3) fdX8_thrown q_m_L_124 ⟨Nat.le_of_ble_eq_true rfl, Nat.le_of_ble_eq_true rfl⟩ (xRecv hK hR (ci := 12) rfl km.1) hR hK hE hS rfl hl.1 rfl (Nat.le_of_ble_eq_true rfl) dL_law_1082 ⟨by omega, by omega⟩ (fun H locs hR hS => ?_)
  refine lv_iload (pc := 1085) hx hb dL_law_1085 (lv_at hl 1 rfl) ?_
  refine lv_icmp_eq (pc := 1087) (tgt := 1092) hx hb dL_law_1087 (by decide) (fun c4 => ?_) (fun c4 => ?_)
  · have h := xpos c4 h
    refine lv_iload (pc := 1092) hx hb dL_law_1092 (lv_at hl 1 rfl) ?_
    refine lv_if_ne (pc := 1094) (tgt := 1109) hx hb dL_law_1094 (by decide) (fun c5 => ?_) (fun c5 => ?_)
    · have h := xneg c5 h
      refine lv_goto (pc := 1109) (tgt := 1973) hx hb dL_law_1109 (by decide) ?_
      cases h
      refine W.widen (k := cells + 20) (n := slots + 2000) (by omega) (by omega) ?_
      exact kk H locs ls hR hS (lv_sub hl [2, 3, 4, 5, 6, 7] rfl)
    · have h := xpos c5 h
      refine lv_aload_n (pc := 1097) hx hb dL_law_1097 rfl (lv_at hl 5 rfl) ?_
      refine lv_iconst (pc := 1098) hx hb dL_law_1098 kc_0 ?_
      refine xr_laldk (pc := 1099) 0 hx hb hK hR ko.1 ko.2 tn_0 (vl_0 (by decide)) dL_law_1099 ?_
      refine lv_iload (pc := 1100) hx hb dL_law_1100 (lv_at hl 0 rfl) ?_
      refine lv_i2l (pc := 1102) hx hb dL_law_1102 rfl ?_
      refine W.lcmp (pc := 1103) hx hb dL_law_1103 ?_
      refine lv_if_eq (pc := 1104) (tgt := 1109) hx hb dL_law_1104 (by decide) (fun c6 => ?_) (fun c6 => ?_)
      · have h := xpos c6 h
        refine lv_goto (pc := 1109) (tgt := 1973) hx hb dL_law_1109 (by decide) ?_
        cases h
        refine W.widen (k := cells + 20) (n := slots + 2000) (by omega) (by omega) ?_
        exact kk H locs ls hR hS (lv_sub hl [2, 3, 4, 5, 6, 7] rfl)
      · have h := xneg c6 h
        refine lv_iconst (pc := 1107) hx hb dL_law_1107 kc_0 ?_
        cases h
  · have h := xneg c4 h
    refine lv_iconst (pc := 1090) hx hb dL_law_1090 kc_0 ?_
    cases h
set_option maxHeartbeats 1000000 in
set_option maxRecDepth 20000 in
theorem wL_15 {p : Program} {l : Launch} (hls : l.stackTraces = false) {e : Env} {s : State} {m : MethodId} {args : Array Value} {below : List Frame} {meth : Method} {c : Code} {D : va_G} {ca : Nat → ClassId} {z : Nat} {G : xG} {X : va_W} {ad av : Nat → Nat} {b L : Nat} {xs : Nat → Int32} {Q : State → Prop} {H0 : Heap} (hF : xFix z G X) (hx : p.tables.exec = Jvm.exec) (hb : c.code = cL_law) (hml : c.maxLocals = 9) (hts : ∀ w ∈ xAll, w.before args s = true) (hown : s.vm.findClass RL = some m.cls) (hK : va_K D vwCl (xT ca) s) (hE : xEv z ad av s s.heap) (hX : va_X b L xs s s.heap) (hbl : b < s.heap.size) (hbA : ¬ z ≤ b) {x md out od : Nat} (kx : xI_Coat G x) (km : xI_Model G md) (ko : xI_Longs 1 G out) {j : Nat} (hj : j + 4 ≤ L) (hL : L ≤ 2048) {cells slots : Nat} (hc : cells + 20 ≤ 603072) (hs : slots + 2000 ≤ 7211114) {μ μ1 : xM} (h : gL_15 x md out (xs (j + 1)) (xs (j + 2)) (xs (j + 3)) μ = some μ1) {H : Heap} {locs : List Loc} {ls : Array Slot} (hR : xRep D ca G X μ H) (hS : va_S (fun q => z ≤ q) s.heap H locs) (hl : lv_has ls 9 [(0, .ref b), (1, .ref x), (2, .ref md), (3, .ref out), (4, .ref od), (5, .int (nI j))])
    (kk : ∀ (H : Heap) (locs : List Loc) (ls : Array Slot), xRep D ca G X μ1 H → va_S (fun q => z ≤ q) s.heap H locs → lv_has ls 9 [(0, .ref b), (1, .ref x), (2, .ref md), (3, .ref out), (4, .ref od), (5, .int (nI j))] → W p l e room_1 s m args below meth c H locs (cells + 20) (slots + 2000) Q (F0 m 1973 ls [])) : W p l e room_1 s m args below meth c H locs cells slots Q (F0 m 1112 ls []) := by
  rw [gL_15] at h
  refine lv_aload_n (pc := 1112) hx hb dL_law_1112 rfl (lv_at hl 1 rfl) ?_
  refine lv_aload_n (pc := 1113) hx hb dL_law_1113 rfl (lv_at hl 0 rfl) ?_
  refine lv_iload (pc := 1114) hx hb dL_law_1114 (lv_at hl 5 rfl) ?_
  refine lv_iconst (pc := 1116) hx hb dL_law_1116 kc_1 ?_
  refine lv_iadd (pc := 1117) hx hb dL_law_1117 ?_
  refine xr_sld (pc := 1118) (j + 1) hx hb hX hbl hbA hS (xhI1 hj hL) (xhV1 hj hL) dL_law_1118 ?_
  refine lv_aload_n (pc := 1119) hx hb dL_law_1119 rfl (lv_at hl 3 rfl) ?_
  obtain ⟨r1, m1, c1, h⟩ := xb_inv h
  refine xl_call (pc := 1120) (As := [.ref _, .int _, .ref _]) (rest := []) ⟨hx, hb, hml, hown, hts⟩ (mL_willBeLotsAgain hls hF _ _ _ kx ko c1) fhL_willBeLotsAgain q_m_L_171 ⟨Nat.le_of_ble_eq_true rfl, Nat.le_of_ble_eq_true rfl⟩ hR hK hE hS rfl hl.1 rfl (Nat.le_of_ble_eq_true rfl) dL_law_1120 ⟨by omega, by omega⟩ (fun H locs hR hS => ?_)
  refine lv_istore (pc := 1123) (lv' := [(6, .int _), (0, .ref _), (1, .ref _), (2, .ref _), (3, .ref _), (4, .ref _), (5, .int _)]) hx hb dL_law_1123 hl (Nat.le_of_ble_eq_true rfl) rfl (fun ls hl => ?_)
  refine lv_aload_n (pc := 1125) hx hb dL_law_1125 rfl (lv_at hl 3 rfl) ?_
  refine lv_aload_n (pc := 1126) hx hb dL_law_1126 rfl (lv_at hl 1 rfl) ?_
  refine lv_iload (pc := 1127) hx hb dL_law_1127 (lv_at hl 6 rfl) ?_
  refine lv_iconst (pc := 1129) hx hb dL_law_1129 kc_1 ?_
  refine lv_iadd (pc := 1130) hx hb dL_law_1130 ?_
  refine xr_sld (pc := 1131) (j + 1) hx hb hX hbl hbA hS (xhI1 hj hL) (xhV1 hj hL) dL_law_1131 ?_
  obtain ⟨r2, m2, c2, h⟩ := xb_inv h
  refine xl_iV (pc := 1132) (As := [.int _]) (rest := []) ⟨hx, hb, hml, hown, hts⟩ (mX8_willBeLotsAgain hF _ _ km c2) fdX8_willBeLotsAgain q_m_L_173 ⟨Nat.le_of_ble_eq_true rfl, Nat.le_of_ble_eq_true rfl⟩ (xRecv hK hR (ci := 12) rfl km.1) hR hK hE hS rfl hl.1 rfl (Nat.le_of_ble_eq_true rfl) dL_law_1132 ⟨by omega, by omega⟩ (fun H locs hR hS => ?_)
  refine lv_istore (pc := 1135) (lv' := [(7, .int _), (6, .int _), (0, .ref _), (1, .ref _), (2, .ref _), (3, .ref _), (4, .ref _), (5, .int _)]) hx hb dL_law_1135 hl (Nat.le_of_ble_eq_true rfl) rfl (fun ls hl => ?_)
  refine lv_aload_n (pc := 1137) hx hb dL_law_1137 rfl (lv_at hl 4 rfl) ?_
  obtain ⟨r3, m3, c3, h⟩ := xb_inv h
  refine xl_iV (pc := 1138) (As := []) (rest := []) ⟨hx, hb, hml, hown, hts⟩ (mX8_thrown hF _ km c3) fdX8_thrown q_m_L_124 ⟨Nat.le_of_ble_eq_true rfl, Nat.le_of_ble_eq_true rfl⟩ (xRecv hK hR (ci := 12) rfl km.1) hR hK hE hS rfl hl.1 rfl (Nat.le_of_ble_eq_true rfl) dL_law_1138 ⟨by omega, by omega⟩ (fun H locs hR hS => ?_)
  refine lv_iload (pc := 1141) hx hb dL_law_1141 (lv_at hl 1 rfl) ?_
  refine lv_icmp_eq (pc := 1143) (tgt := 1148) hx hb dL_law_1143 (by decide) (fun c4 => ?_) (fun c4 => ?_)
  · have h := xpos c4 h
    refine lv_iload (pc := 1148) hx hb dL_law_1148 (lv_at hl 1 rfl) ?_
    refine lv_if_ne (pc := 1150) (tgt := 1165) hx hb dL_law_1150 (by decide) (fun c5 => ?_) (fun c5 => ?_)
    · have h := xneg c5 h
      refine lv_goto (pc := 1165) (tgt := 1973) hx hb dL_law_1165 (by decide) ?_
      cases h
      refine W.widen (k := cells + 20) (n := slots + 2000) (by omega) (by omega) ?_
      exact kk H locs ls hR hS (lv_sub hl [2, 3, 4, 5, 6, 7] rfl)
    · have h := xpos c5 h
      refine lv_aload_n (pc := 1153) hx hb dL_law_1153 rfl (lv_at hl 5 rfl) ?_
      refine lv_iconst (pc := 1154) hx hb dL_law_1154 kc_0 ?_
      refine xr_laldk (pc := 1155) 0 hx hb hK hR ko.1 ko.2 tn_0 (vl_0 (by decide)) dL_law_1155 ?_
      refine lv_iload (pc := 1156) hx hb dL_law_1156 (lv_at hl 0 rfl) ?_
      refine lv_i2l (pc := 1158) hx hb dL_law_1158 rfl ?_
      refine W.lcmp (pc := 1159) hx hb dL_law_1159 ?_
      refine lv_if_eq (pc := 1160) (tgt := 1165) hx hb dL_law_1160 (by decide) (fun c6 => ?_) (fun c6 => ?_)
      · have h := xpos c6 h
        refine lv_goto (pc := 1165) (tgt := 1973) hx hb dL_law_1165 (by decide) ?_
        cases h
        refine W.widen (k := cells + 20) (n := slots + 2000) (by omega) (by omega) ?_
        exact kk H locs ls hR hS (lv_sub hl [2, 3, 4, 5, 6, 7] rfl)
      · have h := xneg c6 h
        refine lv_iconst (pc := 1163) hx hb dL_law_1163 kc_0 ?_
        cases h
  · have h := xneg c4 h
    refine lv_iconst (pc := 1146) hx hb dL_law_1146 kc_0 ?_
    cases h
set_option maxHeartbeats 1000000 in
set_option maxRecDepth 20000 in
theorem wL_16 {p : Program} {l : Launch} (hls : l.stackTraces = false) {e : Env} {s : State} {m : MethodId} {args : Array Value} {below : List Frame} {meth : Method} {c : Code} {D : va_G} {ca : Nat → ClassId} {z : Nat} {G : xG} {X : va_W} {ad av : Nat → Nat} {b L : Nat} {xs : Nat → Int32} {Q : State → Prop} {H0 : Heap} (hF : xFix z G X) (hx : p.tables.exec = Jvm.exec) (hb : c.code = cL_law) (hml : c.maxLocals = 9) (hts : ∀ w ∈ xAll, w.before args s = true) (hown : s.vm.findClass RL = some m.cls) (hK : va_K D vwCl (xT ca) s) (hE : xEv z ad av s s.heap) (hX : va_X b L xs s s.heap) (hbl : b < s.heap.size) (hbA : ¬ z ≤ b) {x md out od : Nat} (kx : xI_Coat G x) (km : xI_Model G md) (ko : xI_Longs 1 G out) {j : Nat} (hj : j + 4 ≤ L) (hL : L ≤ 2048) {cells slots : Nat} (hc : cells + 20 ≤ 603072) (hs : slots + 2000 ≤ 7211114) {μ μ1 : xM} (h : gL_16 x md out (xs (j + 1)) (xs (j + 2)) (xs (j + 3)) μ = some μ1) {H : Heap} {locs : List Loc} {ls : Array Slot} (hR : xRep D ca G X μ H) (hS : va_S (fun q => z ≤ q) s.heap H locs) (hl : lv_has ls 9 [(0, .ref b), (1, .ref x), (2, .ref md), (3, .ref out), (4, .ref od), (5, .int (nI j))])
    (kk : ∀ (H : Heap) (locs : List Loc) (ls : Array Slot), xRep D ca G X μ1 H → va_S (fun q => z ≤ q) s.heap H locs → lv_has ls 9 [(0, .ref b), (1, .ref x), (2, .ref md), (3, .ref out), (4, .ref od), (5, .int (nI j))] → W p l e room_1 s m args below meth c H locs (cells + 20) (slots + 2000) Q (F0 m 1973 ls [])) : W p l e room_1 s m args below meth c H locs cells slots Q (F0 m 1168 ls []) := by
  rw [gL_16] at h
  refine lv_aload_n (pc := 1168) hx hb dL_law_1168 rfl (lv_at hl 1 rfl) ?_
  refine lv_aload_n (pc := 1169) hx hb dL_law_1169 rfl (lv_at hl 0 rfl) ?_
  refine lv_iload (pc := 1170) hx hb dL_law_1170 (lv_at hl 5 rfl) ?_
  refine lv_iconst (pc := 1172) hx hb dL_law_1172 kc_1 ?_
  refine lv_iadd (pc := 1173) hx hb dL_law_1173 ?_
  refine xr_sld (pc := 1174) (j + 1) hx hb hX hbl hbA hS (xhI1 hj hL) (xhV1 hj hL) dL_law_1174 ?_
  refine lv_aload_n (pc := 1175) hx hb dL_law_1175 rfl (lv_at hl 0 rfl) ?_
  refine lv_iload (pc := 1176) hx hb dL_law_1176 (lv_at hl 5 rfl) ?_
  refine lv_iconst (pc := 1178) hx hb dL_law_1178 kc_2 ?_
  refine lv_iadd (pc := 1179) hx hb dL_law_1179 ?_
  refine xr_sld (pc := 1180) (j + 2) hx hb hX hbl hbA hS (xhI2 hj hL) (xhV2 hj hL) dL_law_1180 ?_
  refine lv_aload_n (pc := 1181) hx hb dL_law_1181 rfl (lv_at hl 3 rfl) ?_
  obtain ⟨r1, m1, c1, h⟩ := xb_inv h
  refine xl_call (pc := 1182) (As := [.ref _, .int _, .int _, .ref _]) (rest := []) ⟨hx, hb, hml, hown, hts⟩ (mL_willReserve hls hF _ _ _ _ kx ko c1) fhL_willReserve q_m_L_174 ⟨Nat.le_of_ble_eq_true rfl, Nat.le_of_ble_eq_true rfl⟩ hR hK hE hS rfl hl.1 rfl (Nat.le_of_ble_eq_true rfl) dL_law_1182 ⟨by omega, by omega⟩ (fun H locs hR hS => ?_)
  refine lv_istore (pc := 1185) (lv' := [(6, .int _), (0, .ref _), (1, .ref _), (2, .ref _), (3, .ref _), (4, .ref _), (5, .int _)]) hx hb dL_law_1185 hl (Nat.le_of_ble_eq_true rfl) rfl (fun ls hl => ?_)
  refine lv_aload_n (pc := 1187) hx hb dL_law_1187 rfl (lv_at hl 3 rfl) ?_
  refine lv_aload_n (pc := 1188) hx hb dL_law_1188 rfl (lv_at hl 1 rfl) ?_
  refine lv_iload (pc := 1189) hx hb dL_law_1189 (lv_at hl 6 rfl) ?_
  refine lv_iconst (pc := 1191) hx hb dL_law_1191 kc_1 ?_
  refine lv_iadd (pc := 1192) hx hb dL_law_1192 ?_
  refine xr_sld (pc := 1193) (j + 1) hx hb hX hbl hbA hS (xhI1 hj hL) (xhV1 hj hL) dL_law_1193 ?_
  refine lv_aload_n (pc := 1194) hx hb dL_law_1194 rfl (lv_at hl 1 rfl) ?_
  refine lv_iload (pc := 1195) hx hb dL_law_1195 (lv_at hl 6 rfl) ?_
  refine lv_iconst (pc := 1197) hx hb dL_law_1197 kc_2 ?_
  refine lv_iadd (pc := 1198) hx hb dL_law_1198 ?_
  refine xr_sld (pc := 1199) (j + 2) hx hb hX hbl hbA hS (xhI2 hj hL) (xhV2 hj hL) dL_law_1199 ?_
  obtain ⟨r2, m2, c2, h⟩ := xb_inv h
  refine xl_iV (pc := 1200) (As := [.int _, .int _]) (rest := []) ⟨hx, hb, hml, hown, hts⟩ (mX8_willReserve hF _ _ _ km c2) fdX8_willReserve q_m_L_176 ⟨Nat.le_of_ble_eq_true rfl, Nat.le_of_ble_eq_true rfl⟩ (xRecv hK hR (ci := 12) rfl km.1) hR hK hE hS rfl hl.1 rfl (Nat.le_of_ble_eq_true rfl) dL_law_1200 ⟨by omega, by omega⟩ (fun H locs hR hS => ?_)
  refine lv_istore (pc := 1203) (lv' := [(7, .int _), (6, .int _), (0, .ref _), (1, .ref _), (2, .ref _), (3, .ref _), (4, .ref _), (5, .int _)]) hx hb dL_law_1203 hl (Nat.le_of_ble_eq_true rfl) rfl (fun ls hl => ?_)
  refine lv_aload_n (pc := 1205) hx hb dL_law_1205 rfl (lv_at hl 4 rfl) ?_
  obtain ⟨r3, m3, c3, h⟩ := xb_inv h
  refine xl_iV (pc := 1206) (As := []) (rest := []) ⟨hx, hb, hml, hown, hts⟩ (mX8_thrown hF _ km c3) fdX8_thrown q_m_L_124 ⟨Nat.le_of_ble_eq_true rfl, Nat.le_of_ble_eq_true rfl⟩ (xRecv hK hR (ci := 12) rfl km.1) hR hK hE hS rfl hl.1 rfl (Nat.le_of_ble_eq_true rfl) dL_law_1206 ⟨by omega, by omega⟩ (fun H locs hR hS => ?_)
  refine lv_iload (pc := 1209) hx hb dL_law_1209 (lv_at hl 1 rfl) ?_
  refine lv_icmp_eq (pc := 1211) (tgt := 1216) hx hb dL_law_1211 (by decide) (fun c4 => ?_) (fun c4 => ?_)
  · have h := xpos c4 h
    refine lv_iload (pc := 1216) hx hb dL_law_1216 (lv_at hl 1 rfl) ?_
    refine lv_if_ne (pc := 1218) (tgt := 1233) hx hb dL_law_1218 (by decide) (fun c5 => ?_) (fun c5 => ?_)
    · have h := xneg c5 h
      refine lv_goto (pc := 1233) (tgt := 1973) hx hb dL_law_1233 (by decide) ?_
      cases h
      refine W.widen (k := cells + 20) (n := slots + 2000) (by omega) (by omega) ?_
      exact kk H locs ls hR hS (lv_sub hl [2, 3, 4, 5, 6, 7] rfl)
    · have h := xpos c5 h
      refine lv_aload_n (pc := 1221) hx hb dL_law_1221 rfl (lv_at hl 5 rfl) ?_
      refine lv_iconst (pc := 1222) hx hb dL_law_1222 kc_0 ?_
      refine xr_laldk (pc := 1223) 0 hx hb hK hR ko.1 ko.2 tn_0 (vl_0 (by decide)) dL_law_1223 ?_
      refine lv_iload (pc := 1224) hx hb dL_law_1224 (lv_at hl 0 rfl) ?_
      refine lv_i2l (pc := 1226) hx hb dL_law_1226 rfl ?_
      refine W.lcmp (pc := 1227) hx hb dL_law_1227 ?_
      refine lv_if_eq (pc := 1228) (tgt := 1233) hx hb dL_law_1228 (by decide) (fun c6 => ?_) (fun c6 => ?_)
      · have h := xpos c6 h
        refine lv_goto (pc := 1233) (tgt := 1973) hx hb dL_law_1233 (by decide) ?_
        cases h
        refine W.widen (k := cells + 20) (n := slots + 2000) (by omega) (by omega) ?_
        exact kk H locs ls hR hS (lv_sub hl [2, 3, 4, 5, 6, 7] rfl)
      · have h := xneg c6 h
        refine lv_iconst (pc := 1231) hx hb dL_law_1231 kc_0 ?_
        cases h
  · have h := xneg c4 h
    refine lv_iconst (pc := 1214) hx hb dL_law_1214 kc_0 ?_
    cases h
set_option maxHeartbeats 1000000 in
set_option maxRecDepth 20000 in
theorem wL_17 {p : Program} {l : Launch} (hls : l.stackTraces = false) {e : Env} {s : State} {m : MethodId} {args : Array Value} {below : List Frame} {meth : Method} {c : Code} {D : va_G} {ca : Nat → ClassId} {z : Nat} {G : xG} {X : va_W} {ad av : Nat → Nat} {b L : Nat} {xs : Nat → Int32} {Q : State → Prop} {H0 : Heap} (hF : xFix z G X) (hx : p.tables.exec = Jvm.exec) (hb : c.code = cL_law) (hml : c.maxLocals = 9) (hts : ∀ w ∈ xAll, w.before args s = true) (hown : s.vm.findClass RL = some m.cls) (hK : va_K D vwCl (xT ca) s) (hE : xEv z ad av s s.heap) (hX : va_X b L xs s s.heap) (hbl : b < s.heap.size) (hbA : ¬ z ≤ b) {x md out od : Nat} (kx : xI_Coat G x) (km : xI_Model G md) (ko : xI_Longs 1 G out) {j : Nat} (hj : j + 4 ≤ L) (hL : L ≤ 2048) {cells slots : Nat} (hc : cells + 20 ≤ 603072) (hs : slots + 2000 ≤ 7211114) {μ μ1 : xM} (h : gL_17 x md out (xs (j + 1)) (xs (j + 2)) (xs (j + 3)) μ = some μ1) {H : Heap} {locs : List Loc} {ls : Array Slot} (hR : xRep D ca G X μ H) (hS : va_S (fun q => z ≤ q) s.heap H locs) (hl : lv_has ls 9 [(0, .ref b), (1, .ref x), (2, .ref md), (3, .ref out), (4, .ref od), (5, .int (nI j))])
    (kk : ∀ (H : Heap) (locs : List Loc) (ls : Array Slot), xRep D ca G X μ1 H → va_S (fun q => z ≤ q) s.heap H locs → lv_has ls 9 [(0, .ref b), (1, .ref x), (2, .ref md), (3, .ref out), (4, .ref od), (5, .int (nI j))] → W p l e room_1 s m args below meth c H locs (cells + 20) (slots + 2000) Q (F0 m 1973 ls [])) : W p l e room_1 s m args below meth c H locs cells slots Q (F0 m 1236 ls []) := by
  rw [gL_17] at h
  refine lv_aload_n (pc := 1236) hx hb dL_law_1236 rfl (lv_at hl 1 rfl) ?_
  refine lv_aload_n (pc := 1237) hx hb dL_law_1237 rfl (lv_at hl 0 rfl) ?_
  refine lv_iload (pc := 1238) hx hb dL_law_1238 (lv_at hl 5 rfl) ?_
  refine lv_iconst (pc := 1240) hx hb dL_law_1240 kc_1 ?_
  refine lv_iadd (pc := 1241) hx hb dL_law_1241 ?_
  refine xr_sld (pc := 1242) (j + 1) hx hb hX hbl hbA hS (xhI1 hj hL) (xhV1 hj hL) dL_law_1242 ?_
  refine lv_aload_n (pc := 1243) hx hb dL_law_1243 rfl (lv_at hl 0 rfl) ?_
  refine lv_iload (pc := 1244) hx hb dL_law_1244 (lv_at hl 5 rfl) ?_
  refine lv_iconst (pc := 1246) hx hb dL_law_1246 kc_2 ?_
  refine lv_iadd (pc := 1247) hx hb dL_law_1247 ?_
  refine xr_sld (pc := 1248) (j + 2) hx hb hX hbl hbA hS (xhI2 hj hL) (xhV2 hj hL) dL_law_1248 ?_
  refine lv_aload_n (pc := 1249) hx hb dL_law_1249 rfl (lv_at hl 3 rfl) ?_
  obtain ⟨r1, m1, c1, h⟩ := xb_inv h
  refine xl_call (pc := 1250) (As := [.ref _, .int _, .int _, .ref _]) (rest := []) ⟨hx, hb, hml, hown, hts⟩ (mL_ownerOf hls hF _ _ _ _ kx ko c1) fhL_ownerOf q_m_L_177 ⟨Nat.le_of_ble_eq_true rfl, Nat.le_of_ble_eq_true rfl⟩ hR hK hE hS rfl hl.1 rfl (Nat.le_of_ble_eq_true rfl) dL_law_1250 ⟨by omega, by omega⟩ (fun H locs hR hS => ?_)
  refine lv_istore (pc := 1253) (lv' := [(6, .int _), (0, .ref _), (1, .ref _), (2, .ref _), (3, .ref _), (4, .ref _), (5, .int _)]) hx hb dL_law_1253 hl (Nat.le_of_ble_eq_true rfl) rfl (fun ls hl => ?_)
  refine lv_aload_n (pc := 1255) hx hb dL_law_1255 rfl (lv_at hl 3 rfl) ?_
  refine lv_aload_n (pc := 1256) hx hb dL_law_1256 rfl (lv_at hl 1 rfl) ?_
  refine lv_iload (pc := 1257) hx hb dL_law_1257 (lv_at hl 6 rfl) ?_
  refine lv_iconst (pc := 1259) hx hb dL_law_1259 kc_1 ?_
  refine lv_iadd (pc := 1260) hx hb dL_law_1260 ?_
  refine xr_sld (pc := 1261) (j + 1) hx hb hX hbl hbA hS (xhI1 hj hL) (xhV1 hj hL) dL_law_1261 ?_
  refine lv_aload_n (pc := 1262) hx hb dL_law_1262 rfl (lv_at hl 1 rfl) ?_
  refine lv_iload (pc := 1263) hx hb dL_law_1263 (lv_at hl 6 rfl) ?_
  refine lv_iconst (pc := 1265) hx hb dL_law_1265 kc_2 ?_
  refine lv_iadd (pc := 1266) hx hb dL_law_1266 ?_
  refine xr_sld (pc := 1267) (j + 2) hx hb hX hbl hbA hS (xhI2 hj hL) (xhV2 hj hL) dL_law_1267 ?_
  obtain ⟨r2, m2, c2, h⟩ := xb_inv h
  refine xl_iV (pc := 1268) (As := [.int _, .int _]) (rest := []) ⟨hx, hb, hml, hown, hts⟩ (mX8_ownerOf hF _ _ _ km c2) fdX8_ownerOf q_m_L_179 ⟨Nat.le_of_ble_eq_true rfl, Nat.le_of_ble_eq_true rfl⟩ (xRecv hK hR (ci := 12) rfl km.1) hR hK hE hS rfl hl.1 rfl (Nat.le_of_ble_eq_true rfl) dL_law_1268 ⟨by omega, by omega⟩ (fun H locs hR hS => ?_)
  refine lv_istore (pc := 1271) (lv' := [(7, .int _), (6, .int _), (0, .ref _), (1, .ref _), (2, .ref _), (3, .ref _), (4, .ref _), (5, .int _)]) hx hb dL_law_1271 hl (Nat.le_of_ble_eq_true rfl) rfl (fun ls hl => ?_)
  refine lv_aload_n (pc := 1273) hx hb dL_law_1273 rfl (lv_at hl 4 rfl) ?_
  obtain ⟨r3, m3, c3, h⟩ := xb_inv h
  refine xl_iV (pc := 1274) (As := []) (rest := []) ⟨hx, hb, hml, hown, hts⟩ (mX8_thrown hF _ km c3) fdX8_thrown q_m_L_124 ⟨Nat.le_of_ble_eq_true rfl, Nat.le_of_ble_eq_true rfl⟩ (xRecv hK hR (ci := 12) rfl km.1) hR hK hE hS rfl hl.1 rfl (Nat.le_of_ble_eq_true rfl) dL_law_1274 ⟨by omega, by omega⟩ (fun H locs hR hS => ?_)
  refine lv_iload (pc := 1277) hx hb dL_law_1277 (lv_at hl 1 rfl) ?_
  refine lv_icmp_eq (pc := 1279) (tgt := 1284) hx hb dL_law_1279 (by decide) (fun c4 => ?_) (fun c4 => ?_)
  · have h := xpos c4 h
    refine lv_iload (pc := 1284) hx hb dL_law_1284 (lv_at hl 1 rfl) ?_
    refine lv_if_ne (pc := 1286) (tgt := 1301) hx hb dL_law_1286 (by decide) (fun c5 => ?_) (fun c5 => ?_)
    · have h := xneg c5 h
      refine lv_goto (pc := 1301) (tgt := 1973) hx hb dL_law_1301 (by decide) ?_
      cases h
      refine W.widen (k := cells + 20) (n := slots + 2000) (by omega) (by omega) ?_
      exact kk H locs ls hR hS (lv_sub hl [2, 3, 4, 5, 6, 7] rfl)
    · have h := xpos c5 h
      refine lv_aload_n (pc := 1289) hx hb dL_law_1289 rfl (lv_at hl 5 rfl) ?_
      refine lv_iconst (pc := 1290) hx hb dL_law_1290 kc_0 ?_
      refine xr_laldk (pc := 1291) 0 hx hb hK hR ko.1 ko.2 tn_0 (vl_0 (by decide)) dL_law_1291 ?_
      refine lv_iload (pc := 1292) hx hb dL_law_1292 (lv_at hl 0 rfl) ?_
      refine lv_i2l (pc := 1294) hx hb dL_law_1294 rfl ?_
      refine W.lcmp (pc := 1295) hx hb dL_law_1295 ?_
      refine lv_if_eq (pc := 1296) (tgt := 1301) hx hb dL_law_1296 (by decide) (fun c6 => ?_) (fun c6 => ?_)
      · have h := xpos c6 h
        refine lv_goto (pc := 1301) (tgt := 1973) hx hb dL_law_1301 (by decide) ?_
        cases h
        refine W.widen (k := cells + 20) (n := slots + 2000) (by omega) (by omega) ?_
        exact kk H locs ls hR hS (lv_sub hl [2, 3, 4, 5, 6, 7] rfl)
      · have h := xneg c6 h
        refine lv_iconst (pc := 1299) hx hb dL_law_1299 kc_0 ?_
        cases h
  · have h := xneg c4 h
    refine lv_iconst (pc := 1282) hx hb dL_law_1282 kc_0 ?_
    cases h
set_option maxHeartbeats 1000000 in
set_option maxRecDepth 20000 in
theorem wL_18 {p : Program} {l : Launch} (hls : l.stackTraces = false) {e : Env} {s : State} {m : MethodId} {args : Array Value} {below : List Frame} {meth : Method} {c : Code} {D : va_G} {ca : Nat → ClassId} {z : Nat} {G : xG} {X : va_W} {ad av : Nat → Nat} {b L : Nat} {xs : Nat → Int32} {Q : State → Prop} {H0 : Heap} (hF : xFix z G X) (hx : p.tables.exec = Jvm.exec) (hb : c.code = cL_law) (hml : c.maxLocals = 9) (hts : ∀ w ∈ xAll, w.before args s = true) (hown : s.vm.findClass RL = some m.cls) (hK : va_K D vwCl (xT ca) s) (hE : xEv z ad av s s.heap) (hX : va_X b L xs s s.heap) (hbl : b < s.heap.size) (hbA : ¬ z ≤ b) {x md out od : Nat} (kx : xI_Coat G x) (km : xI_Model G md) (ko : xI_Longs 1 G out) {j : Nat} (hj : j + 4 ≤ L) (hL : L ≤ 2048) {cells slots : Nat} (hc : cells + 20 ≤ 603072) (hs : slots + 2000 ≤ 7211114) {μ μ1 : xM} (h : gL_18 x md out (xs (j + 1)) (xs (j + 2)) (xs (j + 3)) μ = some μ1) {H : Heap} {locs : List Loc} {ls : Array Slot} (hR : xRep D ca G X μ H) (hS : va_S (fun q => z ≤ q) s.heap H locs) (hl : lv_has ls 9 [(0, .ref b), (1, .ref x), (2, .ref md), (3, .ref out), (4, .ref od), (5, .int (nI j))])
    (kk : ∀ (H : Heap) (locs : List Loc) (ls : Array Slot), xRep D ca G X μ1 H → va_S (fun q => z ≤ q) s.heap H locs → lv_has ls 9 [(0, .ref b), (1, .ref x), (2, .ref md), (3, .ref out), (4, .ref od), (5, .int (nI j))] → W p l e room_1 s m args below meth c H locs (cells + 20) (slots + 2000) Q (F0 m 1973 ls [])) : W p l e room_1 s m args below meth c H locs cells slots Q (F0 m 1304 ls []) := by
  rw [gL_18] at h
  refine lv_aload_n (pc := 1304) hx hb dL_law_1304 rfl (lv_at hl 1 rfl) ?_
  refine lv_aload_n (pc := 1305) hx hb dL_law_1305 rfl (lv_at hl 0 rfl) ?_
  refine lv_iload (pc := 1306) hx hb dL_law_1306 (lv_at hl 5 rfl) ?_
  refine lv_iconst (pc := 1308) hx hb dL_law_1308 kc_1 ?_
  refine lv_iadd (pc := 1309) hx hb dL_law_1309 ?_
  refine xr_sld (pc := 1310) (j + 1) hx hb hX hbl hbA hS (xhI1 hj hL) (xhV1 hj hL) dL_law_1310 ?_
  refine lv_if_eq (pc := 1311) (tgt := 1318) hx hb dL_law_1311 (by decide) (fun c1 => ?_) (fun c1 => ?_)
  · have h := xpos c1 h
    refine lv_iconst (pc := 1318) hx hb dL_law_1318 kc_0 ?_
    obtain ⟨r2, m2, c2, h⟩ := xb_inv h
    refine xl_iV (pc := 1319) (As := [.int _]) (rest := []) ⟨hx, hb, hml, hown, hts⟩ (mX7_cash hF _ _ kx c2) fdX7_cash q_m_L_180 ⟨Nat.le_of_ble_eq_true rfl, Nat.le_of_ble_eq_true rfl⟩ (xRecv hK hR (ci := 11) rfl kx.1) hR hK hE hS rfl hl.1 rfl (Nat.le_of_ble_eq_true rfl) dL_law_1319 ⟨by omega, by omega⟩ (fun H locs hR hS => ?_)
    refine lv_aload_n (pc := 1322) hx hb dL_law_1322 rfl (lv_at hl 2 rfl) ?_
    refine lv_aload_n (pc := 1323) hx hb dL_law_1323 rfl (lv_at hl 0 rfl) ?_
    refine lv_iload (pc := 1324) hx hb dL_law_1324 (lv_at hl 5 rfl) ?_
    refine lv_iconst (pc := 1326) hx hb dL_law_1326 kc_1 ?_
    refine lv_iadd (pc := 1327) hx hb dL_law_1327 ?_
    refine xr_sld (pc := 1328) (j + 1) hx hb hX hbl hbA hS (xhI1 hj hL) (xhV1 hj hL) dL_law_1328 ?_
    refine lv_if_eq (pc := 1329) (tgt := 1336) hx hb dL_law_1329 (by decide) (fun c3 => ?_) (fun c3 => ?_)
    · have h := xpos c3 h
      refine lv_iconst (pc := 1336) hx hb dL_law_1336 kc_0 ?_
      obtain ⟨r4, m4, c4, h⟩ := xb_inv h
      refine xl_iV (pc := 1337) (As := [.int _]) (rest := [.int _]) ⟨hx, hb, hml, hown, hts⟩ (mX8_cash hF _ _ km c4) fdX8_cash q_m_L_184 ⟨Nat.le_of_ble_eq_true rfl, Nat.le_of_ble_eq_true rfl⟩ (xRecv hK hR (ci := 12) rfl km.1) hR hK hE hS rfl hl.1 rfl (Nat.le_of_ble_eq_true rfl) dL_law_1337 ⟨by omega, by omega⟩ (fun H locs hR hS => ?_)
      refine lv_icmp_eq (pc := 1340) (tgt := 1973) hx hb dL_law_1340 (by decide) (fun c5 => ?_) (fun c5 => ?_)
      · have h := xpos c5 h
        cases h
        refine W.widen (k := cells + 20) (n := slots + 2000) (by omega) (by omega) ?_
        exact kk H locs ls hR hS (lv_sub hl [0, 1, 2, 3, 4, 5] rfl)
      · have h := xneg c5 h
        refine lv_iconst (pc := 1343) hx hb dL_law_1343 kc_0 ?_
        cases h
    · have h := xneg c3 h
      refine lv_iconst (pc := 1332) hx hb dL_law_1332 kc_1 ?_
      refine lv_goto (pc := 1333) (tgt := 1337) hx hb dL_law_1333 (by decide) ?_
      obtain ⟨r6, m6, c6, h⟩ := xb_inv h
      refine xl_iV (pc := 1337) (As := [.int _]) (rest := [.int _]) ⟨hx, hb, hml, hown, hts⟩ (mX8_cash hF _ _ km c6) fdX8_cash q_m_L_184 ⟨Nat.le_of_ble_eq_true rfl, Nat.le_of_ble_eq_true rfl⟩ (xRecv hK hR (ci := 12) rfl km.1) hR hK hE hS rfl hl.1 rfl (Nat.le_of_ble_eq_true rfl) dL_law_1337 ⟨by omega, by omega⟩ (fun H locs hR hS => ?_)
      refine lv_icmp_eq (pc := 1340) (tgt := 1973) hx hb dL_law_1340 (by decide) (fun c7 => ?_) (fun c7 => ?_)
      · have h := xpos c7 h
        cases h
        refine W.widen (k := cells + 20) (n := slots + 2000) (by omega) (by omega) ?_
        exact kk H locs ls hR hS (lv_sub hl [0, 1, 2, 3, 4, 5] rfl)
      · have h := xneg c7 h
        refine lv_iconst (pc := 1343) hx hb dL_law_1343 kc_0 ?_
        cases h
  · have h := xneg c1 h
    refine lv_iconst (pc := 1314) hx hb dL_law_1314 kc_1 ?_
    refine lv_goto (pc := 1315) (tgt := 1319) hx hb dL_law_1315 (by decide) ?_
    obtain ⟨r8, m8, c8, h⟩ := xb_inv h
    refine xl_iV (pc := 1319) (As := [.int _]) (rest := []) ⟨hx, hb, hml, hown, hts⟩ (mX7_cash hF _ _ kx c8) fdX7_cash q_m_L_180 ⟨Nat.le_of_ble_eq_true rfl, Nat.le_of_ble_eq_true rfl⟩ (xRecv hK hR (ci := 11) rfl kx.1) hR hK hE hS rfl hl.1 rfl (Nat.le_of_ble_eq_true rfl) dL_law_1319 ⟨by omega, by omega⟩ (fun H locs hR hS => ?_)
    refine lv_aload_n (pc := 1322) hx hb dL_law_1322 rfl (lv_at hl 2 rfl) ?_
    refine lv_aload_n (pc := 1323) hx hb dL_law_1323 rfl (lv_at hl 0 rfl) ?_
    refine lv_iload (pc := 1324) hx hb dL_law_1324 (lv_at hl 5 rfl) ?_
    refine lv_iconst (pc := 1326) hx hb dL_law_1326 kc_1 ?_
    refine lv_iadd (pc := 1327) hx hb dL_law_1327 ?_
    refine xr_sld (pc := 1328) (j + 1) hx hb hX hbl hbA hS (xhI1 hj hL) (xhV1 hj hL) dL_law_1328 ?_
    refine lv_if_eq (pc := 1329) (tgt := 1336) hx hb dL_law_1329 (by decide) (fun c9 => ?_) (fun c9 => ?_)
    · have h := xpos c9 h
      refine lv_iconst (pc := 1336) hx hb dL_law_1336 kc_0 ?_
      obtain ⟨r10, m10, c10, h⟩ := xb_inv h
      refine xl_iV (pc := 1337) (As := [.int _]) (rest := [.int _]) ⟨hx, hb, hml, hown, hts⟩ (mX8_cash hF _ _ km c10) fdX8_cash q_m_L_184 ⟨Nat.le_of_ble_eq_true rfl, Nat.le_of_ble_eq_true rfl⟩ (xRecv hK hR (ci := 12) rfl km.1) hR hK hE hS rfl hl.1 rfl (Nat.le_of_ble_eq_true rfl) dL_law_1337 ⟨by omega, by omega⟩ (fun H locs hR hS => ?_)
      refine lv_icmp_eq (pc := 1340) (tgt := 1973) hx hb dL_law_1340 (by decide) (fun c11 => ?_) (fun c11 => ?_)
      · have h := xpos c11 h
        cases h
        refine W.widen (k := cells + 20) (n := slots + 2000) (by omega) (by omega) ?_
        exact kk H locs ls hR hS (lv_sub hl [0, 1, 2, 3, 4, 5] rfl)
      · have h := xneg c11 h
        refine lv_iconst (pc := 1343) hx hb dL_law_1343 kc_0 ?_
        cases h
    · have h := xneg c9 h
      refine lv_iconst (pc := 1332) hx hb dL_law_1332 kc_1 ?_
      refine lv_goto (pc := 1333) (tgt := 1337) hx hb dL_law_1333 (by decide) ?_
      obtain ⟨r12, m12, c12, h⟩ := xb_inv h
      refine xl_iV (pc := 1337) (As := [.int _]) (rest := [.int _]) ⟨hx, hb, hml, hown, hts⟩ (mX8_cash hF _ _ km c12) fdX8_cash q_m_L_184 ⟨Nat.le_of_ble_eq_true rfl, Nat.le_of_ble_eq_true rfl⟩ (xRecv hK hR (ci := 12) rfl km.1) hR hK hE hS rfl hl.1 rfl (Nat.le_of_ble_eq_true rfl) dL_law_1337 ⟨by omega, by omega⟩ (fun H locs hR hS => ?_)
      refine lv_icmp_eq (pc := 1340) (tgt := 1973) hx hb dL_law_1340 (by decide) (fun c13 => ?_) (fun c13 => ?_)
      · have h := xpos c13 h
        cases h
        refine W.widen (k := cells + 20) (n := slots + 2000) (by omega) (by omega) ?_
        exact kk H locs ls hR hS (lv_sub hl [0, 1, 2, 3, 4, 5] rfl)
      · have h := xneg c13 h
        refine lv_iconst (pc := 1343) hx hb dL_law_1343 kc_0 ?_
        cases h
set_option maxHeartbeats 1000000 in
set_option maxRecDepth 20000 in
theorem wL_19 {p : Program} {l : Launch} (hls : l.stackTraces = false) {e : Env} {s : State} {m : MethodId} {args : Array Value} {below : List Frame} {meth : Method} {c : Code} {D : va_G} {ca : Nat → ClassId} {z : Nat} {G : xG} {X : va_W} {ad av : Nat → Nat} {b L : Nat} {xs : Nat → Int32} {Q : State → Prop} {H0 : Heap} (hF : xFix z G X) (hx : p.tables.exec = Jvm.exec) (hb : c.code = cL_law) (hml : c.maxLocals = 9) (hts : ∀ w ∈ xAll, w.before args s = true) (hown : s.vm.findClass RL = some m.cls) (hK : va_K D vwCl (xT ca) s) (hE : xEv z ad av s s.heap) (hX : va_X b L xs s s.heap) (hbl : b < s.heap.size) (hbA : ¬ z ≤ b) {x md out od : Nat} (kx : xI_Coat G x) (km : xI_Model G md) (ko : xI_Longs 1 G out) {j : Nat} (hj : j + 4 ≤ L) (hL : L ≤ 2048) {cells slots : Nat} (hc : cells + 20 ≤ 603072) (hs : slots + 2000 ≤ 7211114) {μ μ1 : xM} (h : gL_19 x md out (xs (j + 1)) (xs (j + 2)) (xs (j + 3)) μ = some μ1) {H : Heap} {locs : List Loc} {ls : Array Slot} (hR : xRep D ca G X μ H) (hS : va_S (fun q => z ≤ q) s.heap H locs) (hl : lv_has ls 9 [(0, .ref b), (1, .ref x), (2, .ref md), (3, .ref out), (4, .ref od), (5, .int (nI j))])
    (kk : ∀ (H : Heap) (locs : List Loc) (ls : Array Slot), xRep D ca G X μ1 H → va_S (fun q => z ≤ q) s.heap H locs → lv_has ls 9 [(0, .ref b), (1, .ref x), (2, .ref md), (3, .ref out), (4, .ref od), (5, .int (nI j))] → W p l e room_1 s m args below meth c H locs (cells + 20) (slots + 2000) Q (F0 m 1973 ls [])) : W p l e room_1 s m args below meth c H locs cells slots Q (F0 m 1345 ls []) := by
  rw [gL_19] at h
  refine lv_aload_n (pc := 1345) hx hb dL_law_1345 rfl (lv_at hl 1 rfl) ?_
  obtain ⟨r1, m1, c1, h⟩ := xb_inv h
  refine xl_iV (pc := 1346) (As := []) (rest := []) ⟨hx, hb, hml, hown, hts⟩ (mX7_isWell hF _ kx c1) fdX7_isWell q_m_L_185 ⟨Nat.le_of_ble_eq_true rfl, Nat.le_of_ble_eq_true rfl⟩ (xRecv hK hR (ci := 11) rfl kx.1) hR hK hE hS rfl hl.1 rfl (Nat.le_of_ble_eq_true rfl) dL_law_1346 ⟨by omega, by omega⟩ (fun H locs hR hS => ?_)
  refine lv_aload_n (pc := 1349) hx hb dL_law_1349 rfl (lv_at hl 2 rfl) ?_
  obtain ⟨r2, m2, c2, h⟩ := xb_inv h
  refine xl_iV (pc := 1350) (As := []) (rest := [.int _]) ⟨hx, hb, hml, hown, hts⟩ (mX8_isWell hF _ km c2) fdX8_isWell q_m_L_189 ⟨Nat.le_of_ble_eq_true rfl, Nat.le_of_ble_eq_true rfl⟩ (xRecv hK hR (ci := 12) rfl km.1) hR hK hE hS rfl hl.1 rfl (Nat.le_of_ble_eq_true rfl) dL_law_1350 ⟨by omega, by omega⟩ (fun H locs hR hS => ?_)
  refine lv_icmp_eq (pc := 1353) (tgt := 1973) hx hb dL_law_1353 (by decide) (fun c3 => ?_) (fun c3 => ?_)
  · have h := xpos c3 h
    cases h
    refine W.widen (k := cells + 20) (n := slots + 2000) (by omega) (by omega) ?_
    exact kk H locs ls hR hS (lv_sub hl [0, 1, 2, 3, 4, 5] rfl)
  · have h := xneg c3 h
    refine lv_iconst (pc := 1356) hx hb dL_law_1356 kc_0 ?_
    cases h
set_option maxHeartbeats 1000000 in
set_option maxRecDepth 20000 in
theorem wL_22 {p : Program} {l : Launch} (hls : l.stackTraces = false) {e : Env} {s : State} {m : MethodId} {args : Array Value} {below : List Frame} {meth : Method} {c : Code} {D : va_G} {ca : Nat → ClassId} {z : Nat} {G : xG} {X : va_W} {ad av : Nat → Nat} {b L : Nat} {xs : Nat → Int32} {Q : State → Prop} {H0 : Heap} (hF : xFix z G X) (hx : p.tables.exec = Jvm.exec) (hb : c.code = cL_law) (hml : c.maxLocals = 9) (hts : ∀ w ∈ xAll, w.before args s = true) (hown : s.vm.findClass RL = some m.cls) (hK : va_K D vwCl (xT ca) s) (hE : xEv z ad av s s.heap) (hX : va_X b L xs s s.heap) (hbl : b < s.heap.size) (hbA : ¬ z ≤ b) {x md out od : Nat} (kx : xI_Coat G x) (km : xI_Model G md) (ko : xI_Longs 1 G out) {j : Nat} (hj : j + 4 ≤ L) (hL : L ≤ 2048) {cells slots : Nat} (hc : cells + 20 ≤ 603072) (hs : slots + 2000 ≤ 7211114) {μ μ1 : xM} (h : gL_22 x md out (xs (j + 1)) (xs (j + 2)) (xs (j + 3)) μ = some μ1) {H : Heap} {locs : List Loc} {ls : Array Slot} (hR : xRep D ca G X μ H) (hS : va_S (fun q => z ≤ q) s.heap H locs) (hl : lv_has ls 9 [(0, .ref b), (1, .ref x), (2, .ref md), (3, .ref out), (4, .ref od), (5, .int (nI j))])
    (kk : ∀ (H : Heap) (locs : List Loc) (ls : Array Slot), xRep D ca G X μ1 H → va_S (fun q => z ≤ q) s.heap H locs → lv_has ls 9 [(0, .ref b), (1, .ref x), (2, .ref md), (3, .ref out), (4, .ref od), (5, .int (nI j))] → W p l e room_1 s m args below meth c H locs (cells + 20) (slots + 2000) Q (F0 m 1973 ls [])) : W p l e room_1 s m args below meth c H locs cells slots Q (F0 m 1470 ls []) := by
  rw [gL_22] at h
  refine lv_aload_n (pc := 1470) hx hb dL_law_1470 rfl (lv_at hl 1 rfl) ?_
  refine lv_aload_n (pc := 1471) hx hb dL_law_1471 rfl (lv_at hl 0 rfl) ?_
  refine lv_iload (pc := 1472) hx hb dL_law_1472 (lv_at hl 5 rfl) ?_
  refine lv_iconst (pc := 1474) hx hb dL_law_1474 kc_1 ?_
  refine lv_iadd (pc := 1475) hx hb dL_law_1475 ?_
  refine xr_sld (pc := 1476) (j + 1) hx hb hX hbl hbA hS (xhI1 hj hL) (xhV1 hj hL) dL_law_1476 ?_
  refine lv_i2c (pc := 1477) hx hb dL_law_1477 rfl ?_
  refine lv_aload_n (pc := 1478) hx hb dL_law_1478 rfl (lv_at hl 3 rfl) ?_
  obtain ⟨r1, m1, c1, h⟩ := xb_inv h
  refine xl_call (pc := 1479) (As := [.ref _, .int _, .ref _]) (rest := []) ⟨hx, hb, hml, hown, hts⟩ (mL_append hls hF _ _ _ kx ko c1) fhL_append q_m_L_196 ⟨Nat.le_of_ble_eq_true rfl, Nat.le_of_ble_eq_true rfl⟩ hR hK hE hS rfl hl.1 rfl (Nat.le_of_ble_eq_true rfl) dL_law_1479 ⟨by omega, by omega⟩ (fun H locs hR hS => ?_)
  refine lv_istore (pc := 1482) (lv' := [(6, .int _), (0, .ref _), (1, .ref _), (2, .ref _), (3, .ref _), (4, .ref _), (5, .int _)]) hx hb dL_law_1482 hl (Nat.le_of_ble_eq_true rfl) rfl (fun ls hl => ?_)
  refine lv_aload_n (pc := 1484) hx hb dL_law_1484 rfl (lv_at hl 3 rfl) ?_
  refine lv_aload_n (pc := 1485) hx hb dL_law_1485 rfl (lv_at hl 1 rfl) ?_
  refine lv_iload (pc := 1486) hx hb dL_law_1486 (lv_at hl 6 rfl) ?_
  refine lv_iconst (pc := 1488) hx hb dL_law_1488 kc_1 ?_
  refine lv_iadd (pc := 1489) hx hb dL_law_1489 ?_
  refine xr_sld (pc := 1490) (j + 1) hx hb hX hbl hbA hS (xhI1 hj hL) (xhV1 hj hL) dL_law_1490 ?_
  refine lv_i2c (pc := 1491) hx hb dL_law_1491 rfl ?_
  obtain ⟨r2, m2, c2, h⟩ := xb_inv h
  refine xl_iV (pc := 1492) (As := [.int _]) (rest := []) ⟨hx, hb, hml, hown, hts⟩ (mX8_append hF _ _ km c2) fdX8_append q_m_L_199 ⟨Nat.le_of_ble_eq_true rfl, Nat.le_of_ble_eq_true rfl⟩ (xRecv hK hR (ci := 12) rfl km.1) hR hK hE hS rfl hl.1 rfl (Nat.le_of_ble_eq_true rfl) dL_law_1492 ⟨by omega, by omega⟩ (fun H locs hR hS => ?_)
  refine lv_istore (pc := 1495) (lv' := [(7, .int _), (6, .int _), (0, .ref _), (1, .ref _), (2, .ref _), (3, .ref _), (4, .ref _), (5, .int _)]) hx hb dL_law_1495 hl (Nat.le_of_ble_eq_true rfl) rfl (fun ls hl => ?_)
  refine lv_aload_n (pc := 1497) hx hb dL_law_1497 rfl (lv_at hl 4 rfl) ?_
  obtain ⟨r3, m3, c3, h⟩ := xb_inv h
  refine xl_iV (pc := 1498) (As := []) (rest := []) ⟨hx, hb, hml, hown, hts⟩ (mX8_thrown hF _ km c3) fdX8_thrown q_m_L_124 ⟨Nat.le_of_ble_eq_true rfl, Nat.le_of_ble_eq_true rfl⟩ (xRecv hK hR (ci := 12) rfl km.1) hR hK hE hS rfl hl.1 rfl (Nat.le_of_ble_eq_true rfl) dL_law_1498 ⟨by omega, by omega⟩ (fun H locs hR hS => ?_)
  refine lv_iload (pc := 1501) hx hb dL_law_1501 (lv_at hl 1 rfl) ?_
  refine lv_icmp_eq (pc := 1503) (tgt := 1508) hx hb dL_law_1503 (by decide) (fun c4 => ?_) (fun c4 => ?_)
  · have h := xpos c4 h
    refine lv_iload (pc := 1508) hx hb dL_law_1508 (lv_at hl 1 rfl) ?_
    refine lv_if_ne (pc := 1510) (tgt := 1525) hx hb dL_law_1510 (by decide) (fun c5 => ?_) (fun c5 => ?_)
    · have h := xneg c5 h
      refine lv_goto (pc := 1525) (tgt := 1973) hx hb dL_law_1525 (by decide) ?_
      cases h
      refine W.widen (k := cells + 20) (n := slots + 2000) (by omega) (by omega) ?_
      exact kk H locs ls hR hS (lv_sub hl [2, 3, 4, 5, 6, 7] rfl)
    · have h := xpos c5 h
      refine lv_aload_n (pc := 1513) hx hb dL_law_1513 rfl (lv_at hl 5 rfl) ?_
      refine lv_iconst (pc := 1514) hx hb dL_law_1514 kc_0 ?_
      refine xr_laldk (pc := 1515) 0 hx hb hK hR ko.1 ko.2 tn_0 (vl_0 (by decide)) dL_law_1515 ?_
      refine lv_iload (pc := 1516) hx hb dL_law_1516 (lv_at hl 0 rfl) ?_
      refine lv_i2l (pc := 1518) hx hb dL_law_1518 rfl ?_
      refine W.lcmp (pc := 1519) hx hb dL_law_1519 ?_
      refine lv_if_eq (pc := 1520) (tgt := 1525) hx hb dL_law_1520 (by decide) (fun c6 => ?_) (fun c6 => ?_)
      · have h := xpos c6 h
        refine lv_goto (pc := 1525) (tgt := 1973) hx hb dL_law_1525 (by decide) ?_
        cases h
        refine W.widen (k := cells + 20) (n := slots + 2000) (by omega) (by omega) ?_
        exact kk H locs ls hR hS (lv_sub hl [2, 3, 4, 5, 6, 7] rfl)
      · have h := xneg c6 h
        refine lv_iconst (pc := 1523) hx hb dL_law_1523 kc_0 ?_
        cases h
  · have h := xneg c4 h
    refine lv_iconst (pc := 1506) hx hb dL_law_1506 kc_0 ?_
    cases h
set_option maxHeartbeats 1000000 in
set_option maxRecDepth 20000 in
theorem wL_24 {p : Program} {l : Launch} (hls : l.stackTraces = false) {e : Env} {s : State} {m : MethodId} {args : Array Value} {below : List Frame} {meth : Method} {c : Code} {D : va_G} {ca : Nat → ClassId} {z : Nat} {G : xG} {X : va_W} {ad av : Nat → Nat} {b L : Nat} {xs : Nat → Int32} {Q : State → Prop} {H0 : Heap} (hF : xFix z G X) (hx : p.tables.exec = Jvm.exec) (hb : c.code = cL_law) (hml : c.maxLocals = 9) (hts : ∀ w ∈ xAll, w.before args s = true) (hown : s.vm.findClass RL = some m.cls) (hK : va_K D vwCl (xT ca) s) (hE : xEv z ad av s s.heap) (hX : va_X b L xs s s.heap) (hbl : b < s.heap.size) (hbA : ¬ z ≤ b) {x md out od : Nat} (kx : xI_Coat G x) (km : xI_Model G md) (ko : xI_Longs 1 G out) {j : Nat} (hj : j + 4 ≤ L) (hL : L ≤ 2048) {cells slots : Nat} (hc : cells + 20 ≤ 603072) (hs : slots + 2000 ≤ 7211114) {μ μ1 : xM} (h : gL_24 x md out (xs (j + 1)) (xs (j + 2)) (xs (j + 3)) μ = some μ1) {H : Heap} {locs : List Loc} {ls : Array Slot} (hR : xRep D ca G X μ H) (hS : va_S (fun q => z ≤ q) s.heap H locs) (hl : lv_has ls 9 [(0, .ref b), (1, .ref x), (2, .ref md), (3, .ref out), (4, .ref od), (5, .int (nI j))])
    (kk : ∀ (H : Heap) (locs : List Loc) (ls : Array Slot), xRep D ca G X μ1 H → va_S (fun q => z ≤ q) s.heap H locs → lv_has ls 9 [(0, .ref b), (1, .ref x), (2, .ref md), (3, .ref out), (4, .ref od), (5, .int (nI j))] → W p l e room_1 s m args below meth c H locs (cells + 20) (slots + 2000) Q (F0 m 1973 ls [])) : W p l e room_1 s m args below meth c H locs cells slots Q (F0 m 1572 ls []) := by
  rw [gL_24] at h
  refine lv_aload_n (pc := 1572) hx hb dL_law_1572 rfl (lv_at hl 1 rfl) ?_
  obtain ⟨r1, m1, c1, h⟩ := xb_inv h
  refine xl_iV (pc := 1573) (As := []) (rest := []) ⟨hx, hb, hml, hown, hts⟩ (mX7_errorPosition hF _ kx c1) fdX7_errorPosition q_m_L_204 ⟨Nat.le_of_ble_eq_true rfl, Nat.le_of_ble_eq_true rfl⟩ (xRecv hK hR (ci := 11) rfl kx.1) hR hK hE hS rfl hl.1 rfl (Nat.le_of_ble_eq_true rfl) dL_law_1573 ⟨by omega, by omega⟩ (fun H locs hR hS => ?_)
  refine lv_aload_n (pc := 1576) hx hb dL_law_1576 rfl (lv_at hl 2 rfl) ?_
  obtain ⟨r2, m2, c2, h⟩ := xb_inv h
  refine xl_iV (pc := 1577) (As := []) (rest := [.int _]) ⟨hx, hb, hml, hown, hts⟩ (mX8_errorPosition hF _ km c2) fdX8_errorPosition q_m_L_207 ⟨Nat.le_of_ble_eq_true rfl, Nat.le_of_ble_eq_true rfl⟩ (xRecv hK hR (ci := 12) rfl km.1) hR hK hE hS rfl hl.1 rfl (Nat.le_of_ble_eq_true rfl) dL_law_1577 ⟨by omega, by omega⟩ (fun H locs hR hS => ?_)
  refine lv_icmp_eq (pc := 1580) (tgt := 1973) hx hb dL_law_1580 (by decide) (fun c3 => ?_) (fun c3 => ?_)
  · have h := xpos c3 h
    cases h
    refine W.widen (k := cells + 20) (n := slots + 2000) (by omega) (by omega) ?_
    exact kk H locs ls hR hS (lv_sub hl [0, 1, 2, 3, 4, 5] rfl)
  · have h := xneg c3 h
    refine lv_iconst (pc := 1583) hx hb dL_law_1583 kc_0 ?_
    cases h
set_option maxHeartbeats 1000000 in
set_option maxRecDepth 20000 in
theorem wL_25 {p : Program} {l : Launch} (hls : l.stackTraces = false) {e : Env} {s : State} {m : MethodId} {args : Array Value} {below : List Frame} {meth : Method} {c : Code} {D : va_G} {ca : Nat → ClassId} {z : Nat} {G : xG} {X : va_W} {ad av : Nat → Nat} {b L : Nat} {xs : Nat → Int32} {Q : State → Prop} {H0 : Heap} (hF : xFix z G X) (hx : p.tables.exec = Jvm.exec) (hb : c.code = cL_law) (hml : c.maxLocals = 9) (hts : ∀ w ∈ xAll, w.before args s = true) (hown : s.vm.findClass RL = some m.cls) (hK : va_K D vwCl (xT ca) s) (hE : xEv z ad av s s.heap) (hX : va_X b L xs s s.heap) (hbl : b < s.heap.size) (hbA : ¬ z ≤ b) {x md out od : Nat} (kx : xI_Coat G x) (km : xI_Model G md) (ko : xI_Longs 1 G out) {j : Nat} (hj : j + 4 ≤ L) (hL : L ≤ 2048) {cells slots : Nat} (hc : cells + 20 ≤ 603072) (hs : slots + 2000 ≤ 7211114) {μ μ1 : xM} (h : gL_25 x md out (xs (j + 1)) (xs (j + 2)) (xs (j + 3)) μ = some μ1) {H : Heap} {locs : List Loc} {ls : Array Slot} (hR : xRep D ca G X μ H) (hS : va_S (fun q => z ≤ q) s.heap H locs) (hl : lv_has ls 9 [(0, .ref b), (1, .ref x), (2, .ref md), (3, .ref out), (4, .ref od), (5, .int (nI j))])
    (kk : ∀ (H : Heap) (locs : List Loc) (ls : Array Slot), xRep D ca G X μ1 H → va_S (fun q => z ≤ q) s.heap H locs → lv_has ls 9 [(0, .ref b), (1, .ref x), (2, .ref md), (3, .ref out), (4, .ref od), (5, .int (nI j))] → W p l e room_1 s m args below meth c H locs (cells + 20) (slots + 2000) Q (F0 m 1973 ls [])) : W p l e room_1 s m args below meth c H locs cells slots Q (F0 m 1585 ls []) := by
  rw [gL_25] at h
  refine lv_aload_n (pc := 1585) hx hb dL_law_1585 rfl (lv_at hl 1 rfl) ?_
  refine lv_aload_n (pc := 1586) hx hb dL_law_1586 rfl (lv_at hl 0 rfl) ?_
  refine lv_iload (pc := 1587) hx hb dL_law_1587 (lv_at hl 5 rfl) ?_
  refine lv_iconst (pc := 1589) hx hb dL_law_1589 kc_1 ?_
  refine lv_iadd (pc := 1590) hx hb dL_law_1590 ?_
  refine xr_sld (pc := 1591) (j + 1) hx hb hX hbl hbA hS (xhI1 hj hL) (xhV1 hj hL) dL_law_1591 ?_
  refine lv_if_eq (pc := 1592) (tgt := 1599) hx hb dL_law_1592 (by decide) (fun c1 => ?_) (fun c1 => ?_)
  · have h := xpos c1 h
    refine lv_iconst (pc := 1599) hx hb dL_law_1599 kc_0 ?_
    refine lv_aload_n (pc := 1600) hx hb dL_law_1600 rfl (lv_at hl 0 rfl) ?_
    refine lv_iload (pc := 1601) hx hb dL_law_1601 (lv_at hl 5 rfl) ?_
    refine lv_iconst (pc := 1603) hx hb dL_law_1603 kc_2 ?_
    refine lv_iadd (pc := 1604) hx hb dL_law_1604 ?_
    refine xr_sld (pc := 1605) (j + 2) hx hb hX hbl hbA hS (xhI2 hj hL) (xhV2 hj hL) dL_law_1605 ?_
    refine lv_if_eq (pc := 1606) (tgt := 1613) hx hb dL_law_1606 (by decide) (fun c2 => ?_) (fun c2 => ?_)
    · have h := xpos c2 h
      refine lv_iconst (pc := 1613) hx hb dL_law_1613 kc_0 ?_
      refine lv_aload_n (pc := 1614) hx hb dL_law_1614 rfl (lv_at hl 3 rfl) ?_
      obtain ⟨r3, m3, c3, h⟩ := xb_inv h
      refine xl_call (pc := 1615) (As := [.ref _, .int _, .int _, .ref _]) (rest := []) ⟨hx, hb, hml, hown, hts⟩ (mL_refusal hls hF _ _ _ _ kx ko c3) fhL_refusal q_m_L_208 ⟨Nat.le_of_ble_eq_true rfl, Nat.le_of_ble_eq_true rfl⟩ hR hK hE hS rfl hl.1 rfl (Nat.le_of_ble_eq_true rfl) dL_law_1615 ⟨by omega, by omega⟩ (fun H locs hR hS => ?_)
      refine lv_istore (pc := 1618) (lv' := [(6, .int _), (0, .ref _), (1, .ref _), (2, .ref _), (3, .ref _), (4, .ref _), (5, .int _)]) hx hb dL_law_1618 hl (Nat.le_of_ble_eq_true rfl) rfl (fun ls hl => ?_)
      refine lv_aload_n (pc := 1620) hx hb dL_law_1620 rfl (lv_at hl 3 rfl) ?_
      refine lv_aload_n (pc := 1621) hx hb dL_law_1621 rfl (lv_at hl 1 rfl) ?_
      refine lv_iload (pc := 1622) hx hb dL_law_1622 (lv_at hl 6 rfl) ?_
      refine lv_iconst (pc := 1624) hx hb dL_law_1624 kc_1 ?_
      refine lv_iadd (pc := 1625) hx hb dL_law_1625 ?_
      refine xr_sld (pc := 1626) (j + 1) hx hb hX hbl hbA hS (xhI1 hj hL) (xhV1 hj hL) dL_law_1626 ?_
      refine lv_if_eq (pc := 1627) (tgt := 1634) hx hb dL_law_1627 (by decide) (fun c4 => ?_) (fun c4 => ?_)
      · have h := xpos c4 h
        refine lv_iconst (pc := 1634) hx hb dL_law_1634 kc_0 ?_
        refine lv_aload_n (pc := 1635) hx hb dL_law_1635 rfl (lv_at hl 1 rfl) ?_
        refine lv_iload (pc := 1636) hx hb dL_law_1636 (lv_at hl 6 rfl) ?_
        refine lv_iconst (pc := 1638) hx hb dL_law_1638 kc_2 ?_
        refine lv_iadd (pc := 1639) hx hb dL_law_1639 ?_
        refine xr_sld (pc := 1640) (j + 2) hx hb hX hbl hbA hS (xhI2 hj hL) (xhV2 hj hL) dL_law_1640 ?_
        refine lv_if_eq (pc := 1641) (tgt := 1648) hx hb dL_law_1641 (by decide) (fun c5 => ?_) (fun c5 => ?_)
        · have h := xpos c5 h
          refine lv_iconst (pc := 1648) hx hb dL_law_1648 kc_0 ?_
          obtain ⟨r6, m6, c6, h⟩ := xb_inv h
          refine xl_iV (pc := 1649) (As := [.int _, .int _]) (rest := []) ⟨hx, hb, hml, hown, hts⟩ (mX8_refusal hF _ _ _ km c6) fdX8_refusal q_m_L_211 ⟨Nat.le_of_ble_eq_true rfl, Nat.le_of_ble_eq_true rfl⟩ (xRecv hK hR (ci := 12) rfl km.1) hR hK hE hS rfl hl.1 rfl (Nat.le_of_ble_eq_true rfl) dL_law_1649 ⟨by omega, by omega⟩ (fun H locs hR hS => ?_)
          refine lv_istore (pc := 1652) (lv' := [(7, .int _), (6, .int _), (0, .ref _), (1, .ref _), (2, .ref _), (3, .ref _), (4, .ref _), (5, .int _)]) hx hb dL_law_1652 hl (Nat.le_of_ble_eq_true rfl) rfl (fun ls hl => ?_)
          refine lv_aload_n (pc := 1654) hx hb dL_law_1654 rfl (lv_at hl 4 rfl) ?_
          obtain ⟨r7, m7, c7, h⟩ := xb_inv h
          refine xl_iV (pc := 1655) (As := []) (rest := []) ⟨hx, hb, hml, hown, hts⟩ (mX8_thrown hF _ km c7) fdX8_thrown q_m_L_124 ⟨Nat.le_of_ble_eq_true rfl, Nat.le_of_ble_eq_true rfl⟩ (xRecv hK hR (ci := 12) rfl km.1) hR hK hE hS rfl hl.1 rfl (Nat.le_of_ble_eq_true rfl) dL_law_1655 ⟨by omega, by omega⟩ (fun H locs hR hS => ?_)
          refine lv_iload (pc := 1658) hx hb dL_law_1658 (lv_at hl 1 rfl) ?_
          refine lv_icmp_eq (pc := 1660) (tgt := 1665) hx hb dL_law_1660 (by decide) (fun c8 => ?_) (fun c8 => ?_)
          · have h := xpos c8 h
            refine lv_iload (pc := 1665) hx hb dL_law_1665 (lv_at hl 1 rfl) ?_
            refine lv_if_ne (pc := 1667) (tgt := 1682) hx hb dL_law_1667 (by decide) (fun c9 => ?_) (fun c9 => ?_)
            · have h := xneg c9 h
              refine lv_goto (pc := 1682) (tgt := 1973) hx hb dL_law_1682 (by decide) ?_
              cases h
              refine W.widen (k := cells + 20) (n := slots + 2000) (by omega) (by omega) ?_
              exact kk H locs ls hR hS (lv_sub hl [2, 3, 4, 5, 6, 7] rfl)
            · have h := xpos c9 h
              refine lv_aload_n (pc := 1670) hx hb dL_law_1670 rfl (lv_at hl 5 rfl) ?_
              refine lv_iconst (pc := 1671) hx hb dL_law_1671 kc_0 ?_
              refine xr_laldk (pc := 1672) 0 hx hb hK hR ko.1 ko.2 tn_0 (vl_0 (by decide)) dL_law_1672 ?_
              refine lv_iload (pc := 1673) hx hb dL_law_1673 (lv_at hl 0 rfl) ?_
              refine lv_i2l (pc := 1675) hx hb dL_law_1675 rfl ?_
              refine W.lcmp (pc := 1676) hx hb dL_law_1676 ?_
              refine lv_if_eq (pc := 1677) (tgt := 1682) hx hb dL_law_1677 (by decide) (fun c10 => ?_) (fun c10 => ?_)
              · have h := xpos c10 h
                refine lv_goto (pc := 1682) (tgt := 1973) hx hb dL_law_1682 (by decide) ?_
                cases h
                refine W.widen (k := cells + 20) (n := slots + 2000) (by omega) (by omega) ?_
                exact kk H locs ls hR hS (lv_sub hl [2, 3, 4, 5, 6, 7] rfl)
              · have h := xneg c10 h
                refine lv_iconst (pc := 1680) hx hb dL_law_1680 kc_0 ?_
                cases h
          · have h := xneg c8 h
            refine lv_iconst (pc := 1663) hx hb dL_law_1663 kc_0 ?_
            cases h
        · have h := xneg c5 h
          refine lv_iconst (pc := 1644) hx hb dL_law_1644 kc_1 ?_
          refine lv_goto (pc := 1645) (tgt := 1649) hx hb dL_law_1645 (by decide) ?_
          obtain ⟨r11, m11, c11, h⟩ := xb_inv h
          refine xl_iV (pc := 1649) (As := [.int _, .int _]) (rest := []) ⟨hx, hb, hml, hown, hts⟩ (mX8_refusal hF _ _ _ km c11) fdX8_refusal q_m_L_211 ⟨Nat.le_of_ble_eq_true rfl, Nat.le_of_ble_eq_true rfl⟩ (xRecv hK hR (ci := 12) rfl km.1) hR hK hE hS rfl hl.1 rfl (Nat.le_of_ble_eq_true rfl) dL_law_1649 ⟨by omega, by omega⟩ (fun H locs hR hS => ?_)
          refine lv_istore (pc := 1652) (lv' := [(7, .int _), (6, .int _), (0, .ref _), (1, .ref _), (2, .ref _), (3, .ref _), (4, .ref _), (5, .int _)]) hx hb dL_law_1652 hl (Nat.le_of_ble_eq_true rfl) rfl (fun ls hl => ?_)
          refine lv_aload_n (pc := 1654) hx hb dL_law_1654 rfl (lv_at hl 4 rfl) ?_
          obtain ⟨r12, m12, c12, h⟩ := xb_inv h
          refine xl_iV (pc := 1655) (As := []) (rest := []) ⟨hx, hb, hml, hown, hts⟩ (mX8_thrown hF _ km c12) fdX8_thrown q_m_L_124 ⟨Nat.le_of_ble_eq_true rfl, Nat.le_of_ble_eq_true rfl⟩ (xRecv hK hR (ci := 12) rfl km.1) hR hK hE hS rfl hl.1 rfl (Nat.le_of_ble_eq_true rfl) dL_law_1655 ⟨by omega, by omega⟩ (fun H locs hR hS => ?_)
          refine lv_iload (pc := 1658) hx hb dL_law_1658 (lv_at hl 1 rfl) ?_
          refine lv_icmp_eq (pc := 1660) (tgt := 1665) hx hb dL_law_1660 (by decide) (fun c13 => ?_) (fun c13 => ?_)
          · have h := xpos c13 h
            refine lv_iload (pc := 1665) hx hb dL_law_1665 (lv_at hl 1 rfl) ?_
            refine lv_if_ne (pc := 1667) (tgt := 1682) hx hb dL_law_1667 (by decide) (fun c14 => ?_) (fun c14 => ?_)
            · have h := xneg c14 h
              refine lv_goto (pc := 1682) (tgt := 1973) hx hb dL_law_1682 (by decide) ?_
              cases h
              refine W.widen (k := cells + 20) (n := slots + 2000) (by omega) (by omega) ?_
              exact kk H locs ls hR hS (lv_sub hl [2, 3, 4, 5, 6, 7] rfl)
            · have h := xpos c14 h
              refine lv_aload_n (pc := 1670) hx hb dL_law_1670 rfl (lv_at hl 5 rfl) ?_
              refine lv_iconst (pc := 1671) hx hb dL_law_1671 kc_0 ?_
              refine xr_laldk (pc := 1672) 0 hx hb hK hR ko.1 ko.2 tn_0 (vl_0 (by decide)) dL_law_1672 ?_
              refine lv_iload (pc := 1673) hx hb dL_law_1673 (lv_at hl 0 rfl) ?_
              refine lv_i2l (pc := 1675) hx hb dL_law_1675 rfl ?_
              refine W.lcmp (pc := 1676) hx hb dL_law_1676 ?_
              refine lv_if_eq (pc := 1677) (tgt := 1682) hx hb dL_law_1677 (by decide) (fun c15 => ?_) (fun c15 => ?_)
              · have h := xpos c15 h
                refine lv_goto (pc := 1682) (tgt := 1973) hx hb dL_law_1682 (by decide) ?_
                cases h
                refine W.widen (k := cells + 20) (n := slots + 2000) (by omega) (by omega) ?_
                exact kk H locs ls hR hS (lv_sub hl [2, 3, 4, 5, 6, 7] rfl)
              · have h := xneg c15 h
                refine lv_iconst (pc := 1680) hx hb dL_law_1680 kc_0 ?_
                cases h
          · have h := xneg c13 h
            refine lv_iconst (pc := 1663) hx hb dL_law_1663 kc_0 ?_
            cases h
      · have h := xneg c4 h
        refine lv_iconst (pc := 1630) hx hb dL_law_1630 kc_1 ?_
        refine lv_goto (pc := 1631) (tgt := 1635) hx hb dL_law_1631 (by decide) ?_
        refine lv_aload_n (pc := 1635) hx hb dL_law_1635 rfl (lv_at hl 1 rfl) ?_
        refine lv_iload (pc := 1636) hx hb dL_law_1636 (lv_at hl 6 rfl) ?_
        refine lv_iconst (pc := 1638) hx hb dL_law_1638 kc_2 ?_
        refine lv_iadd (pc := 1639) hx hb dL_law_1639 ?_
        refine xr_sld (pc := 1640) (j + 2) hx hb hX hbl hbA hS (xhI2 hj hL) (xhV2 hj hL) dL_law_1640 ?_
        refine lv_if_eq (pc := 1641) (tgt := 1648) hx hb dL_law_1641 (by decide) (fun c16 => ?_) (fun c16 => ?_)
        · have h := xpos c16 h
          refine lv_iconst (pc := 1648) hx hb dL_law_1648 kc_0 ?_
          obtain ⟨r17, m17, c17, h⟩ := xb_inv h
          refine xl_iV (pc := 1649) (As := [.int _, .int _]) (rest := []) ⟨hx, hb, hml, hown, hts⟩ (mX8_refusal hF _ _ _ km c17) fdX8_refusal q_m_L_211 ⟨Nat.le_of_ble_eq_true rfl, Nat.le_of_ble_eq_true rfl⟩ (xRecv hK hR (ci := 12) rfl km.1) hR hK hE hS rfl hl.1 rfl (Nat.le_of_ble_eq_true rfl) dL_law_1649 ⟨by omega, by omega⟩ (fun H locs hR hS => ?_)
          refine lv_istore (pc := 1652) (lv' := [(7, .int _), (6, .int _), (0, .ref _), (1, .ref _), (2, .ref _), (3, .ref _), (4, .ref _), (5, .int _)]) hx hb dL_law_1652 hl (Nat.le_of_ble_eq_true rfl) rfl (fun ls hl => ?_)
          refine lv_aload_n (pc := 1654) hx hb dL_law_1654 rfl (lv_at hl 4 rfl) ?_
          obtain ⟨r18, m18, c18, h⟩ := xb_inv h
          refine xl_iV (pc := 1655) (As := []) (rest := []) ⟨hx, hb, hml, hown, hts⟩ (mX8_thrown hF _ km c18) fdX8_thrown q_m_L_124 ⟨Nat.le_of_ble_eq_true rfl, Nat.le_of_ble_eq_true rfl⟩ (xRecv hK hR (ci := 12) rfl km.1) hR hK hE hS rfl hl.1 rfl (Nat.le_of_ble_eq_true rfl) dL_law_1655 ⟨by omega, by omega⟩ (fun H locs hR hS => ?_)
          refine lv_iload (pc := 1658) hx hb dL_law_1658 (lv_at hl 1 rfl) ?_
          refine lv_icmp_eq (pc := 1660) (tgt := 1665) hx hb dL_law_1660 (by decide) (fun c19 => ?_) (fun c19 => ?_)
          · have h := xpos c19 h
            refine lv_iload (pc := 1665) hx hb dL_law_1665 (lv_at hl 1 rfl) ?_
            refine lv_if_ne (pc := 1667) (tgt := 1682) hx hb dL_law_1667 (by decide) (fun c20 => ?_) (fun c20 => ?_)
            · have h := xneg c20 h
              refine lv_goto (pc := 1682) (tgt := 1973) hx hb dL_law_1682 (by decide) ?_
              cases h
              refine W.widen (k := cells + 20) (n := slots + 2000) (by omega) (by omega) ?_
              exact kk H locs ls hR hS (lv_sub hl [2, 3, 4, 5, 6, 7] rfl)
            · have h := xpos c20 h
              refine lv_aload_n (pc := 1670) hx hb dL_law_1670 rfl (lv_at hl 5 rfl) ?_
              refine lv_iconst (pc := 1671) hx hb dL_law_1671 kc_0 ?_
              refine xr_laldk (pc := 1672) 0 hx hb hK hR ko.1 ko.2 tn_0 (vl_0 (by decide)) dL_law_1672 ?_
              refine lv_iload (pc := 1673) hx hb dL_law_1673 (lv_at hl 0 rfl) ?_
              refine lv_i2l (pc := 1675) hx hb dL_law_1675 rfl ?_
              refine W.lcmp (pc := 1676) hx hb dL_law_1676 ?_
              refine lv_if_eq (pc := 1677) (tgt := 1682) hx hb dL_law_1677 (by decide) (fun c21 => ?_) (fun c21 => ?_)
              · have h := xpos c21 h
                refine lv_goto (pc := 1682) (tgt := 1973) hx hb dL_law_1682 (by decide) ?_
                cases h
                refine W.widen (k := cells + 20) (n := slots + 2000) (by omega) (by omega) ?_
                exact kk H locs ls hR hS (lv_sub hl [2, 3, 4, 5, 6, 7] rfl)
              · have h := xneg c21 h
                refine lv_iconst (pc := 1680) hx hb dL_law_1680 kc_0 ?_
                cases h
          · have h := xneg c19 h
            refine lv_iconst (pc := 1663) hx hb dL_law_1663 kc_0 ?_
            cases h
        · have h := xneg c16 h
          refine lv_iconst (pc := 1644) hx hb dL_law_1644 kc_1 ?_
          refine lv_goto (pc := 1645) (tgt := 1649) hx hb dL_law_1645 (by decide) ?_
          obtain ⟨r22, m22, c22, h⟩ := xb_inv h
          refine xl_iV (pc := 1649) (As := [.int _, .int _]) (rest := []) ⟨hx, hb, hml, hown, hts⟩ (mX8_refusal hF _ _ _ km c22) fdX8_refusal q_m_L_211 ⟨Nat.le_of_ble_eq_true rfl, Nat.le_of_ble_eq_true rfl⟩ (xRecv hK hR (ci := 12) rfl km.1) hR hK hE hS rfl hl.1 rfl (Nat.le_of_ble_eq_true rfl) dL_law_1649 ⟨by omega, by omega⟩ (fun H locs hR hS => ?_)
          refine lv_istore (pc := 1652) (lv' := [(7, .int _), (6, .int _), (0, .ref _), (1, .ref _), (2, .ref _), (3, .ref _), (4, .ref _), (5, .int _)]) hx hb dL_law_1652 hl (Nat.le_of_ble_eq_true rfl) rfl (fun ls hl => ?_)
          refine lv_aload_n (pc := 1654) hx hb dL_law_1654 rfl (lv_at hl 4 rfl) ?_
          obtain ⟨r23, m23, c23, h⟩ := xb_inv h
          refine xl_iV (pc := 1655) (As := []) (rest := []) ⟨hx, hb, hml, hown, hts⟩ (mX8_thrown hF _ km c23) fdX8_thrown q_m_L_124 ⟨Nat.le_of_ble_eq_true rfl, Nat.le_of_ble_eq_true rfl⟩ (xRecv hK hR (ci := 12) rfl km.1) hR hK hE hS rfl hl.1 rfl (Nat.le_of_ble_eq_true rfl) dL_law_1655 ⟨by omega, by omega⟩ (fun H locs hR hS => ?_)
          refine lv_iload (pc := 1658) hx hb dL_law_1658 (lv_at hl 1 rfl) ?_
          refine lv_icmp_eq (pc := 1660) (tgt := 1665) hx hb dL_law_1660 (by decide) (fun c24 => ?_) (fun c24 => ?_)
          · have h := xpos c24 h
            refine lv_iload (pc := 1665) hx hb dL_law_1665 (lv_at hl 1 rfl) ?_
            refine lv_if_ne (pc := 1667) (tgt := 1682) hx hb dL_law_1667 (by decide) (fun c25 => ?_) (fun c25 => ?_)
            · have h := xneg c25 h
              refine lv_goto (pc := 1682) (tgt := 1973) hx hb dL_law_1682 (by decide) ?_
              cases h
              refine W.widen (k := cells + 20) (n := slots + 2000) (by omega) (by omega) ?_
              exact kk H locs ls hR hS (lv_sub hl [2, 3, 4, 5, 6, 7] rfl)
            · have h := xpos c25 h
              refine lv_aload_n (pc := 1670) hx hb dL_law_1670 rfl (lv_at hl 5 rfl) ?_
              refine lv_iconst (pc := 1671) hx hb dL_law_1671 kc_0 ?_
              refine xr_laldk (pc := 1672) 0 hx hb hK hR ko.1 ko.2 tn_0 (vl_0 (by decide)) dL_law_1672 ?_
              refine lv_iload (pc := 1673) hx hb dL_law_1673 (lv_at hl 0 rfl) ?_
              refine lv_i2l (pc := 1675) hx hb dL_law_1675 rfl ?_
              refine W.lcmp (pc := 1676) hx hb dL_law_1676 ?_
              refine lv_if_eq (pc := 1677) (tgt := 1682) hx hb dL_law_1677 (by decide) (fun c26 => ?_) (fun c26 => ?_)
              · have h := xpos c26 h
                refine lv_goto (pc := 1682) (tgt := 1973) hx hb dL_law_1682 (by decide) ?_
                cases h
                refine W.widen (k := cells + 20) (n := slots + 2000) (by omega) (by omega) ?_
                exact kk H locs ls hR hS (lv_sub hl [2, 3, 4, 5, 6, 7] rfl)
              · have h := xneg c26 h
                refine lv_iconst (pc := 1680) hx hb dL_law_1680 kc_0 ?_
                cases h
          · have h := xneg c24 h
            refine lv_iconst (pc := 1663) hx hb dL_law_1663 kc_0 ?_
            cases h
    · have h := xneg c2 h
      refine lv_iconst (pc := 1609) hx hb dL_law_1609 kc_1 ?_
      refine lv_goto (pc := 1610) (tgt := 1614) hx hb dL_law_1610 (by decide) ?_
      refine lv_aload_n (pc := 1614) hx hb dL_law_1614 rfl (lv_at hl 3 rfl) ?_
      obtain ⟨r27, m27, c27, h⟩ := xb_inv h
      refine xl_call (pc := 1615) (As := [.ref _, .int _, .int _, .ref _]) (rest := []) ⟨hx, hb, hml, hown, hts⟩ (mL_refusal hls hF _ _ _ _ kx ko c27) fhL_refusal q_m_L_208 ⟨Nat.le_of_ble_eq_true rfl, Nat.le_of_ble_eq_true rfl⟩ hR hK hE hS rfl hl.1 rfl (Nat.le_of_ble_eq_true rfl) dL_law_1615 ⟨by omega, by omega⟩ (fun H locs hR hS => ?_)
      refine lv_istore (pc := 1618) (lv' := [(6, .int _), (0, .ref _), (1, .ref _), (2, .ref _), (3, .ref _), (4, .ref _), (5, .int _)]) hx hb dL_law_1618 hl (Nat.le_of_ble_eq_true rfl) rfl (fun ls hl => ?_)
      refine lv_aload_n (pc := 1620) hx hb dL_law_1620 rfl (lv_at hl 3 rfl) ?_
      refine lv_aload_n (pc := 1621) hx hb dL_law_1621 rfl (lv_at hl 1 rfl) ?_
      refine lv_iload (pc := 1622) hx hb dL_law_1622 (lv_at hl 6 rfl) ?_
      refine lv_iconst (pc := 1624) hx hb dL_law_1624 kc_1 ?_
      refine lv_iadd (pc := 1625) hx hb dL_law_1625 ?_
      refine xr_sld (pc := 1626) (j + 1) hx hb hX hbl hbA hS (xhI1 hj hL) (xhV1 hj hL) dL_law_1626 ?_
      refine lv_if_eq (pc := 1627) (tgt := 1634) hx hb dL_law_1627 (by decide) (fun c28 => ?_) (fun c28 => ?_)
      · have h := xpos c28 h
        refine lv_iconst (pc := 1634) hx hb dL_law_1634 kc_0 ?_
        refine lv_aload_n (pc := 1635) hx hb dL_law_1635 rfl (lv_at hl 1 rfl) ?_
        refine lv_iload (pc := 1636) hx hb dL_law_1636 (lv_at hl 6 rfl) ?_
        refine lv_iconst (pc := 1638) hx hb dL_law_1638 kc_2 ?_
        refine lv_iadd (pc := 1639) hx hb dL_law_1639 ?_
        refine xr_sld (pc := 1640) (j + 2) hx hb hX hbl hbA hS (xhI2 hj hL) (xhV2 hj hL) dL_law_1640 ?_
        refine lv_if_eq (pc := 1641) (tgt := 1648) hx hb dL_law_1641 (by decide) (fun c29 => ?_) (fun c29 => ?_)
        · have h := xpos c29 h
          refine lv_iconst (pc := 1648) hx hb dL_law_1648 kc_0 ?_
          obtain ⟨r30, m30, c30, h⟩ := xb_inv h
          refine xl_iV (pc := 1649) (As := [.int _, .int _]) (rest := []) ⟨hx, hb, hml, hown, hts⟩ (mX8_refusal hF _ _ _ km c30) fdX8_refusal q_m_L_211 ⟨Nat.le_of_ble_eq_true rfl, Nat.le_of_ble_eq_true rfl⟩ (xRecv hK hR (ci := 12) rfl km.1) hR hK hE hS rfl hl.1 rfl (Nat.le_of_ble_eq_true rfl) dL_law_1649 ⟨by omega, by omega⟩ (fun H locs hR hS => ?_)
          refine lv_istore (pc := 1652) (lv' := [(7, .int _), (6, .int _), (0, .ref _), (1, .ref _), (2, .ref _), (3, .ref _), (4, .ref _), (5, .int _)]) hx hb dL_law_1652 hl (Nat.le_of_ble_eq_true rfl) rfl (fun ls hl => ?_)
          refine lv_aload_n (pc := 1654) hx hb dL_law_1654 rfl (lv_at hl 4 rfl) ?_
          obtain ⟨r31, m31, c31, h⟩ := xb_inv h
          refine xl_iV (pc := 1655) (As := []) (rest := []) ⟨hx, hb, hml, hown, hts⟩ (mX8_thrown hF _ km c31) fdX8_thrown q_m_L_124 ⟨Nat.le_of_ble_eq_true rfl, Nat.le_of_ble_eq_true rfl⟩ (xRecv hK hR (ci := 12) rfl km.1) hR hK hE hS rfl hl.1 rfl (Nat.le_of_ble_eq_true rfl) dL_law_1655 ⟨by omega, by omega⟩ (fun H locs hR hS => ?_)
          refine lv_iload (pc := 1658) hx hb dL_law_1658 (lv_at hl 1 rfl) ?_
          refine lv_icmp_eq (pc := 1660) (tgt := 1665) hx hb dL_law_1660 (by decide) (fun c32 => ?_) (fun c32 => ?_)
          · have h := xpos c32 h
            refine lv_iload (pc := 1665) hx hb dL_law_1665 (lv_at hl 1 rfl) ?_
            refine lv_if_ne (pc := 1667) (tgt := 1682) hx hb dL_law_1667 (by decide) (fun c33 => ?_) (fun c33 => ?_)
            · have h := xneg c33 h
              refine lv_goto (pc := 1682) (tgt := 1973) hx hb dL_law_1682 (by decide) ?_
              cases h
              refine W.widen (k := cells + 20) (n := slots + 2000) (by omega) (by omega) ?_
              exact kk H locs ls hR hS (lv_sub hl [2, 3, 4, 5, 6, 7] rfl)
            · have h := xpos c33 h
              refine lv_aload_n (pc := 1670) hx hb dL_law_1670 rfl (lv_at hl 5 rfl) ?_
              refine lv_iconst (pc := 1671) hx hb dL_law_1671 kc_0 ?_
              refine xr_laldk (pc := 1672) 0 hx hb hK hR ko.1 ko.2 tn_0 (vl_0 (by decide)) dL_law_1672 ?_
              refine lv_iload (pc := 1673) hx hb dL_law_1673 (lv_at hl 0 rfl) ?_
              refine lv_i2l (pc := 1675) hx hb dL_law_1675 rfl ?_
              refine W.lcmp (pc := 1676) hx hb dL_law_1676 ?_
              refine lv_if_eq (pc := 1677) (tgt := 1682) hx hb dL_law_1677 (by decide) (fun c34 => ?_) (fun c34 => ?_)
              · have h := xpos c34 h
                refine lv_goto (pc := 1682) (tgt := 1973) hx hb dL_law_1682 (by decide) ?_
                cases h
                refine W.widen (k := cells + 20) (n := slots + 2000) (by omega) (by omega) ?_
                exact kk H locs ls hR hS (lv_sub hl [2, 3, 4, 5, 6, 7] rfl)
              · have h := xneg c34 h
                refine lv_iconst (pc := 1680) hx hb dL_law_1680 kc_0 ?_
                cases h
          · have h := xneg c32 h
            refine lv_iconst (pc := 1663) hx hb dL_law_1663 kc_0 ?_
            cases h
        · have h := xneg c29 h
          refine lv_iconst (pc := 1644) hx hb dL_law_1644 kc_1 ?_
          refine lv_goto (pc := 1645) (tgt := 1649) hx hb dL_law_1645 (by decide) ?_
          obtain ⟨r35, m35, c35, h⟩ := xb_inv h
          refine xl_iV (pc := 1649) (As := [.int _, .int _]) (rest := []) ⟨hx, hb, hml, hown, hts⟩ (mX8_refusal hF _ _ _ km c35) fdX8_refusal q_m_L_211 ⟨Nat.le_of_ble_eq_true rfl, Nat.le_of_ble_eq_true rfl⟩ (xRecv hK hR (ci := 12) rfl km.1) hR hK hE hS rfl hl.1 rfl (Nat.le_of_ble_eq_true rfl) dL_law_1649 ⟨by omega, by omega⟩ (fun H locs hR hS => ?_)
          refine lv_istore (pc := 1652) (lv' := [(7, .int _), (6, .int _), (0, .ref _), (1, .ref _), (2, .ref _), (3, .ref _), (4, .ref _), (5, .int _)]) hx hb dL_law_1652 hl (Nat.le_of_ble_eq_true rfl) rfl (fun ls hl => ?_)
          refine lv_aload_n (pc := 1654) hx hb dL_law_1654 rfl (lv_at hl 4 rfl) ?_
          obtain ⟨r36, m36, c36, h⟩ := xb_inv h
          refine xl_iV (pc := 1655) (As := []) (rest := []) ⟨hx, hb, hml, hown, hts⟩ (mX8_thrown hF _ km c36) fdX8_thrown q_m_L_124 ⟨Nat.le_of_ble_eq_true rfl, Nat.le_of_ble_eq_true rfl⟩ (xRecv hK hR (ci := 12) rfl km.1) hR hK hE hS rfl hl.1 rfl (Nat.le_of_ble_eq_true rfl) dL_law_1655 ⟨by omega, by omega⟩ (fun H locs hR hS => ?_)
          refine lv_iload (pc := 1658) hx hb dL_law_1658 (lv_at hl 1 rfl) ?_
          refine lv_icmp_eq (pc := 1660) (tgt := 1665) hx hb dL_law_1660 (by decide) (fun c37 => ?_) (fun c37 => ?_)
          · have h := xpos c37 h
            refine lv_iload (pc := 1665) hx hb dL_law_1665 (lv_at hl 1 rfl) ?_
            refine lv_if_ne (pc := 1667) (tgt := 1682) hx hb dL_law_1667 (by decide) (fun c38 => ?_) (fun c38 => ?_)
            · have h := xneg c38 h
              refine lv_goto (pc := 1682) (tgt := 1973) hx hb dL_law_1682 (by decide) ?_
              cases h
              refine W.widen (k := cells + 20) (n := slots + 2000) (by omega) (by omega) ?_
              exact kk H locs ls hR hS (lv_sub hl [2, 3, 4, 5, 6, 7] rfl)
            · have h := xpos c38 h
              refine lv_aload_n (pc := 1670) hx hb dL_law_1670 rfl (lv_at hl 5 rfl) ?_
              refine lv_iconst (pc := 1671) hx hb dL_law_1671 kc_0 ?_
              refine xr_laldk (pc := 1672) 0 hx hb hK hR ko.1 ko.2 tn_0 (vl_0 (by decide)) dL_law_1672 ?_
              refine lv_iload (pc := 1673) hx hb dL_law_1673 (lv_at hl 0 rfl) ?_
              refine lv_i2l (pc := 1675) hx hb dL_law_1675 rfl ?_
              refine W.lcmp (pc := 1676) hx hb dL_law_1676 ?_
              refine lv_if_eq (pc := 1677) (tgt := 1682) hx hb dL_law_1677 (by decide) (fun c39 => ?_) (fun c39 => ?_)
              · have h := xpos c39 h
                refine lv_goto (pc := 1682) (tgt := 1973) hx hb dL_law_1682 (by decide) ?_
                cases h
                refine W.widen (k := cells + 20) (n := slots + 2000) (by omega) (by omega) ?_
                exact kk H locs ls hR hS (lv_sub hl [2, 3, 4, 5, 6, 7] rfl)
              · have h := xneg c39 h
                refine lv_iconst (pc := 1680) hx hb dL_law_1680 kc_0 ?_
                cases h
          · have h := xneg c37 h
            refine lv_iconst (pc := 1663) hx hb dL_law_1663 kc_0 ?_
            cases h
      · have h := xneg c28 h
        refine lv_iconst (pc := 1630) hx hb dL_law_1630 kc_1 ?_
        refine lv_goto (pc := 1631) (tgt := 1635) hx hb dL_law_1631 (by decide) ?_
        refine lv_aload_n (pc := 1635) hx hb dL_law_1635 rfl (lv_at hl 1 rfl) ?_
        refine lv_iload (pc := 1636) hx hb dL_law_1636 (lv_at hl 6 rfl) ?_
        refine lv_iconst (pc := 1638) hx hb dL_law_1638 kc_2 ?_
        refine lv_iadd (pc := 1639) hx hb dL_law_1639 ?_
        refine xr_sld (pc := 1640) (j + 2) hx hb hX hbl hbA hS (xhI2 hj hL) (xhV2 hj hL) dL_law_1640 ?_
        refine lv_if_eq (pc := 1641) (tgt := 1648) hx hb dL_law_1641 (by decide) (fun c40 => ?_) (fun c40 => ?_)
        · have h := xpos c40 h
          refine lv_iconst (pc := 1648) hx hb dL_law_1648 kc_0 ?_
          obtain ⟨r41, m41, c41, h⟩ := xb_inv h
          refine xl_iV (pc := 1649) (As := [.int _, .int _]) (rest := []) ⟨hx, hb, hml, hown, hts⟩ (mX8_refusal hF _ _ _ km c41) fdX8_refusal q_m_L_211 ⟨Nat.le_of_ble_eq_true rfl, Nat.le_of_ble_eq_true rfl⟩ (xRecv hK hR (ci := 12) rfl km.1) hR hK hE hS rfl hl.1 rfl (Nat.le_of_ble_eq_true rfl) dL_law_1649 ⟨by omega, by omega⟩ (fun H locs hR hS => ?_)
          refine lv_istore (pc := 1652) (lv' := [(7, .int _), (6, .int _), (0, .ref _), (1, .ref _), (2, .ref _), (3, .ref _), (4, .ref _), (5, .int _)]) hx hb dL_law_1652 hl (Nat.le_of_ble_eq_true rfl) rfl (fun ls hl => ?_)
          refine lv_aload_n (pc := 1654) hx hb dL_law_1654 rfl (lv_at hl 4 rfl) ?_
          obtain ⟨r42, m42, c42, h⟩ := xb_inv h
          refine xl_iV (pc := 1655) (As := []) (rest := []) ⟨hx, hb, hml, hown, hts⟩ (mX8_thrown hF _ km c42) fdX8_thrown q_m_L_124 ⟨Nat.le_of_ble_eq_true rfl, Nat.le_of_ble_eq_true rfl⟩ (xRecv hK hR (ci := 12) rfl km.1) hR hK hE hS rfl hl.1 rfl (Nat.le_of_ble_eq_true rfl) dL_law_1655 ⟨by omega, by omega⟩ (fun H locs hR hS => ?_)
          refine lv_iload (pc := 1658) hx hb dL_law_1658 (lv_at hl 1 rfl) ?_
          refine lv_icmp_eq (pc := 1660) (tgt := 1665) hx hb dL_law_1660 (by decide) (fun c43 => ?_) (fun c43 => ?_)
          · have h := xpos c43 h
            refine lv_iload (pc := 1665) hx hb dL_law_1665 (lv_at hl 1 rfl) ?_
            refine lv_if_ne (pc := 1667) (tgt := 1682) hx hb dL_law_1667 (by decide) (fun c44 => ?_) (fun c44 => ?_)
            · have h := xneg c44 h
              refine lv_goto (pc := 1682) (tgt := 1973) hx hb dL_law_1682 (by decide) ?_
              cases h
              refine W.widen (k := cells + 20) (n := slots + 2000) (by omega) (by omega) ?_
              exact kk H locs ls hR hS (lv_sub hl [2, 3, 4, 5, 6, 7] rfl)
            · have h := xpos c44 h
              refine lv_aload_n (pc := 1670) hx hb dL_law_1670 rfl (lv_at hl 5 rfl) ?_
              refine lv_iconst (pc := 1671) hx hb dL_law_1671 kc_0 ?_
              refine xr_laldk (pc := 1672) 0 hx hb hK hR ko.1 ko.2 tn_0 (vl_0 (by decide)) dL_law_1672 ?_
              refine lv_iload (pc := 1673) hx hb dL_law_1673 (lv_at hl 0 rfl) ?_
              refine lv_i2l (pc := 1675) hx hb dL_law_1675 rfl ?_
              refine W.lcmp (pc := 1676) hx hb dL_law_1676 ?_
              refine lv_if_eq (pc := 1677) (tgt := 1682) hx hb dL_law_1677 (by decide) (fun c45 => ?_) (fun c45 => ?_)
              · have h := xpos c45 h
                refine lv_goto (pc := 1682) (tgt := 1973) hx hb dL_law_1682 (by decide) ?_
                cases h
                refine W.widen (k := cells + 20) (n := slots + 2000) (by omega) (by omega) ?_
                exact kk H locs ls hR hS (lv_sub hl [2, 3, 4, 5, 6, 7] rfl)
              · have h := xneg c45 h
                refine lv_iconst (pc := 1680) hx hb dL_law_1680 kc_0 ?_
                cases h
          · have h := xneg c43 h
            refine lv_iconst (pc := 1663) hx hb dL_law_1663 kc_0 ?_
            cases h
        · have h := xneg c40 h
          refine lv_iconst (pc := 1644) hx hb dL_law_1644 kc_1 ?_
          refine lv_goto (pc := 1645) (tgt := 1649) hx hb dL_law_1645 (by decide) ?_
          obtain ⟨r46, m46, c46, h⟩ := xb_inv h
          refine xl_iV (pc := 1649) (As := [.int _, .int _]) (rest := []) ⟨hx, hb, hml, hown, hts⟩ (mX8_refusal hF _ _ _ km c46) fdX8_refusal q_m_L_211 ⟨Nat.le_of_ble_eq_true rfl, Nat.le_of_ble_eq_true rfl⟩ (xRecv hK hR (ci := 12) rfl km.1) hR hK hE hS rfl hl.1 rfl (Nat.le_of_ble_eq_true rfl) dL_law_1649 ⟨by omega, by omega⟩ (fun H locs hR hS => ?_)
          refine lv_istore (pc := 1652) (lv' := [(7, .int _), (6, .int _), (0, .ref _), (1, .ref _), (2, .ref _), (3, .ref _), (4, .ref _), (5, .int _)]) hx hb dL_law_1652 hl (Nat.le_of_ble_eq_true rfl) rfl (fun ls hl => ?_)
          refine lv_aload_n (pc := 1654) hx hb dL_law_1654 rfl (lv_at hl 4 rfl) ?_
          obtain ⟨r47, m47, c47, h⟩ := xb_inv h
          refine xl_iV (pc := 1655) (As := []) (rest := []) ⟨hx, hb, hml, hown, hts⟩ (mX8_thrown hF _ km c47) fdX8_thrown q_m_L_124 ⟨Nat.le_of_ble_eq_true rfl, Nat.le_of_ble_eq_true rfl⟩ (xRecv hK hR (ci := 12) rfl km.1) hR hK hE hS rfl hl.1 rfl (Nat.le_of_ble_eq_true rfl) dL_law_1655 ⟨by omega, by omega⟩ (fun H locs hR hS => ?_)
          refine lv_iload (pc := 1658) hx hb dL_law_1658 (lv_at hl 1 rfl) ?_
          refine lv_icmp_eq (pc := 1660) (tgt := 1665) hx hb dL_law_1660 (by decide) (fun c48 => ?_) (fun c48 => ?_)
          · have h := xpos c48 h
            refine lv_iload (pc := 1665) hx hb dL_law_1665 (lv_at hl 1 rfl) ?_
            refine lv_if_ne (pc := 1667) (tgt := 1682) hx hb dL_law_1667 (by decide) (fun c49 => ?_) (fun c49 => ?_)
            · have h := xneg c49 h
              refine lv_goto (pc := 1682) (tgt := 1973) hx hb dL_law_1682 (by decide) ?_
              cases h
              refine W.widen (k := cells + 20) (n := slots + 2000) (by omega) (by omega) ?_
              exact kk H locs ls hR hS (lv_sub hl [2, 3, 4, 5, 6, 7] rfl)
            · have h := xpos c49 h
              refine lv_aload_n (pc := 1670) hx hb dL_law_1670 rfl (lv_at hl 5 rfl) ?_
              refine lv_iconst (pc := 1671) hx hb dL_law_1671 kc_0 ?_
              refine xr_laldk (pc := 1672) 0 hx hb hK hR ko.1 ko.2 tn_0 (vl_0 (by decide)) dL_law_1672 ?_
              refine lv_iload (pc := 1673) hx hb dL_law_1673 (lv_at hl 0 rfl) ?_
              refine lv_i2l (pc := 1675) hx hb dL_law_1675 rfl ?_
              refine W.lcmp (pc := 1676) hx hb dL_law_1676 ?_
              refine lv_if_eq (pc := 1677) (tgt := 1682) hx hb dL_law_1677 (by decide) (fun c50 => ?_) (fun c50 => ?_)
              · have h := xpos c50 h
                refine lv_goto (pc := 1682) (tgt := 1973) hx hb dL_law_1682 (by decide) ?_
                cases h
                refine W.widen (k := cells + 20) (n := slots + 2000) (by omega) (by omega) ?_
                exact kk H locs ls hR hS (lv_sub hl [2, 3, 4, 5, 6, 7] rfl)
              · have h := xneg c50 h
                refine lv_iconst (pc := 1680) hx hb dL_law_1680 kc_0 ?_
                cases h
          · have h := xneg c48 h
            refine lv_iconst (pc := 1663) hx hb dL_law_1663 kc_0 ?_
            cases h
  · have h := xneg c1 h
    refine lv_iconst (pc := 1595) hx hb dL_law_1595 kc_1 ?_
    refine lv_goto (pc := 1596) (tgt := 1600) hx hb dL_law_1596 (by decide) ?_
    refine lv_aload_n (pc := 1600) hx hb dL_law_1600 rfl (lv_at hl 0 rfl) ?_
    refine lv_iload (pc := 1601) hx hb dL_law_1601 (lv_at hl 5 rfl) ?_
    refine lv_iconst (pc := 1603) hx hb dL_law_1603 kc_2 ?_
    refine lv_iadd (pc := 1604) hx hb dL_law_1604 ?_
    refine xr_sld (pc := 1605) (j + 2) hx hb hX hbl hbA hS (xhI2 hj hL) (xhV2 hj hL) dL_law_1605 ?_
    refine lv_if_eq (pc := 1606) (tgt := 1613) hx hb dL_law_1606 (by decide) (fun c51 => ?_) (fun c51 => ?_)
    · have h := xpos c51 h
      refine lv_iconst (pc := 1613) hx hb dL_law_1613 kc_0 ?_
      refine lv_aload_n (pc := 1614) hx hb dL_law_1614 rfl (lv_at hl 3 rfl) ?_
      obtain ⟨r52, m52, c52, h⟩ := xb_inv h
      refine xl_call (pc := 1615) (As := [.ref _, .int _, .int _, .ref _]) (rest := []) ⟨hx, hb, hml, hown, hts⟩ (mL_refusal hls hF _ _ _ _ kx ko c52) fhL_refusal q_m_L_208 ⟨Nat.le_of_ble_eq_true rfl, Nat.le_of_ble_eq_true rfl⟩ hR hK hE hS rfl hl.1 rfl (Nat.le_of_ble_eq_true rfl) dL_law_1615 ⟨by omega, by omega⟩ (fun H locs hR hS => ?_)
      refine lv_istore (pc := 1618) (lv' := [(6, .int _), (0, .ref _), (1, .ref _), (2, .ref _), (3, .ref _), (4, .ref _), (5, .int _)]) hx hb dL_law_1618 hl (Nat.le_of_ble_eq_true rfl) rfl (fun ls hl => ?_)
      refine lv_aload_n (pc := 1620) hx hb dL_law_1620 rfl (lv_at hl 3 rfl) ?_
      refine lv_aload_n (pc := 1621) hx hb dL_law_1621 rfl (lv_at hl 1 rfl) ?_
      refine lv_iload (pc := 1622) hx hb dL_law_1622 (lv_at hl 6 rfl) ?_
      refine lv_iconst (pc := 1624) hx hb dL_law_1624 kc_1 ?_
      refine lv_iadd (pc := 1625) hx hb dL_law_1625 ?_
      refine xr_sld (pc := 1626) (j + 1) hx hb hX hbl hbA hS (xhI1 hj hL) (xhV1 hj hL) dL_law_1626 ?_
      refine lv_if_eq (pc := 1627) (tgt := 1634) hx hb dL_law_1627 (by decide) (fun c53 => ?_) (fun c53 => ?_)
      · have h := xpos c53 h
        refine lv_iconst (pc := 1634) hx hb dL_law_1634 kc_0 ?_
        refine lv_aload_n (pc := 1635) hx hb dL_law_1635 rfl (lv_at hl 1 rfl) ?_
        refine lv_iload (pc := 1636) hx hb dL_law_1636 (lv_at hl 6 rfl) ?_
        refine lv_iconst (pc := 1638) hx hb dL_law_1638 kc_2 ?_
        refine lv_iadd (pc := 1639) hx hb dL_law_1639 ?_
        refine xr_sld (pc := 1640) (j + 2) hx hb hX hbl hbA hS (xhI2 hj hL) (xhV2 hj hL) dL_law_1640 ?_
        refine lv_if_eq (pc := 1641) (tgt := 1648) hx hb dL_law_1641 (by decide) (fun c54 => ?_) (fun c54 => ?_)
        · have h := xpos c54 h
          refine lv_iconst (pc := 1648) hx hb dL_law_1648 kc_0 ?_
          obtain ⟨r55, m55, c55, h⟩ := xb_inv h
          refine xl_iV (pc := 1649) (As := [.int _, .int _]) (rest := []) ⟨hx, hb, hml, hown, hts⟩ (mX8_refusal hF _ _ _ km c55) fdX8_refusal q_m_L_211 ⟨Nat.le_of_ble_eq_true rfl, Nat.le_of_ble_eq_true rfl⟩ (xRecv hK hR (ci := 12) rfl km.1) hR hK hE hS rfl hl.1 rfl (Nat.le_of_ble_eq_true rfl) dL_law_1649 ⟨by omega, by omega⟩ (fun H locs hR hS => ?_)
          refine lv_istore (pc := 1652) (lv' := [(7, .int _), (6, .int _), (0, .ref _), (1, .ref _), (2, .ref _), (3, .ref _), (4, .ref _), (5, .int _)]) hx hb dL_law_1652 hl (Nat.le_of_ble_eq_true rfl) rfl (fun ls hl => ?_)
          refine lv_aload_n (pc := 1654) hx hb dL_law_1654 rfl (lv_at hl 4 rfl) ?_
          obtain ⟨r56, m56, c56, h⟩ := xb_inv h
          refine xl_iV (pc := 1655) (As := []) (rest := []) ⟨hx, hb, hml, hown, hts⟩ (mX8_thrown hF _ km c56) fdX8_thrown q_m_L_124 ⟨Nat.le_of_ble_eq_true rfl, Nat.le_of_ble_eq_true rfl⟩ (xRecv hK hR (ci := 12) rfl km.1) hR hK hE hS rfl hl.1 rfl (Nat.le_of_ble_eq_true rfl) dL_law_1655 ⟨by omega, by omega⟩ (fun H locs hR hS => ?_)
          refine lv_iload (pc := 1658) hx hb dL_law_1658 (lv_at hl 1 rfl) ?_
          refine lv_icmp_eq (pc := 1660) (tgt := 1665) hx hb dL_law_1660 (by decide) (fun c57 => ?_) (fun c57 => ?_)
          · have h := xpos c57 h
            refine lv_iload (pc := 1665) hx hb dL_law_1665 (lv_at hl 1 rfl) ?_
            refine lv_if_ne (pc := 1667) (tgt := 1682) hx hb dL_law_1667 (by decide) (fun c58 => ?_) (fun c58 => ?_)
            · have h := xneg c58 h
              refine lv_goto (pc := 1682) (tgt := 1973) hx hb dL_law_1682 (by decide) ?_
              cases h
              refine W.widen (k := cells + 20) (n := slots + 2000) (by omega) (by omega) ?_
              exact kk H locs ls hR hS (lv_sub hl [2, 3, 4, 5, 6, 7] rfl)
            · have h := xpos c58 h
              refine lv_aload_n (pc := 1670) hx hb dL_law_1670 rfl (lv_at hl 5 rfl) ?_
              refine lv_iconst (pc := 1671) hx hb dL_law_1671 kc_0 ?_
              refine xr_laldk (pc := 1672) 0 hx hb hK hR ko.1 ko.2 tn_0 (vl_0 (by decide)) dL_law_1672 ?_
              refine lv_iload (pc := 1673) hx hb dL_law_1673 (lv_at hl 0 rfl) ?_
              refine lv_i2l (pc := 1675) hx hb dL_law_1675 rfl ?_
              refine W.lcmp (pc := 1676) hx hb dL_law_1676 ?_
              refine lv_if_eq (pc := 1677) (tgt := 1682) hx hb dL_law_1677 (by decide) (fun c59 => ?_) (fun c59 => ?_)
              · have h := xpos c59 h
                refine lv_goto (pc := 1682) (tgt := 1973) hx hb dL_law_1682 (by decide) ?_
                cases h
                refine W.widen (k := cells + 20) (n := slots + 2000) (by omega) (by omega) ?_
                exact kk H locs ls hR hS (lv_sub hl [2, 3, 4, 5, 6, 7] rfl)
              · have h := xneg c59 h
                refine lv_iconst (pc := 1680) hx hb dL_law_1680 kc_0 ?_
                cases h
          · have h := xneg c57 h
            refine lv_iconst (pc := 1663) hx hb dL_law_1663 kc_0 ?_
            cases h
        · have h := xneg c54 h
          refine lv_iconst (pc := 1644) hx hb dL_law_1644 kc_1 ?_
          refine lv_goto (pc := 1645) (tgt := 1649) hx hb dL_law_1645 (by decide) ?_
          obtain ⟨r60, m60, c60, h⟩ := xb_inv h
          refine xl_iV (pc := 1649) (As := [.int _, .int _]) (rest := []) ⟨hx, hb, hml, hown, hts⟩ (mX8_refusal hF _ _ _ km c60) fdX8_refusal q_m_L_211 ⟨Nat.le_of_ble_eq_true rfl, Nat.le_of_ble_eq_true rfl⟩ (xRecv hK hR (ci := 12) rfl km.1) hR hK hE hS rfl hl.1 rfl (Nat.le_of_ble_eq_true rfl) dL_law_1649 ⟨by omega, by omega⟩ (fun H locs hR hS => ?_)
          refine lv_istore (pc := 1652) (lv' := [(7, .int _), (6, .int _), (0, .ref _), (1, .ref _), (2, .ref _), (3, .ref _), (4, .ref _), (5, .int _)]) hx hb dL_law_1652 hl (Nat.le_of_ble_eq_true rfl) rfl (fun ls hl => ?_)
          refine lv_aload_n (pc := 1654) hx hb dL_law_1654 rfl (lv_at hl 4 rfl) ?_
          obtain ⟨r61, m61, c61, h⟩ := xb_inv h
          refine xl_iV (pc := 1655) (As := []) (rest := []) ⟨hx, hb, hml, hown, hts⟩ (mX8_thrown hF _ km c61) fdX8_thrown q_m_L_124 ⟨Nat.le_of_ble_eq_true rfl, Nat.le_of_ble_eq_true rfl⟩ (xRecv hK hR (ci := 12) rfl km.1) hR hK hE hS rfl hl.1 rfl (Nat.le_of_ble_eq_true rfl) dL_law_1655 ⟨by omega, by omega⟩ (fun H locs hR hS => ?_)
          refine lv_iload (pc := 1658) hx hb dL_law_1658 (lv_at hl 1 rfl) ?_
          refine lv_icmp_eq (pc := 1660) (tgt := 1665) hx hb dL_law_1660 (by decide) (fun c62 => ?_) (fun c62 => ?_)
          · have h := xpos c62 h
            refine lv_iload (pc := 1665) hx hb dL_law_1665 (lv_at hl 1 rfl) ?_
            refine lv_if_ne (pc := 1667) (tgt := 1682) hx hb dL_law_1667 (by decide) (fun c63 => ?_) (fun c63 => ?_)
            · have h := xneg c63 h
              refine lv_goto (pc := 1682) (tgt := 1973) hx hb dL_law_1682 (by decide) ?_
              cases h
              refine W.widen (k := cells + 20) (n := slots + 2000) (by omega) (by omega) ?_
              exact kk H locs ls hR hS (lv_sub hl [2, 3, 4, 5, 6, 7] rfl)
            · have h := xpos c63 h
              refine lv_aload_n (pc := 1670) hx hb dL_law_1670 rfl (lv_at hl 5 rfl) ?_
              refine lv_iconst (pc := 1671) hx hb dL_law_1671 kc_0 ?_
              refine xr_laldk (pc := 1672) 0 hx hb hK hR ko.1 ko.2 tn_0 (vl_0 (by decide)) dL_law_1672 ?_
              refine lv_iload (pc := 1673) hx hb dL_law_1673 (lv_at hl 0 rfl) ?_
              refine lv_i2l (pc := 1675) hx hb dL_law_1675 rfl ?_
              refine W.lcmp (pc := 1676) hx hb dL_law_1676 ?_
              refine lv_if_eq (pc := 1677) (tgt := 1682) hx hb dL_law_1677 (by decide) (fun c64 => ?_) (fun c64 => ?_)
              · have h := xpos c64 h
                refine lv_goto (pc := 1682) (tgt := 1973) hx hb dL_law_1682 (by decide) ?_
                cases h
                refine W.widen (k := cells + 20) (n := slots + 2000) (by omega) (by omega) ?_
                exact kk H locs ls hR hS (lv_sub hl [2, 3, 4, 5, 6, 7] rfl)
              · have h := xneg c64 h
                refine lv_iconst (pc := 1680) hx hb dL_law_1680 kc_0 ?_
                cases h
          · have h := xneg c62 h
            refine lv_iconst (pc := 1663) hx hb dL_law_1663 kc_0 ?_
            cases h
      · have h := xneg c53 h
        refine lv_iconst (pc := 1630) hx hb dL_law_1630 kc_1 ?_
        refine lv_goto (pc := 1631) (tgt := 1635) hx hb dL_law_1631 (by decide) ?_
        refine lv_aload_n (pc := 1635) hx hb dL_law_1635 rfl (lv_at hl 1 rfl) ?_
        refine lv_iload (pc := 1636) hx hb dL_law_1636 (lv_at hl 6 rfl) ?_
        refine lv_iconst (pc := 1638) hx hb dL_law_1638 kc_2 ?_
        refine lv_iadd (pc := 1639) hx hb dL_law_1639 ?_
        refine xr_sld (pc := 1640) (j + 2) hx hb hX hbl hbA hS (xhI2 hj hL) (xhV2 hj hL) dL_law_1640 ?_
        refine lv_if_eq (pc := 1641) (tgt := 1648) hx hb dL_law_1641 (by decide) (fun c65 => ?_) (fun c65 => ?_)
        · have h := xpos c65 h
          refine lv_iconst (pc := 1648) hx hb dL_law_1648 kc_0 ?_
          obtain ⟨r66, m66, c66, h⟩ := xb_inv h
          refine xl_iV (pc := 1649) (As := [.int _, .int _]) (rest := []) ⟨hx, hb, hml, hown, hts⟩ (mX8_refusal hF _ _ _ km c66) fdX8_refusal q_m_L_211 ⟨Nat.le_of_ble_eq_true rfl, Nat.le_of_ble_eq_true rfl⟩ (xRecv hK hR (ci := 12) rfl km.1) hR hK hE hS rfl hl.1 rfl (Nat.le_of_ble_eq_true rfl) dL_law_1649 ⟨by omega, by omega⟩ (fun H locs hR hS => ?_)
          refine lv_istore (pc := 1652) (lv' := [(7, .int _), (6, .int _), (0, .ref _), (1, .ref _), (2, .ref _), (3, .ref _), (4, .ref _), (5, .int _)]) hx hb dL_law_1652 hl (Nat.le_of_ble_eq_true rfl) rfl (fun ls hl => ?_)
          refine lv_aload_n (pc := 1654) hx hb dL_law_1654 rfl (lv_at hl 4 rfl) ?_
          obtain ⟨r67, m67, c67, h⟩ := xb_inv h
          refine xl_iV (pc := 1655) (As := []) (rest := []) ⟨hx, hb, hml, hown, hts⟩ (mX8_thrown hF _ km c67) fdX8_thrown q_m_L_124 ⟨Nat.le_of_ble_eq_true rfl, Nat.le_of_ble_eq_true rfl⟩ (xRecv hK hR (ci := 12) rfl km.1) hR hK hE hS rfl hl.1 rfl (Nat.le_of_ble_eq_true rfl) dL_law_1655 ⟨by omega, by omega⟩ (fun H locs hR hS => ?_)
          refine lv_iload (pc := 1658) hx hb dL_law_1658 (lv_at hl 1 rfl) ?_
          refine lv_icmp_eq (pc := 1660) (tgt := 1665) hx hb dL_law_1660 (by decide) (fun c68 => ?_) (fun c68 => ?_)
          · have h := xpos c68 h
            refine lv_iload (pc := 1665) hx hb dL_law_1665 (lv_at hl 1 rfl) ?_
            refine lv_if_ne (pc := 1667) (tgt := 1682) hx hb dL_law_1667 (by decide) (fun c69 => ?_) (fun c69 => ?_)
            · have h := xneg c69 h
              refine lv_goto (pc := 1682) (tgt := 1973) hx hb dL_law_1682 (by decide) ?_
              cases h
              refine W.widen (k := cells + 20) (n := slots + 2000) (by omega) (by omega) ?_
              exact kk H locs ls hR hS (lv_sub hl [2, 3, 4, 5, 6, 7] rfl)
            · have h := xpos c69 h
              refine lv_aload_n (pc := 1670) hx hb dL_law_1670 rfl (lv_at hl 5 rfl) ?_
              refine lv_iconst (pc := 1671) hx hb dL_law_1671 kc_0 ?_
              refine xr_laldk (pc := 1672) 0 hx hb hK hR ko.1 ko.2 tn_0 (vl_0 (by decide)) dL_law_1672 ?_
              refine lv_iload (pc := 1673) hx hb dL_law_1673 (lv_at hl 0 rfl) ?_
              refine lv_i2l (pc := 1675) hx hb dL_law_1675 rfl ?_
              refine W.lcmp (pc := 1676) hx hb dL_law_1676 ?_
              refine lv_if_eq (pc := 1677) (tgt := 1682) hx hb dL_law_1677 (by decide) (fun c70 => ?_) (fun c70 => ?_)
              · have h := xpos c70 h
                refine lv_goto (pc := 1682) (tgt := 1973) hx hb dL_law_1682 (by decide) ?_
                cases h
                refine W.widen (k := cells + 20) (n := slots + 2000) (by omega) (by omega) ?_
                exact kk H locs ls hR hS (lv_sub hl [2, 3, 4, 5, 6, 7] rfl)
              · have h := xneg c70 h
                refine lv_iconst (pc := 1680) hx hb dL_law_1680 kc_0 ?_
                cases h
          · have h := xneg c68 h
            refine lv_iconst (pc := 1663) hx hb dL_law_1663 kc_0 ?_
            cases h
        · have h := xneg c65 h
          refine lv_iconst (pc := 1644) hx hb dL_law_1644 kc_1 ?_
          refine lv_goto (pc := 1645) (tgt := 1649) hx hb dL_law_1645 (by decide) ?_
          obtain ⟨r71, m71, c71, h⟩ := xb_inv h
          refine xl_iV (pc := 1649) (As := [.int _, .int _]) (rest := []) ⟨hx, hb, hml, hown, hts⟩ (mX8_refusal hF _ _ _ km c71) fdX8_refusal q_m_L_211 ⟨Nat.le_of_ble_eq_true rfl, Nat.le_of_ble_eq_true rfl⟩ (xRecv hK hR (ci := 12) rfl km.1) hR hK hE hS rfl hl.1 rfl (Nat.le_of_ble_eq_true rfl) dL_law_1649 ⟨by omega, by omega⟩ (fun H locs hR hS => ?_)
          refine lv_istore (pc := 1652) (lv' := [(7, .int _), (6, .int _), (0, .ref _), (1, .ref _), (2, .ref _), (3, .ref _), (4, .ref _), (5, .int _)]) hx hb dL_law_1652 hl (Nat.le_of_ble_eq_true rfl) rfl (fun ls hl => ?_)
          refine lv_aload_n (pc := 1654) hx hb dL_law_1654 rfl (lv_at hl 4 rfl) ?_
          obtain ⟨r72, m72, c72, h⟩ := xb_inv h
          refine xl_iV (pc := 1655) (As := []) (rest := []) ⟨hx, hb, hml, hown, hts⟩ (mX8_thrown hF _ km c72) fdX8_thrown q_m_L_124 ⟨Nat.le_of_ble_eq_true rfl, Nat.le_of_ble_eq_true rfl⟩ (xRecv hK hR (ci := 12) rfl km.1) hR hK hE hS rfl hl.1 rfl (Nat.le_of_ble_eq_true rfl) dL_law_1655 ⟨by omega, by omega⟩ (fun H locs hR hS => ?_)
          refine lv_iload (pc := 1658) hx hb dL_law_1658 (lv_at hl 1 rfl) ?_
          refine lv_icmp_eq (pc := 1660) (tgt := 1665) hx hb dL_law_1660 (by decide) (fun c73 => ?_) (fun c73 => ?_)
          · have h := xpos c73 h
            refine lv_iload (pc := 1665) hx hb dL_law_1665 (lv_at hl 1 rfl) ?_
            refine lv_if_ne (pc := 1667) (tgt := 1682) hx hb dL_law_1667 (by decide) (fun c74 => ?_) (fun c74 => ?_)
            · have h := xneg c74 h
              refine lv_goto (pc := 1682) (tgt := 1973) hx hb dL_law_1682 (by decide) ?_
              cases h
              refine W.widen (k := cells + 20) (n := slots + 2000) (by omega) (by omega) ?_
              exact kk H locs ls hR hS (lv_sub hl [2, 3, 4, 5, 6, 7] rfl)
            · have h := xpos c74 h
              refine lv_aload_n (pc := 1670) hx hb dL_law_1670 rfl (lv_at hl 5 rfl) ?_
              refine lv_iconst (pc := 1671) hx hb dL_law_1671 kc_0 ?_
              refine xr_laldk (pc := 1672) 0 hx hb hK hR ko.1 ko.2 tn_0 (vl_0 (by decide)) dL_law_1672 ?_
              refine lv_iload (pc := 1673) hx hb dL_law_1673 (lv_at hl 0 rfl) ?_
              refine lv_i2l (pc := 1675) hx hb dL_law_1675 rfl ?_
              refine W.lcmp (pc := 1676) hx hb dL_law_1676 ?_
              refine lv_if_eq (pc := 1677) (tgt := 1682) hx hb dL_law_1677 (by decide) (fun c75 => ?_) (fun c75 => ?_)
              · have h := xpos c75 h
                refine lv_goto (pc := 1682) (tgt := 1973) hx hb dL_law_1682 (by decide) ?_
                cases h
                refine W.widen (k := cells + 20) (n := slots + 2000) (by omega) (by omega) ?_
                exact kk H locs ls hR hS (lv_sub hl [2, 3, 4, 5, 6, 7] rfl)
              · have h := xneg c75 h
                refine lv_iconst (pc := 1680) hx hb dL_law_1680 kc_0 ?_
                cases h
          · have h := xneg c73 h
            refine lv_iconst (pc := 1663) hx hb dL_law_1663 kc_0 ?_
            cases h
    · have h := xneg c51 h
      refine lv_iconst (pc := 1609) hx hb dL_law_1609 kc_1 ?_
      refine lv_goto (pc := 1610) (tgt := 1614) hx hb dL_law_1610 (by decide) ?_
      refine lv_aload_n (pc := 1614) hx hb dL_law_1614 rfl (lv_at hl 3 rfl) ?_
      obtain ⟨r76, m76, c76, h⟩ := xb_inv h
      refine xl_call (pc := 1615) (As := [.ref _, .int _, .int _, .ref _]) (rest := []) ⟨hx, hb, hml, hown, hts⟩ (mL_refusal hls hF _ _ _ _ kx ko c76) fhL_refusal q_m_L_208 ⟨Nat.le_of_ble_eq_true rfl, Nat.le_of_ble_eq_true rfl⟩ hR hK hE hS rfl hl.1 rfl (Nat.le_of_ble_eq_true rfl) dL_law_1615 ⟨by omega, by omega⟩ (fun H locs hR hS => ?_)
      refine lv_istore (pc := 1618) (lv' := [(6, .int _), (0, .ref _), (1, .ref _), (2, .ref _), (3, .ref _), (4, .ref _), (5, .int _)]) hx hb dL_law_1618 hl (Nat.le_of_ble_eq_true rfl) rfl (fun ls hl => ?_)
      refine lv_aload_n (pc := 1620) hx hb dL_law_1620 rfl (lv_at hl 3 rfl) ?_
      refine lv_aload_n (pc := 1621) hx hb dL_law_1621 rfl (lv_at hl 1 rfl) ?_
      refine lv_iload (pc := 1622) hx hb dL_law_1622 (lv_at hl 6 rfl) ?_
      refine lv_iconst (pc := 1624) hx hb dL_law_1624 kc_1 ?_
      refine lv_iadd (pc := 1625) hx hb dL_law_1625 ?_
      refine xr_sld (pc := 1626) (j + 1) hx hb hX hbl hbA hS (xhI1 hj hL) (xhV1 hj hL) dL_law_1626 ?_
      refine lv_if_eq (pc := 1627) (tgt := 1634) hx hb dL_law_1627 (by decide) (fun c77 => ?_) (fun c77 => ?_)
      · have h := xpos c77 h
        refine lv_iconst (pc := 1634) hx hb dL_law_1634 kc_0 ?_
        refine lv_aload_n (pc := 1635) hx hb dL_law_1635 rfl (lv_at hl 1 rfl) ?_
        refine lv_iload (pc := 1636) hx hb dL_law_1636 (lv_at hl 6 rfl) ?_
        refine lv_iconst (pc := 1638) hx hb dL_law_1638 kc_2 ?_
        refine lv_iadd (pc := 1639) hx hb dL_law_1639 ?_
        refine xr_sld (pc := 1640) (j + 2) hx hb hX hbl hbA hS (xhI2 hj hL) (xhV2 hj hL) dL_law_1640 ?_
        refine lv_if_eq (pc := 1641) (tgt := 1648) hx hb dL_law_1641 (by decide) (fun c78 => ?_) (fun c78 => ?_)
        · have h := xpos c78 h
          refine lv_iconst (pc := 1648) hx hb dL_law_1648 kc_0 ?_
          obtain ⟨r79, m79, c79, h⟩ := xb_inv h
          refine xl_iV (pc := 1649) (As := [.int _, .int _]) (rest := []) ⟨hx, hb, hml, hown, hts⟩ (mX8_refusal hF _ _ _ km c79) fdX8_refusal q_m_L_211 ⟨Nat.le_of_ble_eq_true rfl, Nat.le_of_ble_eq_true rfl⟩ (xRecv hK hR (ci := 12) rfl km.1) hR hK hE hS rfl hl.1 rfl (Nat.le_of_ble_eq_true rfl) dL_law_1649 ⟨by omega, by omega⟩ (fun H locs hR hS => ?_)
          refine lv_istore (pc := 1652) (lv' := [(7, .int _), (6, .int _), (0, .ref _), (1, .ref _), (2, .ref _), (3, .ref _), (4, .ref _), (5, .int _)]) hx hb dL_law_1652 hl (Nat.le_of_ble_eq_true rfl) rfl (fun ls hl => ?_)
          refine lv_aload_n (pc := 1654) hx hb dL_law_1654 rfl (lv_at hl 4 rfl) ?_
          obtain ⟨r80, m80, c80, h⟩ := xb_inv h
          refine xl_iV (pc := 1655) (As := []) (rest := []) ⟨hx, hb, hml, hown, hts⟩ (mX8_thrown hF _ km c80) fdX8_thrown q_m_L_124 ⟨Nat.le_of_ble_eq_true rfl, Nat.le_of_ble_eq_true rfl⟩ (xRecv hK hR (ci := 12) rfl km.1) hR hK hE hS rfl hl.1 rfl (Nat.le_of_ble_eq_true rfl) dL_law_1655 ⟨by omega, by omega⟩ (fun H locs hR hS => ?_)
          refine lv_iload (pc := 1658) hx hb dL_law_1658 (lv_at hl 1 rfl) ?_
          refine lv_icmp_eq (pc := 1660) (tgt := 1665) hx hb dL_law_1660 (by decide) (fun c81 => ?_) (fun c81 => ?_)
          · have h := xpos c81 h
            refine lv_iload (pc := 1665) hx hb dL_law_1665 (lv_at hl 1 rfl) ?_
            refine lv_if_ne (pc := 1667) (tgt := 1682) hx hb dL_law_1667 (by decide) (fun c82 => ?_) (fun c82 => ?_)
            · have h := xneg c82 h
              refine lv_goto (pc := 1682) (tgt := 1973) hx hb dL_law_1682 (by decide) ?_
              cases h
              refine W.widen (k := cells + 20) (n := slots + 2000) (by omega) (by omega) ?_
              exact kk H locs ls hR hS (lv_sub hl [2, 3, 4, 5, 6, 7] rfl)
            · have h := xpos c82 h
              refine lv_aload_n (pc := 1670) hx hb dL_law_1670 rfl (lv_at hl 5 rfl) ?_
              refine lv_iconst (pc := 1671) hx hb dL_law_1671 kc_0 ?_
              refine xr_laldk (pc := 1672) 0 hx hb hK hR ko.1 ko.2 tn_0 (vl_0 (by decide)) dL_law_1672 ?_
              refine lv_iload (pc := 1673) hx hb dL_law_1673 (lv_at hl 0 rfl) ?_
              refine lv_i2l (pc := 1675) hx hb dL_law_1675 rfl ?_
              refine W.lcmp (pc := 1676) hx hb dL_law_1676 ?_
              refine lv_if_eq (pc := 1677) (tgt := 1682) hx hb dL_law_1677 (by decide) (fun c83 => ?_) (fun c83 => ?_)
              · have h := xpos c83 h
                refine lv_goto (pc := 1682) (tgt := 1973) hx hb dL_law_1682 (by decide) ?_
                cases h
                refine W.widen (k := cells + 20) (n := slots + 2000) (by omega) (by omega) ?_
                exact kk H locs ls hR hS (lv_sub hl [2, 3, 4, 5, 6, 7] rfl)
              · have h := xneg c83 h
                refine lv_iconst (pc := 1680) hx hb dL_law_1680 kc_0 ?_
                cases h
          · have h := xneg c81 h
            refine lv_iconst (pc := 1663) hx hb dL_law_1663 kc_0 ?_
            cases h
        · have h := xneg c78 h
          refine lv_iconst (pc := 1644) hx hb dL_law_1644 kc_1 ?_
          refine lv_goto (pc := 1645) (tgt := 1649) hx hb dL_law_1645 (by decide) ?_
          obtain ⟨r84, m84, c84, h⟩ := xb_inv h
          refine xl_iV (pc := 1649) (As := [.int _, .int _]) (rest := []) ⟨hx, hb, hml, hown, hts⟩ (mX8_refusal hF _ _ _ km c84) fdX8_refusal q_m_L_211 ⟨Nat.le_of_ble_eq_true rfl, Nat.le_of_ble_eq_true rfl⟩ (xRecv hK hR (ci := 12) rfl km.1) hR hK hE hS rfl hl.1 rfl (Nat.le_of_ble_eq_true rfl) dL_law_1649 ⟨by omega, by omega⟩ (fun H locs hR hS => ?_)
          refine lv_istore (pc := 1652) (lv' := [(7, .int _), (6, .int _), (0, .ref _), (1, .ref _), (2, .ref _), (3, .ref _), (4, .ref _), (5, .int _)]) hx hb dL_law_1652 hl (Nat.le_of_ble_eq_true rfl) rfl (fun ls hl => ?_)
          refine lv_aload_n (pc := 1654) hx hb dL_law_1654 rfl (lv_at hl 4 rfl) ?_
          obtain ⟨r85, m85, c85, h⟩ := xb_inv h
          refine xl_iV (pc := 1655) (As := []) (rest := []) ⟨hx, hb, hml, hown, hts⟩ (mX8_thrown hF _ km c85) fdX8_thrown q_m_L_124 ⟨Nat.le_of_ble_eq_true rfl, Nat.le_of_ble_eq_true rfl⟩ (xRecv hK hR (ci := 12) rfl km.1) hR hK hE hS rfl hl.1 rfl (Nat.le_of_ble_eq_true rfl) dL_law_1655 ⟨by omega, by omega⟩ (fun H locs hR hS => ?_)
          refine lv_iload (pc := 1658) hx hb dL_law_1658 (lv_at hl 1 rfl) ?_
          refine lv_icmp_eq (pc := 1660) (tgt := 1665) hx hb dL_law_1660 (by decide) (fun c86 => ?_) (fun c86 => ?_)
          · have h := xpos c86 h
            refine lv_iload (pc := 1665) hx hb dL_law_1665 (lv_at hl 1 rfl) ?_
            refine lv_if_ne (pc := 1667) (tgt := 1682) hx hb dL_law_1667 (by decide) (fun c87 => ?_) (fun c87 => ?_)
            · have h := xneg c87 h
              refine lv_goto (pc := 1682) (tgt := 1973) hx hb dL_law_1682 (by decide) ?_
              cases h
              refine W.widen (k := cells + 20) (n := slots + 2000) (by omega) (by omega) ?_
              exact kk H locs ls hR hS (lv_sub hl [2, 3, 4, 5, 6, 7] rfl)
            · have h := xpos c87 h
              refine lv_aload_n (pc := 1670) hx hb dL_law_1670 rfl (lv_at hl 5 rfl) ?_
              refine lv_iconst (pc := 1671) hx hb dL_law_1671 kc_0 ?_
              refine xr_laldk (pc := 1672) 0 hx hb hK hR ko.1 ko.2 tn_0 (vl_0 (by decide)) dL_law_1672 ?_
              refine lv_iload (pc := 1673) hx hb dL_law_1673 (lv_at hl 0 rfl) ?_
              refine lv_i2l (pc := 1675) hx hb dL_law_1675 rfl ?_
              refine W.lcmp (pc := 1676) hx hb dL_law_1676 ?_
              refine lv_if_eq (pc := 1677) (tgt := 1682) hx hb dL_law_1677 (by decide) (fun c88 => ?_) (fun c88 => ?_)
              · have h := xpos c88 h
                refine lv_goto (pc := 1682) (tgt := 1973) hx hb dL_law_1682 (by decide) ?_
                cases h
                refine W.widen (k := cells + 20) (n := slots + 2000) (by omega) (by omega) ?_
                exact kk H locs ls hR hS (lv_sub hl [2, 3, 4, 5, 6, 7] rfl)
              · have h := xneg c88 h
                refine lv_iconst (pc := 1680) hx hb dL_law_1680 kc_0 ?_
                cases h
          · have h := xneg c86 h
            refine lv_iconst (pc := 1663) hx hb dL_law_1663 kc_0 ?_
            cases h
      · have h := xneg c77 h
        refine lv_iconst (pc := 1630) hx hb dL_law_1630 kc_1 ?_
        refine lv_goto (pc := 1631) (tgt := 1635) hx hb dL_law_1631 (by decide) ?_
        refine lv_aload_n (pc := 1635) hx hb dL_law_1635 rfl (lv_at hl 1 rfl) ?_
        refine lv_iload (pc := 1636) hx hb dL_law_1636 (lv_at hl 6 rfl) ?_
        refine lv_iconst (pc := 1638) hx hb dL_law_1638 kc_2 ?_
        refine lv_iadd (pc := 1639) hx hb dL_law_1639 ?_
        refine xr_sld (pc := 1640) (j + 2) hx hb hX hbl hbA hS (xhI2 hj hL) (xhV2 hj hL) dL_law_1640 ?_
        refine lv_if_eq (pc := 1641) (tgt := 1648) hx hb dL_law_1641 (by decide) (fun c89 => ?_) (fun c89 => ?_)
        · have h := xpos c89 h
          refine lv_iconst (pc := 1648) hx hb dL_law_1648 kc_0 ?_
          obtain ⟨r90, m90, c90, h⟩ := xb_inv h
          refine xl_iV (pc := 1649) (As := [.int _, .int _]) (rest := []) ⟨hx, hb, hml, hown, hts⟩ (mX8_refusal hF _ _ _ km c90) fdX8_refusal q_m_L_211 ⟨Nat.le_of_ble_eq_true rfl, Nat.le_of_ble_eq_true rfl⟩ (xRecv hK hR (ci := 12) rfl km.1) hR hK hE hS rfl hl.1 rfl (Nat.le_of_ble_eq_true rfl) dL_law_1649 ⟨by omega, by omega⟩ (fun H locs hR hS => ?_)
          refine lv_istore (pc := 1652) (lv' := [(7, .int _), (6, .int _), (0, .ref _), (1, .ref _), (2, .ref _), (3, .ref _), (4, .ref _), (5, .int _)]) hx hb dL_law_1652 hl (Nat.le_of_ble_eq_true rfl) rfl (fun ls hl => ?_)
          refine lv_aload_n (pc := 1654) hx hb dL_law_1654 rfl (lv_at hl 4 rfl) ?_
          obtain ⟨r91, m91, c91, h⟩ := xb_inv h
          refine xl_iV (pc := 1655) (As := []) (rest := []) ⟨hx, hb, hml, hown, hts⟩ (mX8_thrown hF _ km c91) fdX8_thrown q_m_L_124 ⟨Nat.le_of_ble_eq_true rfl, Nat.le_of_ble_eq_true rfl⟩ (xRecv hK hR (ci := 12) rfl km.1) hR hK hE hS rfl hl.1 rfl (Nat.le_of_ble_eq_true rfl) dL_law_1655 ⟨by omega, by omega⟩ (fun H locs hR hS => ?_)
          refine lv_iload (pc := 1658) hx hb dL_law_1658 (lv_at hl 1 rfl) ?_
          refine lv_icmp_eq (pc := 1660) (tgt := 1665) hx hb dL_law_1660 (by decide) (fun c92 => ?_) (fun c92 => ?_)
          · have h := xpos c92 h
            refine lv_iload (pc := 1665) hx hb dL_law_1665 (lv_at hl 1 rfl) ?_
            refine lv_if_ne (pc := 1667) (tgt := 1682) hx hb dL_law_1667 (by decide) (fun c93 => ?_) (fun c93 => ?_)
            · have h := xneg c93 h
              refine lv_goto (pc := 1682) (tgt := 1973) hx hb dL_law_1682 (by decide) ?_
              cases h
              refine W.widen (k := cells + 20) (n := slots + 2000) (by omega) (by omega) ?_
              exact kk H locs ls hR hS (lv_sub hl [2, 3, 4, 5, 6, 7] rfl)
            · have h := xpos c93 h
              refine lv_aload_n (pc := 1670) hx hb dL_law_1670 rfl (lv_at hl 5 rfl) ?_
              refine lv_iconst (pc := 1671) hx hb dL_law_1671 kc_0 ?_
              refine xr_laldk (pc := 1672) 0 hx hb hK hR ko.1 ko.2 tn_0 (vl_0 (by decide)) dL_law_1672 ?_
              refine lv_iload (pc := 1673) hx hb dL_law_1673 (lv_at hl 0 rfl) ?_
              refine lv_i2l (pc := 1675) hx hb dL_law_1675 rfl ?_
              refine W.lcmp (pc := 1676) hx hb dL_law_1676 ?_
              refine lv_if_eq (pc := 1677) (tgt := 1682) hx hb dL_law_1677 (by decide) (fun c94 => ?_) (fun c94 => ?_)
              · have h := xpos c94 h
                refine lv_goto (pc := 1682) (tgt := 1973) hx hb dL_law_1682 (by decide) ?_
                cases h
                refine W.widen (k := cells + 20) (n := slots + 2000) (by omega) (by omega) ?_
                exact kk H locs ls hR hS (lv_sub hl [2, 3, 4, 5, 6, 7] rfl)
              · have h := xneg c94 h
                refine lv_iconst (pc := 1680) hx hb dL_law_1680 kc_0 ?_
                cases h
          · have h := xneg c92 h
            refine lv_iconst (pc := 1663) hx hb dL_law_1663 kc_0 ?_
            cases h
        · have h := xneg c89 h
          refine lv_iconst (pc := 1644) hx hb dL_law_1644 kc_1 ?_
          refine lv_goto (pc := 1645) (tgt := 1649) hx hb dL_law_1645 (by decide) ?_
          obtain ⟨r95, m95, c95, h⟩ := xb_inv h
          refine xl_iV (pc := 1649) (As := [.int _, .int _]) (rest := []) ⟨hx, hb, hml, hown, hts⟩ (mX8_refusal hF _ _ _ km c95) fdX8_refusal q_m_L_211 ⟨Nat.le_of_ble_eq_true rfl, Nat.le_of_ble_eq_true rfl⟩ (xRecv hK hR (ci := 12) rfl km.1) hR hK hE hS rfl hl.1 rfl (Nat.le_of_ble_eq_true rfl) dL_law_1649 ⟨by omega, by omega⟩ (fun H locs hR hS => ?_)
          refine lv_istore (pc := 1652) (lv' := [(7, .int _), (6, .int _), (0, .ref _), (1, .ref _), (2, .ref _), (3, .ref _), (4, .ref _), (5, .int _)]) hx hb dL_law_1652 hl (Nat.le_of_ble_eq_true rfl) rfl (fun ls hl => ?_)
          refine lv_aload_n (pc := 1654) hx hb dL_law_1654 rfl (lv_at hl 4 rfl) ?_
          obtain ⟨r96, m96, c96, h⟩ := xb_inv h
          refine xl_iV (pc := 1655) (As := []) (rest := []) ⟨hx, hb, hml, hown, hts⟩ (mX8_thrown hF _ km c96) fdX8_thrown q_m_L_124 ⟨Nat.le_of_ble_eq_true rfl, Nat.le_of_ble_eq_true rfl⟩ (xRecv hK hR (ci := 12) rfl km.1) hR hK hE hS rfl hl.1 rfl (Nat.le_of_ble_eq_true rfl) dL_law_1655 ⟨by omega, by omega⟩ (fun H locs hR hS => ?_)
          refine lv_iload (pc := 1658) hx hb dL_law_1658 (lv_at hl 1 rfl) ?_
          refine lv_icmp_eq (pc := 1660) (tgt := 1665) hx hb dL_law_1660 (by decide) (fun c97 => ?_) (fun c97 => ?_)
          · have h := xpos c97 h
            refine lv_iload (pc := 1665) hx hb dL_law_1665 (lv_at hl 1 rfl) ?_
            refine lv_if_ne (pc := 1667) (tgt := 1682) hx hb dL_law_1667 (by decide) (fun c98 => ?_) (fun c98 => ?_)
            · have h := xneg c98 h
              refine lv_goto (pc := 1682) (tgt := 1973) hx hb dL_law_1682 (by decide) ?_
              cases h
              refine W.widen (k := cells + 20) (n := slots + 2000) (by omega) (by omega) ?_
              exact kk H locs ls hR hS (lv_sub hl [2, 3, 4, 5, 6, 7] rfl)
            · have h := xpos c98 h
              refine lv_aload_n (pc := 1670) hx hb dL_law_1670 rfl (lv_at hl 5 rfl) ?_
              refine lv_iconst (pc := 1671) hx hb dL_law_1671 kc_0 ?_
              refine xr_laldk (pc := 1672) 0 hx hb hK hR ko.1 ko.2 tn_0 (vl_0 (by decide)) dL_law_1672 ?_
              refine lv_iload (pc := 1673) hx hb dL_law_1673 (lv_at hl 0 rfl) ?_
              refine lv_i2l (pc := 1675) hx hb dL_law_1675 rfl ?_
              refine W.lcmp (pc := 1676) hx hb dL_law_1676 ?_
              refine lv_if_eq (pc := 1677) (tgt := 1682) hx hb dL_law_1677 (by decide) (fun c99 => ?_) (fun c99 => ?_)
              · have h := xpos c99 h
                refine lv_goto (pc := 1682) (tgt := 1973) hx hb dL_law_1682 (by decide) ?_
                cases h
                refine W.widen (k := cells + 20) (n := slots + 2000) (by omega) (by omega) ?_
                exact kk H locs ls hR hS (lv_sub hl [2, 3, 4, 5, 6, 7] rfl)
              · have h := xneg c99 h
                refine lv_iconst (pc := 1680) hx hb dL_law_1680 kc_0 ?_
                cases h
          · have h := xneg c97 h
            refine lv_iconst (pc := 1663) hx hb dL_law_1663 kc_0 ?_
            cases h
set_option maxHeartbeats 1000000 in
set_option maxRecDepth 20000 in
theorem wL_26 {p : Program} {l : Launch} (hls : l.stackTraces = false) {e : Env} {s : State} {m : MethodId} {args : Array Value} {below : List Frame} {meth : Method} {c : Code} {D : va_G} {ca : Nat → ClassId} {z : Nat} {G : xG} {X : va_W} {ad av : Nat → Nat} {b L : Nat} {xs : Nat → Int32} {Q : State → Prop} {H0 : Heap} (hF : xFix z G X) (hx : p.tables.exec = Jvm.exec) (hb : c.code = cL_law) (hml : c.maxLocals = 9) (hts : ∀ w ∈ xAll, w.before args s = true) (hown : s.vm.findClass RL = some m.cls) (hK : va_K D vwCl (xT ca) s) (hE : xEv z ad av s s.heap) (hX : va_X b L xs s s.heap) (hbl : b < s.heap.size) (hbA : ¬ z ≤ b) {x md out od : Nat} (kx : xI_Coat G x) (km : xI_Model G md) (ko : xI_Longs 1 G out) {j : Nat} (hj : j + 4 ≤ L) (hL : L ≤ 2048) {cells slots : Nat} (hc : cells + 20 ≤ 603072) (hs : slots + 2000 ≤ 7211114) {μ μ1 : xM} (h : gL_26 x md out (xs (j + 1)) (xs (j + 2)) (xs (j + 3)) μ = some μ1) {H : Heap} {locs : List Loc} {ls : Array Slot} (hR : xRep D ca G X μ H) (hS : va_S (fun q => z ≤ q) s.heap H locs) (hl : lv_has ls 9 [(0, .ref b), (1, .ref x), (2, .ref md), (3, .ref out), (4, .ref od), (5, .int (nI j))])
    (kk : ∀ (H : Heap) (locs : List Loc) (ls : Array Slot), xRep D ca G X μ1 H → va_S (fun q => z ≤ q) s.heap H locs → lv_has ls 9 [(0, .ref b), (1, .ref x), (2, .ref md), (3, .ref out), (4, .ref od), (5, .int (nI j))] → W p l e room_1 s m args below meth c H locs (cells + 20) (slots + 2000) Q (F0 m 1973 ls [])) : W p l e room_1 s m args below meth c H locs cells slots Q (F0 m 1685 ls []) := by
  rw [gL_26] at h
  refine lv_aload_n (pc := 1685) hx hb dL_law_1685 rfl (lv_at hl 1 rfl) ?_
  refine lv_aload_n (pc := 1686) hx hb dL_law_1686 rfl (lv_at hl 0 rfl) ?_
  refine lv_iload (pc := 1687) hx hb dL_law_1687 (lv_at hl 5 rfl) ?_
  refine lv_iconst (pc := 1689) hx hb dL_law_1689 kc_1 ?_
  refine lv_iadd (pc := 1690) hx hb dL_law_1690 ?_
  refine xr_sld (pc := 1691) (j + 1) hx hb hX hbl hbA hS (xhI1 hj hL) (xhV1 hj hL) dL_law_1691 ?_
  refine lv_aload_n (pc := 1692) hx hb dL_law_1692 rfl (lv_at hl 3 rfl) ?_
  obtain ⟨r1, m1, c1, h⟩ := xb_inv h
  refine xl_call (pc := 1693) (As := [.ref _, .int _, .ref _]) (rest := []) ⟨hx, hb, hml, hown, hts⟩ (mL_account hls hF _ _ _ kx ko c1) fhL_account q_m_L_212 ⟨Nat.le_of_ble_eq_true rfl, Nat.le_of_ble_eq_true rfl⟩ hR hK hE hS rfl hl.1 rfl (Nat.le_of_ble_eq_true rfl) dL_law_1693 ⟨by omega, by omega⟩ (fun H locs hR hS => ?_)
  refine lv_istore (pc := 1696) (lv' := [(6, .int _), (0, .ref _), (1, .ref _), (2, .ref _), (3, .ref _), (4, .ref _), (5, .int _)]) hx hb dL_law_1696 hl (Nat.le_of_ble_eq_true rfl) rfl (fun ls hl => ?_)
  refine lv_aload_n (pc := 1698) hx hb dL_law_1698 rfl (lv_at hl 3 rfl) ?_
  refine lv_aload_n (pc := 1699) hx hb dL_law_1699 rfl (lv_at hl 1 rfl) ?_
  refine lv_iload (pc := 1700) hx hb dL_law_1700 (lv_at hl 6 rfl) ?_
  refine lv_iconst (pc := 1702) hx hb dL_law_1702 kc_1 ?_
  refine lv_iadd (pc := 1703) hx hb dL_law_1703 ?_
  refine xr_sld (pc := 1704) (j + 1) hx hb hX hbl hbA hS (xhI1 hj hL) (xhV1 hj hL) dL_law_1704 ?_
  obtain ⟨r2, m2, c2, h⟩ := xb_inv h
  refine xl_iV (pc := 1705) (As := [.int _]) (rest := []) ⟨hx, hb, hml, hown, hts⟩ (mX8_account hF _ _ km c2) fdX8_account q_m_L_214 ⟨Nat.le_of_ble_eq_true rfl, Nat.le_of_ble_eq_true rfl⟩ (xRecv hK hR (ci := 12) rfl km.1) hR hK hE hS rfl hl.1 rfl (Nat.le_of_ble_eq_true rfl) dL_law_1705 ⟨by omega, by omega⟩ (fun H locs hR hS => ?_)
  refine lv_istore (pc := 1708) (lv' := [(7, .int _), (6, .int _), (0, .ref _), (1, .ref _), (2, .ref _), (3, .ref _), (4, .ref _), (5, .int _)]) hx hb dL_law_1708 hl (Nat.le_of_ble_eq_true rfl) rfl (fun ls hl => ?_)
  refine lv_aload_n (pc := 1710) hx hb dL_law_1710 rfl (lv_at hl 4 rfl) ?_
  obtain ⟨r3, m3, c3, h⟩ := xb_inv h
  refine xl_iV (pc := 1711) (As := []) (rest := []) ⟨hx, hb, hml, hown, hts⟩ (mX8_thrown hF _ km c3) fdX8_thrown q_m_L_124 ⟨Nat.le_of_ble_eq_true rfl, Nat.le_of_ble_eq_true rfl⟩ (xRecv hK hR (ci := 12) rfl km.1) hR hK hE hS rfl hl.1 rfl (Nat.le_of_ble_eq_true rfl) dL_law_1711 ⟨by omega, by omega⟩ (fun H locs hR hS => ?_)
  refine lv_iload (pc := 1714) hx hb dL_law_1714 (lv_at hl 1 rfl) ?_
  refine lv_icmp_eq (pc := 1716) (tgt := 1721) hx hb dL_law_1716 (by decide) (fun c4 => ?_) (fun c4 => ?_)
  · have h := xpos c4 h
    refine lv_iload (pc := 1721) hx hb dL_law_1721 (lv_at hl 1 rfl) ?_
    refine lv_if_ne (pc := 1723) (tgt := 1738) hx hb dL_law_1723 (by decide) (fun c5 => ?_) (fun c5 => ?_)
    · have h := xneg c5 h
      refine lv_goto (pc := 1738) (tgt := 1973) hx hb dL_law_1738 (by decide) ?_
      cases h
      refine W.widen (k := cells + 20) (n := slots + 2000) (by omega) (by omega) ?_
      exact kk H locs ls hR hS (lv_sub hl [2, 3, 4, 5, 6, 7] rfl)
    · have h := xpos c5 h
      refine lv_aload_n (pc := 1726) hx hb dL_law_1726 rfl (lv_at hl 5 rfl) ?_
      refine lv_iconst (pc := 1727) hx hb dL_law_1727 kc_0 ?_
      refine xr_laldk (pc := 1728) 0 hx hb hK hR ko.1 ko.2 tn_0 (vl_0 (by decide)) dL_law_1728 ?_
      refine lv_iload (pc := 1729) hx hb dL_law_1729 (lv_at hl 0 rfl) ?_
      refine lv_i2l (pc := 1731) hx hb dL_law_1731 rfl ?_
      refine W.lcmp (pc := 1732) hx hb dL_law_1732 ?_
      refine lv_if_eq (pc := 1733) (tgt := 1738) hx hb dL_law_1733 (by decide) (fun c6 => ?_) (fun c6 => ?_)
      · have h := xpos c6 h
        refine lv_goto (pc := 1738) (tgt := 1973) hx hb dL_law_1738 (by decide) ?_
        cases h
        refine W.widen (k := cells + 20) (n := slots + 2000) (by omega) (by omega) ?_
        exact kk H locs ls hR hS (lv_sub hl [2, 3, 4, 5, 6, 7] rfl)
      · have h := xneg c6 h
        refine lv_iconst (pc := 1736) hx hb dL_law_1736 kc_0 ?_
        cases h
  · have h := xneg c4 h
    refine lv_iconst (pc := 1719) hx hb dL_law_1719 kc_0 ?_
    cases h
set_option maxHeartbeats 1000000 in
set_option maxRecDepth 20000 in
theorem wL_29 {p : Program} {l : Launch} (hls : l.stackTraces = false) {e : Env} {s : State} {m : MethodId} {args : Array Value} {below : List Frame} {meth : Method} {c : Code} {D : va_G} {ca : Nat → ClassId} {z : Nat} {G : xG} {X : va_W} {ad av : Nat → Nat} {b L : Nat} {xs : Nat → Int32} {Q : State → Prop} {H0 : Heap} (hF : xFix z G X) (hx : p.tables.exec = Jvm.exec) (hb : c.code = cL_law) (hml : c.maxLocals = 9) (hts : ∀ w ∈ xAll, w.before args s = true) (hown : s.vm.findClass RL = some m.cls) (hK : va_K D vwCl (xT ca) s) (hE : xEv z ad av s s.heap) (hX : va_X b L xs s s.heap) (hbl : b < s.heap.size) (hbA : ¬ z ≤ b) {x md out od : Nat} (kx : xI_Coat G x) (km : xI_Model G md) (ko : xI_Longs 1 G out) {j : Nat} (hj : j + 4 ≤ L) (hL : L ≤ 2048) {cells slots : Nat} (hc : cells + 20 ≤ 603072) (hs : slots + 2000 ≤ 7211114) {μ μ1 : xM} (h : gL_29 x md out (xs (j + 1)) (xs (j + 2)) (xs (j + 3)) μ = some μ1) {H : Heap} {locs : List Loc} {ls : Array Slot} (hR : xRep D ca G X μ H) (hS : va_S (fun q => z ≤ q) s.heap H locs) (hl : lv_has ls 9 [(0, .ref b), (1, .ref x), (2, .ref md), (3, .ref out), (4, .ref od), (5, .int (nI j))])
    (kk : ∀ (H : Heap) (locs : List Loc) (ls : Array Slot), xRep D ca G X μ1 H → va_S (fun q => z ≤ q) s.heap H locs → lv_has ls 9 [(0, .ref b), (1, .ref x), (2, .ref md), (3, .ref out), (4, .ref od), (5, .int (nI j))] → W p l e room_1 s m args below meth c H locs (cells + 20) (slots + 2000) Q (F0 m 1973 ls [])) : W p l e room_1 s m args below meth c H locs cells slots Q (F0 m 1872 ls []) := by
  rw [gL_29] at h
  refine lv_aload_n (pc := 1872) hx hb dL_law_1872 rfl (lv_at hl 1 rfl) ?_
  refine lv_aload_n (pc := 1873) hx hb dL_law_1873 rfl (lv_at hl 3 rfl) ?_
  obtain ⟨r1, m1, c1, h⟩ := xb_inv h
  refine xl_call (pc := 1874) (As := [.ref _, .ref _]) (rest := []) ⟨hx, hb, hml, hown, hts⟩ (mL_undo hls hF _ _ kx ko c1) fhL_undo q_m_L_222 ⟨Nat.le_of_ble_eq_true rfl, Nat.le_of_ble_eq_true rfl⟩ hR hK hE hS rfl hl.1 rfl (Nat.le_of_ble_eq_true rfl) dL_law_1874 ⟨by omega, by omega⟩ (fun H locs hR hS => ?_)
  refine lv_istore (pc := 1877) (lv' := [(6, .int _), (0, .ref _), (1, .ref _), (2, .ref _), (3, .ref _), (4, .ref _), (5, .int _)]) hx hb dL_law_1877 hl (Nat.le_of_ble_eq_true rfl) rfl (fun ls hl => ?_)
  refine lv_aload_n (pc := 1879) hx hb dL_law_1879 rfl (lv_at hl 3 rfl) ?_
  obtain ⟨r2, m2, c2, h⟩ := xb_inv h
  refine xl_iV (pc := 1880) (As := []) (rest := []) ⟨hx, hb, hml, hown, hts⟩ (mX8_undo hF _ km c2) fdX8_undo q_m_L_224 ⟨Nat.le_of_ble_eq_true rfl, Nat.le_of_ble_eq_true rfl⟩ (xRecv hK hR (ci := 12) rfl km.1) hR hK hE hS rfl hl.1 rfl (Nat.le_of_ble_eq_true rfl) dL_law_1880 ⟨by omega, by omega⟩ (fun H locs hR hS => ?_)
  refine lv_istore (pc := 1883) (lv' := [(7, .int _), (6, .int _), (0, .ref _), (1, .ref _), (2, .ref _), (3, .ref _), (4, .ref _), (5, .int _)]) hx hb dL_law_1883 hl (Nat.le_of_ble_eq_true rfl) rfl (fun ls hl => ?_)
  refine lv_aload_n (pc := 1885) hx hb dL_law_1885 rfl (lv_at hl 4 rfl) ?_
  obtain ⟨r3, m3, c3, h⟩ := xb_inv h
  refine xl_iV (pc := 1886) (As := []) (rest := []) ⟨hx, hb, hml, hown, hts⟩ (mX8_thrown hF _ km c3) fdX8_thrown q_m_L_124 ⟨Nat.le_of_ble_eq_true rfl, Nat.le_of_ble_eq_true rfl⟩ (xRecv hK hR (ci := 12) rfl km.1) hR hK hE hS rfl hl.1 rfl (Nat.le_of_ble_eq_true rfl) dL_law_1886 ⟨by omega, by omega⟩ (fun H locs hR hS => ?_)
  refine lv_iload (pc := 1889) hx hb dL_law_1889 (lv_at hl 1 rfl) ?_
  refine lv_icmp_eq (pc := 1891) (tgt := 1896) hx hb dL_law_1891 (by decide) (fun c4 => ?_) (fun c4 => ?_)
  · have h := xpos c4 h
    refine lv_iload (pc := 1896) hx hb dL_law_1896 (lv_at hl 1 rfl) ?_
    refine lv_if_ne (pc := 1898) (tgt := 1913) hx hb dL_law_1898 (by decide) (fun c5 => ?_) (fun c5 => ?_)
    · have h := xneg c5 h
      refine lv_goto (pc := 1913) (tgt := 1973) hx hb dL_law_1913 (by decide) ?_
      cases h
      refine W.widen (k := cells + 20) (n := slots + 2000) (by omega) (by omega) ?_
      exact kk H locs ls hR hS (lv_sub hl [2, 3, 4, 5, 6, 7] rfl)
    · have h := xpos c5 h
      refine lv_aload_n (pc := 1901) hx hb dL_law_1901 rfl (lv_at hl 5 rfl) ?_
      refine lv_iconst (pc := 1902) hx hb dL_law_1902 kc_0 ?_
      refine xr_laldk (pc := 1903) 0 hx hb hK hR ko.1 ko.2 tn_0 (vl_0 (by decide)) dL_law_1903 ?_
      refine lv_iload (pc := 1904) hx hb dL_law_1904 (lv_at hl 0 rfl) ?_
      refine lv_i2l (pc := 1906) hx hb dL_law_1906 rfl ?_
      refine W.lcmp (pc := 1907) hx hb dL_law_1907 ?_
      refine lv_if_eq (pc := 1908) (tgt := 1913) hx hb dL_law_1908 (by decide) (fun c6 => ?_) (fun c6 => ?_)
      · have h := xpos c6 h
        refine lv_goto (pc := 1913) (tgt := 1973) hx hb dL_law_1913 (by decide) ?_
        cases h
        refine W.widen (k := cells + 20) (n := slots + 2000) (by omega) (by omega) ?_
        exact kk H locs ls hR hS (lv_sub hl [2, 3, 4, 5, 6, 7] rfl)
      · have h := xneg c6 h
        refine lv_iconst (pc := 1911) hx hb dL_law_1911 kc_0 ?_
        cases h
  · have h := xneg c4 h
    refine lv_iconst (pc := 1894) hx hb dL_law_1894 kc_0 ?_
    cases h
set_option maxHeartbeats 1000000 in
set_option maxRecDepth 20000 in
theorem wL_30 {p : Program} {l : Launch} (hls : l.stackTraces = false) {e : Env} {s : State} {m : MethodId} {args : Array Value} {below : List Frame} {meth : Method} {c : Code} {D : va_G} {ca : Nat → ClassId} {z : Nat} {G : xG} {X : va_W} {ad av : Nat → Nat} {b L : Nat} {xs : Nat → Int32} {Q : State → Prop} {H0 : Heap} (hF : xFix z G X) (hx : p.tables.exec = Jvm.exec) (hb : c.code = cL_law) (hml : c.maxLocals = 9) (hts : ∀ w ∈ xAll, w.before args s = true) (hown : s.vm.findClass RL = some m.cls) (hK : va_K D vwCl (xT ca) s) (hE : xEv z ad av s s.heap) (hX : va_X b L xs s s.heap) (hbl : b < s.heap.size) (hbA : ¬ z ≤ b) {x md out od : Nat} (kx : xI_Coat G x) (km : xI_Model G md) (ko : xI_Longs 1 G out) {j : Nat} (hj : j + 4 ≤ L) (hL : L ≤ 2048) {cells slots : Nat} (hc : cells + 20 ≤ 603072) (hs : slots + 2000 ≤ 7211114) {μ μ1 : xM} (h : gL_30 x md out (xs (j + 1)) (xs (j + 2)) (xs (j + 3)) μ = some μ1) {H : Heap} {locs : List Loc} {ls : Array Slot} (hR : xRep D ca G X μ H) (hS : va_S (fun q => z ≤ q) s.heap H locs) (hl : lv_has ls 9 [(0, .ref b), (1, .ref x), (2, .ref md), (3, .ref out), (4, .ref od), (5, .int (nI j))])
    (kk : ∀ (H : Heap) (locs : List Loc) (ls : Array Slot), xRep D ca G X μ1 H → va_S (fun q => z ≤ q) s.heap H locs → lv_has ls 9 [(0, .ref b), (1, .ref x), (2, .ref md), (3, .ref out), (4, .ref od), (5, .int (nI j))] → W p l e room_1 s m args below meth c H locs (cells + 20) (slots + 2000) Q (F0 m 1973 ls [])) : W p l e room_1 s m args below meth c H locs cells slots Q (F0 m 1916 ls []) := by
  rw [gL_30] at h
  refine lv_aload_n (pc := 1916) hx hb dL_law_1916 rfl (lv_at hl 1 rfl) ?_
  obtain ⟨r1, m1, c1, h⟩ := xb_inv h
  refine xl_iV (pc := 1917) (As := []) (rest := []) ⟨hx, hb, hml, hown, hts⟩ (mX7_save hF _ kx c1) fdX7_save q_m_L_225 ⟨Nat.le_of_ble_eq_true rfl, Nat.le_of_ble_eq_true rfl⟩ (xRecv hK hR (ci := 11) rfl kx.1) hR hK hE hS rfl hl.1 rfl (Nat.le_of_ble_eq_true rfl) dL_law_1917 ⟨by omega, by omega⟩ (fun H locs hR hS => ?_)
  refine lv_aload_n (pc := 1920) hx hb dL_law_1920 rfl (lv_at hl 2 rfl) ?_
  obtain ⟨r2, m2, c2, h⟩ := xb_inv h
  refine xl_iV (pc := 1921) (As := []) (rest := [.int _]) ⟨hx, hb, hml, hown, hts⟩ (mX8_save hF _ km c2) fdX8_save q_m_L_228 ⟨Nat.le_of_ble_eq_true rfl, Nat.le_of_ble_eq_true rfl⟩ (xRecv hK hR (ci := 12) rfl km.1) hR hK hE hS rfl hl.1 rfl (Nat.le_of_ble_eq_true rfl) dL_law_1921 ⟨by omega, by omega⟩ (fun H locs hR hS => ?_)
  refine lv_icmp_eq (pc := 1924) (tgt := 1973) hx hb dL_law_1924 (by decide) (fun c3 => ?_) (fun c3 => ?_)
  · have h := xpos c3 h
    cases h
    refine W.widen (k := cells + 20) (n := slots + 2000) (by omega) (by omega) ?_
    exact kk H locs ls hR hS (lv_sub hl [0, 1, 2, 3, 4, 5] rfl)
  · have h := xneg c3 h
    refine lv_iconst (pc := 1927) hx hb dL_law_1927 kc_0 ?_
    cases h
set_option maxHeartbeats 1000000 in
set_option maxRecDepth 20000 in
theorem wL_31 {p : Program} {l : Launch} (hls : l.stackTraces = false) {e : Env} {s : State} {m : MethodId} {args : Array Value} {below : List Frame} {meth : Method} {c : Code} {D : va_G} {ca : Nat → ClassId} {z : Nat} {G : xG} {X : va_W} {ad av : Nat → Nat} {b L : Nat} {xs : Nat → Int32} {Q : State → Prop} {H0 : Heap} (hF : xFix z G X) (hx : p.tables.exec = Jvm.exec) (hb : c.code = cL_law) (hml : c.maxLocals = 9) (hts : ∀ w ∈ xAll, w.before args s = true) (hown : s.vm.findClass RL = some m.cls) (hK : va_K D vwCl (xT ca) s) (hE : xEv z ad av s s.heap) (hX : va_X b L xs s s.heap) (hbl : b < s.heap.size) (hbA : ¬ z ≤ b) {x md out od : Nat} (kx : xI_Coat G x) (km : xI_Model G md) (ko : xI_Longs 1 G out) {j : Nat} (hj : j + 4 ≤ L) (hL : L ≤ 2048) {cells slots : Nat} (hc : cells + 20 ≤ 603072) (hs : slots + 2000 ≤ 7211114) {μ μ1 : xM} (h : gL_31 x md out (xs (j + 1)) (xs (j + 2)) (xs (j + 3)) μ = some μ1) {H : Heap} {locs : List Loc} {ls : Array Slot} (hR : xRep D ca G X μ H) (hS : va_S (fun q => z ≤ q) s.heap H locs) (hl : lv_has ls 9 [(0, .ref b), (1, .ref x), (2, .ref md), (3, .ref out), (4, .ref od), (5, .int (nI j))])
    (kk : ∀ (H : Heap) (locs : List Loc) (ls : Array Slot), xRep D ca G X μ1 H → va_S (fun q => z ≤ q) s.heap H locs → lv_has ls 9 [(0, .ref b), (1, .ref x), (2, .ref md), (3, .ref out), (4, .ref od), (5, .int (nI j))] → W p l e room_1 s m args below meth c H locs (cells + 20) (slots + 2000) Q (F0 m 1973 ls [])) : W p l e room_1 s m args below meth c H locs cells slots Q (F0 m 1929 ls []) := by
  rw [gL_31] at h
  refine lv_aload_n (pc := 1929) hx hb dL_law_1929 rfl (lv_at hl 1 rfl) ?_
  refine lv_aload_n (pc := 1930) hx hb dL_law_1930 rfl (lv_at hl 3 rfl) ?_
  obtain ⟨r1, m1, c1, h⟩ := xb_inv h
  refine xl_call (pc := 1931) (As := [.ref _, .ref _]) (rest := []) ⟨hx, hb, hml, hown, hts⟩ (mL_restore hls hF _ _ kx ko c1) fhL_restore q_m_L_229 ⟨Nat.le_of_ble_eq_true rfl, Nat.le_of_ble_eq_true rfl⟩ hR hK hE hS rfl hl.1 rfl (Nat.le_of_ble_eq_true rfl) dL_law_1931 ⟨by omega, by omega⟩ (fun H locs hR hS => ?_)
  refine lv_istore (pc := 1934) (lv' := [(6, .int _), (0, .ref _), (1, .ref _), (2, .ref _), (3, .ref _), (4, .ref _), (5, .int _)]) hx hb dL_law_1934 hl (Nat.le_of_ble_eq_true rfl) rfl (fun ls hl => ?_)
  refine lv_aload_n (pc := 1936) hx hb dL_law_1936 rfl (lv_at hl 3 rfl) ?_
  obtain ⟨r2, m2, c2, h⟩ := xb_inv h
  refine xl_iV (pc := 1937) (As := []) (rest := []) ⟨hx, hb, hml, hown, hts⟩ (mX8_restore hF _ km c2) fdX8_restore q_m_L_231 ⟨Nat.le_of_ble_eq_true rfl, Nat.le_of_ble_eq_true rfl⟩ (xRecv hK hR (ci := 12) rfl km.1) hR hK hE hS rfl hl.1 rfl (Nat.le_of_ble_eq_true rfl) dL_law_1937 ⟨by omega, by omega⟩ (fun H locs hR hS => ?_)
  refine lv_istore (pc := 1940) (lv' := [(7, .int _), (6, .int _), (0, .ref _), (1, .ref _), (2, .ref _), (3, .ref _), (4, .ref _), (5, .int _)]) hx hb dL_law_1940 hl (Nat.le_of_ble_eq_true rfl) rfl (fun ls hl => ?_)
  refine lv_aload_n (pc := 1942) hx hb dL_law_1942 rfl (lv_at hl 4 rfl) ?_
  obtain ⟨r3, m3, c3, h⟩ := xb_inv h
  refine xl_iV (pc := 1943) (As := []) (rest := []) ⟨hx, hb, hml, hown, hts⟩ (mX8_thrown hF _ km c3) fdX8_thrown q_m_L_124 ⟨Nat.le_of_ble_eq_true rfl, Nat.le_of_ble_eq_true rfl⟩ (xRecv hK hR (ci := 12) rfl km.1) hR hK hE hS rfl hl.1 rfl (Nat.le_of_ble_eq_true rfl) dL_law_1943 ⟨by omega, by omega⟩ (fun H locs hR hS => ?_)
  refine lv_iload (pc := 1946) hx hb dL_law_1946 (lv_at hl 1 rfl) ?_
  refine lv_icmp_eq (pc := 1948) (tgt := 1953) hx hb dL_law_1948 (by decide) (fun c4 => ?_) (fun c4 => ?_)
  · have h := xpos c4 h
    refine lv_iload (pc := 1953) hx hb dL_law_1953 (lv_at hl 1 rfl) ?_
    refine lv_if_ne (pc := 1955) (tgt := 1970) hx hb dL_law_1955 (by decide) (fun c5 => ?_) (fun c5 => ?_)
    · have h := xneg c5 h
      refine lv_goto (pc := 1970) (tgt := 1973) hx hb dL_law_1970 (by decide) ?_
      cases h
      refine W.widen (k := cells + 20) (n := slots + 2000) (by omega) (by omega) ?_
      exact kk H locs ls hR hS (lv_sub hl [2, 3, 4, 5, 6, 7] rfl)
    · have h := xpos c5 h
      refine lv_aload_n (pc := 1958) hx hb dL_law_1958 rfl (lv_at hl 5 rfl) ?_
      refine lv_iconst (pc := 1959) hx hb dL_law_1959 kc_0 ?_
      refine xr_laldk (pc := 1960) 0 hx hb hK hR ko.1 ko.2 tn_0 (vl_0 (by decide)) dL_law_1960 ?_
      refine lv_iload (pc := 1961) hx hb dL_law_1961 (lv_at hl 0 rfl) ?_
      refine lv_i2l (pc := 1963) hx hb dL_law_1963 rfl ?_
      refine W.lcmp (pc := 1964) hx hb dL_law_1964 ?_
      refine lv_if_eq (pc := 1965) (tgt := 1970) hx hb dL_law_1965 (by decide) (fun c6 => ?_) (fun c6 => ?_)
      · have h := xpos c6 h
        refine lv_goto (pc := 1970) (tgt := 1973) hx hb dL_law_1970 (by decide) ?_
        cases h
        refine W.widen (k := cells + 20) (n := slots + 2000) (by omega) (by omega) ?_
        exact kk H locs ls hR hS (lv_sub hl [2, 3, 4, 5, 6, 7] rfl)
      · have h := xneg c6 h
        refine lv_iconst (pc := 1968) hx hb dL_law_1968 kc_0 ?_
        cases h
  · have h := xneg c4 h
    refine lv_iconst (pc := 1951) hx hb dL_law_1951 kc_0 ?_
    cases h
