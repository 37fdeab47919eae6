set_option maxHeartbeats 4000000 in
theorem law_0 {X : FX} {l : Launch} {D : va_G} {cy : Nat → ClassId} {b Ln : Nat} {xs : Nat → Int32} {cells slots h : Nat} {w w2 : FW} {i a1 a2 a3 : Int32} {x m o oD : Nat} {v : Int64} {vD : UInt64} (hC : fOK X cL_law 9 RL room_1 l D cy) (hst : l.stackTraces = false) (hN : gNcX X) (hS : gScr X b Ln xs) (ho : o < oD) (s1 : vp_in (i + 1) Ln) (e1 : xs (i + 1).toNatClampNeg = a1) (s2 : vp_in (i + 2) Ln) (e2 : xs (i + 2).toNatClampNeg = a2) (s3 : vp_in (i + 3) Ln) (e3 : xs (i + 3).toNatClampNeg = a3) (hx : w.1 x = 5) (hm : w.1 m = 6) (hc1 : cells + 3 ≤ 622912) (hc2 : slots + 18 ≤ 7151591) (hK : KK0 x m a1 a2 a3 w w2)
    (k : ∀ (h' : Nat) (v' : Int64) (vD' : UInt64), h ≤ h' → gAt X (cells + 3) (slots + 18) 9 w2 h' (EE cy o oD v' vD') [(5, .int i), (4, .ref oD), (3, .ref o), (2, .ref m), (1, .ref x), (0, .ref b)] [] 2923) : gAt X cells slots 9 w h (EE cy o oD v vD) [(5, .int i), (4, .ref oD), (3, .ref o), (2, .ref m), (1, .ref x), (0, .ref b)] [] 232 := by
  obtain ⟨rx, w1, b9, hF1, hF2, hv⟩ := hK
  refine g_aload_n hC dL_law_232 rfl 4 rfl ?_
  refine g_callV hC (rv := some (.int rx)) [] (c_X4_clear l D cy x w _ hF1) q_363 q_132 q_360 q_361 q_362 h9_X4_clear (T := TX4) (N := 15) (ci := 4) rfl hx ⟨Nat.le_of_ble_eq_true rfl, Nat.le_of_ble_eq_true rfl⟩ ⟨by show _ + 0 ≤ 622912; omega, by show _ + 0 ≤ 7151591; omega⟩ (Nat.le_of_ble_eq_true rfl) rfl dL_law_233 (fun h1 hh1 hs1 => ?_)
  refine g_cs cells slots rfl rfl ?_
  refine g_aload_n hC dL_law_236 rfl 3 rfl ?_
  refine g_callV hC (rv := some (.int b9)) [] (c_X5_clear l D cy m w1 _ hF2) q_1336 q_137 q_1333 q_1334 q_1335 h9_X5_clear (T := TX5) (N := 23) (ci := 5) rfl (fSm.k hs1 hm) ⟨Nat.le_of_ble_eq_true rfl, Nat.le_of_ble_eq_true rfl⟩ ⟨by show _ + 0 ≤ 622912; omega, by show _ + 0 ≤ 7151591; omega⟩ (Nat.le_of_ble_eq_true rfl) rfl dL_law_237 (fun h2 hh2 hs2 => ?_)
  refine g_cs cells slots rfl rfl ?_
  refine g_icmp_eq hC 2923 dL_law_240 (by decide) (fun _ => ?_) (fun c9 => absurd hv c9)
  refine g_widen (k' := cells + 3) (s' := slots + 18) (by omega) (by omega) ?_
  exact k _ _ _ (by omega)
set_option maxHeartbeats 4000000 in
theorem law_1 {X : FX} {l : Launch} {D : va_G} {cy : Nat → ClassId} {b Ln : Nat} {xs : Nat → Int32} {cells slots h : Nat} {w w2 : FW} {i a1 a2 a3 : Int32} {x m o oD : Nat} {v : Int64} {vD : UInt64} (hC : fOK X cL_law 9 RL room_1 l D cy) (hst : l.stackTraces = false) (hN : gNcX X) (hS : gScr X b Ln xs) (ho : o < oD) (s1 : vp_in (i + 1) Ln) (e1 : xs (i + 1).toNatClampNeg = a1) (s2 : vp_in (i + 2) Ln) (e2 : xs (i + 2).toNatClampNeg = a2) (s3 : vp_in (i + 3) Ln) (e3 : xs (i + 3).toNatClampNeg = a3) (hx : w.1 x = 5) (hm : w.1 m = 6) (hc1 : cells + 3 ≤ 622912) (hc2 : slots + 18 ≤ 7151591) (hK : KK1 x m a1 a2 a3 w w2)
    (k : ∀ (h' : Nat) (v' : Int64) (vD' : UInt64), h ≤ h' → gAt X (cells + 3) (slots + 18) 9 w2 h' (EE cy o oD v' vD') [(5, .int i), (4, .ref oD), (3, .ref o), (2, .ref m), (1, .ref x), (0, .ref b)] [] 2923) : gAt X cells slots 9 w h (EE cy o oD v vD) [(5, .int i), (4, .ref oD), (3, .ref o), (2, .ref m), (1, .ref x), (0, .ref b)] [] 245 := by
  obtain ⟨rx, w1, b9, t, hF1, hF2, hF3, hes, ht, hv⟩ := hK
  refine g_aload_n hC dL_law_245 rfl 4 rfl ?_
  refine g_aload_n hC dL_law_246 rfl 5 rfl ?_
  refine g_iload hC dL_law_247 0 rfl ?_
  refine g_iconst (v := 1) hC dL_law_249 (by decide) ?_
  refine g_iadd hC dL_law_250 ?_
  refine g_sald hC hS s1 e1 dL_law_251 ?_
  refine g_i2c hC dL_law_252 ?_
  refine g_aload_n hC dL_law_253 rfl 2 rfl ?_
  refine g_callW hC hst [.ref x, .int (fch a1), .ref o] hN (c_L_letter l D cy x (fch a1) o w w1 v rx hF1 hx hes) q_623 q_131 q_621 q_622 h9_L_letter ⟨Nat.le_of_ble_eq_true rfl, Nat.le_of_ble_eq_true rfl⟩ ⟨by show _ + 1 ≤ 622912; omega, by show _ + 6 ≤ 7151591; omega⟩ (Nat.le_of_ble_eq_true rfl) (gE2_b _ _ ho) rfl dL_law_254 (fun h1 hh1 hs1 => ?_)
  refine g_cs (cells + 1) (slots + 6) rfl rfl ?_
  refine g_nm h1 (gE2 o (some (.inl (wO rx (arrV (cy 5) 1 (fun _ => .long v)) (fun v => arrV (cy 5) 1 (fun _ => .long v.toInt64))))) oD (some (.inl (arrV (cy 6) 1 (fun _ => .double vD))))) w1 [(5, .int i), (4, .ref oD), (3, .ref o), (2, .ref m), (1, .ref x), (0, .ref b)] rfl (gE2_upb _ _ _ ho).symm rfl rfl ?_
  refine g_istore (L' := [(6, .int (wK [1, 4] rx)), (5, .int i), (4, .ref oD), (3, .ref o), (2, .ref m), (1, .ref x), (0, .ref b)]) hC dL_law_257 (by decide) rfl ?_
  refine g_aload_n hC dL_law_259 rfl 4 rfl ?_
  refine g_aload_n hC dL_law_260 rfl 6 rfl ?_
  refine g_iload hC dL_law_261 1 rfl ?_
  refine g_iconst (v := 1) hC dL_law_263 (by decide) ?_
  refine g_iadd hC dL_law_264 ?_
  refine g_sald hC hS s1 e1 dL_law_265 ?_
  refine g_i2c hC dL_law_266 ?_
  refine g_callV hC (rv := some (.int b9)) [.int (fch a1)] (c_X5_letter l D cy m (fch a1) w1 _ hF2) q_1340 q_137 q_1337 q_1338 q_1339 h9_X5_letter (T := TX5) (N := 23) (ci := 5) rfl (fSm.k hs1 hm) ⟨Nat.le_of_ble_eq_true rfl, Nat.le_of_ble_eq_true rfl⟩ ⟨by show _ + 0 ≤ 622912; omega, by show _ + 0 ≤ 7151591; omega⟩ (Nat.le_of_ble_eq_true rfl) rfl dL_law_267 (fun h2 hh2 hs2 => ?_)
  refine g_cs (cells + 1) (slots + 6) rfl rfl ?_
  refine g_istore (L' := [(7, .int b9), (6, .int (wK [1, 4] rx)), (5, .int i), (4, .ref oD), (3, .ref o), (2, .ref m), (1, .ref x), (0, .ref b)]) hC dL_law_270 (by decide) rfl ?_
  refine g_aload_n hC dL_law_272 rfl 5 rfl ?_
  refine g_callV hC (rv := some (.int t)) [] (c_X5_thrown l D cy m w2 _ hF3) q_1332 q_137 q_1329 q_1330 q_1331 h9_X5_thrown (T := TX5) (N := 23) (ci := 5) rfl (fSm.k (fSm.tr hs2 hs1) hm) ⟨Nat.le_of_ble_eq_true rfl, Nat.le_of_ble_eq_true rfl⟩ ⟨by show _ + 0 ≤ 622912; omega, by show _ + 0 ≤ 7151591; omega⟩ (Nat.le_of_ble_eq_true rfl) rfl dL_law_273 (fun h3 hh3 hs3 => ?_)
  refine g_cs (cells + 1) (slots + 6) rfl rfl ?_
  refine g_iload hC dL_law_276 1 rfl ?_
  refine g_icmp_eq hC 283 dL_law_278 (by decide) (fun _ => ?_) (fun c9 => absurd ht c9)
  refine g_iload hC dL_law_283 1 rfl ?_
  have KE : gAt X (cells + 1) (slots + 6) 9 w2 h3 (gE2 o (some (.inl (wO rx (arrV (cy 5) 1 (fun _ => .long v)) (fun v => arrV (cy 5) 1 (fun _ => .long v.toInt64))))) oD (some (.inl (arrV (cy 6) 1 (fun _ => .double vD))))) [(7, .int b9), (6, .int (wK [1, 4] rx)), (5, .int i), (4, .ref oD), (3, .ref o), (2, .ref m), (1, .ref x), (0, .ref b)] [] 300 := by
    refine g_goto hC 2923 dL_law_300 (by decide) ?_
    refine g_sub (L' := [(5, .int i), (4, .ref oD), (3, .ref o), (2, .ref m), (1, .ref x), (0, .ref b)]) [2, 3, 4, 5, 6, 7] rfl ?_
    refine g_widen (k' := cells + 3) (s' := slots + 18) (by omega) (by omega) ?_
    cases rx with
    | inl u => exact k _ _ _ (by omega)
    | inr e => exact k _ _ _ (by omega)
  refine g_if_ne hC 300 dL_law_285 (by decide) (fun _ => KE) (fun c9 => ?_)
  obtain ⟨u, rfl⟩ := wK_0 (by decide) hes c9
  obtain rfl := hv u rfl
  refine g_aload_n hC dL_law_288 rfl 4 rfl ?_
  refine g_iconst (v := 0) hC dL_law_289 (by decide) ?_
  refine g_laldE (v := u.toInt64) hC (gE2_b _ _ ho) dL_law_290 ?_
  refine g_iload hC dL_law_291 0 rfl ?_
  refine g_i2l hC dL_law_293 ?_
  refine g_lcmp hC dL_law_294 ?_
  rw [lg_self]
  exact g_if_eq hC 300 dL_law_295 (by decide) (fun _ => KE) (fun c9 => absurd rfl c9)
set_option maxHeartbeats 4000000 in
theorem law_2 {X : FX} {l : Launch} {D : va_G} {cy : Nat → ClassId} {b Ln : Nat} {xs : Nat → Int32} {cells slots h : Nat} {w w2 : FW} {i a1 a2 a3 : Int32} {x m o oD : Nat} {v : Int64} {vD : UInt64} (hC : fOK X cL_law 9 RL room_1 l D cy) (hst : l.stackTraces = false) (hN : gNcX X) (hS : gScr X b Ln xs) (ho : o < oD) (s1 : vp_in (i + 1) Ln) (e1 : xs (i + 1).toNatClampNeg = a1) (s2 : vp_in (i + 2) Ln) (e2 : xs (i + 2).toNatClampNeg = a2) (s3 : vp_in (i + 3) Ln) (e3 : xs (i + 3).toNatClampNeg = a3) (hx : w.1 x = 5) (hm : w.1 m = 6) (hc1 : cells + 3 ≤ 622912) (hc2 : slots + 18 ≤ 7151591) (hK : KK2 x m a1 a2 a3 w w2)
    (k : ∀ (h' : Nat) (v' : Int64) (vD' : UInt64), h ≤ h' → gAt X (cells + 3) (slots + 18) 9 w2 h' (EE cy o oD v' vD') [(5, .int i), (4, .ref oD), (3, .ref o), (2, .ref m), (1, .ref x), (0, .ref b)] [] 2923) : gAt X cells slots 9 w h (EE cy o oD v vD) [(5, .int i), (4, .ref oD), (3, .ref o), (2, .ref m), (1, .ref x), (0, .ref b)] [] 303 := by
  obtain ⟨rx, w1, b9, t, hF1, hF2, hF3, hes, ht, hv⟩ := hK
  refine g_aload_n hC dL_law_303 rfl 4 rfl ?_
  refine g_aload_n hC dL_law_304 rfl 2 rfl ?_
  refine g_callW hC hst [.ref x, .ref o] hN (c_L_unletter l D cy x o w w1 v rx hF1 hx hes) q_648 q_131 q_646 q_647 h9_L_unletter ⟨Nat.le_of_ble_eq_true rfl, Nat.le_of_ble_eq_true rfl⟩ ⟨by show _ + 1 ≤ 622912; omega, by show _ + 6 ≤ 7151591; omega⟩ (Nat.le_of_ble_eq_true rfl) (gE2_b _ _ ho) rfl dL_law_305 (fun h1 hh1 hs1 => ?_)
  refine g_cs (cells + 1) (slots + 6) rfl rfl ?_
  refine g_nm h1 (gE2 o (some (.inl (wO rx (arrV (cy 5) 1 (fun _ => .long v)) (fun v => arrV (cy 5) 1 (fun _ => .long v.toInt64))))) oD (some (.inl (arrV (cy 6) 1 (fun _ => .double vD))))) w1 [(5, .int i), (4, .ref oD), (3, .ref o), (2, .ref m), (1, .ref x), (0, .ref b)] rfl (gE2_upb _ _ _ ho).symm rfl rfl ?_
  refine g_istore (L' := [(6, .int (wK [4] rx)), (5, .int i), (4, .ref oD), (3, .ref o), (2, .ref m), (1, .ref x), (0, .ref b)]) hC dL_law_308 (by decide) rfl ?_
  refine g_aload_n hC dL_law_310 rfl 4 rfl ?_
  refine g_callV hC (rv := some (.int b9)) [] (c_X5_unletter l D cy m w1 _ hF2) q_1384 q_137 q_1381 q_1382 q_1383 h9_X5_unletter (T := TX5) (N := 23) (ci := 5) rfl (fSm.k hs1 hm) ⟨Nat.le_of_ble_eq_true rfl, Nat.le_of_ble_eq_true rfl⟩ ⟨by show _ + 0 ≤ 622912; omega, by show _ + 0 ≤ 7151591; omega⟩ (Nat.le_of_ble_eq_true rfl) rfl dL_law_311 (fun h2 hh2 hs2 => ?_)
  refine g_cs (cells + 1) (slots + 6) rfl rfl ?_
  refine g_istore (L' := [(7, .int b9), (6, .int (wK [4] rx)), (5, .int i), (4, .ref oD), (3, .ref o), (2, .ref m), (1, .ref x), (0, .ref b)]) hC dL_law_314 (by decide) rfl ?_
  refine g_aload_n hC dL_law_316 rfl 5 rfl ?_
  refine g_callV hC (rv := some (.int t)) [] (c_X5_thrown l D cy m w2 _ hF3) q_1332 q_137 q_1329 q_1330 q_1331 h9_X5_thrown (T := TX5) (N := 23) (ci := 5) rfl (fSm.k (fSm.tr hs2 hs1) hm) ⟨Nat.le_of_ble_eq_true rfl, Nat.le_of_ble_eq_true rfl⟩ ⟨by show _ + 0 ≤ 622912; omega, by show _ + 0 ≤ 7151591; omega⟩ (Nat.le_of_ble_eq_true rfl) rfl dL_law_317 (fun h3 hh3 hs3 => ?_)
  refine g_cs (cells + 1) (slots + 6) rfl rfl ?_
  refine g_iload hC dL_law_320 1 rfl ?_
  refine g_icmp_eq hC 327 dL_law_322 (by decide) (fun _ => ?_) (fun c9 => absurd ht c9)
  refine g_iload hC dL_law_327 1 rfl ?_
  have KE : gAt X (cells + 1) (slots + 6) 9 w2 h3 (gE2 o (some (.inl (wO rx (arrV (cy 5) 1 (fun _ => .long v)) (fun v => arrV (cy 5) 1 (fun _ => .long v.toInt64))))) oD (some (.inl (arrV (cy 6) 1 (fun _ => .double vD))))) [(7, .int b9), (6, .int (wK [4] rx)), (5, .int i), (4, .ref oD), (3, .ref o), (2, .ref m), (1, .ref x), (0, .ref b)] [] 344 := by
    refine g_goto hC 2923 dL_law_344 (by decide) ?_
    refine g_sub (L' := [(5, .int i), (4, .ref oD), (3, .ref o), (2, .ref m), (1, .ref x), (0, .ref b)]) [2, 3, 4, 5, 6, 7] rfl ?_
    refine g_widen (k' := cells + 3) (s' := slots + 18) (by omega) (by omega) ?_
    cases rx with
    | inl u => exact k _ _ _ (by omega)
    | inr e => exact k _ _ _ (by omega)
  refine g_if_ne hC 344 dL_law_329 (by decide) (fun _ => KE) (fun c9 => ?_)
  obtain ⟨u, rfl⟩ := wK_0 (by decide) hes c9
  obtain rfl := hv u rfl
  refine g_aload_n hC dL_law_332 rfl 4 rfl ?_
  refine g_iconst (v := 0) hC dL_law_333 (by decide) ?_
  refine g_laldE (v := u.toInt64) hC (gE2_b _ _ ho) dL_law_334 ?_
  refine g_iload hC dL_law_335 0 rfl ?_
  refine g_i2l hC dL_law_337 ?_
  refine g_lcmp hC dL_law_338 ?_
  rw [lg_self]
  exact g_if_eq hC 344 dL_law_339 (by decide) (fun _ => KE) (fun c9 => absurd rfl c9)
set_option maxHeartbeats 4000000 in
theorem law_3 {X : FX} {l : Launch} {D : va_G} {cy : Nat → ClassId} {b Ln : Nat} {xs : Nat → Int32} {cells slots h : Nat} {w w2 : FW} {i a1 a2 a3 : Int32} {x m o oD : Nat} {v : Int64} {vD : UInt64} (hC : fOK X cL_law 9 RL room_1 l D cy) (hst : l.stackTraces = false) (hN : gNcX X) (hS : gScr X b Ln xs) (ho : o < oD) (s1 : vp_in (i + 1) Ln) (e1 : xs (i + 1).toNatClampNeg = a1) (s2 : vp_in (i + 2) Ln) (e2 : xs (i + 2).toNatClampNeg = a2) (s3 : vp_in (i + 3) Ln) (e3 : xs (i + 3).toNatClampNeg = a3) (hx : w.1 x = 5) (hm : w.1 m = 6) (hc1 : cells + 3 ≤ 622912) (hc2 : slots + 18 ≤ 7151591) (hK : KK3 x m a1 a2 a3 w w2)
    (k : ∀ (h' : Nat) (v' : Int64) (vD' : UInt64), h ≤ h' → gAt X (cells + 3) (slots + 18) 9 w2 h' (EE cy o oD v' vD') [(5, .int i), (4, .ref oD), (3, .ref o), (2, .ref m), (1, .ref x), (0, .ref b)] [] 2923) : gAt X cells slots 9 w h (EE cy o oD v vD) [(5, .int i), (4, .ref oD), (3, .ref o), (2, .ref m), (1, .ref x), (0, .ref b)] [] 347 := by
  obtain ⟨rx, w1, b9, t, hF1, hF2, hF3, hes, ht, hv⟩ := hK
  refine g_aload_n hC dL_law_347 rfl 4 rfl ?_
  refine g_aload_n hC dL_law_348 rfl 5 rfl ?_
  refine g_iload hC dL_law_349 0 rfl ?_
  refine g_iconst (v := 1) hC dL_law_351 (by decide) ?_
  refine g_iadd hC dL_law_352 ?_
  refine g_sald hC hS s1 e1 dL_law_353 ?_
  refine g_aload_n hC dL_law_354 rfl 5 rfl ?_
  refine g_iload hC dL_law_355 0 rfl ?_
  refine g_iconst (v := 2) hC dL_law_357 (by decide) ?_
  refine g_iadd hC dL_law_358 ?_
  refine g_sald hC hS s2 e2 dL_law_359 ?_
  refine g_aload_n hC dL_law_360 rfl 5 rfl ?_
  refine g_iload hC dL_law_361 0 rfl ?_
  refine g_iconst (v := 3) hC dL_law_363 (by decide) ?_
  refine g_iadd hC dL_law_364 ?_
  refine g_sald hC hS s3 e3 dL_law_365 ?_
  refine g_aload_n hC dL_law_366 rfl 2 rfl ?_
  refine g_callW hC hst [.ref x, .int a1, .int a2, .int a3, .ref o] hN (c_L_print l D cy x a1 a2 a3 o w w1 v rx hF1 hx hes) q_659 q_131 q_657 q_658 h9_L_print ⟨Nat.le_of_ble_eq_true rfl, Nat.le_of_ble_eq_true rfl⟩ ⟨by show _ + 1 ≤ 622912; omega, by show _ + 6 ≤ 7151591; omega⟩ (Nat.le_of_ble_eq_true rfl) (gE2_b _ _ ho) rfl dL_law_367 (fun h1 hh1 hs1 => ?_)
  refine g_cs (cells + 1) (slots + 6) rfl rfl ?_
  refine g_nm h1 (gE2 o (some (.inl (wO rx (arrV (cy 5) 1 (fun _ => .long v)) (fun v => arrV (cy 5) 1 (fun _ => .long v.toInt64))))) oD (some (.inl (arrV (cy 6) 1 (fun _ => .double vD))))) w1 [(5, .int i), (4, .ref oD), (3, .ref o), (2, .ref m), (1, .ref x), (0, .ref b)] rfl (gE2_upb _ _ _ ho).symm rfl rfl ?_
  refine g_istore (L' := [(6, .int (wK [2, 1, 4] rx)), (5, .int i), (4, .ref oD), (3, .ref o), (2, .ref m), (1, .ref x), (0, .ref b)]) hC dL_law_370 (by decide) rfl ?_
  refine g_aload_n hC dL_law_372 rfl 4 rfl ?_
  refine g_aload_n hC dL_law_373 rfl 6 rfl ?_
  refine g_iload hC dL_law_374 1 rfl ?_
  refine g_iconst (v := 1) hC dL_law_376 (by decide) ?_
  refine g_iadd hC dL_law_377 ?_
  refine g_sald hC hS s1 e1 dL_law_378 ?_
  refine g_aload_n hC dL_law_379 rfl 6 rfl ?_
  refine g_iload hC dL_law_380 1 rfl ?_
  refine g_iconst (v := 2) hC dL_law_382 (by decide) ?_
  refine g_iadd hC dL_law_383 ?_
  refine g_sald hC hS s2 e2 dL_law_384 ?_
  refine g_aload_n hC dL_law_385 rfl 6 rfl ?_
  refine g_iload hC dL_law_386 1 rfl ?_
  refine g_iconst (v := 3) hC dL_law_388 (by decide) ?_
  refine g_iadd hC dL_law_389 ?_
  refine g_sald hC hS s3 e3 dL_law_390 ?_
  refine g_callV hC (rv := some (.int b9)) [.int a1, .int a2, .int a3] (c_X5_print l D cy m a1 a2 a3 w1 _ hF2) q_1392 q_137 q_1389 q_1390 q_1391 h9_X5_print (T := TX5) (N := 23) (ci := 5) rfl (fSm.k hs1 hm) ⟨Nat.le_of_ble_eq_true rfl, Nat.le_of_ble_eq_true rfl⟩ ⟨by show _ + 0 ≤ 622912; omega, by show _ + 0 ≤ 7151591; omega⟩ (Nat.le_of_ble_eq_true rfl) rfl dL_law_391 (fun h2 hh2 hs2 => ?_)
  refine g_cs (cells + 1) (slots + 6) rfl rfl ?_
  refine g_istore (L' := [(7, .int b9), (6, .int (wK [2, 1, 4] rx)), (5, .int i), (4, .ref oD), (3, .ref o), (2, .ref m), (1, .ref x), (0, .ref b)]) hC dL_law_394 (by decide) rfl ?_
  refine g_aload_n hC dL_law_396 rfl 5 rfl ?_
  refine g_callV hC (rv := some (.int t)) [] (c_X5_thrown l D cy m w2 _ hF3) q_1332 q_137 q_1329 q_1330 q_1331 h9_X5_thrown (T := TX5) (N := 23) (ci := 5) rfl (fSm.k (fSm.tr hs2 hs1) hm) ⟨Nat.le_of_ble_eq_true rfl, Nat.le_of_ble_eq_true rfl⟩ ⟨by show _ + 0 ≤ 622912; omega, by show _ + 0 ≤ 7151591; omega⟩ (Nat.le_of_ble_eq_true rfl) rfl dL_law_397 (fun h3 hh3 hs3 => ?_)
  refine g_cs (cells + 1) (slots + 6) rfl rfl ?_
  refine g_iload hC dL_law_400 1 rfl ?_
  refine g_icmp_eq hC 407 dL_law_402 (by decide) (fun _ => ?_) (fun c9 => absurd ht c9)
  refine g_iload hC dL_law_407 1 rfl ?_
  have KE : gAt X (cells + 1) (slots + 6) 9 w2 h3 (gE2 o (some (.inl (wO rx (arrV (cy 5) 1 (fun _ => .long v)) (fun v => arrV (cy 5) 1 (fun _ => .long v.toInt64))))) oD (some (.inl (arrV (cy 6) 1 (fun _ => .double vD))))) [(7, .int b9), (6, .int (wK [2, 1, 4] rx)), (5, .int i), (4, .ref oD), (3, .ref o), (2, .ref m), (1, .ref x), (0, .ref b)] [] 424 := by
    refine g_goto hC 2923 dL_law_424 (by decide) ?_
    refine g_sub (L' := [(5, .int i), (4, .ref oD), (3, .ref o), (2, .ref m), (1, .ref x), (0, .ref b)]) [2, 3, 4, 5, 6, 7] rfl ?_
    refine g_widen (k' := cells + 3) (s' := slots + 18) (by omega) (by omega) ?_
    cases rx with
    | inl u => exact k _ _ _ (by omega)
    | inr e => exact k _ _ _ (by omega)
  refine g_if_ne hC 424 dL_law_409 (by decide) (fun _ => KE) (fun c9 => ?_)
  obtain ⟨u, rfl⟩ := wK_0 (by decide) hes c9
  obtain rfl := hv u rfl
  refine g_aload_n hC dL_law_412 rfl 4 rfl ?_
  refine g_iconst (v := 0) hC dL_law_413 (by decide) ?_
  refine g_laldE (v := u.toInt64) hC (gE2_b _ _ ho) dL_law_414 ?_
  refine g_iload hC dL_law_415 0 rfl ?_
  refine g_i2l hC dL_law_417 ?_
  refine g_lcmp hC dL_law_418 ?_
  rw [lg_self]
  exact g_if_eq hC 424 dL_law_419 (by decide) (fun _ => KE) (fun c9 => absurd rfl c9)
set_option maxHeartbeats 4000000 in
theorem law_4 {X : FX} {l : Launch} {D : va_G} {cy : Nat → ClassId} {b Ln : Nat} {xs : Nat → Int32} {cells slots h : Nat} {w w2 : FW} {i a1 a2 a3 : Int32} {x m o oD : Nat} {v : Int64} {vD : UInt64} (hC : fOK X cL_law 9 RL room_1 l D cy) (hst : l.stackTraces = false) (hN : gNcX X) (hS : gScr X b Ln xs) (ho : o < oD) (s1 : vp_in (i + 1) Ln) (e1 : xs (i + 1).toNatClampNeg = a1) (s2 : vp_in (i + 2) Ln) (e2 : xs (i + 2).toNatClampNeg = a2) (s3 : vp_in (i + 3) Ln) (e3 : xs (i + 3).toNatClampNeg = a3) (hx : w.1 x = 5) (hm : w.1 m = 6) (hc1 : cells + 3 ≤ 622912) (hc2 : slots + 18 ≤ 7151591) (hK : KK4 x m a1 a2 a3 w w2)
    (k : ∀ (h' : Nat) (v' : Int64) (vD' : UInt64), h ≤ h' → gAt X (cells + 3) (slots + 18) 9 w2 h' (EE cy o oD v' vD') [(5, .int i), (4, .ref oD), (3, .ref o), (2, .ref m), (1, .ref x), (0, .ref b)] [] 2923) : gAt X cells slots 9 w h (EE cy o oD v vD) [(5, .int i), (4, .ref oD), (3, .ref o), (2, .ref m), (1, .ref x), (0, .ref b)] [] 427 := by
  obtain ⟨rx, w1, b9, t, hF1, hF2, hF3, hes, ht, hv⟩ := hK
  refine g_aload_n hC dL_law_427 rfl 4 rfl ?_
  refine g_aload_n hC dL_law_428 rfl 5 rfl ?_
  refine g_iload hC dL_law_429 0 rfl ?_
  refine g_iconst (v := 1) hC dL_law_431 (by decide) ?_
  refine g_iadd hC dL_law_432 ?_
  refine g_sald hC hS s1 e1 dL_law_433 ?_
  refine g_aload_n hC dL_law_434 rfl 2 rfl ?_
  refine g_callW hC hst [.ref x, .int a1, .ref o] hN (c_L_throwAway l D cy x a1 o w w1 v rx hF1 hx hes) q_707 q_131 q_705 q_706 h9_L_throwAway ⟨Nat.le_of_ble_eq_true rfl, Nat.le_of_ble_eq_true rfl⟩ ⟨by show _ + 1 ≤ 622912; omega, by show _ + 6 ≤ 7151591; omega⟩ (Nat.le_of_ble_eq_true rfl) (gE2_b _ _ ho) rfl dL_law_435 (fun h1 hh1 hs1 => ?_)
  refine g_cs (cells + 1) (slots + 6) rfl rfl ?_
  refine g_nm h1 (gE2 o (some (.inl (wO rx (arrV (cy 5) 1 (fun _ => .long v)) (fun v => arrV (cy 5) 1 (fun _ => .long v.toInt64))))) oD (some (.inl (arrV (cy 6) 1 (fun _ => .double vD))))) w1 [(5, .int i), (4, .ref oD), (3, .ref o), (2, .ref m), (1, .ref x), (0, .ref b)] rfl (gE2_upb _ _ _ ho).symm rfl rfl ?_
  refine g_istore (L' := [(6, .int (wK [2] rx)), (5, .int i), (4, .ref oD), (3, .ref o), (2, .ref m), (1, .ref x), (0, .ref b)]) hC dL_law_438 (by decide) rfl ?_
  refine g_aload_n hC dL_law_440 rfl 4 rfl ?_
  refine g_aload_n hC dL_law_441 rfl 6 rfl ?_
  refine g_iload hC dL_law_442 1 rfl ?_
  refine g_iconst (v := 1) hC dL_law_444 (by decide) ?_
  refine g_iadd hC dL_law_445 ?_
  refine g_sald hC hS s1 e1 dL_law_446 ?_
  refine g_callV hC (rv := some (.int b9)) [.int a1] (c_X5_throwAway l D cy m a1 w1 _ hF2) q_1412 q_137 q_1409 q_1410 q_1411 h9_X5_throwAway (T := TX5) (N := 23) (ci := 5) rfl (fSm.k hs1 hm) ⟨Nat.le_of_ble_eq_true rfl, Nat.le_of_ble_eq_true rfl⟩ ⟨by show _ + 0 ≤ 622912; omega, by show _ + 0 ≤ 7151591; omega⟩ (Nat.le_of_ble_eq_true rfl) rfl dL_law_447 (fun h2 hh2 hs2 => ?_)
  refine g_cs (cells + 1) (slots + 6) rfl rfl ?_
  refine g_istore (L' := [(7, .int b9), (6, .int (wK [2] rx)), (5, .int i), (4, .ref oD), (3, .ref o), (2, .ref m), (1, .ref x), (0, .ref b)]) hC dL_law_450 (by decide) rfl ?_
  refine g_aload_n hC dL_law_452 rfl 5 rfl ?_
  refine g_callV hC (rv := some (.int t)) [] (c_X5_thrown l D cy m w2 _ hF3) q_1332 q_137 q_1329 q_1330 q_1331 h9_X5_thrown (T := TX5) (N := 23) (ci := 5) rfl (fSm.k (fSm.tr hs2 hs1) hm) ⟨Nat.le_of_ble_eq_true rfl, Nat.le_of_ble_eq_true rfl⟩ ⟨by show _ + 0 ≤ 622912; omega, by show _ + 0 ≤ 7151591; omega⟩ (Nat.le_of_ble_eq_true rfl) rfl dL_law_453 (fun h3 hh3 hs3 => ?_)
  refine g_cs (cells + 1) (slots + 6) rfl rfl ?_
  refine g_iload hC dL_law_456 1 rfl ?_
  refine g_icmp_eq hC 463 dL_law_458 (by decide) (fun _ => ?_) (fun c9 => absurd ht c9)
  refine g_iload hC dL_law_463 1 rfl ?_
  have KE : gAt X (cells + 1) (slots + 6) 9 w2 h3 (gE2 o (some (.inl (wO rx (arrV (cy 5) 1 (fun _ => .long v)) (fun v => arrV (cy 5) 1 (fun _ => .long v.toInt64))))) oD (some (.inl (arrV (cy 6) 1 (fun _ => .double vD))))) [(7, .int b9), (6, .int (wK [2] rx)), (5, .int i), (4, .ref oD), (3, .ref o), (2, .ref m), (1, .ref x), (0, .ref b)] [] 480 := by
    refine g_goto hC 2923 dL_law_480 (by decide) ?_
    refine g_sub (L' := [(5, .int i), (4, .ref oD), (3, .ref o), (2, .ref m), (1, .ref x), (0, .ref b)]) [2, 3, 4, 5, 6, 7] rfl ?_
    refine g_widen (k' := cells + 3) (s' := slots + 18) (by omega) (by omega) ?_
    cases rx with
    | inl u => exact k _ _ _ (by omega)
    | inr e => exact k _ _ _ (by omega)
  refine g_if_ne hC 480 dL_law_465 (by decide) (fun _ => KE) (fun c9 => ?_)
  obtain ⟨u, rfl⟩ := wK_0 (by decide) hes c9
  obtain rfl := hv u rfl
  refine g_aload_n hC dL_law_468 rfl 4 rfl ?_
  refine g_iconst (v := 0) hC dL_law_469 (by decide) ?_
  refine g_laldE (v := u.toInt64) hC (gE2_b _ _ ho) dL_law_470 ?_
  refine g_iload hC dL_law_471 0 rfl ?_
  refine g_i2l hC dL_law_473 ?_
  refine g_lcmp hC dL_law_474 ?_
  rw [lg_self]
  exact g_if_eq hC 480 dL_law_475 (by decide) (fun _ => KE) (fun c9 => absurd rfl c9)
set_option maxHeartbeats 4000000 in
theorem law_5 {X : FX} {l : Launch} {D : va_G} {cy : Nat → ClassId} {b Ln : Nat} {xs : Nat → Int32} {cells slots h : Nat} {w w2 : FW} {i a1 a2 a3 : Int32} {x m o oD : Nat} {v : Int64} {vD : UInt64} (hC : fOK X cL_law 9 RL room_1 l D cy) (hst : l.stackTraces = false) (hN : gNcX X) (hS : gScr X b Ln xs) (ho : o < oD) (s1 : vp_in (i + 1) Ln) (e1 : xs (i + 1).toNatClampNeg = a1) (s2 : vp_in (i + 2) Ln) (e2 : xs (i + 2).toNatClampNeg = a2) (s3 : vp_in (i + 3) Ln) (e3 : xs (i + 3).toNatClampNeg = a3) (hx : w.1 x = 5) (hm : w.1 m = 6) (hc1 : cells + 3 ≤ 622912) (hc2 : slots + 18 ≤ 7151591) (hK : KK5 x m a1 a2 a3 w w2)
    (k : ∀ (h' : Nat) (v' : Int64) (vD' : UInt64), h ≤ h' → gAt X (cells + 3) (slots + 18) 9 w2 h' (EE cy o oD v' vD') [(5, .int i), (4, .ref oD), (3, .ref o), (2, .ref m), (1, .ref x), (0, .ref b)] [] 2923) : gAt X cells slots 9 w h (EE cy o oD v vD) [(5, .int i), (4, .ref oD), (3, .ref o), (2, .ref m), (1, .ref x), (0, .ref b)] [] 483 := by
  obtain ⟨rx, w1, b9, t, hF1, hF2, hF3, hes, ht, hv⟩ := hK
  refine g_aload_n hC dL_law_483 rfl 4 rfl ?_
  refine g_aload_n hC dL_law_484 rfl 5 rfl ?_
  refine g_iload hC dL_law_485 0 rfl ?_
  refine g_iconst (v := 1) hC dL_law_487 (by decide) ?_
  refine g_iadd hC dL_law_488 ?_
  refine g_sald hC hS s1 e1 dL_law_489 ?_
  refine g_aload_n hC dL_law_490 rfl 5 rfl ?_
  refine g_iload hC dL_law_491 0 rfl ?_
  refine g_iconst (v := 2) hC dL_law_493 (by decide) ?_
  refine g_iadd hC dL_law_494 ?_
  refine g_sald hC hS s2 e2 dL_law_495 ?_
  refine g_aload_n hC dL_law_496 rfl 2 rfl ?_
  refine g_callW hC hst [.ref x, .int a1, .int a2, .ref o] hN (c_L_mood l D cy x a1 a2 o w w1 v rx hF1 hx hes) q_726 q_131 q_724 q_725 h9_L_mood ⟨Nat.le_of_ble_eq_true rfl, Nat.le_of_ble_eq_true rfl⟩ ⟨by show _ + 1 ≤ 622912; omega, by show _ + 6 ≤ 7151591; omega⟩ (Nat.le_of_ble_eq_true rfl) (gE2_b _ _ ho) rfl dL_law_497 (fun h1 hh1 hs1 => ?_)
  refine g_cs (cells + 1) (slots + 6) rfl rfl ?_
  refine g_nm h1 (gE2 o (some (.inl (wO rx (arrV (cy 5) 1 (fun _ => .long v)) (fun v => arrV (cy 5) 1 (fun _ => .long v.toInt64))))) oD (some (.inl (arrV (cy 6) 1 (fun _ => .double vD))))) w1 [(5, .int i), (4, .ref oD), (3, .ref o), (2, .ref m), (1, .ref x), (0, .ref b)] rfl (gE2_upb _ _ _ ho).symm rfl rfl ?_
  refine g_istore (L' := [(6, .int (wK [2, 1, 4] rx)), (5, .int i), (4, .ref oD), (3, .ref o), (2, .ref m), (1, .ref x), (0, .ref b)]) hC dL_law_500 (by decide) rfl ?_
  refine g_aload_n hC dL_law_502 rfl 4 rfl ?_
  refine g_aload_n hC dL_law_503 rfl 6 rfl ?_
  refine g_iload hC dL_law_504 1 rfl ?_
  refine g_iconst (v := 1) hC dL_law_506 (by decide) ?_
  refine g_iadd hC dL_law_507 ?_
  refine g_sald hC hS s1 e1 dL_law_508 ?_
  refine g_aload_n hC dL_law_509 rfl 6 rfl ?_
  refine g_iload hC dL_law_510 1 rfl ?_
  refine g_iconst (v := 2) hC dL_law_512 (by decide) ?_
  refine g_iadd hC dL_law_513 ?_
  refine g_sald hC hS s2 e2 dL_law_514 ?_
  refine g_callV hC (rv := some (.int b9)) [.int a1, .int a2] (c_X5_mood l D cy m a1 a2 w1 _ hF2) q_1424 q_137 q_1421 q_1422 q_1423 h9_X5_mood (T := TX5) (N := 23) (ci := 5) rfl (fSm.k hs1 hm) ⟨Nat.le_of_ble_eq_true rfl, Nat.le_of_ble_eq_true rfl⟩ ⟨by show _ + 0 ≤ 622912; omega, by show _ + 0 ≤ 7151591; omega⟩ (Nat.le_of_ble_eq_true rfl) rfl dL_law_515 (fun h2 hh2 hs2 => ?_)
  refine g_cs (cells + 1) (slots + 6) rfl rfl ?_
  refine g_istore (L' := [(7, .int b9), (6, .int (wK [2, 1, 4] rx)), (5, .int i), (4, .ref oD), (3, .ref o), (2, .ref m), (1, .ref x), (0, .ref b)]) hC dL_law_518 (by decide) rfl ?_
  refine g_aload_n hC dL_law_520 rfl 5 rfl ?_
  refine g_callV hC (rv := some (.int t)) [] (c_X5_thrown l D cy m w2 _ hF3) q_1332 q_137 q_1329 q_1330 q_1331 h9_X5_thrown (T := TX5) (N := 23) (ci := 5) rfl (fSm.k (fSm.tr hs2 hs1) hm) ⟨Nat.le_of_ble_eq_true rfl, Nat.le_of_ble_eq_true rfl⟩ ⟨by show _ + 0 ≤ 622912; omega, by show _ + 0 ≤ 7151591; omega⟩ (Nat.le_of_ble_eq_true rfl) rfl dL_law_521 (fun h3 hh3 hs3 => ?_)
  refine g_cs (cells + 1) (slots + 6) rfl rfl ?_
  refine g_iload hC dL_law_524 1 rfl ?_
  refine g_icmp_eq hC 531 dL_law_526 (by decide) (fun _ => ?_) (fun c9 => absurd ht c9)
  refine g_iload hC dL_law_531 1 rfl ?_
  have KE : gAt X (cells + 1) (slots + 6) 9 w2 h3 (gE2 o (some (.inl (wO rx (arrV (cy 5) 1 (fun _ => .long v)) (fun v => arrV (cy 5) 1 (fun _ => .long v.toInt64))))) oD (some (.inl (arrV (cy 6) 1 (fun _ => .double vD))))) [(7, .int b9), (6, .int (wK [2, 1, 4] rx)), (5, .int i), (4, .ref oD), (3, .ref o), (2, .ref m), (1, .ref x), (0, .ref b)] [] 548 := by
    refine g_goto hC 2923 dL_law_548 (by decide) ?_
    refine g_sub (L' := [(5, .int i), (4, .ref oD), (3, .ref o), (2, .ref m), (1, .ref x), (0, .ref b)]) [2, 3, 4, 5, 6, 7] rfl ?_
    refine g_widen (k' := cells + 3) (s' := slots + 18) (by omega) (by omega) ?_
    cases rx with
    | inl u => exact k _ _ _ (by omega)
    | inr e => exact k _ _ _ (by omega)
  refine g_if_ne hC 548 dL_law_533 (by decide) (fun _ => KE) (fun c9 => ?_)
  obtain ⟨u, rfl⟩ := wK_0 (by decide) hes c9
  obtain rfl := hv u rfl
  refine g_aload_n hC dL_law_536 rfl 4 rfl ?_
  refine g_iconst (v := 0) hC dL_law_537 (by decide) ?_
  refine g_laldE (v := u.toInt64) hC (gE2_b _ _ ho) dL_law_538 ?_
  refine g_iload hC dL_law_539 0 rfl ?_
  refine g_i2l hC dL_law_541 ?_
  refine g_lcmp hC dL_law_542 ?_
  rw [lg_self]
  exact g_if_eq hC 548 dL_law_543 (by decide) (fun _ => KE) (fun c9 => absurd rfl c9)
set_option maxHeartbeats 4000000 in
theorem law_6 {X : FX} {l : Launch} {D : va_G} {cy : Nat → ClassId} {b Ln : Nat} {xs : Nat → Int32} {cells slots h : Nat} {w w2 : FW} {i a1 a2 a3 : Int32} {x m o oD : Nat} {v : Int64} {vD : UInt64} (hC : fOK X cL_law 9 RL room_1 l D cy) (hst : l.stackTraces = false) (hN : gNcX X) (hS : gScr X b Ln xs) (ho : o < oD) (s1 : vp_in (i + 1) Ln) (e1 : xs (i + 1).toNatClampNeg = a1) (s2 : vp_in (i + 2) Ln) (e2 : xs (i + 2).toNatClampNeg = a2) (s3 : vp_in (i + 3) Ln) (e3 : xs (i + 3).toNatClampNeg = a3) (hx : w.1 x = 5) (hm : w.1 m = 6) (hc1 : cells + 3 ≤ 622912) (hc2 : slots + 18 ≤ 7151591) (hK : KK6 x m a1 a2 a3 w w2)
    (k : ∀ (h' : Nat) (v' : Int64) (vD' : UInt64), h ≤ h' → gAt X (cells + 3) (slots + 18) 9 w2 h' (EE cy o oD v' vD') [(5, .int i), (4, .ref oD), (3, .ref o), (2, .ref m), (1, .ref x), (0, .ref b)] [] 2923) : gAt X cells slots 9 w h (EE cy o oD v vD) [(5, .int i), (4, .ref oD), (3, .ref o), (2, .ref m), (1, .ref x), (0, .ref b)] [] 551 := by
  obtain ⟨rx, w1, b9, t, hF1, hF2, hF3, hes, ht, hv⟩ := hK
  refine g_aload_n hC dL_law_551 rfl 4 rfl ?_
  refine g_aload_n hC dL_law_552 rfl 5 rfl ?_
  refine g_iload hC dL_law_553 0 rfl ?_
  refine g_iconst (v := 1) hC dL_law_555 (by decide) ?_
  refine g_iadd hC dL_law_556 ?_
  refine g_sald hC hS s1 e1 dL_law_557 ?_
  refine g_aload_n hC dL_law_558 rfl 5 rfl ?_
  refine g_iload hC dL_law_559 0 rfl ?_
  refine g_iconst (v := 2) hC dL_law_561 (by decide) ?_
  refine g_iadd hC dL_law_562 ?_
  refine g_sald hC hS s2 e2 dL_law_563 ?_
  have KM1 : gAt X cells slots 9 w h (EE cy o oD v vD) [(5, .int i), (4, .ref oD), (3, .ref o), (2, .ref m), (1, .ref x), (0, .ref b)] [.int (zz a2), .int a1, .ref x] 572 := by
    refine g_aload_n hC dL_law_572 rfl 2 rfl ?_
    refine g_callW hC hst [.ref x, .int a1, .int (zz a2), .ref o] hN (c_L_pier l D cy x a1 (zz a2) o w w1 v rx hF1 hx hes) q_745 q_131 q_743 q_744 h9_L_pier ⟨Nat.le_of_ble_eq_true rfl, Nat.le_of_ble_eq_true rfl⟩ ⟨by show _ + 1 ≤ 622912; omega, by show _ + 6 ≤ 7151591; omega⟩ (Nat.le_of_ble_eq_true rfl) (gE2_b _ _ ho) rfl dL_law_573 (fun h1 hh1 hs1 => ?_)
    refine g_cs (cells + 1) (slots + 6) rfl rfl ?_
    refine g_nm h1 (gE2 o (some (.inl (wO rx (arrV (cy 5) 1 (fun _ => .long v)) (fun v => arrV (cy 5) 1 (fun _ => .long v.toInt64))))) oD (some (.inl (arrV (cy 6) 1 (fun _ => .double vD))))) w1 [(5, .int i), (4, .ref oD), (3, .ref o), (2, .ref m), (1, .ref x), (0, .ref b)] rfl (gE2_upb _ _ _ ho).symm rfl rfl ?_
    refine g_istore (L' := [(6, .int (wK [2, 4] rx)), (5, .int i), (4, .ref oD), (3, .ref o), (2, .ref m), (1, .ref x), (0, .ref b)]) hC dL_law_576 (by decide) rfl ?_
    refine g_aload_n hC dL_law_578 rfl 4 rfl ?_
    refine g_aload_n hC dL_law_579 rfl 6 rfl ?_
    refine g_iload hC dL_law_580 1 rfl ?_
    refine g_iconst (v := 1) hC dL_law_582 (by decide) ?_
    refine g_iadd hC dL_law_583 ?_
    refine g_sald hC hS s1 e1 dL_law_584 ?_
    refine g_aload_n hC dL_law_585 rfl 6 rfl ?_
    refine g_iload hC dL_law_586 1 rfl ?_
    refine g_iconst (v := 2) hC dL_law_588 (by decide) ?_
    refine g_iadd hC dL_law_589 ?_
    refine g_sald hC hS s2 e2 dL_law_590 ?_
    have KM2 : gAt X (cells + 1) (slots + 6) 9 w1 h1 (gE2 o (some (.inl (wO rx (arrV (cy 5) 1 (fun _ => .long v)) (fun v => arrV (cy 5) 1 (fun _ => .long v.toInt64))))) oD (some (.inl (arrV (cy 6) 1 (fun _ => .double vD))))) [(6, .int (wK [2, 4] rx)), (5, .int i), (4, .ref oD), (3, .ref o), (2, .ref m), (1, .ref x), (0, .ref b)] [.int (zz a2), .int a1, .ref m] 599 := by
      refine g_callV hC (rv := some (.int b9)) [.int a1, .int (zz a2)] (c_X5_pier l D cy m a1 (zz a2) w1 _ hF2) q_1432 q_137 q_1429 q_1430 q_1431 h9_X5_pier (T := TX5) (N := 23) (ci := 5) rfl (fSm.k hs1 hm) ⟨Nat.le_of_ble_eq_true rfl, Nat.le_of_ble_eq_true rfl⟩ ⟨by show _ + 0 ≤ 622912; omega, by show _ + 0 ≤ 7151591; omega⟩ (Nat.le_of_ble_eq_true rfl) rfl dL_law_599 (fun h2 hh2 hs2 => ?_)
      refine g_cs (cells + 1) (slots + 6) rfl rfl ?_
      refine g_istore (L' := [(7, .int b9), (6, .int (wK [2, 4] rx)), (5, .int i), (4, .ref oD), (3, .ref o), (2, .ref m), (1, .ref x), (0, .ref b)]) hC dL_law_602 (by decide) rfl ?_
      refine g_aload_n hC dL_law_604 rfl 5 rfl ?_
      refine g_callV hC (rv := some (.int t)) [] (c_X5_thrown l D cy m w2 _ hF3) q_1332 q_137 q_1329 q_1330 q_1331 h9_X5_thrown (T := TX5) (N := 23) (ci := 5) rfl (fSm.k (fSm.tr hs2 hs1) hm) ⟨Nat.le_of_ble_eq_true rfl, Nat.le_of_ble_eq_true rfl⟩ ⟨by show _ + 0 ≤ 622912; omega, by show _ + 0 ≤ 7151591; omega⟩ (Nat.le_of_ble_eq_true rfl) rfl dL_law_605 (fun h3 hh3 hs3 => ?_)
      refine g_cs (cells + 1) (slots + 6) rfl rfl ?_
      refine g_iload hC dL_law_608 1 rfl ?_
      refine g_icmp_eq hC 615 dL_law_610 (by decide) (fun _ => ?_) (fun c9 => absurd ht c9)
      refine g_iload hC dL_law_615 1 rfl ?_
      have KE : gAt X (cells + 1) (slots + 6) 9 w2 h3 (gE2 o (some (.inl (wO rx (arrV (cy 5) 1 (fun _ => .long v)) (fun v => arrV (cy 5) 1 (fun _ => .long v.toInt64))))) oD (some (.inl (arrV (cy 6) 1 (fun _ => .double vD))))) [(7, .int b9), (6, .int (wK [2, 4] rx)), (5, .int i), (4, .ref oD), (3, .ref o), (2, .ref m), (1, .ref x), (0, .ref b)] [] 632 := by
        refine g_goto hC 2923 dL_law_632 (by decide) ?_
        refine g_sub (L' := [(5, .int i), (4, .ref oD), (3, .ref o), (2, .ref m), (1, .ref x), (0, .ref b)]) [2, 3, 4, 5, 6, 7] rfl ?_
        refine g_widen (k' := cells + 3) (s' := slots + 18) (by omega) (by omega) ?_
        cases rx with
        | inl u => exact k _ _ _ (by omega)
        | inr e => exact k _ _ _ (by omega)
      refine g_if_ne hC 632 dL_law_617 (by decide) (fun _ => KE) (fun c9 => ?_)
      obtain ⟨u, rfl⟩ := wK_0 (by decide) hes c9
      obtain rfl := hv u rfl
      refine g_aload_n hC dL_law_620 rfl 4 rfl ?_
      refine g_iconst (v := 0) hC dL_law_621 (by decide) ?_
      refine g_laldE (v := u.toInt64) hC (gE2_b _ _ ho) dL_law_622 ?_
      refine g_iload hC dL_law_623 0 rfl ?_
      refine g_i2l hC dL_law_625 ?_
      refine g_lcmp hC dL_law_626 ?_
      rw [lg_self]
      exact g_if_eq hC 632 dL_law_627 (by decide) (fun _ => KE) (fun c9 => absurd rfl c9)
    refine g_if_eq hC 598 dL_law_591 (by decide) (fun c9 => ?_) (fun c9 => ?_)
    · have e9 : zz a2 = 0 := if_pos c9
      rw [e9] at KM2
      exact g_iconst (v := 0) hC dL_law_598 (by decide) KM2
    · have e9 : zz a2 = 1 := if_neg c9
      rw [e9] at KM2
      exact g_iconst (v := 1) hC dL_law_594 (by decide) (g_goto hC 599 dL_law_595 (by decide) KM2)
  refine g_if_eq hC 571 dL_law_564 (by decide) (fun c9 => ?_) (fun c9 => ?_)
  · have e9 : zz a2 = 0 := if_pos c9
    rw [e9] at KM1
    exact g_iconst (v := 0) hC dL_law_571 (by decide) KM1
  · have e9 : zz a2 = 1 := if_neg c9
    rw [e9] at KM1
    exact g_iconst (v := 1) hC dL_law_567 (by decide) (g_goto hC 572 dL_law_568 (by decide) KM1)
set_option maxHeartbeats 4000000 in
theorem law_7 {X : FX} {l : Launch} {D : va_G} {cy : Nat → ClassId} {b Ln : Nat} {xs : Nat → Int32} {cells slots h : Nat} {w w2 : FW} {i a1 a2 a3 : Int32} {x m o oD : Nat} {v : Int64} {vD : UInt64} (hC : fOK X cL_law 9 RL room_1 l D cy) (hst : l.stackTraces = false) (hN : gNcX X) (hS : gScr X b Ln xs) (ho : o < oD) (s1 : vp_in (i + 1) Ln) (e1 : xs (i + 1).toNatClampNeg = a1) (s2 : vp_in (i + 2) Ln) (e2 : xs (i + 2).toNatClampNeg = a2) (s3 : vp_in (i + 3) Ln) (e3 : xs (i + 3).toNatClampNeg = a3) (hx : w.1 x = 5) (hm : w.1 m = 6) (hc1 : cells + 3 ≤ 622912) (hc2 : slots + 18 ≤ 7151591) (hK : KK7 x m a1 a2 a3 w w2)
    (k : ∀ (h' : Nat) (v' : Int64) (vD' : UInt64), h ≤ h' → gAt X (cells + 3) (slots + 18) 9 w2 h' (EE cy o oD v' vD') [(5, .int i), (4, .ref oD), (3, .ref o), (2, .ref m), (1, .ref x), (0, .ref b)] [] 2923) : gAt X cells slots 9 w h (EE cy o oD v vD) [(5, .int i), (4, .ref oD), (3, .ref o), (2, .ref m), (1, .ref x), (0, .ref b)] [] 635 := by
  obtain ⟨rx, b9, t, hF1, hF2, hF3, hes, ht, hv⟩ := hK
  refine g_aload_n hC dL_law_635 rfl 4 rfl ?_
  refine g_aload_n hC dL_law_636 rfl 5 rfl ?_
  refine g_iload hC dL_law_637 0 rfl ?_
  refine g_iconst (v := 1) hC dL_law_639 (by decide) ?_
  refine g_iadd hC dL_law_640 ?_
  refine g_sald hC hS s1 e1 dL_law_641 ?_
  refine g_aload_n hC dL_law_642 rfl 5 rfl ?_
  refine g_iload hC dL_law_643 0 rfl ?_
  refine g_iconst (v := 2) hC dL_law_645 (by decide) ?_
  refine g_iadd hC dL_law_646 ?_
  refine g_sald hC hS s2 e2 dL_law_647 ?_
  refine g_aload_n hC dL_law_648 rfl 2 rfl ?_
  refine g_callW hC hst [.ref x, .int a1, .int a2, .ref o] hN (c_L_ticketOf l D cy x a1 a2 o w v rx hF1 hx hes) q_760 q_131 q_758 q_759 h9_L_ticketOf ⟨Nat.le_of_ble_eq_true rfl, Nat.le_of_ble_eq_true rfl⟩ ⟨by show _ + 2 ≤ 622912; omega, by show _ + 12 ≤ 7151591; omega⟩ (Nat.le_of_ble_eq_true rfl) (gE2_b _ _ ho) rfl dL_law_649 (fun h1 hh1 hs1 => ?_)
  refine g_cs (cells + 2) (slots + 12) rfl rfl ?_
  refine g_nm h1 (gE2 o (some (.inl (wO rx (arrV (cy 5) 1 (fun _ => .long v)) (fun v => arrV (cy 5) 1 (fun _ => .long v.toInt64))))) oD (some (.inl (arrV (cy 6) 1 (fun _ => .double vD))))) w [(5, .int i), (4, .ref oD), (3, .ref o), (2, .ref m), (1, .ref x), (0, .ref b)] rfl (gE2_upb _ _ _ ho).symm rfl rfl ?_
  refine g_istore (L' := [(6, .int (wK [2, 1] rx)), (5, .int i), (4, .ref oD), (3, .ref o), (2, .ref m), (1, .ref x), (0, .ref b)]) hC dL_law_652 (by decide) rfl ?_
  refine g_aload_n hC dL_law_654 rfl 4 rfl ?_
  refine g_aload_n hC dL_law_655 rfl 6 rfl ?_
  refine g_iload hC dL_law_656 1 rfl ?_
  refine g_iconst (v := 1) hC dL_law_658 (by decide) ?_
  refine g_iadd hC dL_law_659 ?_
  refine g_sald hC hS s1 e1 dL_law_660 ?_
  refine g_aload_n hC dL_law_661 rfl 6 rfl ?_
  refine g_iload hC dL_law_662 1 rfl ?_
  refine g_iconst (v := 2) hC dL_law_664 (by decide) ?_
  refine g_iadd hC dL_law_665 ?_
  refine g_sald hC hS s2 e2 dL_law_666 ?_
  refine g_callV hC (rv := some (.int b9)) [.int a1, .int a2] (c_X5_ticketOf l D cy m a1 a2 w _ hF2) q_1448 q_137 q_1445 q_1446 q_1447 h9_X5_ticketOf (T := TX5) (N := 23) (ci := 5) rfl (fSm.k hs1 hm) ⟨Nat.le_of_ble_eq_true rfl, Nat.le_of_ble_eq_true rfl⟩ ⟨by show _ + 0 ≤ 622912; omega, by show _ + 0 ≤ 7151591; omega⟩ (Nat.le_of_ble_eq_true rfl) rfl dL_law_667 (fun h2 hh2 hs2 => ?_)
  refine g_cs (cells + 2) (slots + 12) rfl rfl ?_
  refine g_istore (L' := [(7, .int b9), (6, .int (wK [2, 1] rx)), (5, .int i), (4, .ref oD), (3, .ref o), (2, .ref m), (1, .ref x), (0, .ref b)]) hC dL_law_670 (by decide) rfl ?_
  refine g_aload_n hC dL_law_672 rfl 5 rfl ?_
  refine g_callV hC (rv := some (.int t)) [] (c_X5_thrown l D cy m w2 _ hF3) q_1332 q_137 q_1329 q_1330 q_1331 h9_X5_thrown (T := TX5) (N := 23) (ci := 5) rfl (fSm.k (fSm.tr hs2 hs1) hm) ⟨Nat.le_of_ble_eq_true rfl, Nat.le_of_ble_eq_true rfl⟩ ⟨by show _ + 0 ≤ 622912; omega, by show _ + 0 ≤ 7151591; omega⟩ (Nat.le_of_ble_eq_true rfl) rfl dL_law_673 (fun h3 hh3 hs3 => ?_)
  refine g_cs (cells + 2) (slots + 12) rfl rfl ?_
  refine g_iload hC dL_law_676 1 rfl ?_
  refine g_icmp_eq hC 683 dL_law_678 (by decide) (fun _ => ?_) (fun c9 => absurd ht c9)
  refine g_iload hC dL_law_683 1 rfl ?_
  have KE : gAt X (cells + 2) (slots + 12) 9 w2 h3 (gE2 o (some (.inl (wO rx (arrV (cy 5) 1 (fun _ => .long v)) (fun v => arrV (cy 5) 1 (fun _ => .long v.toInt64))))) oD (some (.inl (arrV (cy 6) 1 (fun _ => .double vD))))) [(7, .int b9), (6, .int (wK [2, 1] rx)), (5, .int i), (4, .ref oD), (3, .ref o), (2, .ref m), (1, .ref x), (0, .ref b)] [] 700 := by
    refine g_goto hC 2923 dL_law_700 (by decide) ?_
    refine g_sub (L' := [(5, .int i), (4, .ref oD), (3, .ref o), (2, .ref m), (1, .ref x), (0, .ref b)]) [2, 3, 4, 5, 6, 7] rfl ?_
    refine g_widen (k' := cells + 3) (s' := slots + 18) (by omega) (by omega) ?_
    cases rx with
    | inl u => exact k _ _ _ (by omega)
    | inr e => exact k _ _ _ (by omega)
  refine g_if_ne hC 700 dL_law_685 (by decide) (fun _ => KE) (fun c9 => ?_)
  obtain ⟨u, rfl⟩ := wK_0 (by decide) hes c9
  obtain rfl := hv u rfl
  refine g_aload_n hC dL_law_688 rfl 4 rfl ?_
  refine g_iconst (v := 0) hC dL_law_689 (by decide) ?_
  refine g_laldE (v := u.toInt64) hC (gE2_b _ _ ho) dL_law_690 ?_
  refine g_iload hC dL_law_691 0 rfl ?_
  refine g_i2l hC dL_law_693 ?_
  refine g_lcmp hC dL_law_694 ?_
  rw [lg_self]
  exact g_if_eq hC 700 dL_law_695 (by decide) (fun _ => KE) (fun c9 => absurd rfl c9)
set_option maxHeartbeats 4000000 in
theorem law_8 {X : FX} {l : Launch} {D : va_G} {cy : Nat → ClassId} {b Ln : Nat} {xs : Nat → Int32} {cells slots h : Nat} {w w2 : FW} {i a1 a2 a3 : Int32} {x m o oD : Nat} {v : Int64} {vD : UInt64} (hC : fOK X cL_law 9 RL room_1 l D cy) (hst : l.stackTraces = false) (hN : gNcX X) (hS : gScr X b Ln xs) (ho : o < oD) (s1 : vp_in (i + 1) Ln) (e1 : xs (i + 1).toNatClampNeg = a1) (s2 : vp_in (i + 2) Ln) (e2 : xs (i + 2).toNatClampNeg = a2) (s3 : vp_in (i + 3) Ln) (e3 : xs (i + 3).toNatClampNeg = a3) (hx : w.1 x = 5) (hm : w.1 m = 6) (hc1 : cells + 3 ≤ 622912) (hc2 : slots + 18 ≤ 7151591) (hK : KK8 x m a1 a2 a3 w w2)
    (k : ∀ (h' : Nat) (v' : Int64) (vD' : UInt64), h ≤ h' → gAt X (cells + 3) (slots + 18) 9 w2 h' (EE cy o oD v' vD') [(5, .int i), (4, .ref oD), (3, .ref o), (2, .ref m), (1, .ref x), (0, .ref b)] [] 2923) : gAt X cells slots 9 w h (EE cy o oD v vD) [(5, .int i), (4, .ref oD), (3, .ref o), (2, .ref m), (1, .ref x), (0, .ref b)] [] 703 := by
  obtain ⟨rx, b9, t, hF1, hF2, hF3, hes, ht, hv⟩ := hK
  refine g_aload_n hC dL_law_703 rfl 4 rfl ?_
  refine g_aload_n hC dL_law_704 rfl 5 rfl ?_
  refine g_iload hC dL_law_705 0 rfl ?_
  refine g_iconst (v := 1) hC dL_law_707 (by decide) ?_
  refine g_iadd hC dL_law_708 ?_
  refine g_sald hC hS s1 e1 dL_law_709 ?_
  refine g_aload_n hC dL_law_710 rfl 5 rfl ?_
  refine g_iload hC dL_law_711 0 rfl ?_
  refine g_iconst (v := 2) hC dL_law_713 (by decide) ?_
  refine g_iadd hC dL_law_714 ?_
  refine g_sald hC hS s2 e2 dL_law_715 ?_
  refine g_aload_n hC dL_law_716 rfl 2 rfl ?_
  refine g_callW hC hst [.ref x, .int a1, .int a2, .ref o] hN (c_L_wordAt l D cy x a1 a2 o w v rx hF1 hx hes) q_773 q_131 q_771 q_772 h9_L_wordAt ⟨Nat.le_of_ble_eq_true rfl, Nat.le_of_ble_eq_true rfl⟩ ⟨by show _ + 2 ≤ 622912; omega, by show _ + 12 ≤ 7151591; omega⟩ (Nat.le_of_ble_eq_true rfl) (gE2_b _ _ ho) rfl dL_law_717 (fun h1 hh1 hs1 => ?_)
  refine g_cs (cells + 2) (slots + 12) rfl rfl ?_
  refine g_nm h1 (gE2 o (some (.inl (wO rx (arrV (cy 5) 1 (fun _ => .long v)) (fun v => arrV (cy 5) 1 (fun _ => .long v.toInt64))))) oD (some (.inl (arrV (cy 6) 1 (fun _ => .double vD))))) w [(5, .int i), (4, .ref oD), (3, .ref o), (2, .ref m), (1, .ref x), (0, .ref b)] rfl (gE2_upb _ _ _ ho).symm rfl rfl ?_
  refine g_istore (L' := [(6, .int (wK [2, 5] rx)), (5, .int i), (4, .ref oD), (3, .ref o), (2, .ref m), (1, .ref x), (0, .ref b)]) hC dL_law_720 (by decide) rfl ?_
  refine g_aload_n hC dL_law_722 rfl 4 rfl ?_
  refine g_aload_n hC dL_law_723 rfl 6 rfl ?_
  refine g_iload hC dL_law_724 1 rfl ?_
  refine g_iconst (v := 1) hC dL_law_726 (by decide) ?_
  refine g_iadd hC dL_law_727 ?_
  refine g_sald hC hS s1 e1 dL_law_728 ?_
  refine g_aload_n hC dL_law_729 rfl 6 rfl ?_
  refine g_iload hC dL_law_730 1 rfl ?_
  refine g_iconst (v := 2) hC dL_law_732 (by decide) ?_
  refine g_iadd hC dL_law_733 ?_
  refine g_sald hC hS s2 e2 dL_law_734 ?_
  refine g_callV hC (rv := some (.int b9)) [.int a1, .int a2] (c_X5_wordAt l D cy m a1 a2 w _ hF2) q_1464 q_137 q_1461 q_1462 q_1463 h9_X5_wordAt (T := TX5) (N := 23) (ci := 5) rfl (fSm.k hs1 hm) ⟨Nat.le_of_ble_eq_true rfl, Nat.le_of_ble_eq_true rfl⟩ ⟨by show _ + 0 ≤ 622912; omega, by show _ + 0 ≤ 7151591; omega⟩ (Nat.le_of_ble_eq_true rfl) rfl dL_law_735 (fun h2 hh2 hs2 => ?_)
  refine g_cs (cells + 2) (slots + 12) rfl rfl ?_
  refine g_istore (L' := [(7, .int b9), (6, .int (wK [2, 5] rx)), (5, .int i), (4, .ref oD), (3, .ref o), (2, .ref m), (1, .ref x), (0, .ref b)]) hC dL_law_738 (by decide) rfl ?_
  refine g_aload_n hC dL_law_740 rfl 5 rfl ?_
  refine g_callV hC (rv := some (.int t)) [] (c_X5_thrown l D cy m w2 _ hF3) q_1332 q_137 q_1329 q_1330 q_1331 h9_X5_thrown (T := TX5) (N := 23) (ci := 5) rfl (fSm.k (fSm.tr hs2 hs1) hm) ⟨Nat.le_of_ble_eq_true rfl, Nat.le_of_ble_eq_true rfl⟩ ⟨by show _ + 0 ≤ 622912; omega, by show _ + 0 ≤ 7151591; omega⟩ (Nat.le_of_ble_eq_true rfl) rfl dL_law_741 (fun h3 hh3 hs3 => ?_)
  refine g_cs (cells + 2) (slots + 12) rfl rfl ?_
  refine g_iload hC dL_law_744 1 rfl ?_
  refine g_icmp_eq hC 751 dL_law_746 (by decide) (fun _ => ?_) (fun c9 => absurd ht c9)
  refine g_iload hC dL_law_751 1 rfl ?_
  have KE : gAt X (cells + 2) (slots + 12) 9 w2 h3 (gE2 o (some (.inl (wO rx (arrV (cy 5) 1 (fun _ => .long v)) (fun v => arrV (cy 5) 1 (fun _ => .long v.toInt64))))) oD (some (.inl (arrV (cy 6) 1 (fun _ => .double vD))))) [(7, .int b9), (6, .int (wK [2, 5] rx)), (5, .int i), (4, .ref oD), (3, .ref o), (2, .ref m), (1, .ref x), (0, .ref b)] [] 768 := by
    refine g_goto hC 2923 dL_law_768 (by decide) ?_
    refine g_sub (L' := [(5, .int i), (4, .ref oD), (3, .ref o), (2, .ref m), (1, .ref x), (0, .ref b)]) [2, 3, 4, 5, 6, 7] rfl ?_
    refine g_widen (k' := cells + 3) (s' := slots + 18) (by omega) (by omega) ?_
    cases rx with
    | inl u => exact k _ _ _ (by omega)
    | inr e => exact k _ _ _ (by omega)
  refine g_if_ne hC 768 dL_law_753 (by decide) (fun _ => KE) (fun c9 => ?_)
  obtain ⟨u, rfl⟩ := wK_0 (by decide) hes c9
  obtain rfl := hv u rfl
  refine g_aload_n hC dL_law_756 rfl 4 rfl ?_
  refine g_iconst (v := 0) hC dL_law_757 (by decide) ?_
  refine g_laldE (v := u.toInt64) hC (gE2_b _ _ ho) dL_law_758 ?_
  refine g_iload hC dL_law_759 0 rfl ?_
  refine g_i2l hC dL_law_761 ?_
  refine g_lcmp hC dL_law_762 ?_
  rw [lg_self]
  exact g_if_eq hC 768 dL_law_763 (by decide) (fun _ => KE) (fun c9 => absurd rfl c9)
set_option maxHeartbeats 4000000 in
theorem law_9 {X : FX} {l : Launch} {D : va_G} {cy : Nat → ClassId} {b Ln : Nat} {xs : Nat → Int32} {cells slots h : Nat} {w w2 : FW} {i a1 a2 a3 : Int32} {x m o oD : Nat} {v : Int64} {vD : UInt64} (hC : fOK X cL_law 9 RL room_1 l D cy) (hst : l.stackTraces = false) (hN : gNcX X) (hS : gScr X b Ln xs) (ho : o < oD) (s1 : vp_in (i + 1) Ln) (e1 : xs (i + 1).toNatClampNeg = a1) (s2 : vp_in (i + 2) Ln) (e2 : xs (i + 2).toNatClampNeg = a2) (s3 : vp_in (i + 3) Ln) (e3 : xs (i + 3).toNatClampNeg = a3) (hx : w.1 x = 5) (hm : w.1 m = 6) (hc1 : cells + 3 ≤ 622912) (hc2 : slots + 18 ≤ 7151591) (hK : KK9 x m a1 a2 a3 w w2)
    (k : ∀ (h' : Nat) (v' : Int64) (vD' : UInt64), h ≤ h' → gAt X (cells + 3) (slots + 18) 9 w2 h' (EE cy o oD v' vD') [(5, .int i), (4, .ref oD), (3, .ref o), (2, .ref m), (1, .ref x), (0, .ref b)] [] 2923) : gAt X cells slots 9 w h (EE cy o oD v vD) [(5, .int i), (4, .ref oD), (3, .ref o), (2, .ref m), (1, .ref x), (0, .ref b)] [] 771 := by
  obtain ⟨rx, w1, b9, t, hF1, hF2, hF3, hes, ht, hv⟩ := hK
  refine g_aload_n hC dL_law_771 rfl 4 rfl ?_
  refine g_aload_n hC dL_law_772 rfl 5 rfl ?_
  refine g_iload hC dL_law_773 0 rfl ?_
  refine g_iconst (v := 1) hC dL_law_775 (by decide) ?_
  refine g_iadd hC dL_law_776 ?_
  refine g_sald hC hS s1 e1 dL_law_777 ?_
  refine g_aload_n hC dL_law_778 rfl 5 rfl ?_
  refine g_iload hC dL_law_779 0 rfl ?_
  refine g_iconst (v := 2) hC dL_law_781 (by decide) ?_
  refine g_iadd hC dL_law_782 ?_
  refine g_sald hC hS s2 e2 dL_law_783 ?_
  have KM1 : gAt X cells slots 9 w h (EE cy o oD v vD) [(5, .int i), (4, .ref oD), (3, .ref o), (2, .ref m), (1, .ref x), (0, .ref b)] [.int (zz a2), .int a1, .ref x] 792 := by
    refine g_aload_n hC dL_law_792 rfl 5 rfl ?_
    refine g_iload hC dL_law_793 0 rfl ?_
    refine g_iconst (v := 3) hC dL_law_795 (by decide) ?_
    refine g_iadd hC dL_law_796 ?_
    refine g_sald hC hS s3 e3 dL_law_797 ?_
    refine g_aload_n hC dL_law_798 rfl 2 rfl ?_
    refine g_callW hC hst [.ref x, .int a1, .int (zz a2), .int a3, .ref o] hN (c_L_punch l D cy x a1 (zz a2) a3 o w w1 v rx hF1 hx hes) q_799 q_131 q_797 q_798 h9_L_punch ⟨Nat.le_of_ble_eq_true rfl, Nat.le_of_ble_eq_true rfl⟩ ⟨by show _ + 2 ≤ 622912; omega, by show _ + 12 ≤ 7151591; omega⟩ (Nat.le_of_ble_eq_true rfl) (gE2_b _ _ ho) rfl dL_law_799 (fun h1 hh1 hs1 => ?_)
    refine g_cs (cells + 2) (slots + 12) rfl rfl ?_
    refine g_nm h1 (gE2 o (some (.inl (wO rx (arrV (cy 5) 1 (fun _ => .long v)) (fun v => arrV (cy 5) 1 (fun _ => .long v.toInt64))))) oD (some (.inl (arrV (cy 6) 1 (fun _ => .double vD))))) w1 [(5, .int i), (4, .ref oD), (3, .ref o), (2, .ref m), (1, .ref x), (0, .ref b)] rfl (gE2_upb _ _ _ ho).symm rfl rfl ?_
    refine g_istore (L' := [(6, .int (wK [2, 4] rx)), (5, .int i), (4, .ref oD), (3, .ref o), (2, .ref m), (1, .ref x), (0, .ref b)]) hC dL_law_802 (by decide) rfl ?_
    refine g_aload_n hC dL_law_804 rfl 4 rfl ?_
    refine g_aload_n hC dL_law_805 rfl 6 rfl ?_
    refine g_iload hC dL_law_806 1 rfl ?_
    refine g_iconst (v := 1) hC dL_law_808 (by decide) ?_
    refine g_iadd hC dL_law_809 ?_
    refine g_sald hC hS s1 e1 dL_law_810 ?_
    refine g_aload_n hC dL_law_811 rfl 6 rfl ?_
    refine g_iload hC dL_law_812 1 rfl ?_
    refine g_iconst (v := 2) hC dL_law_814 (by decide) ?_
    refine g_iadd hC dL_law_815 ?_
    refine g_sald hC hS s2 e2 dL_law_816 ?_
    have KM2 : gAt X (cells + 2) (slots + 12) 9 w1 h1 (gE2 o (some (.inl (wO rx (arrV (cy 5) 1 (fun _ => .long v)) (fun v => arrV (cy 5) 1 (fun _ => .long v.toInt64))))) oD (some (.inl (arrV (cy 6) 1 (fun _ => .double vD))))) [(6, .int (wK [2, 4] rx)), (5, .int i), (4, .ref oD), (3, .ref o), (2, .ref m), (1, .ref x), (0, .ref b)] [.int (zz a2), .int a1, .ref m] 825 := by
      refine g_aload_n hC dL_law_825 rfl 6 rfl ?_
      refine g_iload hC dL_law_826 1 rfl ?_
      refine g_iconst (v := 3) hC dL_law_828 (by decide) ?_
      refine g_iadd hC dL_law_829 ?_
      refine g_sald hC hS s3 e3 dL_law_830 ?_
      refine g_callV hC (rv := some (.int b9)) [.int a1, .int (zz a2), .int a3] (c_X5_punch l D cy m a1 (zz a2) a3 w1 _ hF2) q_1468 q_137 q_1465 q_1466 q_1467 h9_X5_punch (T := TX5) (N := 23) (ci := 5) rfl (fSm.k hs1 hm) ⟨Nat.le_of_ble_eq_true rfl, Nat.le_of_ble_eq_true rfl⟩ ⟨by show _ + 0 ≤ 622912; omega, by show _ + 0 ≤ 7151591; omega⟩ (Nat.le_of_ble_eq_true rfl) rfl dL_law_831 (fun h2 hh2 hs2 => ?_)
      refine g_cs (cells + 2) (slots + 12) rfl rfl ?_
      refine g_istore (L' := [(7, .int b9), (6, .int (wK [2, 4] rx)), (5, .int i), (4, .ref oD), (3, .ref o), (2, .ref m), (1, .ref x), (0, .ref b)]) hC dL_law_834 (by decide) rfl ?_
      refine g_aload_n hC dL_law_836 rfl 5 rfl ?_
      refine g_callV hC (rv := some (.int t)) [] (c_X5_thrown l D cy m w2 _ hF3) q_1332 q_137 q_1329 q_1330 q_1331 h9_X5_thrown (T := TX5) (N := 23) (ci := 5) rfl (fSm.k (fSm.tr hs2 hs1) hm) ⟨Nat.le_of_ble_eq_true rfl, Nat.le_of_ble_eq_true rfl⟩ ⟨by show _ + 0 ≤ 622912; omega, by show _ + 0 ≤ 7151591; omega⟩ (Nat.le_of_ble_eq_true rfl) rfl dL_law_837 (fun h3 hh3 hs3 => ?_)
      refine g_cs (cells + 2) (slots + 12) rfl rfl ?_
      refine g_iload hC dL_law_840 1 rfl ?_
      refine g_icmp_eq hC 847 dL_law_842 (by decide) (fun _ => ?_) (fun c9 => absurd ht c9)
      refine g_iload hC dL_law_847 1 rfl ?_
      have KE : gAt X (cells + 2) (slots + 12) 9 w2 h3 (gE2 o (some (.inl (wO rx (arrV (cy 5) 1 (fun _ => .long v)) (fun v => arrV (cy 5) 1 (fun _ => .long v.toInt64))))) oD (some (.inl (arrV (cy 6) 1 (fun _ => .double vD))))) [(7, .int b9), (6, .int (wK [2, 4] rx)), (5, .int i), (4, .ref oD), (3, .ref o), (2, .ref m), (1, .ref x), (0, .ref b)] [] 864 := by
        refine g_goto hC 2923 dL_law_864 (by decide) ?_
        refine g_sub (L' := [(5, .int i), (4, .ref oD), (3, .ref o), (2, .ref m), (1, .ref x), (0, .ref b)]) [2, 3, 4, 5, 6, 7] rfl ?_
        refine g_widen (k' := cells + 3) (s' := slots + 18) (by omega) (by omega) ?_
        cases rx with
        | inl u => exact k _ _ _ (by omega)
        | inr e => exact k _ _ _ (by omega)
      refine g_if_ne hC 864 dL_law_849 (by decide) (fun _ => KE) (fun c9 => ?_)
      obtain ⟨u, rfl⟩ := wK_0 (by decide) hes c9
      obtain rfl := hv u rfl
      refine g_aload_n hC dL_law_852 rfl 4 rfl ?_
      refine g_iconst (v := 0) hC dL_law_853 (by decide) ?_
      refine g_laldE (v := u.toInt64) hC (gE2_b _ _ ho) dL_law_854 ?_
      refine g_iload hC dL_law_855 0 rfl ?_
      refine g_i2l hC dL_law_857 ?_
      refine g_lcmp hC dL_law_858 ?_
      rw [lg_self]
      exact g_if_eq hC 864 dL_law_859 (by decide) (fun _ => KE) (fun c9 => absurd rfl c9)
    refine g_if_eq hC 824 dL_law_817 (by decide) (fun c9 => ?_) (fun c9 => ?_)
    · have e9 : zz a2 = 0 := if_pos c9
      rw [e9] at KM2
      exact g_iconst (v := 0) hC dL_law_824 (by decide) KM2
    · have e9 : zz a2 = 1 := if_neg c9
      rw [e9] at KM2
      exact g_iconst (v := 1) hC dL_law_820 (by decide) (g_goto hC 825 dL_law_821 (by decide) KM2)
  refine g_if_eq hC 791 dL_law_784 (by decide) (fun c9 => ?_) (fun c9 => ?_)
  · have e9 : zz a2 = 0 := if_pos c9
    rw [e9] at KM1
    exact g_iconst (v := 0) hC dL_law_791 (by decide) KM1
  · have e9 : zz a2 = 1 := if_neg c9
    rw [e9] at KM1
    exact g_iconst (v := 1) hC dL_law_787 (by decide) (g_goto hC 792 dL_law_788 (by decide) KM1)
set_option maxHeartbeats 4000000 in
theorem law_10 {X : FX} {l : Launch} {D : va_G} {cy : Nat → ClassId} {b Ln : Nat} {xs : Nat → Int32} {cells slots h : Nat} {w w2 : FW} {i a1 a2 a3 : Int32} {x m o oD : Nat} {v : Int64} {vD : UInt64} (hC : fOK X cL_law 9 RL room_1 l D cy) (hst : l.stackTraces = false) (hN : gNcX X) (hS : gScr X b Ln xs) (ho : o < oD) (s1 : vp_in (i + 1) Ln) (e1 : xs (i + 1).toNatClampNeg = a1) (s2 : vp_in (i + 2) Ln) (e2 : xs (i + 2).toNatClampNeg = a2) (s3 : vp_in (i + 3) Ln) (e3 : xs (i + 3).toNatClampNeg = a3) (hx : w.1 x = 5) (hm : w.1 m = 6) (hc1 : cells + 3 ≤ 622912) (hc2 : slots + 18 ≤ 7151591) (hK : KK10 x m a1 a2 a3 w w2)
    (k : ∀ (h' : Nat) (v' : Int64) (vD' : UInt64), h ≤ h' → gAt X (cells + 3) (slots + 18) 9 w2 h' (EE cy o oD v' vD') [(5, .int i), (4, .ref oD), (3, .ref o), (2, .ref m), (1, .ref x), (0, .ref b)] [] 2923) : gAt X cells slots 9 w h (EE cy o oD v vD) [(5, .int i), (4, .ref oD), (3, .ref o), (2, .ref m), (1, .ref x), (0, .ref b)] [] 867 := by
  obtain ⟨rx, w1, b9, t, hF1, hF2, hF3, hes, ht, hv⟩ := hK
  refine g_aload_n hC dL_law_867 rfl 4 rfl ?_
  refine g_aload_n hC dL_law_868 rfl 5 rfl ?_
  refine g_iload hC dL_law_869 0 rfl ?_
  refine g_iconst (v := 1) hC dL_law_871 (by decide) ?_
  refine g_iadd hC dL_law_872 ?_
  refine g_sald hC hS s1 e1 dL_law_873 ?_
  refine g_aload_n hC dL_law_874 rfl 5 rfl ?_
  refine g_iload hC dL_law_875 0 rfl ?_
  refine g_iconst (v := 2) hC dL_law_877 (by decide) ?_
  refine g_iadd hC dL_law_878 ?_
  refine g_sald hC hS s2 e2 dL_law_879 ?_
  have KM1 : gAt X cells slots 9 w h (EE cy o oD v vD) [(5, .int i), (4, .ref oD), (3, .ref o), (2, .ref m), (1, .ref x), (0, .ref b)] [.int (zz a2), .int a1, .ref x] 888 := by
    refine g_aload_n hC dL_law_888 rfl 5 rfl ?_
    refine g_iload hC dL_law_889 0 rfl ?_
    refine g_iconst (v := 3) hC dL_law_891 (by decide) ?_
    refine g_iadd hC dL_law_892 ?_
    refine g_sald hC hS s3 e3 dL_law_893 ?_
    refine g_aload_n hC dL_law_894 rfl 2 rfl ?_
    refine g_callW hC hst [.ref x, .int a1, .int (zz a2), .int a3, .ref o] hN (c_L_wet l D cy x a1 (zz a2) a3 o w w1 v rx hF1 hx hes) q_818 q_131 q_816 q_817 h9_L_wet ⟨Nat.le_of_ble_eq_true rfl, Nat.le_of_ble_eq_true rfl⟩ ⟨by show _ + 2 ≤ 622912; omega, by show _ + 12 ≤ 7151591; omega⟩ (Nat.le_of_ble_eq_true rfl) (gE2_b _ _ ho) rfl dL_law_895 (fun h1 hh1 hs1 => ?_)
    refine g_cs (cells + 2) (slots + 12) rfl rfl ?_
    refine g_nm h1 (gE2 o (some (.inl (wO rx (arrV (cy 5) 1 (fun _ => .long v)) (fun v => arrV (cy 5) 1 (fun _ => .long v.toInt64))))) oD (some (.inl (arrV (cy 6) 1 (fun _ => .double vD))))) w1 [(5, .int i), (4, .ref oD), (3, .ref o), (2, .ref m), (1, .ref x), (0, .ref b)] rfl (gE2_upb _ _ _ ho).symm rfl rfl ?_
    refine g_istore (L' := [(6, .int (wK [2, 1] rx)), (5, .int i), (4, .ref oD), (3, .ref o), (2, .ref m), (1, .ref x), (0, .ref b)]) hC dL_law_898 (by decide) rfl ?_
    refine g_aload_n hC dL_law_900 rfl 4 rfl ?_
    refine g_aload_n hC dL_law_901 rfl 6 rfl ?_
    refine g_iload hC dL_law_902 1 rfl ?_
    refine g_iconst (v := 1) hC dL_law_904 (by decide) ?_
    refine g_iadd hC dL_law_905 ?_
    refine g_sald hC hS s1 e1 dL_law_906 ?_
    refine g_aload_n hC dL_law_907 rfl 6 rfl ?_
    refine g_iload hC dL_law_908 1 rfl ?_
    refine g_iconst (v := 2) hC dL_law_910 (by decide) ?_
    refine g_iadd hC dL_law_911 ?_
    refine g_sald hC hS s2 e2 dL_law_912 ?_
    have KM2 : gAt X (cells + 2) (slots + 12) 9 w1 h1 (gE2 o (some (.inl (wO rx (arrV (cy 5) 1 (fun _ => .long v)) (fun v => arrV (cy 5) 1 (fun _ => .long v.toInt64))))) oD (some (.inl (arrV (cy 6) 1 (fun _ => .double vD))))) [(6, .int (wK [2, 1] rx)), (5, .int i), (4, .ref oD), (3, .ref o), (2, .ref m), (1, .ref x), (0, .ref b)] [.int (zz a2), .int a1, .ref m] 921 := by
      refine g_aload_n hC dL_law_921 rfl 6 rfl ?_
      refine g_iload hC dL_law_922 1 rfl ?_
      refine g_iconst (v := 3) hC dL_law_924 (by decide) ?_
      refine g_iadd hC dL_law_925 ?_
      refine g_sald hC hS s3 e3 dL_law_926 ?_
      refine g_callV hC (rv := some (.int b9)) [.int a1, .int (zz a2), .int a3] (c_X5_wet l D cy m a1 (zz a2) a3 w1 _ hF2) q_1498 q_137 q_1495 q_1496 q_1497 h9_X5_wet (T := TX5) (N := 23) (ci := 5) rfl (fSm.k hs1 hm) ⟨Nat.le_of_ble_eq_true rfl, Nat.le_of_ble_eq_true rfl⟩ ⟨by show _ + 0 ≤ 622912; omega, by show _ + 0 ≤ 7151591; omega⟩ (Nat.le_of_ble_eq_true rfl) rfl dL_law_927 (fun h2 hh2 hs2 => ?_)
      refine g_cs (cells + 2) (slots + 12) rfl rfl ?_
      refine g_istore (L' := [(7, .int b9), (6, .int (wK [2, 1] rx)), (5, .int i), (4, .ref oD), (3, .ref o), (2, .ref m), (1, .ref x), (0, .ref b)]) hC dL_law_930 (by decide) rfl ?_
      refine g_aload_n hC dL_law_932 rfl 5 rfl ?_
      refine g_callV hC (rv := some (.int t)) [] (c_X5_thrown l D cy m w2 _ hF3) q_1332 q_137 q_1329 q_1330 q_1331 h9_X5_thrown (T := TX5) (N := 23) (ci := 5) rfl (fSm.k (fSm.tr hs2 hs1) hm) ⟨Nat.le_of_ble_eq_true rfl, Nat.le_of_ble_eq_true rfl⟩ ⟨by show _ + 0 ≤ 622912; omega, by show _ + 0 ≤ 7151591; omega⟩ (Nat.le_of_ble_eq_true rfl) rfl dL_law_933 (fun h3 hh3 hs3 => ?_)
      refine g_cs (cells + 2) (slots + 12) rfl rfl ?_
      refine g_iload hC dL_law_936 1 rfl ?_
      refine g_icmp_eq hC 943 dL_law_938 (by decide) (fun _ => ?_) (fun c9 => absurd ht c9)
      refine g_iload hC dL_law_943 1 rfl ?_
      have KE : gAt X (cells + 2) (slots + 12) 9 w2 h3 (gE2 o (some (.inl (wO rx (arrV (cy 5) 1 (fun _ => .long v)) (fun v => arrV (cy 5) 1 (fun _ => .long v.toInt64))))) oD (some (.inl (arrV (cy 6) 1 (fun _ => .double vD))))) [(7, .int b9), (6, .int (wK [2, 1] rx)), (5, .int i), (4, .ref oD), (3, .ref o), (2, .ref m), (1, .ref x), (0, .ref b)] [] 960 := by
        refine g_goto hC 2923 dL_law_960 (by decide) ?_
        refine g_sub (L' := [(5, .int i), (4, .ref oD), (3, .ref o), (2, .ref m), (1, .ref x), (0, .ref b)]) [2, 3, 4, 5, 6, 7] rfl ?_
        refine g_widen (k' := cells + 3) (s' := slots + 18) (by omega) (by omega) ?_
        cases rx with
        | inl u => exact k _ _ _ (by omega)
        | inr e => exact k _ _ _ (by omega)
      refine g_if_ne hC 960 dL_law_945 (by decide) (fun _ => KE) (fun c9 => ?_)
      obtain ⟨u, rfl⟩ := wK_0 (by decide) hes c9
      obtain rfl := hv u rfl
      refine g_aload_n hC dL_law_948 rfl 4 rfl ?_
      refine g_iconst (v := 0) hC dL_law_949 (by decide) ?_
      refine g_laldE (v := u.toInt64) hC (gE2_b _ _ ho) dL_law_950 ?_
      refine g_iload hC dL_law_951 0 rfl ?_
      refine g_i2l hC dL_law_953 ?_
      refine g_lcmp hC dL_law_954 ?_
      rw [lg_self]
      exact g_if_eq hC 960 dL_law_955 (by decide) (fun _ => KE) (fun c9 => absurd rfl c9)
    refine g_if_eq hC 920 dL_law_913 (by decide) (fun c9 => ?_) (fun c9 => ?_)
    · have e9 : zz a2 = 0 := if_pos c9
      rw [e9] at KM2
      exact g_iconst (v := 0) hC dL_law_920 (by decide) KM2
    · have e9 : zz a2 = 1 := if_neg c9
      rw [e9] at KM2
      exact g_iconst (v := 1) hC dL_law_916 (by decide) (g_goto hC 921 dL_law_917 (by decide) KM2)
  refine g_if_eq hC 887 dL_law_880 (by decide) (fun c9 => ?_) (fun c9 => ?_)
  · have e9 : zz a2 = 0 := if_pos c9
    rw [e9] at KM1
    exact g_iconst (v := 0) hC dL_law_887 (by decide) KM1
  · have e9 : zz a2 = 1 := if_neg c9
    rw [e9] at KM1
    exact g_iconst (v := 1) hC dL_law_883 (by decide) (g_goto hC 888 dL_law_884 (by decide) KM1)
