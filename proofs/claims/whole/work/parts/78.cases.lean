section Cases
variable {p : Program} {l : Launch} {e : Env} {s : State} {m : MethodId} {below : List Frame} {meth : Method} {c : Code} {b L : Nat} {xs : Nat → Int32} {A : Nat → Prop} {D : va_G} {cI cJ : ClassId} {t a : Nat → Nat} {mt ka : Nat} {kk vv : Nat → Nat} {i : Nat} {f g h : Nat → Int32} {τ σ : Nat → Nat → Int32} {H : Heap} {locs : List Loc} {ls : Array Slot}
theorem lw_c0 (hC : LC p s m c b L xs A D cI cJ mt ka kk vv) (hi : 6 * i + 6 ≤ L) (hL : L ≤ 3072) (hT : ST i f h τ σ) (hP : va_P D vwCl (TW cI cJ t f g h τ ++ MW cI a f σ) H) (hD : va_D A (TW cI cJ t f g h τ ++ MW cI a f σ)) (hS : va_S A s.heap H locs) (hl : lv_has ls 4 [(3, .int (nI (6 * i))), (2, .ref (a 0)), (1, .ref (t 0)), (0, .ref b)]) (K : KJ p l e s m below meth c b A D cI cJ t a i ls) : W p l e room_1 s m #[Value.ref b] below meth c H locs 600000 7302250 (lw_Z below #[Value.ref b] s) (F0 m 224 ls []) := by
  obtain ⟨S, hK, hZ, hX, hbl, hbA, hA⟩ := hC
  obtain ⟨hx, hb, hml, hown, hU⟩ := id S
  refine lv_aload_n hx hb dL_law_224 rfl (lv_at hl 2 rfl) ?_
  refine lv_aload_n hx hb dL_law_225 rfl (lv_at hl 3 rfl) ?_
  refine lv_iload_n hx hb dL_law_226 rfl (lv_at hl 0 rfl) ?_
  refine lv_iconst (v := nI 1) hx hb dL_law_227 (by decide) ?_
  refine q_iaddN (a := 6 * i) (b := 1) hx hb dL_law_228 ?_
  refine va_sld hx hb hX hbl hbA hS (i := nI (6 * i + 1)) (vp_in_nI (by omega) (by omega)) dL_law_229 ?_
  refine lv_aload_n hx hb dL_law_230 rfl (lv_at hl 3 rfl) ?_
  refine lv_iload_n hx hb dL_law_231 rfl (lv_at hl 0 rfl) ?_
  refine lv_iconst (v := nI 2) hx hb dL_law_232 (by decide) ?_
  refine q_iaddN (a := 6 * i) (b := 2) hx hb dL_law_233 ?_
  refine va_sld hx hb hX hbl hbA hS (i := nI (6 * i + 2)) (vp_in_nI (by omega) (by omega)) dL_law_234 ?_
  obtain ⟨r, f1, h1, τ1, σ1, h3, h4, hT1⟩ := pr_frost l D cI cJ t a mt ka kk vv i (by omega) f g h τ σ hT (xs (nI (6 * i + 1)).toNatClampNeg) (xs (nI (6 * i + 2)).toNatClampNeg)
  refine V3.call (rest := []) hZ S kv_L_13 h3 hK hP hD hS hA (fun d hd => ⟨by show d + 1 ≤ 12; omega, by show 8 + _ + 36 * d ≤ 438; omega⟩) hl.1 rfl rfl (Nat.le_of_ble_eq_true rfl) (Nat.le_refl _) (Nat.le_refl _) dL_law_235 (fun g1 H locs hP hD hS => ?_)
  refine lv_aload_n hx hb dL_law_238 rfl (lv_at hl 1 rfl) ?_
  refine lv_aload_n hx hb dL_law_239 rfl (lv_at hl 3 rfl) ?_
  refine lv_iload_n hx hb dL_law_240 rfl (lv_at hl 0 rfl) ?_
  refine lv_iconst (v := nI 1) hx hb dL_law_241 (by decide) ?_
  refine q_iaddN (a := 6 * i) (b := 1) hx hb dL_law_242 ?_
  refine va_sld hx hb hX hbl hbA hS (i := nI (6 * i + 1)) (vp_in_nI (by omega) (by omega)) dL_law_243 ?_
  refine lv_aload_n hx hb dL_law_244 rfl (lv_at hl 3 rfl) ?_
  refine lv_iload_n hx hb dL_law_245 rfl (lv_at hl 0 rfl) ?_
  refine lv_iconst (v := nI 2) hx hb dL_law_246 (by decide) ?_
  refine q_iaddN (a := 6 * i) (b := 2) hx hb dL_law_247 ?_
  refine va_sld hx hb hX hbl hbA hS (i := nI (6 * i + 2)) (vp_in_nI (by omega) (by omega)) dL_law_248 ?_
  refine V4.call (rest := [_]) S kv_L_17 h4 hK hP hD hS hA (fun d hd => ⟨by show d + 1 ≤ 12; omega, by show 8 + _ + 36 * d ≤ 438; omega⟩) hl.1 rfl rfl (Nat.le_of_ble_eq_true rfl) (Nat.le_refl _) (Nat.le_refl _) dL_law_249 (fun H locs hP hD hS => ?_)
  refine lv_icmp_eq (tgt := 1497) hx hb dL_law_252 (by decide) (fun _ => ?_) (fun q => absurd rfl q)
  exact K f1 g1 h1 τ1 σ1 _ _ hT1 hP hD hS
theorem lw_c1 (hC : LC p s m c b L xs A D cI cJ mt ka kk vv) (hi : 6 * i + 6 ≤ L) (hL : L ≤ 3072) (hT : ST i f h τ σ) (hP : va_P D vwCl (TW cI cJ t f g h τ ++ MW cI a f σ) H) (hD : va_D A (TW cI cJ t f g h τ ++ MW cI a f σ)) (hS : va_S A s.heap H locs) (hl : lv_has ls 4 [(3, .int (nI (6 * i))), (2, .ref (a 0)), (1, .ref (t 0)), (0, .ref b)]) (K : KJ p l e s m below meth c b A D cI cJ t a i ls) : W p l e room_1 s m #[Value.ref b] below meth c H locs 600000 7302250 (lw_Z below #[Value.ref b] s) (F0 m 257 ls []) := by
  obtain ⟨S, hK, hZ, hX, hbl, hbA, hA⟩ := hC
  obtain ⟨hx, hb, hml, hown, hU⟩ := id S
  refine lv_aload_n hx hb dL_law_257 rfl (lv_at hl 2 rfl) ?_
  refine lv_aload_n hx hb dL_law_258 rfl (lv_at hl 3 rfl) ?_
  refine lv_iload_n hx hb dL_law_259 rfl (lv_at hl 0 rfl) ?_
  refine lv_iconst (v := nI 1) hx hb dL_law_260 (by decide) ?_
  refine q_iaddN (a := 6 * i) (b := 1) hx hb dL_law_261 ?_
  refine va_sld hx hb hX hbl hbA hS (i := nI (6 * i + 1)) (vp_in_nI (by omega) (by omega)) dL_law_262 ?_
  refine lv_aload_n hx hb dL_law_263 rfl (lv_at hl 3 rfl) ?_
  refine lv_iload_n hx hb dL_law_264 rfl (lv_at hl 0 rfl) ?_
  refine lv_iconst (v := nI 2) hx hb dL_law_265 (by decide) ?_
  refine q_iaddN (a := 6 * i) (b := 2) hx hb dL_law_266 ?_
  refine va_sld hx hb hX hbl hbA hS (i := nI (6 * i + 2)) (vp_in_nI (by omega) (by omega)) dL_law_267 ?_
  obtain ⟨r, f1, h1, τ1, σ1, h3, h4, hT1⟩ := pr_cellar l D cI cJ t a mt ka kk vv i (by omega) f g h τ σ hT (xs (nI (6 * i + 1)).toNatClampNeg) (xs (nI (6 * i + 2)).toNatClampNeg)
  refine V3.call (rest := []) hZ S kv_L_18 h3 hK hP hD hS hA (fun d hd => ⟨by show d + 1 ≤ 12; omega, by show 8 + _ + 36 * d ≤ 438; omega⟩) hl.1 rfl rfl (Nat.le_of_ble_eq_true rfl) (Nat.le_refl _) (Nat.le_refl _) dL_law_268 (fun g1 H locs hP hD hS => ?_)
  refine lv_aload_n hx hb dL_law_271 rfl (lv_at hl 1 rfl) ?_
  refine lv_aload_n hx hb dL_law_272 rfl (lv_at hl 3 rfl) ?_
  refine lv_iload_n hx hb dL_law_273 rfl (lv_at hl 0 rfl) ?_
  refine lv_iconst (v := nI 1) hx hb dL_law_274 (by decide) ?_
  refine q_iaddN (a := 6 * i) (b := 1) hx hb dL_law_275 ?_
  refine va_sld hx hb hX hbl hbA hS (i := nI (6 * i + 1)) (vp_in_nI (by omega) (by omega)) dL_law_276 ?_
  refine lv_aload_n hx hb dL_law_277 rfl (lv_at hl 3 rfl) ?_
  refine lv_iload_n hx hb dL_law_278 rfl (lv_at hl 0 rfl) ?_
  refine lv_iconst (v := nI 2) hx hb dL_law_279 (by decide) ?_
  refine q_iaddN (a := 6 * i) (b := 2) hx hb dL_law_280 ?_
  refine va_sld hx hb hX hbl hbA hS (i := nI (6 * i + 2)) (vp_in_nI (by omega) (by omega)) dL_law_281 ?_
  refine V4.call (rest := [_]) S kv_L_21 h4 hK hP hD hS hA (fun d hd => ⟨by show d + 1 ≤ 12; omega, by show 8 + _ + 36 * d ≤ 438; omega⟩) hl.1 rfl rfl (Nat.le_of_ble_eq_true rfl) (Nat.le_refl _) (Nat.le_refl _) dL_law_282 (fun H locs hP hD hS => ?_)
  refine lv_icmp_eq (tgt := 1497) hx hb dL_law_285 (by decide) (fun _ => ?_) (fun q => absurd rfl q)
  exact K f1 g1 h1 τ1 σ1 _ _ hT1 hP hD hS
theorem lw_c2 (hC : LC p s m c b L xs A D cI cJ mt ka kk vv) (hi : 6 * i + 6 ≤ L) (hL : L ≤ 3072) (hT : ST i f h τ σ) (hP : va_P D vwCl (TW cI cJ t f g h τ ++ MW cI a f σ) H) (hD : va_D A (TW cI cJ t f g h τ ++ MW cI a f σ)) (hS : va_S A s.heap H locs) (hl : lv_has ls 4 [(3, .int (nI (6 * i))), (2, .ref (a 0)), (1, .ref (t 0)), (0, .ref b)]) (K : KJ p l e s m below meth c b A D cI cJ t a i ls) : W p l e room_1 s m #[Value.ref b] below meth c H locs 600000 7302250 (lw_Z below #[Value.ref b] s) (F0 m 290 ls []) := by
  obtain ⟨S, hK, hZ, hX, hbl, hbA, hA⟩ := hC
  obtain ⟨hx, hb, hml, hown, hU⟩ := id S
  refine lv_aload_n hx hb dL_law_290 rfl (lv_at hl 2 rfl) ?_
  refine lv_aload_n hx hb dL_law_291 rfl (lv_at hl 3 rfl) ?_
  refine lv_iload_n hx hb dL_law_292 rfl (lv_at hl 0 rfl) ?_
  refine lv_iconst (v := nI 1) hx hb dL_law_293 (by decide) ?_
  refine q_iaddN (a := 6 * i) (b := 1) hx hb dL_law_294 ?_
  refine va_sld hx hb hX hbl hbA hS (i := nI (6 * i + 1)) (vp_in_nI (by omega) (by omega)) dL_law_295 ?_
  refine lv_aload_n hx hb dL_law_296 rfl (lv_at hl 3 rfl) ?_
  refine lv_iload_n hx hb dL_law_297 rfl (lv_at hl 0 rfl) ?_
  refine lv_iconst (v := nI 2) hx hb dL_law_298 (by decide) ?_
  refine q_iaddN (a := 6 * i) (b := 2) hx hb dL_law_299 ?_
  refine va_sld hx hb hX hbl hbA hS (i := nI (6 * i + 2)) (vp_in_nI (by omega) (by omega)) dL_law_300 ?_
  obtain ⟨r, f1, h1, τ1, σ1, h3, h4, hT1⟩ := pr_storm l D cI cJ t a mt ka kk vv i (by omega) f g h τ σ hT (xs (nI (6 * i + 1)).toNatClampNeg) (xs (nI (6 * i + 2)).toNatClampNeg)
  refine V3.call (rest := []) hZ S kv_L_22 h3 hK hP hD hS hA (fun d hd => ⟨by show d + 1 ≤ 12; omega, by show 8 + _ + 36 * d ≤ 438; omega⟩) hl.1 rfl rfl (Nat.le_of_ble_eq_true rfl) (Nat.le_refl _) (Nat.le_refl _) dL_law_301 (fun g1 H locs hP hD hS => ?_)
  refine lv_aload_n hx hb dL_law_304 rfl (lv_at hl 1 rfl) ?_
  refine lv_aload_n hx hb dL_law_305 rfl (lv_at hl 3 rfl) ?_
  refine lv_iload_n hx hb dL_law_306 rfl (lv_at hl 0 rfl) ?_
  refine lv_iconst (v := nI 1) hx hb dL_law_307 (by decide) ?_
  refine q_iaddN (a := 6 * i) (b := 1) hx hb dL_law_308 ?_
  refine va_sld hx hb hX hbl hbA hS (i := nI (6 * i + 1)) (vp_in_nI (by omega) (by omega)) dL_law_309 ?_
  refine lv_aload_n hx hb dL_law_310 rfl (lv_at hl 3 rfl) ?_
  refine lv_iload_n hx hb dL_law_311 rfl (lv_at hl 0 rfl) ?_
  refine lv_iconst (v := nI 2) hx hb dL_law_312 (by decide) ?_
  refine q_iaddN (a := 6 * i) (b := 2) hx hb dL_law_313 ?_
  refine va_sld hx hb hX hbl hbA hS (i := nI (6 * i + 2)) (vp_in_nI (by omega) (by omega)) dL_law_314 ?_
  refine V4.call (rest := [_]) S kv_L_25 h4 hK hP hD hS hA (fun d hd => ⟨by show d + 1 ≤ 12; omega, by show 8 + _ + 36 * d ≤ 438; omega⟩) hl.1 rfl rfl (Nat.le_of_ble_eq_true rfl) (Nat.le_refl _) (Nat.le_refl _) dL_law_315 (fun H locs hP hD hS => ?_)
  refine lv_icmp_eq (tgt := 1497) hx hb dL_law_318 (by decide) (fun _ => ?_) (fun q => absurd rfl q)
  exact K f1 g1 h1 τ1 σ1 _ _ hT1 hP hD hS
theorem lw_c3 (hC : LC p s m c b L xs A D cI cJ mt ka kk vv) (hi : 6 * i + 6 ≤ L) (hL : L ≤ 3072) (hT : ST i f h τ σ) (hP : va_P D vwCl (TW cI cJ t f g h τ ++ MW cI a f σ) H) (hD : va_D A (TW cI cJ t f g h τ ++ MW cI a f σ)) (hS : va_S A s.heap H locs) (hl : lv_has ls 4 [(3, .int (nI (6 * i))), (2, .ref (a 0)), (1, .ref (t 0)), (0, .ref b)]) (K : KJ p l e s m below meth c b A D cI cJ t a i ls) : W p l e room_1 s m #[Value.ref b] below meth c H locs 600000 7302250 (lw_Z below #[Value.ref b] s) (F0 m 323 ls []) := by
  obtain ⟨S, hK, hZ, hX, hbl, hbA, hA⟩ := hC
  obtain ⟨hx, hb, hml, hown, hU⟩ := id S
  refine lv_aload_n hx hb dL_law_323 rfl (lv_at hl 2 rfl) ?_
  refine lv_aload_n hx hb dL_law_324 rfl (lv_at hl 3 rfl) ?_
  refine lv_iload_n hx hb dL_law_325 rfl (lv_at hl 0 rfl) ?_
  refine lv_iconst (v := nI 1) hx hb dL_law_326 (by decide) ?_
  refine q_iaddN (a := 6 * i) (b := 1) hx hb dL_law_327 ?_
  refine va_sld hx hb hX hbl hbA hS (i := nI (6 * i + 1)) (vp_in_nI (by omega) (by omega)) dL_law_328 ?_
  refine lv_aload_n hx hb dL_law_329 rfl (lv_at hl 3 rfl) ?_
  refine lv_iload_n hx hb dL_law_330 rfl (lv_at hl 0 rfl) ?_
  refine lv_iconst (v := nI 2) hx hb dL_law_331 (by decide) ?_
  refine q_iaddN (a := 6 * i) (b := 2) hx hb dL_law_332 ?_
  refine va_sld hx hb hX hbl hbA hS (i := nI (6 * i + 2)) (vp_in_nI (by omega) (by omega)) dL_law_333 ?_
  obtain ⟨r, f1, h1, τ1, σ1, h3, h4, hT1⟩ := pr_cask l D cI cJ t a mt ka kk vv i (by omega) f g h τ σ hT (xs (nI (6 * i + 1)).toNatClampNeg) (xs (nI (6 * i + 2)).toNatClampNeg)
  refine V3.call (rest := []) hZ S kv_L_26 h3 hK hP hD hS hA (fun d hd => ⟨by show d + 1 ≤ 12; omega, by show 8 + _ + 36 * d ≤ 438; omega⟩) hl.1 rfl rfl (Nat.le_of_ble_eq_true rfl) (Nat.le_refl _) (Nat.le_refl _) dL_law_334 (fun g1 H locs hP hD hS => ?_)
  refine lv_aload_n hx hb dL_law_337 rfl (lv_at hl 1 rfl) ?_
  refine lv_aload_n hx hb dL_law_338 rfl (lv_at hl 3 rfl) ?_
  refine lv_iload_n hx hb dL_law_339 rfl (lv_at hl 0 rfl) ?_
  refine lv_iconst (v := nI 1) hx hb dL_law_340 (by decide) ?_
  refine q_iaddN (a := 6 * i) (b := 1) hx hb dL_law_341 ?_
  refine va_sld hx hb hX hbl hbA hS (i := nI (6 * i + 1)) (vp_in_nI (by omega) (by omega)) dL_law_342 ?_
  refine lv_aload_n hx hb dL_law_343 rfl (lv_at hl 3 rfl) ?_
  refine lv_iload_n hx hb dL_law_344 rfl (lv_at hl 0 rfl) ?_
  refine lv_iconst (v := nI 2) hx hb dL_law_345 (by decide) ?_
  refine q_iaddN (a := 6 * i) (b := 2) hx hb dL_law_346 ?_
  refine va_sld hx hb hX hbl hbA hS (i := nI (6 * i + 2)) (vp_in_nI (by omega) (by omega)) dL_law_347 ?_
  refine V4.call (rest := [_]) S kv_L_29 h4 hK hP hD hS hA (fun d hd => ⟨by show d + 1 ≤ 12; omega, by show 8 + _ + 36 * d ≤ 438; omega⟩) hl.1 rfl rfl (Nat.le_of_ble_eq_true rfl) (Nat.le_refl _) (Nat.le_refl _) dL_law_348 (fun H locs hP hD hS => ?_)
  refine lv_icmp_eq (tgt := 1497) hx hb dL_law_351 (by decide) (fun _ => ?_) (fun q => absurd rfl q)
  exact K f1 g1 h1 τ1 σ1 _ _ hT1 hP hD hS
theorem lw_c4 (hC : LC p s m c b L xs A D cI cJ mt ka kk vv) (hi : 6 * i + 6 ≤ L) (hL : L ≤ 3072) (hT : ST i f h τ σ) (hP : va_P D vwCl (TW cI cJ t f g h τ ++ MW cI a f σ) H) (hD : va_D A (TW cI cJ t f g h τ ++ MW cI a f σ)) (hS : va_S A s.heap H locs) (hl : lv_has ls 4 [(3, .int (nI (6 * i))), (2, .ref (a 0)), (1, .ref (t 0)), (0, .ref b)]) (K : KJ p l e s m below meth c b A D cI cJ t a i ls) : W p l e room_1 s m #[Value.ref b] below meth c H locs 600000 7302250 (lw_Z below #[Value.ref b] s) (F0 m 356 ls []) := by
  obtain ⟨S, hK, hZ, hX, hbl, hbA, hA⟩ := hC
  obtain ⟨hx, hb, hml, hown, hU⟩ := id S
  refine lv_aload_n hx hb dL_law_356 rfl (lv_at hl 2 rfl) ?_
  refine lv_aload_n hx hb dL_law_357 rfl (lv_at hl 3 rfl) ?_
  refine lv_iload_n hx hb dL_law_358 rfl (lv_at hl 0 rfl) ?_
  refine lv_iconst (v := nI 1) hx hb dL_law_359 (by decide) ?_
  refine q_iaddN (a := 6 * i) (b := 1) hx hb dL_law_360 ?_
  refine va_sld hx hb hX hbl hbA hS (i := nI (6 * i + 1)) (vp_in_nI (by omega) (by omega)) dL_law_361 ?_
  refine lv_aload_n hx hb dL_law_362 rfl (lv_at hl 3 rfl) ?_
  refine lv_iload_n hx hb dL_law_363 rfl (lv_at hl 0 rfl) ?_
  refine lv_iconst (v := nI 2) hx hb dL_law_364 (by decide) ?_
  refine q_iaddN (a := 6 * i) (b := 2) hx hb dL_law_365 ?_
  refine va_sld hx hb hX hbl hbA hS (i := nI (6 * i + 2)) (vp_in_nI (by omega) (by omega)) dL_law_366 ?_
  obtain ⟨r, f1, h1, τ1, σ1, h3, h4, hT1⟩ := pr_of l D cI cJ t a mt ka kk vv i (by omega) f g h τ σ hT (xs (nI (6 * i + 1)).toNatClampNeg) (xs (nI (6 * i + 2)).toNatClampNeg)
  refine V3.call (rest := []) hZ S kv_L_30 h3 hK hP hD hS hA (fun d hd => ⟨by show d + 1 ≤ 12; omega, by show 8 + _ + 36 * d ≤ 438; omega⟩) hl.1 rfl rfl (Nat.le_of_ble_eq_true rfl) (Nat.le_refl _) (Nat.le_refl _) dL_law_367 (fun g1 H locs hP hD hS => ?_)
  refine lv_aload_n hx hb dL_law_370 rfl (lv_at hl 1 rfl) ?_
  refine lv_aload_n hx hb dL_law_371 rfl (lv_at hl 3 rfl) ?_
  refine lv_iload_n hx hb dL_law_372 rfl (lv_at hl 0 rfl) ?_
  refine lv_iconst (v := nI 1) hx hb dL_law_373 (by decide) ?_
  refine q_iaddN (a := 6 * i) (b := 1) hx hb dL_law_374 ?_
  refine va_sld hx hb hX hbl hbA hS (i := nI (6 * i + 1)) (vp_in_nI (by omega) (by omega)) dL_law_375 ?_
  refine lv_aload_n hx hb dL_law_376 rfl (lv_at hl 3 rfl) ?_
  refine lv_iload_n hx hb dL_law_377 rfl (lv_at hl 0 rfl) ?_
  refine lv_iconst (v := nI 2) hx hb dL_law_378 (by decide) ?_
  refine q_iaddN (a := 6 * i) (b := 2) hx hb dL_law_379 ?_
  refine va_sld hx hb hX hbl hbA hS (i := nI (6 * i + 2)) (vp_in_nI (by omega) (by omega)) dL_law_380 ?_
  refine V4.call (rest := [_]) S kv_L_33 h4 hK hP hD hS hA (fun d hd => ⟨by show d + 1 ≤ 12; omega, by show 8 + _ + 36 * d ≤ 438; omega⟩) hl.1 rfl rfl (Nat.le_of_ble_eq_true rfl) (Nat.le_refl _) (Nat.le_refl _) dL_law_381 (fun H locs hP hD hS => ?_)
  refine lv_icmp_eq (tgt := 1497) hx hb dL_law_384 (by decide) (fun _ => ?_) (fun q => absurd rfl q)
  exact K f1 g1 h1 τ1 σ1 _ _ hT1 hP hD hS
theorem lw_c5 (hC : LC p s m c b L xs A D cI cJ mt ka kk vv) (hi : 6 * i + 6 ≤ L) (hL : L ≤ 3072) (hT : ST i f h τ σ) (hP : va_P D vwCl (TW cI cJ t f g h τ ++ MW cI a f σ) H) (hD : va_D A (TW cI cJ t f g h τ ++ MW cI a f σ)) (hS : va_S A s.heap H locs) (hl : lv_has ls 4 [(3, .int (nI (6 * i))), (2, .ref (a 0)), (1, .ref (t 0)), (0, .ref b)]) (K : KJ p l e s m below meth c b A D cI cJ t a i ls) : W p l e room_1 s m #[Value.ref b] below meth c H locs 600000 7302250 (lw_Z below #[Value.ref b] s) (F0 m 389 ls []) := by
  obtain ⟨S, hK, hZ, hX, hbl, hbA, hA⟩ := hC
  obtain ⟨hx, hb, hml, hown, hU⟩ := id S
  refine lv_aload_n hx hb dL_law_389 rfl (lv_at hl 2 rfl) ?_
  refine lv_aload_n hx hb dL_law_390 rfl (lv_at hl 3 rfl) ?_
  refine lv_iload_n hx hb dL_law_391 rfl (lv_at hl 0 rfl) ?_
  refine lv_iconst (v := nI 1) hx hb dL_law_392 (by decide) ?_
  refine q_iaddN (a := 6 * i) (b := 1) hx hb dL_law_393 ?_
  refine va_sld hx hb hX hbl hbA hS (i := nI (6 * i + 1)) (vp_in_nI (by omega) (by omega)) dL_law_394 ?_
  refine lv_aload_n hx hb dL_law_395 rfl (lv_at hl 3 rfl) ?_
  refine lv_iload_n hx hb dL_law_396 rfl (lv_at hl 0 rfl) ?_
  refine lv_iconst (v := nI 2) hx hb dL_law_397 (by decide) ?_
  refine q_iaddN (a := 6 * i) (b := 2) hx hb dL_law_398 ?_
  refine va_sld hx hb hX hbl hbA hS (i := nI (6 * i + 2)) (vp_in_nI (by omega) (by omega)) dL_law_399 ?_
  refine lv_aload_n hx hb dL_law_400 rfl (lv_at hl 3 rfl) ?_
  refine lv_iload_n hx hb dL_law_401 rfl (lv_at hl 0 rfl) ?_
  refine lv_iconst (v := nI 3) hx hb dL_law_402 (by decide) ?_
  refine q_iaddN (a := 6 * i) (b := 3) hx hb dL_law_403 ?_
  refine va_sld hx hb hX hbl hbA hS (i := nI (6 * i + 3)) (vp_in_nI (by omega) (by omega)) dL_law_404 ?_
  obtain ⟨r, f1, h1, τ1, σ1, h3, h4, hT1⟩ := pr_change l D cI cJ t a mt ka kk vv i (by omega) f g h τ σ hT (xs (nI (6 * i + 1)).toNatClampNeg) (xs (nI (6 * i + 2)).toNatClampNeg) (xs (nI (6 * i + 3)).toNatClampNeg)
  refine V3.call (rest := []) hZ S kv_L_34 h3 hK hP hD hS hA (fun d hd => ⟨by show d + 1 ≤ 12; omega, by show 8 + _ + 36 * d ≤ 438; omega⟩) hl.1 rfl rfl (Nat.le_of_ble_eq_true rfl) (Nat.le_refl _) (Nat.le_refl _) dL_law_405 (fun g1 H locs hP hD hS => ?_)
  refine lv_aload_n hx hb dL_law_408 rfl (lv_at hl 1 rfl) ?_
  refine lv_aload_n hx hb dL_law_409 rfl (lv_at hl 3 rfl) ?_
  refine lv_iload_n hx hb dL_law_410 rfl (lv_at hl 0 rfl) ?_
  refine lv_iconst (v := nI 1) hx hb dL_law_411 (by decide) ?_
  refine q_iaddN (a := 6 * i) (b := 1) hx hb dL_law_412 ?_
  refine va_sld hx hb hX hbl hbA hS (i := nI (6 * i + 1)) (vp_in_nI (by omega) (by omega)) dL_law_413 ?_
  refine lv_aload_n hx hb dL_law_414 rfl (lv_at hl 3 rfl) ?_
  refine lv_iload_n hx hb dL_law_415 rfl (lv_at hl 0 rfl) ?_
  refine lv_iconst (v := nI 2) hx hb dL_law_416 (by decide) ?_
  refine q_iaddN (a := 6 * i) (b := 2) hx hb dL_law_417 ?_
  refine va_sld hx hb hX hbl hbA hS (i := nI (6 * i + 2)) (vp_in_nI (by omega) (by omega)) dL_law_418 ?_
  refine lv_aload_n hx hb dL_law_419 rfl (lv_at hl 3 rfl) ?_
  refine lv_iload_n hx hb dL_law_420 rfl (lv_at hl 0 rfl) ?_
  refine lv_iconst (v := nI 3) hx hb dL_law_421 (by decide) ?_
  refine q_iaddN (a := 6 * i) (b := 3) hx hb dL_law_422 ?_
  refine va_sld hx hb hX hbl hbA hS (i := nI (6 * i + 3)) (vp_in_nI (by omega) (by omega)) dL_law_423 ?_
  refine V4.call (rest := [_]) S kv_L_38 h4 hK hP hD hS hA (fun d hd => ⟨by show d + 1 ≤ 12; omega, by show 8 + _ + 36 * d ≤ 438; omega⟩) hl.1 rfl rfl (Nat.le_of_ble_eq_true rfl) (Nat.le_refl _) (Nat.le_refl _) dL_law_424 (fun H locs hP hD hS => ?_)
  refine lv_icmp_eq (tgt := 1497) hx hb dL_law_427 (by decide) (fun _ => ?_) (fun q => absurd rfl q)
  exact K f1 g1 h1 τ1 σ1 _ _ hT1 hP hD hS
theorem lw_c6 (hC : LC p s m c b L xs A D cI cJ mt ka kk vv) (hi : 6 * i + 6 ≤ L) (hL : L ≤ 3072) (hT : ST i f h τ σ) (hP : va_P D vwCl (TW cI cJ t f g h τ ++ MW cI a f σ) H) (hD : va_D A (TW cI cJ t f g h τ ++ MW cI a f σ)) (hS : va_S A s.heap H locs) (hl : lv_has ls 4 [(3, .int (nI (6 * i))), (2, .ref (a 0)), (1, .ref (t 0)), (0, .ref b)]) (K : KJ p l e s m below meth c b A D cI cJ t a i ls) : W p l e room_1 s m #[Value.ref b] below meth c H locs 600000 7302250 (lw_Z below #[Value.ref b] s) (F0 m 432 ls []) := by
  obtain ⟨S, hK, hZ, hX, hbl, hbA, hA⟩ := hC
  obtain ⟨hx, hb, hml, hown, hU⟩ := id S
  refine lv_aload_n hx hb dL_law_432 rfl (lv_at hl 2 rfl) ?_
  refine lv_aload_n hx hb dL_law_433 rfl (lv_at hl 3 rfl) ?_
  refine lv_iload_n hx hb dL_law_434 rfl (lv_at hl 0 rfl) ?_
  refine lv_iconst (v := nI 1) hx hb dL_law_435 (by decide) ?_
  refine q_iaddN (a := 6 * i) (b := 1) hx hb dL_law_436 ?_
  refine va_sld hx hb hX hbl hbA hS (i := nI (6 * i + 1)) (vp_in_nI (by omega) (by omega)) dL_law_437 ?_
  obtain ⟨r, f1, h1, τ1, σ1, h3, h4, hT1⟩ := pr_sell l D cI cJ t a mt ka kk vv i (by omega) f g h τ σ hT (xs (nI (6 * i + 1)).toNatClampNeg)
  refine V3.call (rest := []) hZ S kv_L_39 h3 hK hP hD hS hA (fun d hd => ⟨by show d + 1 ≤ 12; omega, by show 8 + _ + 36 * d ≤ 438; omega⟩) hl.1 rfl rfl (Nat.le_of_ble_eq_true rfl) (Nat.le_refl _) (Nat.le_refl _) dL_law_438 (fun g1 H locs hP hD hS => ?_)
  refine lv_aload_n hx hb dL_law_441 rfl (lv_at hl 1 rfl) ?_
  refine lv_aload_n hx hb dL_law_442 rfl (lv_at hl 3 rfl) ?_
  refine lv_iload_n hx hb dL_law_443 rfl (lv_at hl 0 rfl) ?_
  refine lv_iconst (v := nI 1) hx hb dL_law_444 (by decide) ?_
  refine q_iaddN (a := 6 * i) (b := 1) hx hb dL_law_445 ?_
  refine va_sld hx hb hX hbl hbA hS (i := nI (6 * i + 1)) (vp_in_nI (by omega) (by omega)) dL_law_446 ?_
  refine V4.call (rest := [_]) S kv_L_43 h4 hK hP hD hS hA (fun d hd => ⟨by show d + 1 ≤ 12; omega, by show 8 + _ + 36 * d ≤ 438; omega⟩) hl.1 rfl rfl (Nat.le_of_ble_eq_true rfl) (Nat.le_refl _) (Nat.le_refl _) dL_law_447 (fun H locs hP hD hS => ?_)
  refine lv_icmp_eq (tgt := 1497) hx hb dL_law_450 (by decide) (fun _ => ?_) (fun q => absurd rfl q)
  exact K f1 g1 h1 τ1 σ1 _ _ hT1 hP hD hS
theorem lw_c7 (hC : LC p s m c b L xs A D cI cJ mt ka kk vv) (hi : 6 * i + 6 ≤ L) (hL : L ≤ 3072) (hT : ST i f h τ σ) (hP : va_P D vwCl (TW cI cJ t f g h τ ++ MW cI a f σ) H) (hD : va_D A (TW cI cJ t f g h τ ++ MW cI a f σ)) (hS : va_S A s.heap H locs) (hl : lv_has ls 4 [(3, .int (nI (6 * i))), (2, .ref (a 0)), (1, .ref (t 0)), (0, .ref b)]) (K : KJ p l e s m below meth c b A D cI cJ t a i ls) : W p l e room_1 s m #[Value.ref b] below meth c H locs 600000 7302250 (lw_Z below #[Value.ref b] s) (F0 m 455 ls []) := by
  obtain ⟨S, hK, hZ, hX, hbl, hbA, hA⟩ := hC
  obtain ⟨hx, hb, hml, hown, hU⟩ := id S
  refine lv_aload_n hx hb dL_law_455 rfl (lv_at hl 2 rfl) ?_
  refine lv_aload_n hx hb dL_law_456 rfl (lv_at hl 3 rfl) ?_
  refine lv_iload_n hx hb dL_law_457 rfl (lv_at hl 0 rfl) ?_
  refine lv_iconst (v := nI 1) hx hb dL_law_458 (by decide) ?_
  refine q_iaddN (a := 6 * i) (b := 1) hx hb dL_law_459 ?_
  refine va_sld hx hb hX hbl hbA hS (i := nI (6 * i + 1)) (vp_in_nI (by omega) (by omega)) dL_law_460 ?_
  obtain ⟨r, f1, h1, τ1, σ1, h3, h4, hT1⟩ := pr_go l D cI cJ t a mt ka kk vv i (by omega) f g h τ σ hT (xs (nI (6 * i + 1)).toNatClampNeg)
  refine V3.call (rest := []) hZ S kv_L_44 h3 hK hP hD hS hA (fun d hd => ⟨by show d + 1 ≤ 12; omega, by show 8 + _ + 36 * d ≤ 438; omega⟩) hl.1 rfl rfl (Nat.le_of_ble_eq_true rfl) (Nat.le_refl _) (Nat.le_refl _) dL_law_461 (fun g1 H locs hP hD hS => ?_)
  refine lv_aload_n hx hb dL_law_464 rfl (lv_at hl 1 rfl) ?_
  refine lv_aload_n hx hb dL_law_465 rfl (lv_at hl 3 rfl) ?_
  refine lv_iload_n hx hb dL_law_466 rfl (lv_at hl 0 rfl) ?_
  refine lv_iconst (v := nI 1) hx hb dL_law_467 (by decide) ?_
  refine q_iaddN (a := 6 * i) (b := 1) hx hb dL_law_468 ?_
  refine va_sld hx hb hX hbl hbA hS (i := nI (6 * i + 1)) (vp_in_nI (by omega) (by omega)) dL_law_469 ?_
  refine V4.call (rest := [_]) S kv_L_47 h4 hK hP hD hS hA (fun d hd => ⟨by show d + 1 ≤ 12; omega, by show 8 + _ + 36 * d ≤ 438; omega⟩) hl.1 rfl rfl (Nat.le_of_ble_eq_true rfl) (Nat.le_refl _) (Nat.le_refl _) dL_law_470 (fun H locs hP hD hS => ?_)
  refine lv_icmp_eq (tgt := 1497) hx hb dL_law_473 (by decide) (fun _ => ?_) (fun q => absurd rfl q)
  exact K f1 g1 h1 τ1 σ1 _ _ hT1 hP hD hS
theorem lw_c8 (hC : LC p s m c b L xs A D cI cJ mt ka kk vv) (hi : 6 * i + 6 ≤ L) (hL : L ≤ 3072) (hT : ST i f h τ σ) (hP : va_P D vwCl (TW cI cJ t f g h τ ++ MW cI a f σ) H) (hD : va_D A (TW cI cJ t f g h τ ++ MW cI a f σ)) (hS : va_S A s.heap H locs) (hl : lv_has ls 4 [(3, .int (nI (6 * i))), (2, .ref (a 0)), (1, .ref (t 0)), (0, .ref b)]) (K : KJ p l e s m below meth c b A D cI cJ t a i ls) : W p l e room_1 s m #[Value.ref b] below meth c H locs 600000 7302250 (lw_Z below #[Value.ref b] s) (F0 m 478 ls []) := by
  obtain ⟨S, hK, hZ, hX, hbl, hbA, hA⟩ := hC
  obtain ⟨hx, hb, hml, hown, hU⟩ := id S
  refine lv_aload_n hx hb dL_law_478 rfl (lv_at hl 2 rfl) ?_
  refine lv_aload_n hx hb dL_law_479 rfl (lv_at hl 3 rfl) ?_
  refine lv_iload_n hx hb dL_law_480 rfl (lv_at hl 0 rfl) ?_
  refine lv_iconst (v := nI 1) hx hb dL_law_481 (by decide) ?_
  refine q_iaddN (a := 6 * i) (b := 1) hx hb dL_law_482 ?_
  refine va_sld hx hb hX hbl hbA hS (i := nI (6 * i + 1)) (vp_in_nI (by omega) (by omega)) dL_law_483 ?_
  obtain ⟨r, f1, h1, τ1, σ1, h3, h4, hT1⟩ := pr_now l D cI cJ t a mt ka kk vv i (by omega) f g h τ σ hT (xs (nI (6 * i + 1)).toNatClampNeg)
  refine V3.call (rest := []) hZ S kv_L_48 h3 hK hP hD hS hA (fun d hd => ⟨by show d + 1 ≤ 12; omega, by show 8 + _ + 36 * d ≤ 438; omega⟩) hl.1 rfl rfl (Nat.le_of_ble_eq_true rfl) (Nat.le_refl _) (Nat.le_refl _) dL_law_484 (fun g1 H locs hP hD hS => ?_)
  refine lv_aload_n hx hb dL_law_487 rfl (lv_at hl 1 rfl) ?_
  refine lv_aload_n hx hb dL_law_488 rfl (lv_at hl 3 rfl) ?_
  refine lv_iload_n hx hb dL_law_489 rfl (lv_at hl 0 rfl) ?_
  refine lv_iconst (v := nI 1) hx hb dL_law_490 (by decide) ?_
  refine q_iaddN (a := 6 * i) (b := 1) hx hb dL_law_491 ?_
  refine va_sld hx hb hX hbl hbA hS (i := nI (6 * i + 1)) (vp_in_nI (by omega) (by omega)) dL_law_492 ?_
  refine V4.call (rest := [_]) S kv_L_51 h4 hK hP hD hS hA (fun d hd => ⟨by show d + 1 ≤ 12; omega, by show 8 + _ + 36 * d ≤ 438; omega⟩) hl.1 rfl rfl (Nat.le_of_ble_eq_true rfl) (Nat.le_refl _) (Nat.le_refl _) dL_law_493 (fun H locs hP hD hS => ?_)
  refine lv_icmp_eq (tgt := 1497) hx hb dL_law_496 (by decide) (fun _ => ?_) (fun q => absurd rfl q)
  exact K f1 g1 h1 τ1 σ1 _ _ hT1 hP hD hS
theorem lw_c9 (hC : LC p s m c b L xs A D cI cJ mt ka kk vv) (hi : 6 * i + 6 ≤ L) (hL : L ≤ 3072) (hT : ST i f h τ σ) (hP : va_P D vwCl (TW cI cJ t f g h τ ++ MW cI a f σ) H) (hD : va_D A (TW cI cJ t f g h τ ++ MW cI a f σ)) (hS : va_S A s.heap H locs) (hl : lv_has ls 4 [(3, .int (nI (6 * i))), (2, .ref (a 0)), (1, .ref (t 0)), (0, .ref b)]) (K : KJ p l e s m below meth c b A D cI cJ t a i ls) : W p l e room_1 s m #[Value.ref b] below meth c H locs 600000 7302250 (lw_Z below #[Value.ref b] s) (F0 m 501 ls []) := by
  obtain ⟨S, hK, hZ, hX, hbl, hbA, hA⟩ := hC
  obtain ⟨hx, hb, hml, hown, hU⟩ := id S
  refine lv_aload_n hx hb dL_law_501 rfl (lv_at hl 2 rfl) ?_
  refine lv_aload_n hx hb dL_law_502 rfl (lv_at hl 3 rfl) ?_
  refine lv_iload_n hx hb dL_law_503 rfl (lv_at hl 0 rfl) ?_
  refine lv_iconst (v := nI 1) hx hb dL_law_504 (by decide) ?_
  refine q_iaddN (a := 6 * i) (b := 1) hx hb dL_law_505 ?_
  refine va_sld hx hb hX hbl hbA hS (i := nI (6 * i + 1)) (vp_in_nI (by omega) (by omega)) dL_law_506 ?_
  refine lv_aload_n hx hb dL_law_507 rfl (lv_at hl 3 rfl) ?_
  refine lv_iload_n hx hb dL_law_508 rfl (lv_at hl 0 rfl) ?_
  refine lv_iconst (v := nI 2) hx hb dL_law_509 (by decide) ?_
  refine q_iaddN (a := 6 * i) (b := 2) hx hb dL_law_510 ?_
  refine va_sld hx hb hX hbl hbA hS (i := nI (6 * i + 2)) (vp_in_nI (by omega) (by omega)) dL_law_511 ?_
  refine lv_aload_n hx hb dL_law_512 rfl (lv_at hl 3 rfl) ?_
  refine lv_iload_n hx hb dL_law_513 rfl (lv_at hl 0 rfl) ?_
  refine lv_iconst (v := nI 3) hx hb dL_law_514 (by decide) ?_
  refine q_iaddN (a := 6 * i) (b := 3) hx hb dL_law_515 ?_
  refine va_sld hx hb hX hbl hbA hS (i := nI (6 * i + 3)) (vp_in_nI (by omega) (by omega)) dL_law_516 ?_
  obtain ⟨r, f1, h1, τ1, σ1, h3, h4, hT1⟩ := pr_ahead l D cI cJ t a mt ka kk vv i (by omega) f g h τ σ hT (xs (nI (6 * i + 1)).toNatClampNeg) (xs (nI (6 * i + 2)).toNatClampNeg) (xs (nI (6 * i + 3)).toNatClampNeg)
  refine V3.call (rest := []) hZ S kv_L_52 h3 hK hP hD hS hA (fun d hd => ⟨by show d + 1 ≤ 12; omega, by show 8 + _ + 36 * d ≤ 438; omega⟩) hl.1 rfl rfl (Nat.le_of_ble_eq_true rfl) (Nat.le_refl _) (Nat.le_refl _) dL_law_517 (fun g1 H locs hP hD hS => ?_)
  refine lv_aload_n hx hb dL_law_520 rfl (lv_at hl 1 rfl) ?_
  refine lv_aload_n hx hb dL_law_521 rfl (lv_at hl 3 rfl) ?_
  refine lv_iload_n hx hb dL_law_522 rfl (lv_at hl 0 rfl) ?_
  refine lv_iconst (v := nI 1) hx hb dL_law_523 (by decide) ?_
  refine q_iaddN (a := 6 * i) (b := 1) hx hb dL_law_524 ?_
  refine va_sld hx hb hX hbl hbA hS (i := nI (6 * i + 1)) (vp_in_nI (by omega) (by omega)) dL_law_525 ?_
  refine lv_aload_n hx hb dL_law_526 rfl (lv_at hl 3 rfl) ?_
  refine lv_iload_n hx hb dL_law_527 rfl (lv_at hl 0 rfl) ?_
  refine lv_iconst (v := nI 2) hx hb dL_law_528 (by decide) ?_
  refine q_iaddN (a := 6 * i) (b := 2) hx hb dL_law_529 ?_
  refine va_sld hx hb hX hbl hbA hS (i := nI (6 * i + 2)) (vp_in_nI (by omega) (by omega)) dL_law_530 ?_
  refine lv_aload_n hx hb dL_law_531 rfl (lv_at hl 3 rfl) ?_
  refine lv_iload_n hx hb dL_law_532 rfl (lv_at hl 0 rfl) ?_
  refine lv_iconst (v := nI 3) hx hb dL_law_533 (by decide) ?_
  refine q_iaddN (a := 6 * i) (b := 3) hx hb dL_law_534 ?_
  refine va_sld hx hb hX hbl hbA hS (i := nI (6 * i + 3)) (vp_in_nI (by omega) (by omega)) dL_law_535 ?_
  refine V4.call (rest := [_]) S kv_L_55 h4 hK hP hD hS hA (fun d hd => ⟨by show d + 1 ≤ 12; omega, by show 8 + _ + 36 * d ≤ 438; omega⟩) hl.1 rfl rfl (Nat.le_of_ble_eq_true rfl) (Nat.le_refl _) (Nat.le_refl _) dL_law_536 (fun H locs hP hD hS => ?_)
  refine lv_icmp_eq (tgt := 1497) hx hb dL_law_539 (by decide) (fun _ => ?_) (fun q => absurd rfl q)
  exact K f1 g1 h1 τ1 σ1 _ _ hT1 hP hD hS
theorem lw_c10 (hC : LC p s m c b L xs A D cI cJ mt ka kk vv) (hi : 6 * i + 6 ≤ L) (hL : L ≤ 3072) (hT : ST i f h τ σ) (hP : va_P D vwCl (TW cI cJ t f g h τ ++ MW cI a f σ) H) (hD : va_D A (TW cI cJ t f g h τ ++ MW cI a f σ)) (hS : va_S A s.heap H locs) (hl : lv_has ls 4 [(3, .int (nI (6 * i))), (2, .ref (a 0)), (1, .ref (t 0)), (0, .ref b)]) (K : KJ p l e s m below meth c b A D cI cJ t a i ls) : W p l e room_1 s m #[Value.ref b] below meth c H locs 600000 7302250 (lw_Z below #[Value.ref b] s) (F0 m 544 ls []) := by
  obtain ⟨S, hK, hZ, hX, hbl, hbA, hA⟩ := hC
  obtain ⟨hx, hb, hml, hown, hU⟩ := id S
  refine lv_aload_n hx hb dL_law_544 rfl (lv_at hl 2 rfl) ?_
  refine lv_aload_n hx hb dL_law_545 rfl (lv_at hl 3 rfl) ?_
  refine lv_iload_n hx hb dL_law_546 rfl (lv_at hl 0 rfl) ?_
  refine lv_iconst (v := nI 1) hx hb dL_law_547 (by decide) ?_
  refine q_iaddN (a := 6 * i) (b := 1) hx hb dL_law_548 ?_
  refine va_sld hx hb hX hbl hbA hS (i := nI (6 * i + 1)) (vp_in_nI (by omega) (by omega)) dL_law_549 ?_
  obtain ⟨r, f1, h1, τ1, σ1, h3, h4, hT1⟩ := pr_claps l D cI cJ t a mt ka kk vv i (by omega) f g h τ σ hT (xs (nI (6 * i + 1)).toNatClampNeg)
  refine V3.call (rest := []) hZ S kv_L_56 h3 hK hP hD hS hA (fun d hd => ⟨by show d + 1 ≤ 12; omega, by show 8 + _ + 36 * d ≤ 438; omega⟩) hl.1 rfl rfl (Nat.le_of_ble_eq_true rfl) (Nat.le_refl _) (Nat.le_refl _) dL_law_550 (fun g1 H locs hP hD hS => ?_)
  refine lv_aload_n hx hb dL_law_553 rfl (lv_at hl 1 rfl) ?_
  refine lv_aload_n hx hb dL_law_554 rfl (lv_at hl 3 rfl) ?_
  refine lv_iload_n hx hb dL_law_555 rfl (lv_at hl 0 rfl) ?_
  refine lv_iconst (v := nI 1) hx hb dL_law_556 (by decide) ?_
  refine q_iaddN (a := 6 * i) (b := 1) hx hb dL_law_557 ?_
  refine va_sld hx hb hX hbl hbA hS (i := nI (6 * i + 1)) (vp_in_nI (by omega) (by omega)) dL_law_558 ?_
  refine V4.call (rest := [_]) S kv_L_59 h4 hK hP hD hS hA (fun d hd => ⟨by show d + 1 ≤ 12; omega, by show 8 + _ + 36 * d ≤ 438; omega⟩) hl.1 rfl rfl (Nat.le_of_ble_eq_true rfl) (Nat.le_refl _) (Nat.le_refl _) dL_law_559 (fun H locs hP hD hS => ?_)
  refine lv_icmp_eq (tgt := 1497) hx hb dL_law_562 (by decide) (fun _ => ?_) (fun q => absurd rfl q)
  exact K f1 g1 h1 τ1 σ1 _ _ hT1 hP hD hS
theorem lw_c11 (hC : LC p s m c b L xs A D cI cJ mt ka kk vv) (hi : 6 * i + 6 ≤ L) (hL : L ≤ 3072) (hT : ST i f h τ σ) (hP : va_P D vwCl (TW cI cJ t f g h τ ++ MW cI a f σ) H) (hD : va_D A (TW cI cJ t f g h τ ++ MW cI a f σ)) (hS : va_S A s.heap H locs) (hl : lv_has ls 4 [(3, .int (nI (6 * i))), (2, .ref (a 0)), (1, .ref (t 0)), (0, .ref b)]) (K : KJ p l e s m below meth c b A D cI cJ t a i ls) : W p l e room_1 s m #[Value.ref b] below meth c H locs 600000 7302250 (lw_Z below #[Value.ref b] s) (F0 m 567 ls []) := by
  obtain ⟨S, hK, hZ, hX, hbl, hbA, hA⟩ := hC
  obtain ⟨hx, hb, hml, hown, hU⟩ := id S
  refine lv_aload_n hx hb dL_law_567 rfl (lv_at hl 2 rfl) ?_
  refine lv_aload_n hx hb dL_law_568 rfl (lv_at hl 3 rfl) ?_
  refine lv_iload_n hx hb dL_law_569 rfl (lv_at hl 0 rfl) ?_
  refine lv_iconst (v := nI 1) hx hb dL_law_570 (by decide) ?_
  refine q_iaddN (a := 6 * i) (b := 1) hx hb dL_law_571 ?_
  refine va_sld hx hb hX hbl hbA hS (i := nI (6 * i + 1)) (vp_in_nI (by omega) (by omega)) dL_law_572 ?_
  obtain ⟨r, f1, h1, τ1, σ1, h3, h4, hT1⟩ := pr_bursts l D cI cJ t a mt ka kk vv i (by omega) f g h τ σ hT (xs (nI (6 * i + 1)).toNatClampNeg)
  refine V3.call (rest := []) hZ S kv_L_60 h3 hK hP hD hS hA (fun d hd => ⟨by show d + 1 ≤ 12; omega, by show 8 + _ + 36 * d ≤ 438; omega⟩) hl.1 rfl rfl (Nat.le_of_ble_eq_true rfl) (Nat.le_refl _) (Nat.le_refl _) dL_law_573 (fun g1 H locs hP hD hS => ?_)
  refine lv_aload_n hx hb dL_law_576 rfl (lv_at hl 1 rfl) ?_
  refine lv_aload_n hx hb dL_law_577 rfl (lv_at hl 3 rfl) ?_
  refine lv_iload_n hx hb dL_law_578 rfl (lv_at hl 0 rfl) ?_
  refine lv_iconst (v := nI 1) hx hb dL_law_579 (by decide) ?_
  refine q_iaddN (a := 6 * i) (b := 1) hx hb dL_law_580 ?_
  refine va_sld hx hb hX hbl hbA hS (i := nI (6 * i + 1)) (vp_in_nI (by omega) (by omega)) dL_law_581 ?_
  refine V4.call (rest := [_]) S kv_L_63 h4 hK hP hD hS hA (fun d hd => ⟨by show d + 1 ≤ 12; omega, by show 8 + _ + 36 * d ≤ 438; omega⟩) hl.1 rfl rfl (Nat.le_of_ble_eq_true rfl) (Nat.le_refl _) (Nat.le_refl _) dL_law_582 (fun H locs hP hD hS => ?_)
  refine lv_icmp_eq (tgt := 1497) hx hb dL_law_585 (by decide) (fun _ => ?_) (fun q => absurd rfl q)
  exact K f1 g1 h1 τ1 σ1 _ _ hT1 hP hD hS
theorem lw_c12 (hC : LC p s m c b L xs A D cI cJ mt ka kk vv) (hi : 6 * i + 6 ≤ L) (hL : L ≤ 3072) (hT : ST i f h τ σ) (hP : va_P D vwCl (TW cI cJ t f g h τ ++ MW cI a f σ) H) (hD : va_D A (TW cI cJ t f g h τ ++ MW cI a f σ)) (hS : va_S A s.heap H locs) (hl : lv_has ls 4 [(3, .int (nI (6 * i))), (2, .ref (a 0)), (1, .ref (t 0)), (0, .ref b)]) (K : KJ p l e s m below meth c b A D cI cJ t a i ls) : W p l e room_1 s m #[Value.ref b] below meth c H locs 600000 7302250 (lw_Z below #[Value.ref b] s) (F0 m 590 ls []) := by
  obtain ⟨S, hK, hZ, hX, hbl, hbA, hA⟩ := hC
  obtain ⟨hx, hb, hml, hown, hU⟩ := id S
  refine lv_aload_n hx hb dL_law_590 rfl (lv_at hl 2 rfl) ?_
  refine lv_aload_n hx hb dL_law_591 rfl (lv_at hl 3 rfl) ?_
  refine lv_iload_n hx hb dL_law_592 rfl (lv_at hl 0 rfl) ?_
  refine lv_iconst (v := nI 1) hx hb dL_law_593 (by decide) ?_
  refine q_iaddN (a := 6 * i) (b := 1) hx hb dL_law_594 ?_
  refine va_sld hx hb hX hbl hbA hS (i := nI (6 * i + 1)) (vp_in_nI (by omega) (by omega)) dL_law_595 ?_
  refine lv_aload_n hx hb dL_law_596 rfl (lv_at hl 3 rfl) ?_
  refine lv_iload_n hx hb dL_law_597 rfl (lv_at hl 0 rfl) ?_
  refine lv_iconst (v := nI 2) hx hb dL_law_598 (by decide) ?_
  refine q_iaddN (a := 6 * i) (b := 2) hx hb dL_law_599 ?_
  refine va_sld hx hb hX hbl hbA hS (i := nI (6 * i + 2)) (vp_in_nI (by omega) (by omega)) dL_law_600 ?_
  obtain ⟨r, f1, h1, τ1, σ1, h3, h4, hT1⟩ := pr_when l D cI cJ t a mt ka kk vv i (by omega) f g h τ σ hT (xs (nI (6 * i + 1)).toNatClampNeg) (xs (nI (6 * i + 2)).toNatClampNeg)
  refine V3.call (rest := []) hZ S kv_L_64 h3 hK hP hD hS hA (fun d hd => ⟨by show d + 1 ≤ 12; omega, by show 8 + _ + 36 * d ≤ 438; omega⟩) hl.1 rfl rfl (Nat.le_of_ble_eq_true rfl) (Nat.le_refl _) (Nat.le_refl _) dL_law_601 (fun g1 H locs hP hD hS => ?_)
  refine lv_aload_n hx hb dL_law_604 rfl (lv_at hl 1 rfl) ?_
  refine lv_aload_n hx hb dL_law_605 rfl (lv_at hl 3 rfl) ?_
  refine lv_iload_n hx hb dL_law_606 rfl (lv_at hl 0 rfl) ?_
  refine lv_iconst (v := nI 1) hx hb dL_law_607 (by decide) ?_
  refine q_iaddN (a := 6 * i) (b := 1) hx hb dL_law_608 ?_
  refine va_sld hx hb hX hbl hbA hS (i := nI (6 * i + 1)) (vp_in_nI (by omega) (by omega)) dL_law_609 ?_
  refine lv_aload_n hx hb dL_law_610 rfl (lv_at hl 3 rfl) ?_
  refine lv_iload_n hx hb dL_law_611 rfl (lv_at hl 0 rfl) ?_
  refine lv_iconst (v := nI 2) hx hb dL_law_612 (by decide) ?_
  refine q_iaddN (a := 6 * i) (b := 2) hx hb dL_law_613 ?_
  refine va_sld hx hb hX hbl hbA hS (i := nI (6 * i + 2)) (vp_in_nI (by omega) (by omega)) dL_law_614 ?_
  refine V4.call (rest := [_]) S kv_L_67 h4 hK hP hD hS hA (fun d hd => ⟨by show d + 1 ≤ 12; omega, by show 8 + _ + 36 * d ≤ 438; omega⟩) hl.1 rfl rfl (Nat.le_of_ble_eq_true rfl) (Nat.le_refl _) (Nat.le_refl _) dL_law_615 (fun H locs hP hD hS => ?_)
  refine lv_icmp_eq (tgt := 1497) hx hb dL_law_618 (by decide) (fun _ => ?_) (fun q => absurd rfl q)
  exact K f1 g1 h1 τ1 σ1 _ _ hT1 hP hD hS
theorem lw_c13 (hC : LC p s m c b L xs A D cI cJ mt ka kk vv) (hi : 6 * i + 6 ≤ L) (hL : L ≤ 3072) (hT : ST i f h τ σ) (hP : va_P D vwCl (TW cI cJ t f g h τ ++ MW cI a f σ) H) (hD : va_D A (TW cI cJ t f g h τ ++ MW cI a f σ)) (hS : va_S A s.heap H locs) (hl : lv_has ls 4 [(3, .int (nI (6 * i))), (2, .ref (a 0)), (1, .ref (t 0)), (0, .ref b)]) (K : KJ p l e s m below meth c b A D cI cJ t a i ls) : W p l e room_1 s m #[Value.ref b] below meth c H locs 600000 7302250 (lw_Z below #[Value.ref b] s) (F0 m 623 ls []) := by
  obtain ⟨S, hK, hZ, hX, hbl, hbA, hA⟩ := hC
  obtain ⟨hx, hb, hml, hown, hU⟩ := id S
  refine lv_aload_n hx hb dL_law_623 rfl (lv_at hl 2 rfl) ?_
  refine lv_aload_n hx hb dL_law_624 rfl (lv_at hl 3 rfl) ?_
  refine lv_iload_n hx hb dL_law_625 rfl (lv_at hl 0 rfl) ?_
  refine lv_iconst (v := nI 1) hx hb dL_law_626 (by decide) ?_
  refine q_iaddN (a := 6 * i) (b := 1) hx hb dL_law_627 ?_
  refine va_sld hx hb hX hbl hbA hS (i := nI (6 * i + 1)) (vp_in_nI (by omega) (by omega)) dL_law_628 ?_
  obtain ⟨r, f1, h1, τ1, σ1, h3, h4, hT1⟩ := pr_chain l D cI cJ t a mt ka kk vv i (by omega) f g h τ σ hT (xs (nI (6 * i + 1)).toNatClampNeg)
  refine V3.call (rest := []) hZ S kv_L_68 h3 hK hP hD hS hA (fun d hd => ⟨by show d + 1 ≤ 12; omega, by show 8 + _ + 36 * d ≤ 438; omega⟩) hl.1 rfl rfl (Nat.le_of_ble_eq_true rfl) (Nat.le_refl _) (Nat.le_refl _) dL_law_629 (fun g1 H locs hP hD hS => ?_)
  refine lv_aload_n hx hb dL_law_632 rfl (lv_at hl 1 rfl) ?_
  refine lv_aload_n hx hb dL_law_633 rfl (lv_at hl 3 rfl) ?_
  refine lv_iload_n hx hb dL_law_634 rfl (lv_at hl 0 rfl) ?_
  refine lv_iconst (v := nI 1) hx hb dL_law_635 (by decide) ?_
  refine q_iaddN (a := 6 * i) (b := 1) hx hb dL_law_636 ?_
  refine va_sld hx hb hX hbl hbA hS (i := nI (6 * i + 1)) (vp_in_nI (by omega) (by omega)) dL_law_637 ?_
  refine V4.call (rest := [_]) S kv_L_71 h4 hK hP hD hS hA (fun d hd => ⟨by show d + 1 ≤ 12; omega, by show 8 + _ + 36 * d ≤ 438; omega⟩) hl.1 rfl rfl (Nat.le_of_ble_eq_true rfl) (Nat.le_refl _) (Nat.le_refl _) dL_law_638 (fun H locs hP hD hS => ?_)
  refine lv_icmp_eq (tgt := 1497) hx hb dL_law_641 (by decide) (fun _ => ?_) (fun q => absurd rfl q)
  exact K f1 g1 h1 τ1 σ1 _ _ hT1 hP hD hS
theorem lw_c14 (hC : LC p s m c b L xs A D cI cJ mt ka kk vv) (hi : 6 * i + 6 ≤ L) (hL : L ≤ 3072) (hT : ST i f h τ σ) (hP : va_P D vwCl (TW cI cJ t f g h τ ++ MW cI a f σ) H) (hD : va_D A (TW cI cJ t f g h τ ++ MW cI a f σ)) (hS : va_S A s.heap H locs) (hl : lv_has ls 4 [(3, .int (nI (6 * i))), (2, .ref (a 0)), (1, .ref (t 0)), (0, .ref b)]) (K : KJ p l e s m below meth c b A D cI cJ t a i ls) : W p l e room_1 s m #[Value.ref b] below meth c H locs 600000 7302250 (lw_Z below #[Value.ref b] s) (F0 m 646 ls []) := by
  obtain ⟨S, hK, hZ, hX, hbl, hbA, hA⟩ := hC
  obtain ⟨hx, hb, hml, hown, hU⟩ := id S
  refine lv_aload_n hx hb dL_law_646 rfl (lv_at hl 2 rfl) ?_
  refine lv_aload_n hx hb dL_law_647 rfl (lv_at hl 3 rfl) ?_
  refine lv_iload_n hx hb dL_law_648 rfl (lv_at hl 0 rfl) ?_
  refine lv_iconst (v := nI 1) hx hb dL_law_649 (by decide) ?_
  refine q_iaddN (a := 6 * i) (b := 1) hx hb dL_law_650 ?_
  refine va_sld hx hb hX hbl hbA hS (i := nI (6 * i + 1)) (vp_in_nI (by omega) (by omega)) dL_law_651 ?_
  refine lv_aload_n hx hb dL_law_652 rfl (lv_at hl 3 rfl) ?_
  refine lv_iload_n hx hb dL_law_653 rfl (lv_at hl 0 rfl) ?_
  refine lv_iconst (v := nI 2) hx hb dL_law_654 (by decide) ?_
  refine q_iaddN (a := 6 * i) (b := 2) hx hb dL_law_655 ?_
  refine va_sld hx hb hX hbl hbA hS (i := nI (6 * i + 2)) (vp_in_nI (by omega) (by omega)) dL_law_656 ?_
  obtain ⟨r, f1, h1, τ1, σ1, h3, h4, hT1⟩ := pr_lay l D cI cJ t a mt ka kk vv i (by omega) f g h τ σ hT (xs (nI (6 * i + 1)).toNatClampNeg) (xs (nI (6 * i + 2)).toNatClampNeg)
  refine V3.call (rest := []) hZ S kv_L_72 h3 hK hP hD hS hA (fun d hd => ⟨by show d + 1 ≤ 12; omega, by show 8 + _ + 36 * d ≤ 438; omega⟩) hl.1 rfl rfl (Nat.le_of_ble_eq_true rfl) (Nat.le_refl _) (Nat.le_refl _) dL_law_657 (fun g1 H locs hP hD hS => ?_)
  refine lv_aload_n hx hb dL_law_660 rfl (lv_at hl 1 rfl) ?_
  refine lv_aload_n hx hb dL_law_661 rfl (lv_at hl 3 rfl) ?_
  refine lv_iload_n hx hb dL_law_662 rfl (lv_at hl 0 rfl) ?_
  refine lv_iconst (v := nI 1) hx hb dL_law_663 (by decide) ?_
  refine q_iaddN (a := 6 * i) (b := 1) hx hb dL_law_664 ?_
  refine va_sld hx hb hX hbl hbA hS (i := nI (6 * i + 1)) (vp_in_nI (by omega) (by omega)) dL_law_665 ?_
  refine lv_aload_n hx hb dL_law_666 rfl (lv_at hl 3 rfl) ?_
  refine lv_iload_n hx hb dL_law_667 rfl (lv_at hl 0 rfl) ?_
  refine lv_iconst (v := nI 2) hx hb dL_law_668 (by decide) ?_
  refine q_iaddN (a := 6 * i) (b := 2) hx hb dL_law_669 ?_
  refine va_sld hx hb hX hbl hbA hS (i := nI (6 * i + 2)) (vp_in_nI (by omega) (by omega)) dL_law_670 ?_
  refine V4.call (rest := [_]) S kv_L_75 h4 hK hP hD hS hA (fun d hd => ⟨by show d + 1 ≤ 12; omega, by show 8 + _ + 36 * d ≤ 438; omega⟩) hl.1 rfl rfl (Nat.le_of_ble_eq_true rfl) (Nat.le_refl _) (Nat.le_refl _) dL_law_671 (fun H locs hP hD hS => ?_)
  refine lv_icmp_eq (tgt := 1497) hx hb dL_law_674 (by decide) (fun _ => ?_) (fun q => absurd rfl q)
  exact K f1 g1 h1 τ1 σ1 _ _ hT1 hP hD hS
theorem lw_c15 (hC : LC p s m c b L xs A D cI cJ mt ka kk vv) (hi : 6 * i + 6 ≤ L) (hL : L ≤ 3072) (hT : ST i f h τ σ) (hP : va_P D vwCl (TW cI cJ t f g h τ ++ MW cI a f σ) H) (hD : va_D A (TW cI cJ t f g h τ ++ MW cI a f σ)) (hS : va_S A s.heap H locs) (hl : lv_has ls 4 [(3, .int (nI (6 * i))), (2, .ref (a 0)), (1, .ref (t 0)), (0, .ref b)]) (K : KJ p l e s m below meth c b A D cI cJ t a i ls) : W p l e room_1 s m #[Value.ref b] below meth c H locs 600000 7302250 (lw_Z below #[Value.ref b] s) (F0 m 679 ls []) := by
  obtain ⟨S, hK, hZ, hX, hbl, hbA, hA⟩ := hC
  obtain ⟨hx, hb, hml, hown, hU⟩ := id S
  refine lv_aload_n hx hb dL_law_679 rfl (lv_at hl 2 rfl) ?_
  refine lv_aload_n hx hb dL_law_680 rfl (lv_at hl 3 rfl) ?_
  refine lv_iload_n hx hb dL_law_681 rfl (lv_at hl 0 rfl) ?_
  refine lv_iconst (v := nI 1) hx hb dL_law_682 (by decide) ?_
  refine q_iaddN (a := 6 * i) (b := 1) hx hb dL_law_683 ?_
  refine va_sld hx hb hX hbl hbA hS (i := nI (6 * i + 1)) (vp_in_nI (by omega) (by omega)) dL_law_684 ?_
  refine lv_aload_n hx hb dL_law_685 rfl (lv_at hl 3 rfl) ?_
  refine lv_iload_n hx hb dL_law_686 rfl (lv_at hl 0 rfl) ?_
  refine lv_iconst (v := nI 2) hx hb dL_law_687 (by decide) ?_
  refine q_iaddN (a := 6 * i) (b := 2) hx hb dL_law_688 ?_
  refine va_sld hx hb hX hbl hbA hS (i := nI (6 * i + 2)) (vp_in_nI (by omega) (by omega)) dL_law_689 ?_
  obtain ⟨r, f1, h1, τ1, σ1, h3, h4, hT1⟩ := pr_kindFor l D cI cJ t a mt ka kk vv i (by omega) f g h τ σ hT (xs (nI (6 * i + 1)).toNatClampNeg) (xs (nI (6 * i + 2)).toNatClampNeg)
  refine V3.call (rest := []) hZ S kv_L_76 h3 hK hP hD hS hA (fun d hd => ⟨by show d + 1 ≤ 12; omega, by show 8 + _ + 36 * d ≤ 438; omega⟩) hl.1 rfl rfl (Nat.le_of_ble_eq_true rfl) (Nat.le_refl _) (Nat.le_refl _) dL_law_690 (fun g1 H locs hP hD hS => ?_)
  refine lv_aload_n hx hb dL_law_693 rfl (lv_at hl 1 rfl) ?_
  refine lv_aload_n hx hb dL_law_694 rfl (lv_at hl 3 rfl) ?_
  refine lv_iload_n hx hb dL_law_695 rfl (lv_at hl 0 rfl) ?_
  refine lv_iconst (v := nI 1) hx hb dL_law_696 (by decide) ?_
  refine q_iaddN (a := 6 * i) (b := 1) hx hb dL_law_697 ?_
  refine va_sld hx hb hX hbl hbA hS (i := nI (6 * i + 1)) (vp_in_nI (by omega) (by omega)) dL_law_698 ?_
  refine lv_aload_n hx hb dL_law_699 rfl (lv_at hl 3 rfl) ?_
  refine lv_iload_n hx hb dL_law_700 rfl (lv_at hl 0 rfl) ?_
  refine lv_iconst (v := nI 2) hx hb dL_law_701 (by decide) ?_
  refine q_iaddN (a := 6 * i) (b := 2) hx hb dL_law_702 ?_
  refine va_sld hx hb hX hbl hbA hS (i := nI (6 * i + 2)) (vp_in_nI (by omega) (by omega)) dL_law_703 ?_
  refine V4.call (rest := [_]) S kv_L_79 h4 hK hP hD hS hA (fun d hd => ⟨by show d + 1 ≤ 12; omega, by show 8 + _ + 36 * d ≤ 438; omega⟩) hl.1 rfl rfl (Nat.le_of_ble_eq_true rfl) (Nat.le_refl _) (Nat.le_refl _) dL_law_704 (fun H locs hP hD hS => ?_)
  refine lv_icmp_eq (tgt := 1497) hx hb dL_law_707 (by decide) (fun _ => ?_) (fun q => absurd rfl q)
  exact K f1 g1 h1 τ1 σ1 _ _ hT1 hP hD hS
theorem lw_c16 (hC : LC p s m c b L xs A D cI cJ mt ka kk vv) (hi : 6 * i + 6 ≤ L) (hL : L ≤ 3072) (hT : ST i f h τ σ) (hP : va_P D vwCl (TW cI cJ t f g h τ ++ MW cI a f σ) H) (hD : va_D A (TW cI cJ t f g h τ ++ MW cI a f σ)) (hS : va_S A s.heap H locs) (hl : lv_has ls 4 [(3, .int (nI (6 * i))), (2, .ref (a 0)), (1, .ref (t 0)), (0, .ref b)]) (K : KJ p l e s m below meth c b A D cI cJ t a i ls) : W p l e room_1 s m #[Value.ref b] below meth c H locs 600000 7302250 (lw_Z below #[Value.ref b] s) (F0 m 712 ls []) := by
  obtain ⟨S, hK, hZ, hX, hbl, hbA, hA⟩ := hC
  obtain ⟨hx, hb, hml, hown, hU⟩ := id S
  refine lv_aload_n hx hb dL_law_712 rfl (lv_at hl 2 rfl) ?_
  refine lv_aload_n hx hb dL_law_713 rfl (lv_at hl 3 rfl) ?_
  refine lv_iload_n hx hb dL_law_714 rfl (lv_at hl 0 rfl) ?_
  refine lv_iconst (v := nI 1) hx hb dL_law_715 (by decide) ?_
  refine q_iaddN (a := 6 * i) (b := 1) hx hb dL_law_716 ?_
  refine va_sld hx hb hX hbl hbA hS (i := nI (6 * i + 1)) (vp_in_nI (by omega) (by omega)) dL_law_717 ?_
  refine lv_aload_n hx hb dL_law_718 rfl (lv_at hl 3 rfl) ?_
  refine lv_iload_n hx hb dL_law_719 rfl (lv_at hl 0 rfl) ?_
  refine lv_iconst (v := nI 2) hx hb dL_law_720 (by decide) ?_
  refine q_iaddN (a := 6 * i) (b := 2) hx hb dL_law_721 ?_
  refine va_sld hx hb hX hbl hbA hS (i := nI (6 * i + 2)) (vp_in_nI (by omega) (by omega)) dL_law_722 ?_
  obtain ⟨r, f1, h1, τ1, σ1, h3, h4, hT1⟩ := pr_pitchFor l D cI cJ t a mt ka kk vv i (by omega) f g h τ σ hT (xs (nI (6 * i + 1)).toNatClampNeg) (xs (nI (6 * i + 2)).toNatClampNeg)
  refine V3.call (rest := []) hZ S kv_L_80 h3 hK hP hD hS hA (fun d hd => ⟨by show d + 1 ≤ 12; omega, by show 8 + _ + 36 * d ≤ 438; omega⟩) hl.1 rfl rfl (Nat.le_of_ble_eq_true rfl) (Nat.le_refl _) (Nat.le_refl _) dL_law_723 (fun g1 H locs hP hD hS => ?_)
  refine lv_aload_n hx hb dL_law_726 rfl (lv_at hl 1 rfl) ?_
  refine lv_aload_n hx hb dL_law_727 rfl (lv_at hl 3 rfl) ?_
  refine lv_iload_n hx hb dL_law_728 rfl (lv_at hl 0 rfl) ?_
  refine lv_iconst (v := nI 1) hx hb dL_law_729 (by decide) ?_
  refine q_iaddN (a := 6 * i) (b := 1) hx hb dL_law_730 ?_
  refine va_sld hx hb hX hbl hbA hS (i := nI (6 * i + 1)) (vp_in_nI (by omega) (by omega)) dL_law_731 ?_
  refine lv_aload_n hx hb dL_law_732 rfl (lv_at hl 3 rfl) ?_
  refine lv_iload_n hx hb dL_law_733 rfl (lv_at hl 0 rfl) ?_
  refine lv_iconst (v := nI 2) hx hb dL_law_734 (by decide) ?_
  refine q_iaddN (a := 6 * i) (b := 2) hx hb dL_law_735 ?_
  refine va_sld hx hb hX hbl hbA hS (i := nI (6 * i + 2)) (vp_in_nI (by omega) (by omega)) dL_law_736 ?_
  refine V4.call (rest := [_]) S kv_L_83 h4 hK hP hD hS hA (fun d hd => ⟨by show d + 1 ≤ 12; omega, by show 8 + _ + 36 * d ≤ 438; omega⟩) hl.1 rfl rfl (Nat.le_of_ble_eq_true rfl) (Nat.le_refl _) (Nat.le_refl _) dL_law_737 (fun H locs hP hD hS => ?_)
  refine lv_icmp_eq (tgt := 1497) hx hb dL_law_740 (by decide) (fun _ => ?_) (fun q => absurd rfl q)
  exact K f1 g1 h1 τ1 σ1 _ _ hT1 hP hD hS
theorem lw_c17 (hC : LC p s m c b L xs A D cI cJ mt ka kk vv) (hi : 6 * i + 6 ≤ L) (hL : L ≤ 3072) (hT : ST i f h τ σ) (hP : va_P D vwCl (TW cI cJ t f g h τ ++ MW cI a f σ) H) (hD : va_D A (TW cI cJ t f g h τ ++ MW cI a f σ)) (hS : va_S A s.heap H locs) (hl : lv_has ls 4 [(3, .int (nI (6 * i))), (2, .ref (a 0)), (1, .ref (t 0)), (0, .ref b)]) (K : KJ p l e s m below meth c b A D cI cJ t a i ls) : W p l e room_1 s m #[Value.ref b] below meth c H locs 600000 7302250 (lw_Z below #[Value.ref b] s) (F0 m 745 ls []) := by
  obtain ⟨S, hK, hZ, hX, hbl, hbA, hA⟩ := hC
  obtain ⟨hx, hb, hml, hown, hU⟩ := id S
  refine lv_aload_n hx hb dL_law_745 rfl (lv_at hl 2 rfl) ?_
  refine lv_aload_n hx hb dL_law_746 rfl (lv_at hl 3 rfl) ?_
  refine lv_iload_n hx hb dL_law_747 rfl (lv_at hl 0 rfl) ?_
  refine lv_iconst (v := nI 1) hx hb dL_law_748 (by decide) ?_
  refine q_iaddN (a := 6 * i) (b := 1) hx hb dL_law_749 ?_
  refine va_sld hx hb hX hbl hbA hS (i := nI (6 * i + 1)) (vp_in_nI (by omega) (by omega)) dL_law_750 ?_
  refine lv_aload_n hx hb dL_law_751 rfl (lv_at hl 3 rfl) ?_
  refine lv_iload_n hx hb dL_law_752 rfl (lv_at hl 0 rfl) ?_
  refine lv_iconst (v := nI 2) hx hb dL_law_753 (by decide) ?_
  refine q_iaddN (a := 6 * i) (b := 2) hx hb dL_law_754 ?_
  refine va_sld hx hb hX hbl hbA hS (i := nI (6 * i + 2)) (vp_in_nI (by omega) (by omega)) dL_law_755 ?_
  obtain ⟨r, f1, h1, τ1, σ1, h3, h4, hT1⟩ := pr_hoopsFor l D cI cJ t a mt ka kk vv i (by omega) f g h τ σ hT (xs (nI (6 * i + 1)).toNatClampNeg) (xs (nI (6 * i + 2)).toNatClampNeg)
  refine V3.call (rest := []) hZ S kv_L_84 h3 hK hP hD hS hA (fun d hd => ⟨by show d + 1 ≤ 12; omega, by show 8 + _ + 36 * d ≤ 438; omega⟩) hl.1 rfl rfl (Nat.le_of_ble_eq_true rfl) (Nat.le_refl _) (Nat.le_refl _) dL_law_756 (fun g1 H locs hP hD hS => ?_)
  refine lv_aload_n hx hb dL_law_759 rfl (lv_at hl 1 rfl) ?_
  refine lv_aload_n hx hb dL_law_760 rfl (lv_at hl 3 rfl) ?_
  refine lv_iload_n hx hb dL_law_761 rfl (lv_at hl 0 rfl) ?_
  refine lv_iconst (v := nI 1) hx hb dL_law_762 (by decide) ?_
  refine q_iaddN (a := 6 * i) (b := 1) hx hb dL_law_763 ?_
  refine va_sld hx hb hX hbl hbA hS (i := nI (6 * i + 1)) (vp_in_nI (by omega) (by omega)) dL_law_764 ?_
  refine lv_aload_n hx hb dL_law_765 rfl (lv_at hl 3 rfl) ?_
  refine lv_iload_n hx hb dL_law_766 rfl (lv_at hl 0 rfl) ?_
  refine lv_iconst (v := nI 2) hx hb dL_law_767 (by decide) ?_
  refine q_iaddN (a := 6 * i) (b := 2) hx hb dL_law_768 ?_
  refine va_sld hx hb hX hbl hbA hS (i := nI (6 * i + 2)) (vp_in_nI (by omega) (by omega)) dL_law_769 ?_
  refine V4.call (rest := [_]) S kv_L_87 h4 hK hP hD hS hA (fun d hd => ⟨by show d + 1 ≤ 12; omega, by show 8 + _ + 36 * d ≤ 438; omega⟩) hl.1 rfl rfl (Nat.le_of_ble_eq_true rfl) (Nat.le_refl _) (Nat.le_refl _) dL_law_770 (fun H locs hP hD hS => ?_)
  refine lv_icmp_eq (tgt := 1497) hx hb dL_law_773 (by decide) (fun _ => ?_) (fun q => absurd rfl q)
  exact K f1 g1 h1 τ1 σ1 _ _ hT1 hP hD hS
theorem lw_c18 (hC : LC p s m c b L xs A D cI cJ mt ka kk vv) (hi : 6 * i + 6 ≤ L) (hL : L ≤ 3072) (hT : ST i f h τ σ) (hP : va_P D vwCl (TW cI cJ t f g h τ ++ MW cI a f σ) H) (hD : va_D A (TW cI cJ t f g h τ ++ MW cI a f σ)) (hS : va_S A s.heap H locs) (hl : lv_has ls 4 [(3, .int (nI (6 * i))), (2, .ref (a 0)), (1, .ref (t 0)), (0, .ref b)]) (K : KJ p l e s m below meth c b A D cI cJ t a i ls) : W p l e room_1 s m #[Value.ref b] below meth c H locs 600000 7302250 (lw_Z below #[Value.ref b] s) (F0 m 778 ls []) := by
  obtain ⟨S, hK, hZ, hX, hbl, hbA, hA⟩ := hC
  obtain ⟨hx, hb, hml, hown, hU⟩ := id S
  refine lv_aload_n hx hb dL_law_778 rfl (lv_at hl 2 rfl) ?_
  refine lv_aload_n hx hb dL_law_779 rfl (lv_at hl 3 rfl) ?_
  refine lv_iload_n hx hb dL_law_780 rfl (lv_at hl 0 rfl) ?_
  refine lv_iconst (v := nI 1) hx hb dL_law_781 (by decide) ?_
  refine q_iaddN (a := 6 * i) (b := 1) hx hb dL_law_782 ?_
  refine va_sld hx hb hX hbl hbA hS (i := nI (6 * i + 1)) (vp_in_nI (by omega) (by omega)) dL_law_783 ?_
  refine lv_aload_n hx hb dL_law_784 rfl (lv_at hl 3 rfl) ?_
  refine lv_iload_n hx hb dL_law_785 rfl (lv_at hl 0 rfl) ?_
  refine lv_iconst (v := nI 2) hx hb dL_law_786 (by decide) ?_
  refine q_iaddN (a := 6 * i) (b := 2) hx hb dL_law_787 ?_
  refine va_sld hx hb hX hbl hbA hS (i := nI (6 * i + 2)) (vp_in_nI (by omega) (by omega)) dL_law_788 ?_
  obtain ⟨r, f1, h1, τ1, σ1, h3, h4, hT1⟩ := pr_frostFor l D cI cJ t a mt ka kk vv i (by omega) f g h τ σ hT (xs (nI (6 * i + 1)).toNatClampNeg) (xs (nI (6 * i + 2)).toNatClampNeg)
  refine V3.call (rest := []) hZ S kv_L_88 h3 hK hP hD hS hA (fun d hd => ⟨by show d + 1 ≤ 12; omega, by show 8 + _ + 36 * d ≤ 438; omega⟩) hl.1 rfl rfl (Nat.le_of_ble_eq_true rfl) (Nat.le_refl _) (Nat.le_refl _) dL_law_789 (fun g1 H locs hP hD hS => ?_)
  refine lv_aload_n hx hb dL_law_792 rfl (lv_at hl 1 rfl) ?_
  refine lv_aload_n hx hb dL_law_793 rfl (lv_at hl 3 rfl) ?_
  refine lv_iload_n hx hb dL_law_794 rfl (lv_at hl 0 rfl) ?_
  refine lv_iconst (v := nI 1) hx hb dL_law_795 (by decide) ?_
  refine q_iaddN (a := 6 * i) (b := 1) hx hb dL_law_796 ?_
  refine va_sld hx hb hX hbl hbA hS (i := nI (6 * i + 1)) (vp_in_nI (by omega) (by omega)) dL_law_797 ?_
  refine lv_aload_n hx hb dL_law_798 rfl (lv_at hl 3 rfl) ?_
  refine lv_iload_n hx hb dL_law_799 rfl (lv_at hl 0 rfl) ?_
  refine lv_iconst (v := nI 2) hx hb dL_law_800 (by decide) ?_
  refine q_iaddN (a := 6 * i) (b := 2) hx hb dL_law_801 ?_
  refine va_sld hx hb hX hbl hbA hS (i := nI (6 * i + 2)) (vp_in_nI (by omega) (by omega)) dL_law_802 ?_
  refine V4.call (rest := [_]) S kv_L_91 h4 hK hP hD hS hA (fun d hd => ⟨by show d + 1 ≤ 12; omega, by show 8 + _ + 36 * d ≤ 438; omega⟩) hl.1 rfl rfl (Nat.le_of_ble_eq_true rfl) (Nat.le_refl _) (Nat.le_refl _) dL_law_803 (fun H locs hP hD hS => ?_)
  refine lv_icmp_eq (tgt := 1497) hx hb dL_law_806 (by decide) (fun _ => ?_) (fun q => absurd rfl q)
  exact K f1 g1 h1 τ1 σ1 _ _ hT1 hP hD hS
theorem lw_c19 (hC : LC p s m c b L xs A D cI cJ mt ka kk vv) (hi : 6 * i + 6 ≤ L) (hL : L ≤ 3072) (hT : ST i f h τ σ) (hP : va_P D vwCl (TW cI cJ t f g h τ ++ MW cI a f σ) H) (hD : va_D A (TW cI cJ t f g h τ ++ MW cI a f σ)) (hS : va_S A s.heap H locs) (hl : lv_has ls 4 [(3, .int (nI (6 * i))), (2, .ref (a 0)), (1, .ref (t 0)), (0, .ref b)]) (K : KJ p l e s m below meth c b A D cI cJ t a i ls) : W p l e room_1 s m #[Value.ref b] below meth c H locs 600000 7302250 (lw_Z below #[Value.ref b] s) (F0 m 811 ls []) := by
  obtain ⟨S, hK, hZ, hX, hbl, hbA, hA⟩ := hC
  obtain ⟨hx, hb, hml, hown, hU⟩ := id S
  refine lv_aload_n hx hb dL_law_811 rfl (lv_at hl 2 rfl) ?_
  refine lv_aload_n hx hb dL_law_812 rfl (lv_at hl 3 rfl) ?_
  refine lv_iload_n hx hb dL_law_813 rfl (lv_at hl 0 rfl) ?_
  refine lv_iconst (v := nI 1) hx hb dL_law_814 (by decide) ?_
  refine q_iaddN (a := 6 * i) (b := 1) hx hb dL_law_815 ?_
  refine va_sld hx hb hX hbl hbA hS (i := nI (6 * i + 1)) (vp_in_nI (by omega) (by omega)) dL_law_816 ?_
  obtain ⟨r, f1, h1, τ1, σ1, h3, h4, hT1⟩ := pr_empty l D cI cJ t a mt ka kk vv i (by omega) f g h τ σ hT (xs (nI (6 * i + 1)).toNatClampNeg)
  refine V3.call (rest := []) hZ S kv_L_92 h3 hK hP hD hS hA (fun d hd => ⟨by show d + 1 ≤ 12; omega, by show 8 + _ + 36 * d ≤ 438; omega⟩) hl.1 rfl rfl (Nat.le_of_ble_eq_true rfl) (Nat.le_refl _) (Nat.le_refl _) dL_law_817 (fun g1 H locs hP hD hS => ?_)
  refine lv_aload_n hx hb dL_law_820 rfl (lv_at hl 1 rfl) ?_
  refine lv_aload_n hx hb dL_law_821 rfl (lv_at hl 3 rfl) ?_
  refine lv_iload_n hx hb dL_law_822 rfl (lv_at hl 0 rfl) ?_
  refine lv_iconst (v := nI 1) hx hb dL_law_823 (by decide) ?_
  refine q_iaddN (a := 6 * i) (b := 1) hx hb dL_law_824 ?_
  refine va_sld hx hb hX hbl hbA hS (i := nI (6 * i + 1)) (vp_in_nI (by omega) (by omega)) dL_law_825 ?_
  refine V4.call (rest := [_]) S kv_L_95 h4 hK hP hD hS hA (fun d hd => ⟨by show d + 1 ≤ 12; omega, by show 8 + _ + 36 * d ≤ 438; omega⟩) hl.1 rfl rfl (Nat.le_of_ble_eq_true rfl) (Nat.le_refl _) (Nat.le_refl _) dL_law_826 (fun H locs hP hD hS => ?_)
  refine lv_icmp_eq (tgt := 1497) hx hb dL_law_829 (by decide) (fun _ => ?_) (fun q => absurd rfl q)
  exact K f1 g1 h1 τ1 σ1 _ _ hT1 hP hD hS
theorem lw_c20 (hC : LC p s m c b L xs A D cI cJ mt ka kk vv) (hi : 6 * i + 6 ≤ L) (hL : L ≤ 3072) (hT : ST i f h τ σ) (hP : va_P D vwCl (TW cI cJ t f g h τ ++ MW cI a f σ) H) (hD : va_D A (TW cI cJ t f g h τ ++ MW cI a f σ)) (hS : va_S A s.heap H locs) (hl : lv_has ls 4 [(3, .int (nI (6 * i))), (2, .ref (a 0)), (1, .ref (t 0)), (0, .ref b)]) (K : KJ p l e s m below meth c b A D cI cJ t a i ls) : W p l e room_1 s m #[Value.ref b] below meth c H locs 600000 7302250 (lw_Z below #[Value.ref b] s) (F0 m 834 ls []) := by
  obtain ⟨S, hK, hZ, hX, hbl, hbA, hA⟩ := hC
  obtain ⟨hx, hb, hml, hown, hU⟩ := id S
  refine lv_aload_n hx hb dL_law_834 rfl (lv_at hl 2 rfl) ?_
  refine lv_aload_n hx hb dL_law_835 rfl (lv_at hl 3 rfl) ?_
  refine lv_iload_n hx hb dL_law_836 rfl (lv_at hl 0 rfl) ?_
  refine lv_iconst (v := nI 1) hx hb dL_law_837 (by decide) ?_
  refine q_iaddN (a := 6 * i) (b := 1) hx hb dL_law_838 ?_
  refine va_sld hx hb hX hbl hbA hS (i := nI (6 * i + 1)) (vp_in_nI (by omega) (by omega)) dL_law_839 ?_
  obtain ⟨r, f1, h1, τ1, σ1, h3, h4, hT1⟩ := pr_blend l D cI cJ t a mt ka kk vv i (by omega) f g h τ σ hT (xs (nI (6 * i + 1)).toNatClampNeg)
  refine V3.call (rest := []) hZ S kv_L_96 h3 hK hP hD hS hA (fun d hd => ⟨by show d + 1 ≤ 12; omega, by show 8 + _ + 36 * d ≤ 438; omega⟩) hl.1 rfl rfl (Nat.le_of_ble_eq_true rfl) (Nat.le_refl _) (Nat.le_refl _) dL_law_840 (fun g1 H locs hP hD hS => ?_)
  refine lv_aload_n hx hb dL_law_843 rfl (lv_at hl 1 rfl) ?_
  refine lv_aload_n hx hb dL_law_844 rfl (lv_at hl 3 rfl) ?_
  refine lv_iload_n hx hb dL_law_845 rfl (lv_at hl 0 rfl) ?_
  refine lv_iconst (v := nI 1) hx hb dL_law_846 (by decide) ?_
  refine q_iaddN (a := 6 * i) (b := 1) hx hb dL_law_847 ?_
  refine va_sld hx hb hX hbl hbA hS (i := nI (6 * i + 1)) (vp_in_nI (by omega) (by omega)) dL_law_848 ?_
  refine V4.call (rest := [_]) S kv_L_99 h4 hK hP hD hS hA (fun d hd => ⟨by show d + 1 ≤ 12; omega, by show 8 + _ + 36 * d ≤ 438; omega⟩) hl.1 rfl rfl (Nat.le_of_ble_eq_true rfl) (Nat.le_refl _) (Nat.le_refl _) dL_law_849 (fun H locs hP hD hS => ?_)
  refine lv_icmp_eq (tgt := 1497) hx hb dL_law_852 (by decide) (fun _ => ?_) (fun q => absurd rfl q)
  exact K f1 g1 h1 τ1 σ1 _ _ hT1 hP hD hS
theorem lw_c21 (hC : LC p s m c b L xs A D cI cJ mt ka kk vv) (hi : 6 * i + 6 ≤ L) (hL : L ≤ 3072) (hT : ST i f h τ σ) (hP : va_P D vwCl (TW cI cJ t f g h τ ++ MW cI a f σ) H) (hD : va_D A (TW cI cJ t f g h τ ++ MW cI a f σ)) (hS : va_S A s.heap H locs) (hl : lv_has ls 4 [(3, .int (nI (6 * i))), (2, .ref (a 0)), (1, .ref (t 0)), (0, .ref b)]) (K : KJ p l e s m below meth c b A D cI cJ t a i ls) : W p l e room_1 s m #[Value.ref b] below meth c H locs 600000 7302250 (lw_Z below #[Value.ref b] s) (F0 m 857 ls []) := by
  obtain ⟨S, hK, hZ, hX, hbl, hbA, hA⟩ := hC
  obtain ⟨hx, hb, hml, hown, hU⟩ := id S
  refine lv_aload_n hx hb dL_law_857 rfl (lv_at hl 2 rfl) ?_
  refine lv_aload_n hx hb dL_law_858 rfl (lv_at hl 3 rfl) ?_
  refine lv_iload_n hx hb dL_law_859 rfl (lv_at hl 0 rfl) ?_
  refine lv_iconst (v := nI 1) hx hb dL_law_860 (by decide) ?_
  refine q_iaddN (a := 6 * i) (b := 1) hx hb dL_law_861 ?_
  refine va_sld hx hb hX hbl hbA hS (i := nI (6 * i + 1)) (vp_in_nI (by omega) (by omega)) dL_law_862 ?_
  obtain ⟨r, f1, h1, τ1, σ1, h3, h4, hT1⟩ := pr_order l D cI cJ t a mt ka kk vv i (by omega) f g h τ σ hT (xs (nI (6 * i + 1)).toNatClampNeg)
  refine V3.call (rest := []) hZ S kv_L_100 h3 hK hP hD hS hA (fun d hd => ⟨by show d + 1 ≤ 12; omega, by show 8 + _ + 36 * d ≤ 438; omega⟩) hl.1 rfl rfl (Nat.le_of_ble_eq_true rfl) (Nat.le_refl _) (Nat.le_refl _) dL_law_863 (fun g1 H locs hP hD hS => ?_)
  refine lv_aload_n hx hb dL_law_866 rfl (lv_at hl 1 rfl) ?_
  refine lv_aload_n hx hb dL_law_867 rfl (lv_at hl 3 rfl) ?_
  refine lv_iload_n hx hb dL_law_868 rfl (lv_at hl 0 rfl) ?_
  refine lv_iconst (v := nI 1) hx hb dL_law_869 (by decide) ?_
  refine q_iaddN (a := 6 * i) (b := 1) hx hb dL_law_870 ?_
  refine va_sld hx hb hX hbl hbA hS (i := nI (6 * i + 1)) (vp_in_nI (by omega) (by omega)) dL_law_871 ?_
  refine V4.call (rest := [_]) S kv_L_103 h4 hK hP hD hS hA (fun d hd => ⟨by show d + 1 ≤ 12; omega, by show 8 + _ + 36 * d ≤ 438; omega⟩) hl.1 rfl rfl (Nat.le_of_ble_eq_true rfl) (Nat.le_refl _) (Nat.le_refl _) dL_law_872 (fun H locs hP hD hS => ?_)
  refine lv_icmp_eq (tgt := 1497) hx hb dL_law_875 (by decide) (fun _ => ?_) (fun q => absurd rfl q)
  exact K f1 g1 h1 τ1 σ1 _ _ hT1 hP hD hS
theorem lw_c22 (hC : LC p s m c b L xs A D cI cJ mt ka kk vv) (hi : 6 * i + 6 ≤ L) (hL : L ≤ 3072) (hT : ST i f h τ σ) (hP : va_P D vwCl (TW cI cJ t f g h τ ++ MW cI a f σ) H) (hD : va_D A (TW cI cJ t f g h τ ++ MW cI a f σ)) (hS : va_S A s.heap H locs) (hl : lv_has ls 4 [(3, .int (nI (6 * i))), (2, .ref (a 0)), (1, .ref (t 0)), (0, .ref b)]) (K : KJ p l e s m below meth c b A D cI cJ t a i ls) : W p l e room_1 s m #[Value.ref b] below meth c H locs 600000 7302250 (lw_Z below #[Value.ref b] s) (F0 m 880 ls []) := by
  obtain ⟨S, hK, hZ, hX, hbl, hbA, hA⟩ := hC
  obtain ⟨hx, hb, hml, hown, hU⟩ := id S
  refine lv_aload_n hx hb dL_law_880 rfl (lv_at hl 2 rfl) ?_
  refine lv_aload_n hx hb dL_law_881 rfl (lv_at hl 3 rfl) ?_
  refine lv_iload_n hx hb dL_law_882 rfl (lv_at hl 0 rfl) ?_
  refine lv_iconst (v := nI 1) hx hb dL_law_883 (by decide) ?_
  refine q_iaddN (a := 6 * i) (b := 1) hx hb dL_law_884 ?_
  refine va_sld hx hb hX hbl hbA hS (i := nI (6 * i + 1)) (vp_in_nI (by omega) (by omega)) dL_law_885 ?_
  refine lv_aload_n hx hb dL_law_886 rfl (lv_at hl 3 rfl) ?_
  refine lv_iload_n hx hb dL_law_887 rfl (lv_at hl 0 rfl) ?_
  refine lv_iconst (v := nI 2) hx hb dL_law_888 (by decide) ?_
  refine q_iaddN (a := 6 * i) (b := 2) hx hb dL_law_889 ?_
  refine va_sld hx hb hX hbl hbA hS (i := nI (6 * i + 2)) (vp_in_nI (by omega) (by omega)) dL_law_890 ?_
  obtain ⟨r, f1, h1, τ1, σ1, h3, h4, hT1⟩ := pr_blends l D cI cJ t a mt ka kk vv i (by omega) f g h τ σ hT (xs (nI (6 * i + 1)).toNatClampNeg) (xs (nI (6 * i + 2)).toNatClampNeg)
  refine V3.call (rest := []) hZ S kv_L_104 h3 hK hP hD hS hA (fun d hd => ⟨by show d + 1 ≤ 12; omega, by show 8 + _ + 36 * d ≤ 438; omega⟩) hl.1 rfl rfl (Nat.le_of_ble_eq_true rfl) (Nat.le_refl _) (Nat.le_refl _) dL_law_891 (fun g1 H locs hP hD hS => ?_)
  refine lv_aload_n hx hb dL_law_894 rfl (lv_at hl 1 rfl) ?_
  refine lv_aload_n hx hb dL_law_895 rfl (lv_at hl 3 rfl) ?_
  refine lv_iload_n hx hb dL_law_896 rfl (lv_at hl 0 rfl) ?_
  refine lv_iconst (v := nI 1) hx hb dL_law_897 (by decide) ?_
  refine q_iaddN (a := 6 * i) (b := 1) hx hb dL_law_898 ?_
  refine va_sld hx hb hX hbl hbA hS (i := nI (6 * i + 1)) (vp_in_nI (by omega) (by omega)) dL_law_899 ?_
  refine lv_aload_n hx hb dL_law_900 rfl (lv_at hl 3 rfl) ?_
  refine lv_iload_n hx hb dL_law_901 rfl (lv_at hl 0 rfl) ?_
  refine lv_iconst (v := nI 2) hx hb dL_law_902 (by decide) ?_
  refine q_iaddN (a := 6 * i) (b := 2) hx hb dL_law_903 ?_
  refine va_sld hx hb hX hbl hbA hS (i := nI (6 * i + 2)) (vp_in_nI (by omega) (by omega)) dL_law_904 ?_
  refine V4.call (rest := [_]) S kv_L_107 h4 hK hP hD hS hA (fun d hd => ⟨by show d + 1 ≤ 12; omega, by show 8 + _ + 36 * d ≤ 438; omega⟩) hl.1 rfl rfl (Nat.le_of_ble_eq_true rfl) (Nat.le_refl _) (Nat.le_refl _) dL_law_905 (fun H locs hP hD hS => ?_)
  refine lv_icmp_eq (tgt := 1497) hx hb dL_law_908 (by decide) (fun _ => ?_) (fun q => absurd rfl q)
  exact K f1 g1 h1 τ1 σ1 _ _ hT1 hP hD hS
theorem lw_c23 (hC : LC p s m c b L xs A D cI cJ mt ka kk vv) (hi : 6 * i + 6 ≤ L) (hL : L ≤ 3072) (hT : ST i f h τ σ) (hP : va_P D vwCl (TW cI cJ t f g h τ ++ MW cI a f σ) H) (hD : va_D A (TW cI cJ t f g h τ ++ MW cI a f σ)) (hS : va_S A s.heap H locs) (hl : lv_has ls 4 [(3, .int (nI (6 * i))), (2, .ref (a 0)), (1, .ref (t 0)), (0, .ref b)]) (K : KJ p l e s m below meth c b A D cI cJ t a i ls) : W p l e room_1 s m #[Value.ref b] below meth c H locs 600000 7302250 (lw_Z below #[Value.ref b] s) (F0 m 913 ls []) := by
  obtain ⟨S, hK, hZ, hX, hbl, hbA, hA⟩ := hC
  obtain ⟨hx, hb, hml, hown, hU⟩ := id S
  refine lv_aload_n hx hb dL_law_913 rfl (lv_at hl 2 rfl) ?_
  refine lv_aload_n hx hb dL_law_914 rfl (lv_at hl 3 rfl) ?_
  refine lv_iload_n hx hb dL_law_915 rfl (lv_at hl 0 rfl) ?_
  refine lv_iconst (v := nI 1) hx hb dL_law_916 (by decide) ?_
  refine q_iaddN (a := 6 * i) (b := 1) hx hb dL_law_917 ?_
  refine va_sld hx hb hX hbl hbA hS (i := nI (6 * i + 1)) (vp_in_nI (by omega) (by omega)) dL_law_918 ?_
  refine lv_aload_n hx hb dL_law_919 rfl (lv_at hl 3 rfl) ?_
  refine lv_iload_n hx hb dL_law_920 rfl (lv_at hl 0 rfl) ?_
  refine lv_iconst (v := nI 2) hx hb dL_law_921 (by decide) ?_
  refine q_iaddN (a := 6 * i) (b := 2) hx hb dL_law_922 ?_
  refine va_sld hx hb hX hbl hbA hS (i := nI (6 * i + 2)) (vp_in_nI (by omega) (by omega)) dL_law_923 ?_
  obtain ⟨r, f1, h1, τ1, σ1, h3, h4, hT1⟩ := pr_fits l D cI cJ t a mt ka kk vv i (by omega) f g h τ σ hT (xs (nI (6 * i + 1)).toNatClampNeg) (xs (nI (6 * i + 2)).toNatClampNeg)
  refine V3.call (rest := []) hZ S kv_L_108 h3 hK hP hD hS hA (fun d hd => ⟨by show d + 1 ≤ 12; omega, by show 8 + _ + 36 * d ≤ 438; omega⟩) hl.1 rfl rfl (Nat.le_of_ble_eq_true rfl) (Nat.le_refl _) (Nat.le_refl _) dL_law_924 (fun g1 H locs hP hD hS => ?_)
  refine lv_aload_n hx hb dL_law_927 rfl (lv_at hl 1 rfl) ?_
  refine lv_aload_n hx hb dL_law_928 rfl (lv_at hl 3 rfl) ?_
  refine lv_iload_n hx hb dL_law_929 rfl (lv_at hl 0 rfl) ?_
  refine lv_iconst (v := nI 1) hx hb dL_law_930 (by decide) ?_
  refine q_iaddN (a := 6 * i) (b := 1) hx hb dL_law_931 ?_
  refine va_sld hx hb hX hbl hbA hS (i := nI (6 * i + 1)) (vp_in_nI (by omega) (by omega)) dL_law_932 ?_
  refine lv_aload_n hx hb dL_law_933 rfl (lv_at hl 3 rfl) ?_
  refine lv_iload_n hx hb dL_law_934 rfl (lv_at hl 0 rfl) ?_
  refine lv_iconst (v := nI 2) hx hb dL_law_935 (by decide) ?_
  refine q_iaddN (a := 6 * i) (b := 2) hx hb dL_law_936 ?_
  refine va_sld hx hb hX hbl hbA hS (i := nI (6 * i + 2)) (vp_in_nI (by omega) (by omega)) dL_law_937 ?_
  refine V4.call (rest := [_]) S kv_L_111 h4 hK hP hD hS hA (fun d hd => ⟨by show d + 1 ≤ 12; omega, by show 8 + _ + 36 * d ≤ 438; omega⟩) hl.1 rfl rfl (Nat.le_of_ble_eq_true rfl) (Nat.le_refl _) (Nat.le_refl _) dL_law_938 (fun H locs hP hD hS => ?_)
  refine lv_icmp_eq (tgt := 1497) hx hb dL_law_941 (by decide) (fun _ => ?_) (fun q => absurd rfl q)
  exact K f1 g1 h1 τ1 σ1 _ _ hT1 hP hD hS
theorem lw_c24 (hC : LC p s m c b L xs A D cI cJ mt ka kk vv) (hi : 6 * i + 6 ≤ L) (hL : L ≤ 3072) (hT : ST i f h τ σ) (hP : va_P D vwCl (TW cI cJ t f g h τ ++ MW cI a f σ) H) (hD : va_D A (TW cI cJ t f g h τ ++ MW cI a f σ)) (hS : va_S A s.heap H locs) (hl : lv_has ls 4 [(3, .int (nI (6 * i))), (2, .ref (a 0)), (1, .ref (t 0)), (0, .ref b)]) (K : KJ p l e s m below meth c b A D cI cJ t a i ls) : W p l e room_1 s m #[Value.ref b] below meth c H locs 600000 7302250 (lw_Z below #[Value.ref b] s) (F0 m 946 ls []) := by
  obtain ⟨S, hK, hZ, hX, hbl, hbA, hA⟩ := hC
  obtain ⟨hx, hb, hml, hown, hU⟩ := id S
  refine lv_aload_n hx hb dL_law_946 rfl (lv_at hl 2 rfl) ?_
  refine lv_aload_n hx hb dL_law_947 rfl (lv_at hl 3 rfl) ?_
  refine lv_iload_n hx hb dL_law_948 rfl (lv_at hl 0 rfl) ?_
  refine lv_iconst (v := nI 1) hx hb dL_law_949 (by decide) ?_
  refine q_iaddN (a := 6 * i) (b := 1) hx hb dL_law_950 ?_
  refine va_sld hx hb hX hbl hbA hS (i := nI (6 * i + 1)) (vp_in_nI (by omega) (by omega)) dL_law_951 ?_
  refine lv_aload_n hx hb dL_law_952 rfl (lv_at hl 3 rfl) ?_
  refine lv_iload_n hx hb dL_law_953 rfl (lv_at hl 0 rfl) ?_
  refine lv_iconst (v := nI 2) hx hb dL_law_954 (by decide) ?_
  refine q_iaddN (a := 6 * i) (b := 2) hx hb dL_law_955 ?_
  refine va_sld hx hb hX hbl hbA hS (i := nI (6 * i + 2)) (vp_in_nI (by omega) (by omega)) dL_law_956 ?_
  obtain ⟨r, f1, h1, τ1, σ1, h3, h4, hT1⟩ := pr_pealed l D cI cJ t a mt ka kk vv i (by omega) f g h τ σ hT (xs (nI (6 * i + 1)).toNatClampNeg) (xs (nI (6 * i + 2)).toNatClampNeg)
  refine V3.call (rest := []) hZ S kv_L_112 h3 hK hP hD hS hA (fun d hd => ⟨by show d + 1 ≤ 12; omega, by show 8 + _ + 36 * d ≤ 438; omega⟩) hl.1 rfl rfl (Nat.le_of_ble_eq_true rfl) (Nat.le_refl _) (Nat.le_refl _) dL_law_957 (fun g1 H locs hP hD hS => ?_)
  refine lv_aload_n hx hb dL_law_960 rfl (lv_at hl 1 rfl) ?_
  refine lv_aload_n hx hb dL_law_961 rfl (lv_at hl 3 rfl) ?_
  refine lv_iload_n hx hb dL_law_962 rfl (lv_at hl 0 rfl) ?_
  refine lv_iconst (v := nI 1) hx hb dL_law_963 (by decide) ?_
  refine q_iaddN (a := 6 * i) (b := 1) hx hb dL_law_964 ?_
  refine va_sld hx hb hX hbl hbA hS (i := nI (6 * i + 1)) (vp_in_nI (by omega) (by omega)) dL_law_965 ?_
  refine lv_aload_n hx hb dL_law_966 rfl (lv_at hl 3 rfl) ?_
  refine lv_iload_n hx hb dL_law_967 rfl (lv_at hl 0 rfl) ?_
  refine lv_iconst (v := nI 2) hx hb dL_law_968 (by decide) ?_
  refine q_iaddN (a := 6 * i) (b := 2) hx hb dL_law_969 ?_
  refine va_sld hx hb hX hbl hbA hS (i := nI (6 * i + 2)) (vp_in_nI (by omega) (by omega)) dL_law_970 ?_
  refine V4.call (rest := [_]) S kv_L_115 h4 hK hP hD hS hA (fun d hd => ⟨by show d + 1 ≤ 12; omega, by show 8 + _ + 36 * d ≤ 438; omega⟩) hl.1 rfl rfl (Nat.le_of_ble_eq_true rfl) (Nat.le_refl _) (Nat.le_refl _) dL_law_971 (fun H locs hP hD hS => ?_)
  refine lv_icmp_eq (tgt := 1497) hx hb dL_law_974 (by decide) (fun _ => ?_) (fun q => absurd rfl q)
  exact K f1 g1 h1 τ1 σ1 _ _ hT1 hP hD hS
theorem lw_c25 (hC : LC p s m c b L xs A D cI cJ mt ka kk vv) (hi : 6 * i + 6 ≤ L) (hL : L ≤ 3072) (hT : ST i f h τ σ) (hP : va_P D vwCl (TW cI cJ t f g h τ ++ MW cI a f σ) H) (hD : va_D A (TW cI cJ t f g h τ ++ MW cI a f σ)) (hS : va_S A s.heap H locs) (hl : lv_has ls 4 [(3, .int (nI (6 * i))), (2, .ref (a 0)), (1, .ref (t 0)), (0, .ref b)]) (K : KJ p l e s m below meth c b A D cI cJ t a i ls) : W p l e room_1 s m #[Value.ref b] below meth c H locs 600000 7302250 (lw_Z below #[Value.ref b] s) (F0 m 979 ls []) := by
  obtain ⟨S, hK, hZ, hX, hbl, hbA, hA⟩ := hC
  obtain ⟨hx, hb, hml, hown, hU⟩ := id S
  refine lv_aload_n hx hb dL_law_979 rfl (lv_at hl 2 rfl) ?_
  refine lv_aload_n hx hb dL_law_980 rfl (lv_at hl 3 rfl) ?_
  refine lv_iload_n hx hb dL_law_981 rfl (lv_at hl 0 rfl) ?_
  refine lv_iconst (v := nI 1) hx hb dL_law_982 (by decide) ?_
  refine q_iaddN (a := 6 * i) (b := 1) hx hb dL_law_983 ?_
  refine va_sld hx hb hX hbl hbA hS (i := nI (6 * i + 1)) (vp_in_nI (by omega) (by omega)) dL_law_984 ?_
  refine lv_aload_n hx hb dL_law_985 rfl (lv_at hl 3 rfl) ?_
  refine lv_iload_n hx hb dL_law_986 rfl (lv_at hl 0 rfl) ?_
  refine lv_iconst (v := nI 2) hx hb dL_law_987 (by decide) ?_
  refine q_iaddN (a := 6 * i) (b := 2) hx hb dL_law_988 ?_
  refine va_sld hx hb hX hbl hbA hS (i := nI (6 * i + 2)) (vp_in_nI (by omega) (by omega)) dL_law_989 ?_
  obtain ⟨r, f1, h1, τ1, σ1, h3, h4, hT1⟩ := pr_kinds l D cI cJ t a mt ka kk vv i (by omega) f g h τ σ hT (xs (nI (6 * i + 1)).toNatClampNeg) (xs (nI (6 * i + 2)).toNatClampNeg)
  refine V3.call (rest := []) hZ S kv_L_116 h3 hK hP hD hS hA (fun d hd => ⟨by show d + 1 ≤ 12; omega, by show 8 + _ + 36 * d ≤ 438; omega⟩) hl.1 rfl rfl (Nat.le_of_ble_eq_true rfl) (Nat.le_refl _) (Nat.le_refl _) dL_law_990 (fun g1 H locs hP hD hS => ?_)
  refine lv_aload_n hx hb dL_law_993 rfl (lv_at hl 1 rfl) ?_
  refine lv_aload_n hx hb dL_law_994 rfl (lv_at hl 3 rfl) ?_
  refine lv_iload_n hx hb dL_law_995 rfl (lv_at hl 0 rfl) ?_
  refine lv_iconst (v := nI 1) hx hb dL_law_996 (by decide) ?_
  refine q_iaddN (a := 6 * i) (b := 1) hx hb dL_law_997 ?_
  refine va_sld hx hb hX hbl hbA hS (i := nI (6 * i + 1)) (vp_in_nI (by omega) (by omega)) dL_law_998 ?_
  refine lv_aload_n hx hb dL_law_999 rfl (lv_at hl 3 rfl) ?_
  refine lv_iload_n hx hb dL_law_1000 rfl (lv_at hl 0 rfl) ?_
  refine lv_iconst (v := nI 2) hx hb dL_law_1001 (by decide) ?_
  refine q_iaddN (a := 6 * i) (b := 2) hx hb dL_law_1002 ?_
  refine va_sld hx hb hX hbl hbA hS (i := nI (6 * i + 2)) (vp_in_nI (by omega) (by omega)) dL_law_1003 ?_
  refine V4.call (rest := [_]) S kv_L_119 h4 hK hP hD hS hA (fun d hd => ⟨by show d + 1 ≤ 12; omega, by show 8 + _ + 36 * d ≤ 438; omega⟩) hl.1 rfl rfl (Nat.le_of_ble_eq_true rfl) (Nat.le_refl _) (Nat.le_refl _) dL_law_1004 (fun H locs hP hD hS => ?_)
  refine lv_icmp_eq (tgt := 1497) hx hb dL_law_1007 (by decide) (fun _ => ?_) (fun q => absurd rfl q)
  exact K f1 g1 h1 τ1 σ1 _ _ hT1 hP hD hS
theorem lw_c26 (hC : LC p s m c b L xs A D cI cJ mt ka kk vv) (hi : 6 * i + 6 ≤ L) (hL : L ≤ 3072) (hT : ST i f h τ σ) (hP : va_P D vwCl (TW cI cJ t f g h τ ++ MW cI a f σ) H) (hD : va_D A (TW cI cJ t f g h τ ++ MW cI a f σ)) (hS : va_S A s.heap H locs) (hl : lv_has ls 4 [(3, .int (nI (6 * i))), (2, .ref (a 0)), (1, .ref (t 0)), (0, .ref b)]) (K : KJ p l e s m below meth c b A D cI cJ t a i ls) : W p l e room_1 s m #[Value.ref b] below meth c H locs 600000 7302250 (lw_Z below #[Value.ref b] s) (F0 m 1012 ls []) := by
  obtain ⟨S, hK, hZ, hX, hbl, hbA, hA⟩ := hC
  obtain ⟨hx, hb, hml, hown, hU⟩ := id S
  refine lv_aload_n hx hb dL_law_1012 rfl (lv_at hl 2 rfl) ?_
  refine lv_aload_n hx hb dL_law_1013 rfl (lv_at hl 3 rfl) ?_
  refine lv_iload_n hx hb dL_law_1014 rfl (lv_at hl 0 rfl) ?_
  refine lv_iconst (v := nI 1) hx hb dL_law_1015 (by decide) ?_
  refine q_iaddN (a := 6 * i) (b := 1) hx hb dL_law_1016 ?_
  refine va_sld hx hb hX hbl hbA hS (i := nI (6 * i + 1)) (vp_in_nI (by omega) (by omega)) dL_law_1017 ?_
  obtain ⟨r, f1, h1, τ1, σ1, h3, h4, hT1⟩ := pr_storms l D cI cJ t a mt ka kk vv i (by omega) f g h τ σ hT (xs (nI (6 * i + 1)).toNatClampNeg)
  refine V3.call (rest := []) hZ S kv_L_120 h3 hK hP hD hS hA (fun d hd => ⟨by show d + 1 ≤ 12; omega, by show 8 + _ + 36 * d ≤ 438; omega⟩) hl.1 rfl rfl (Nat.le_of_ble_eq_true rfl) (Nat.le_refl _) (Nat.le_refl _) dL_law_1018 (fun g1 H locs hP hD hS => ?_)
  refine lv_aload_n hx hb dL_law_1021 rfl (lv_at hl 1 rfl) ?_
  refine lv_aload_n hx hb dL_law_1022 rfl (lv_at hl 3 rfl) ?_
  refine lv_iload_n hx hb dL_law_1023 rfl (lv_at hl 0 rfl) ?_
  refine lv_iconst (v := nI 1) hx hb dL_law_1024 (by decide) ?_
  refine q_iaddN (a := 6 * i) (b := 1) hx hb dL_law_1025 ?_
  refine va_sld hx hb hX hbl hbA hS (i := nI (6 * i + 1)) (vp_in_nI (by omega) (by omega)) dL_law_1026 ?_
  refine V4.call (rest := [_]) S kv_L_123 h4 hK hP hD hS hA (fun d hd => ⟨by show d + 1 ≤ 12; omega, by show 8 + _ + 36 * d ≤ 438; omega⟩) hl.1 rfl rfl (Nat.le_of_ble_eq_true rfl) (Nat.le_refl _) (Nat.le_refl _) dL_law_1027 (fun H locs hP hD hS => ?_)
  refine lv_icmp_eq (tgt := 1497) hx hb dL_law_1030 (by decide) (fun _ => ?_) (fun q => absurd rfl q)
  exact K f1 g1 h1 τ1 σ1 _ _ hT1 hP hD hS
theorem lw_c27 (hC : LC p s m c b L xs A D cI cJ mt ka kk vv) (hi : 6 * i + 6 ≤ L) (hL : L ≤ 3072) (hT : ST i f h τ σ) (hP : va_P D vwCl (TW cI cJ t f g h τ ++ MW cI a f σ) H) (hD : va_D A (TW cI cJ t f g h τ ++ MW cI a f σ)) (hS : va_S A s.heap H locs) (hl : lv_has ls 4 [(3, .int (nI (6 * i))), (2, .ref (a 0)), (1, .ref (t 0)), (0, .ref b)]) (K : KJ p l e s m below meth c b A D cI cJ t a i ls) : W p l e room_1 s m #[Value.ref b] below meth c H locs 600000 7302250 (lw_Z below #[Value.ref b] s) (F0 m 1035 ls []) := by
  obtain ⟨S, hK, hZ, hX, hbl, hbA, hA⟩ := hC
  obtain ⟨hx, hb, hml, hown, hU⟩ := id S
  refine lv_aload_n hx hb dL_law_1035 rfl (lv_at hl 2 rfl) ?_
  refine lv_aload_n hx hb dL_law_1036 rfl (lv_at hl 3 rfl) ?_
  refine lv_iload_n hx hb dL_law_1037 rfl (lv_at hl 0 rfl) ?_
  refine lv_iconst (v := nI 1) hx hb dL_law_1038 (by decide) ?_
  refine q_iaddN (a := 6 * i) (b := 1) hx hb dL_law_1039 ?_
  refine va_sld hx hb hX hbl hbA hS (i := nI (6 * i + 1)) (vp_in_nI (by omega) (by omega)) dL_law_1040 ?_
  refine lv_aload_n hx hb dL_law_1041 rfl (lv_at hl 3 rfl) ?_
  refine lv_iload_n hx hb dL_law_1042 rfl (lv_at hl 0 rfl) ?_
  refine lv_iconst (v := nI 2) hx hb dL_law_1043 (by decide) ?_
  refine q_iaddN (a := 6 * i) (b := 2) hx hb dL_law_1044 ?_
  refine va_sld hx hb hX hbl hbA hS (i := nI (6 * i + 2)) (vp_in_nI (by omega) (by omega)) dL_law_1045 ?_
  obtain ⟨r, f1, h1, τ1, σ1, h3, h4, hT1⟩ := pr_odds l D cI cJ t a mt ka kk vv i (by omega) f g h τ σ hT (xs (nI (6 * i + 1)).toNatClampNeg) (xs (nI (6 * i + 2)).toNatClampNeg)
  refine V3.call (rest := []) hZ S kv_L_124 h3 hK hP hD hS hA (fun d hd => ⟨by show d + 1 ≤ 12; omega, by show 8 + _ + 36 * d ≤ 438; omega⟩) hl.1 rfl rfl (Nat.le_of_ble_eq_true rfl) (Nat.le_refl _) (Nat.le_refl _) dL_law_1046 (fun g1 H locs hP hD hS => ?_)
  refine lv_aload_n hx hb dL_law_1049 rfl (lv_at hl 1 rfl) ?_
  refine lv_aload_n hx hb dL_law_1050 rfl (lv_at hl 3 rfl) ?_
  refine lv_iload_n hx hb dL_law_1051 rfl (lv_at hl 0 rfl) ?_
  refine lv_iconst (v := nI 1) hx hb dL_law_1052 (by decide) ?_
  refine q_iaddN (a := 6 * i) (b := 1) hx hb dL_law_1053 ?_
  refine va_sld hx hb hX hbl hbA hS (i := nI (6 * i + 1)) (vp_in_nI (by omega) (by omega)) dL_law_1054 ?_
  refine lv_aload_n hx hb dL_law_1055 rfl (lv_at hl 3 rfl) ?_
  refine lv_iload_n hx hb dL_law_1056 rfl (lv_at hl 0 rfl) ?_
  refine lv_iconst (v := nI 2) hx hb dL_law_1057 (by decide) ?_
  refine q_iaddN (a := 6 * i) (b := 2) hx hb dL_law_1058 ?_
  refine va_sld hx hb hX hbl hbA hS (i := nI (6 * i + 2)) (vp_in_nI (by omega) (by omega)) dL_law_1059 ?_
  refine V4.call (rest := [_]) S kv_L_128 h4 hK hP hD hS hA (fun d hd => ⟨by show d + 1 ≤ 12; omega, by show 8 + _ + 36 * d ≤ 438; omega⟩) hl.1 rfl rfl (Nat.le_of_ble_eq_true rfl) (Nat.le_refl _) (Nat.le_refl _) dL_law_1060 (fun H locs hP hD hS => ?_)
  refine W.lcmp hx hb dL_law_1063 ?_
  refine q_eqi (y := 0) (by simp [lg_cmp]) ?_
  refine lv_if_eq (tgt := 1497) hx hb dL_law_1064 (by decide) (fun _ => ?_) (fun q => absurd rfl q)
  exact K f1 g1 h1 τ1 σ1 _ _ hT1 hP hD hS
theorem lw_c28 (hC : LC p s m c b L xs A D cI cJ mt ka kk vv) (hi : 6 * i + 6 ≤ L) (hL : L ≤ 3072) (hT : ST i f h τ σ) (hP : va_P D vwCl (TW cI cJ t f g h τ ++ MW cI a f σ) H) (hD : va_D A (TW cI cJ t f g h τ ++ MW cI a f σ)) (hS : va_S A s.heap H locs) (hl : lv_has ls 4 [(3, .int (nI (6 * i))), (2, .ref (a 0)), (1, .ref (t 0)), (0, .ref b)]) (K : KJ p l e s m below meth c b A D cI cJ t a i ls) : W p l e room_1 s m #[Value.ref b] below meth c H locs 600000 7302250 (lw_Z below #[Value.ref b] s) (F0 m 1069 ls []) := by
  obtain ⟨S, hK, hZ, hX, hbl, hbA, hA⟩ := hC
  obtain ⟨hx, hb, hml, hown, hU⟩ := id S
  refine lv_aload_n hx hb dL_law_1069 rfl (lv_at hl 2 rfl) ?_
  refine lv_aload_n hx hb dL_law_1070 rfl (lv_at hl 3 rfl) ?_
  refine lv_iload_n hx hb dL_law_1071 rfl (lv_at hl 0 rfl) ?_
  refine lv_iconst (v := nI 1) hx hb dL_law_1072 (by decide) ?_
  refine q_iaddN (a := 6 * i) (b := 1) hx hb dL_law_1073 ?_
  refine va_sld hx hb hX hbl hbA hS (i := nI (6 * i + 1)) (vp_in_nI (by omega) (by omega)) dL_law_1074 ?_
  obtain ⟨r, f1, h1, τ1, σ1, h3, h4, hT1⟩ := pr_seed l D cI cJ t a mt ka kk vv i (by omega) f g h τ σ hT (xs (nI (6 * i + 1)).toNatClampNeg)
  refine V3.call (rest := []) hZ S kv_L_129 h3 hK hP hD hS hA (fun d hd => ⟨by show d + 1 ≤ 12; omega, by show 8 + _ + 36 * d ≤ 438; omega⟩) hl.1 rfl rfl (Nat.le_of_ble_eq_true rfl) (Nat.le_refl _) (Nat.le_refl _) dL_law_1075 (fun g1 H locs hP hD hS => ?_)
  refine lv_aload_n hx hb dL_law_1078 rfl (lv_at hl 1 rfl) ?_
  refine lv_aload_n hx hb dL_law_1079 rfl (lv_at hl 3 rfl) ?_
  refine lv_iload_n hx hb dL_law_1080 rfl (lv_at hl 0 rfl) ?_
  refine lv_iconst (v := nI 1) hx hb dL_law_1081 (by decide) ?_
  refine q_iaddN (a := 6 * i) (b := 1) hx hb dL_law_1082 ?_
  refine va_sld hx hb hX hbl hbA hS (i := nI (6 * i + 1)) (vp_in_nI (by omega) (by omega)) dL_law_1083 ?_
  refine V4.call (rest := [_]) S kv_L_132 h4 hK hP hD hS hA (fun d hd => ⟨by show d + 1 ≤ 12; omega, by show 8 + _ + 36 * d ≤ 438; omega⟩) hl.1 rfl rfl (Nat.le_of_ble_eq_true rfl) (Nat.le_refl _) (Nat.le_refl _) dL_law_1084 (fun H locs hP hD hS => ?_)
  refine lv_icmp_eq (tgt := 1497) hx hb dL_law_1087 (by decide) (fun _ => ?_) (fun q => absurd rfl q)
  exact K f1 g1 h1 τ1 σ1 _ _ hT1 hP hD hS
theorem lw_c29 (hC : LC p s m c b L xs A D cI cJ mt ka kk vv) (hi : 6 * i + 6 ≤ L) (hL : L ≤ 3072) (hT : ST i f h τ σ) (hP : va_P D vwCl (TW cI cJ t f g h τ ++ MW cI a f σ) H) (hD : va_D A (TW cI cJ t f g h τ ++ MW cI a f σ)) (hS : va_S A s.heap H locs) (hl : lv_has ls 4 [(3, .int (nI (6 * i))), (2, .ref (a 0)), (1, .ref (t 0)), (0, .ref b)]) (K : KJ p l e s m below meth c b A D cI cJ t a i ls) : W p l e room_1 s m #[Value.ref b] below meth c H locs 600000 7302250 (lw_Z below #[Value.ref b] s) (F0 m 1092 ls []) := by
  obtain ⟨S, hK, hZ, hX, hbl, hbA, hA⟩ := hC
  obtain ⟨hx, hb, hml, hown, hU⟩ := id S
  refine lv_aload_n hx hb dL_law_1092 rfl (lv_at hl 2 rfl) ?_
  refine lv_aload_n hx hb dL_law_1093 rfl (lv_at hl 3 rfl) ?_
  refine lv_iload_n hx hb dL_law_1094 rfl (lv_at hl 0 rfl) ?_
  refine lv_iconst (v := nI 1) hx hb dL_law_1095 (by decide) ?_
  refine q_iaddN (a := 6 * i) (b := 1) hx hb dL_law_1096 ?_
  refine va_sld hx hb hX hbl hbA hS (i := nI (6 * i + 1)) (vp_in_nI (by omega) (by omega)) dL_law_1097 ?_
  refine lv_aload_n hx hb dL_law_1098 rfl (lv_at hl 3 rfl) ?_
  refine lv_iload_n hx hb dL_law_1099 rfl (lv_at hl 0 rfl) ?_
  refine lv_iconst (v := nI 2) hx hb dL_law_1100 (by decide) ?_
  refine q_iaddN (a := 6 * i) (b := 2) hx hb dL_law_1101 ?_
  refine va_sld hx hb hX hbl hbA hS (i := nI (6 * i + 2)) (vp_in_nI (by omega) (by omega)) dL_law_1102 ?_
  obtain ⟨r, f1, h1, τ1, σ1, h3, h4, hT1⟩ := pr_feed l D cI cJ t a mt ka kk vv i (by omega) f g h τ σ hT (xs (nI (6 * i + 1)).toNatClampNeg) (xs (nI (6 * i + 2)).toNatClampNeg)
  refine V3.call (rest := []) hZ S kv_L_133 h3 hK hP hD hS hA (fun d hd => ⟨by show d + 1 ≤ 12; omega, by show 8 + _ + 36 * d ≤ 438; omega⟩) hl.1 rfl rfl (Nat.le_of_ble_eq_true rfl) (Nat.le_refl _) (Nat.le_refl _) dL_law_1103 (fun g1 H locs hP hD hS => ?_)
  refine lv_aload_n hx hb dL_law_1106 rfl (lv_at hl 1 rfl) ?_
  refine lv_aload_n hx hb dL_law_1107 rfl (lv_at hl 3 rfl) ?_
  refine lv_iload_n hx hb dL_law_1108 rfl (lv_at hl 0 rfl) ?_
  refine lv_iconst (v := nI 1) hx hb dL_law_1109 (by decide) ?_
  refine q_iaddN (a := 6 * i) (b := 1) hx hb dL_law_1110 ?_
  refine va_sld hx hb hX hbl hbA hS (i := nI (6 * i + 1)) (vp_in_nI (by omega) (by omega)) dL_law_1111 ?_
  refine lv_aload_n hx hb dL_law_1112 rfl (lv_at hl 3 rfl) ?_
  refine lv_iload_n hx hb dL_law_1113 rfl (lv_at hl 0 rfl) ?_
  refine lv_iconst (v := nI 2) hx hb dL_law_1114 (by decide) ?_
  refine q_iaddN (a := 6 * i) (b := 2) hx hb dL_law_1115 ?_
  refine va_sld hx hb hX hbl hbA hS (i := nI (6 * i + 2)) (vp_in_nI (by omega) (by omega)) dL_law_1116 ?_
  refine V4.call (rest := [_]) S kv_L_136 h4 hK hP hD hS hA (fun d hd => ⟨by show d + 1 ≤ 12; omega, by show 8 + _ + 36 * d ≤ 438; omega⟩) hl.1 rfl rfl (Nat.le_of_ble_eq_true rfl) (Nat.le_refl _) (Nat.le_refl _) dL_law_1117 (fun H locs hP hD hS => ?_)
  refine lv_icmp_eq (tgt := 1497) hx hb dL_law_1120 (by decide) (fun _ => ?_) (fun q => absurd rfl q)
  exact K f1 g1 h1 τ1 σ1 _ _ hT1 hP hD hS
theorem lw_c30 (hC : LC p s m c b L xs A D cI cJ mt ka kk vv) (hi : 6 * i + 6 ≤ L) (hL : L ≤ 3072) (hT : ST i f h τ σ) (hP : va_P D vwCl (TW cI cJ t f g h τ ++ MW cI a f σ) H) (hD : va_D A (TW cI cJ t f g h τ ++ MW cI a f σ)) (hS : va_S A s.heap H locs) (hl : lv_has ls 4 [(3, .int (nI (6 * i))), (2, .ref (a 0)), (1, .ref (t 0)), (0, .ref b)]) (K : KJ p l e s m below meth c b A D cI cJ t a i ls) : W p l e room_1 s m #[Value.ref b] below meth c H locs 600000 7302250 (lw_Z below #[Value.ref b] s) (F0 m 1125 ls []) := by
  obtain ⟨S, hK, hZ, hX, hbl, hbA, hA⟩ := hC
  obtain ⟨hx, hb, hml, hown, hU⟩ := id S
  refine lv_aload_n hx hb dL_law_1125 rfl (lv_at hl 2 rfl) ?_
  obtain ⟨r, f1, h1, τ1, σ1, h3, h4, hT1⟩ := pr_wipe l D cI cJ t a mt ka kk vv i (by omega) f g h τ σ hT 
  refine V3.call (rest := []) hZ S kv_L_137 h3 hK hP hD hS hA (fun d hd => ⟨by show d + 1 ≤ 12; omega, by show 8 + _ + 36 * d ≤ 438; omega⟩) hl.1 rfl rfl (Nat.le_of_ble_eq_true rfl) (Nat.le_refl _) (Nat.le_refl _) dL_law_1126 (fun g1 H locs hP hD hS => ?_)
  refine lv_aload_n hx hb dL_law_1129 rfl (lv_at hl 1 rfl) ?_
  refine V4.call (rest := [_]) S kv_L_141 h4 hK hP hD hS hA (fun d hd => ⟨by show d + 1 ≤ 12; omega, by show 8 + _ + 36 * d ≤ 438; omega⟩) hl.1 rfl rfl (Nat.le_of_ble_eq_true rfl) (Nat.le_refl _) (Nat.le_refl _) dL_law_1130 (fun H locs hP hD hS => ?_)
  refine lv_icmp_eq (tgt := 1497) hx hb dL_law_1133 (by decide) (fun _ => ?_) (fun q => absurd rfl q)
  exact K f1 g1 h1 τ1 σ1 _ _ hT1 hP hD hS
theorem lw_c31 (hC : LC p s m c b L xs A D cI cJ mt ka kk vv) (hi : 6 * i + 6 ≤ L) (hL : L ≤ 3072) (hT : ST i f h τ σ) (hP : va_P D vwCl (TW cI cJ t f g h τ ++ MW cI a f σ) H) (hD : va_D A (TW cI cJ t f g h τ ++ MW cI a f σ)) (hS : va_S A s.heap H locs) (hl : lv_has ls 4 [(3, .int (nI (6 * i))), (2, .ref (a 0)), (1, .ref (t 0)), (0, .ref b)]) (K : KJ p l e s m below meth c b A D cI cJ t a i ls) : W p l e room_1 s m #[Value.ref b] below meth c H locs 600000 7302250 (lw_Z below #[Value.ref b] s) (F0 m 1138 ls []) := by
  obtain ⟨S, hK, hZ, hX, hbl, hbA, hA⟩ := hC
  obtain ⟨hx, hb, hml, hown, hU⟩ := id S
  refine lv_aload_n hx hb dL_law_1138 rfl (lv_at hl 2 rfl) ?_
  obtain ⟨r, f1, h1, τ1, σ1, h3, h4, hT1⟩ := pr_text l D cI cJ t a mt ka kk vv i (by omega) f g h τ σ hT 
  refine V3.call (rest := []) hZ S kv_L_142 h3 hK hP hD hS hA (fun d hd => ⟨by show d + 1 ≤ 12; omega, by show 8 + _ + 36 * d ≤ 438; omega⟩) hl.1 rfl rfl (Nat.le_of_ble_eq_true rfl) (Nat.le_refl _) (Nat.le_refl _) dL_law_1139 (fun g1 H locs hP hD hS => ?_)
  refine lv_aload_n hx hb dL_law_1142 rfl (lv_at hl 1 rfl) ?_
  refine V4.call (rest := [_]) S kv_L_145 h4 hK hP hD hS hA (fun d hd => ⟨by show d + 1 ≤ 12; omega, by show 8 + _ + 36 * d ≤ 438; omega⟩) hl.1 rfl rfl (Nat.le_of_ble_eq_true rfl) (Nat.le_refl _) (Nat.le_refl _) dL_law_1143 (fun H locs hP hD hS => ?_)
  refine lv_icmp_eq (tgt := 1497) hx hb dL_law_1146 (by decide) (fun _ => ?_) (fun q => absurd rfl q)
  exact K f1 g1 h1 τ1 σ1 _ _ hT1 hP hD hS
theorem lw_c32 (hC : LC p s m c b L xs A D cI cJ mt ka kk vv) (hi : 6 * i + 6 ≤ L) (hL : L ≤ 3072) (hT : ST i f h τ σ) (hP : va_P D vwCl (TW cI cJ t f g h τ ++ MW cI a f σ) H) (hD : va_D A (TW cI cJ t f g h τ ++ MW cI a f σ)) (hS : va_S A s.heap H locs) (hl : lv_has ls 4 [(3, .int (nI (6 * i))), (2, .ref (a 0)), (1, .ref (t 0)), (0, .ref b)]) (K : KJ p l e s m below meth c b A D cI cJ t a i ls) : W p l e room_1 s m #[Value.ref b] below meth c H locs 600000 7302250 (lw_Z below #[Value.ref b] s) (F0 m 1151 ls []) := by
  obtain ⟨S, hK, hZ, hX, hbl, hbA, hA⟩ := hC
  obtain ⟨hx, hb, hml, hown, hU⟩ := id S
  refine lv_aload_n hx hb dL_law_1151 rfl (lv_at hl 2 rfl) ?_
  refine lv_aload_n hx hb dL_law_1152 rfl (lv_at hl 3 rfl) ?_
  refine lv_iload_n hx hb dL_law_1153 rfl (lv_at hl 0 rfl) ?_
  refine lv_iconst (v := nI 1) hx hb dL_law_1154 (by decide) ?_
  refine q_iaddN (a := 6 * i) (b := 1) hx hb dL_law_1155 ?_
  refine va_sld hx hb hX hbl hbA hS (i := nI (6 * i + 1)) (vp_in_nI (by omega) (by omega)) dL_law_1156 ?_
  refine lv_aload_n hx hb dL_law_1157 rfl (lv_at hl 3 rfl) ?_
  refine lv_iload_n hx hb dL_law_1158 rfl (lv_at hl 0 rfl) ?_
  refine lv_iconst (v := nI 2) hx hb dL_law_1159 (by decide) ?_
  refine q_iaddN (a := 6 * i) (b := 2) hx hb dL_law_1160 ?_
  refine va_sld hx hb hX hbl hbA hS (i := nI (6 * i + 2)) (vp_in_nI (by omega) (by omega)) dL_law_1161 ?_
  obtain ⟨r, f1, h1, τ1, σ1, h3, h4, hT1⟩ := pr_hold l D cI cJ t a mt ka kk vv i (by omega) f g h τ σ hT (xs (nI (6 * i + 1)).toNatClampNeg) (xs (nI (6 * i + 2)).toNatClampNeg)
  refine V3.call (rest := []) hZ S kv_L_146 h3 hK hP hD hS hA (fun d hd => ⟨by show d + 1 ≤ 12; omega, by show 8 + _ + 36 * d ≤ 438; omega⟩) hl.1 rfl rfl (Nat.le_of_ble_eq_true rfl) (Nat.le_refl _) (Nat.le_refl _) dL_law_1162 (fun g1 H locs hP hD hS => ?_)
  refine lv_aload_n hx hb dL_law_1165 rfl (lv_at hl 1 rfl) ?_
  refine lv_aload_n hx hb dL_law_1166 rfl (lv_at hl 3 rfl) ?_
  refine lv_iload_n hx hb dL_law_1167 rfl (lv_at hl 0 rfl) ?_
  refine lv_iconst (v := nI 1) hx hb dL_law_1168 (by decide) ?_
  refine q_iaddN (a := 6 * i) (b := 1) hx hb dL_law_1169 ?_
  refine va_sld hx hb hX hbl hbA hS (i := nI (6 * i + 1)) (vp_in_nI (by omega) (by omega)) dL_law_1170 ?_
  refine lv_aload_n hx hb dL_law_1171 rfl (lv_at hl 3 rfl) ?_
  refine lv_iload_n hx hb dL_law_1172 rfl (lv_at hl 0 rfl) ?_
  refine lv_iconst (v := nI 2) hx hb dL_law_1173 (by decide) ?_
  refine q_iaddN (a := 6 * i) (b := 2) hx hb dL_law_1174 ?_
  refine va_sld hx hb hX hbl hbA hS (i := nI (6 * i + 2)) (vp_in_nI (by omega) (by omega)) dL_law_1175 ?_
  refine V4.call (rest := [_]) S kv_L_149 h4 hK hP hD hS hA (fun d hd => ⟨by show d + 1 ≤ 12; omega, by show 8 + _ + 36 * d ≤ 438; omega⟩) hl.1 rfl rfl (Nat.le_of_ble_eq_true rfl) (Nat.le_refl _) (Nat.le_refl _) dL_law_1176 (fun H locs hP hD hS => ?_)
  refine lv_icmp_eq (tgt := 1497) hx hb dL_law_1179 (by decide) (fun _ => ?_) (fun q => absurd rfl q)
  exact K f1 g1 h1 τ1 σ1 _ _ hT1 hP hD hS
theorem lw_c33 (hC : LC p s m c b L xs A D cI cJ mt ka kk vv) (hi : 6 * i + 6 ≤ L) (hL : L ≤ 3072) (hT : ST i f h τ σ) (hP : va_P D vwCl (TW cI cJ t f g h τ ++ MW cI a f σ) H) (hD : va_D A (TW cI cJ t f g h τ ++ MW cI a f σ)) (hS : va_S A s.heap H locs) (hl : lv_has ls 4 [(3, .int (nI (6 * i))), (2, .ref (a 0)), (1, .ref (t 0)), (0, .ref b)]) (K : KJ p l e s m below meth c b A D cI cJ t a i ls) : W p l e room_1 s m #[Value.ref b] below meth c H locs 600000 7302250 (lw_Z below #[Value.ref b] s) (F0 m 1184 ls []) := by
  obtain ⟨S, hK, hZ, hX, hbl, hbA, hA⟩ := hC
  obtain ⟨hx, hb, hml, hown, hU⟩ := id S
  refine lv_aload_n hx hb dL_law_1184 rfl (lv_at hl 2 rfl) ?_
  refine lv_aload_n hx hb dL_law_1185 rfl (lv_at hl 3 rfl) ?_
  refine lv_iload_n hx hb dL_law_1186 rfl (lv_at hl 0 rfl) ?_
  refine lv_iconst (v := nI 1) hx hb dL_law_1187 (by decide) ?_
  refine q_iaddN (a := 6 * i) (b := 1) hx hb dL_law_1188 ?_
  refine va_sld hx hb hX hbl hbA hS (i := nI (6 * i + 1)) (vp_in_nI (by omega) (by omega)) dL_law_1189 ?_
  refine lv_aload_n hx hb dL_law_1190 rfl (lv_at hl 3 rfl) ?_
  refine lv_iload_n hx hb dL_law_1191 rfl (lv_at hl 0 rfl) ?_
  refine lv_iconst (v := nI 2) hx hb dL_law_1192 (by decide) ?_
  refine q_iaddN (a := 6 * i) (b := 2) hx hb dL_law_1193 ?_
  refine va_sld hx hb hX hbl hbA hS (i := nI (6 * i + 2)) (vp_in_nI (by omega) (by omega)) dL_law_1194 ?_
  obtain ⟨r, f1, h1, τ1, σ1, h3, h4, hT1⟩ := pr_as l D cI cJ t a mt ka kk vv i (by omega) f g h τ σ hT (xs (nI (6 * i + 1)).toNatClampNeg) (xs (nI (6 * i + 2)).toNatClampNeg)
  refine V3.call (rest := []) hZ S kv_L_150 h3 hK hP hD hS hA (fun d hd => ⟨by show d + 1 ≤ 12; omega, by show 8 + _ + 36 * d ≤ 438; omega⟩) hl.1 rfl rfl (Nat.le_of_ble_eq_true rfl) (Nat.le_refl _) (Nat.le_refl _) dL_law_1195 (fun g1 H locs hP hD hS => ?_)
  refine lv_aload_n hx hb dL_law_1198 rfl (lv_at hl 1 rfl) ?_
  refine lv_aload_n hx hb dL_law_1199 rfl (lv_at hl 3 rfl) ?_
  refine lv_iload_n hx hb dL_law_1200 rfl (lv_at hl 0 rfl) ?_
  refine lv_iconst (v := nI 1) hx hb dL_law_1201 (by decide) ?_
  refine q_iaddN (a := 6 * i) (b := 1) hx hb dL_law_1202 ?_
  refine va_sld hx hb hX hbl hbA hS (i := nI (6 * i + 1)) (vp_in_nI (by omega) (by omega)) dL_law_1203 ?_
  refine lv_aload_n hx hb dL_law_1204 rfl (lv_at hl 3 rfl) ?_
  refine lv_iload_n hx hb dL_law_1205 rfl (lv_at hl 0 rfl) ?_
  refine lv_iconst (v := nI 2) hx hb dL_law_1206 (by decide) ?_
  refine q_iaddN (a := 6 * i) (b := 2) hx hb dL_law_1207 ?_
  refine va_sld hx hb hX hbl hbA hS (i := nI (6 * i + 2)) (vp_in_nI (by omega) (by omega)) dL_law_1208 ?_
  refine V4.call (rest := [_]) S kv_L_153 h4 hK hP hD hS hA (fun d hd => ⟨by show d + 1 ≤ 12; omega, by show 8 + _ + 36 * d ≤ 438; omega⟩) hl.1 rfl rfl (Nat.le_of_ble_eq_true rfl) (Nat.le_refl _) (Nat.le_refl _) dL_law_1209 (fun H locs hP hD hS => ?_)
  refine lv_icmp_eq (tgt := 1497) hx hb dL_law_1212 (by decide) (fun _ => ?_) (fun q => absurd rfl q)
  exact K f1 g1 h1 τ1 σ1 _ _ hT1 hP hD hS
theorem lw_c34 (hC : LC p s m c b L xs A D cI cJ mt ka kk vv) (hi : 6 * i + 6 ≤ L) (hL : L ≤ 3072) (hT : ST i f h τ σ) (hP : va_P D vwCl (TW cI cJ t f g h τ ++ MW cI a f σ) H) (hD : va_D A (TW cI cJ t f g h τ ++ MW cI a f σ)) (hS : va_S A s.heap H locs) (hl : lv_has ls 4 [(3, .int (nI (6 * i))), (2, .ref (a 0)), (1, .ref (t 0)), (0, .ref b)]) (K : KJ p l e s m below meth c b A D cI cJ t a i ls) : W p l e room_1 s m #[Value.ref b] below meth c H locs 600000 7302250 (lw_Z below #[Value.ref b] s) (F0 m 1217 ls []) := by
  obtain ⟨S, hK, hZ, hX, hbl, hbA, hA⟩ := hC
  obtain ⟨hx, hb, hml, hown, hU⟩ := id S
  refine lv_aload_n hx hb dL_law_1217 rfl (lv_at hl 2 rfl) ?_
  refine lv_aload_n hx hb dL_law_1218 rfl (lv_at hl 3 rfl) ?_
  refine lv_iload_n hx hb dL_law_1219 rfl (lv_at hl 0 rfl) ?_
  refine lv_iconst (v := nI 1) hx hb dL_law_1220 (by decide) ?_
  refine q_iaddN (a := 6 * i) (b := 1) hx hb dL_law_1221 ?_
  refine va_sld hx hb hX hbl hbA hS (i := nI (6 * i + 1)) (vp_in_nI (by omega) (by omega)) dL_law_1222 ?_
  refine lv_aload_n hx hb dL_law_1223 rfl (lv_at hl 3 rfl) ?_
  refine lv_iload_n hx hb dL_law_1224 rfl (lv_at hl 0 rfl) ?_
  refine lv_iconst (v := nI 2) hx hb dL_law_1225 (by decide) ?_
  refine q_iaddN (a := 6 * i) (b := 2) hx hb dL_law_1226 ?_
  refine va_sld hx hb hX hbl hbA hS (i := nI (6 * i + 2)) (vp_in_nI (by omega) (by omega)) dL_law_1227 ?_
  refine lv_aload_n hx hb dL_law_1228 rfl (lv_at hl 3 rfl) ?_
  refine lv_iload_n hx hb dL_law_1229 rfl (lv_at hl 0 rfl) ?_
  refine lv_iconst (v := nI 3) hx hb dL_law_1230 (by decide) ?_
  refine q_iaddN (a := 6 * i) (b := 3) hx hb dL_law_1231 ?_
  refine va_sld hx hb hX hbl hbA hS (i := nI (6 * i + 3)) (vp_in_nI (by omega) (by omega)) dL_law_1232 ?_
  obtain ⟨r, f1, h1, τ1, σ1, h3, h4, hT1⟩ := pr_sheet l D cI cJ t a mt ka kk vv i (by omega) f g h τ σ hT (xs (nI (6 * i + 1)).toNatClampNeg) (xs (nI (6 * i + 2)).toNatClampNeg) (xs (nI (6 * i + 3)).toNatClampNeg)
  refine V3.call (rest := []) hZ S kv_L_154 h3 hK hP hD hS hA (fun d hd => ⟨by show d + 1 ≤ 12; omega, by show 8 + _ + 36 * d ≤ 438; omega⟩) hl.1 rfl rfl (Nat.le_of_ble_eq_true rfl) (Nat.le_refl _) (Nat.le_refl _) dL_law_1233 (fun g1 H locs hP hD hS => ?_)
  refine lv_aload_n hx hb dL_law_1236 rfl (lv_at hl 1 rfl) ?_
  refine lv_aload_n hx hb dL_law_1237 rfl (lv_at hl 3 rfl) ?_
  refine lv_iload_n hx hb dL_law_1238 rfl (lv_at hl 0 rfl) ?_
  refine lv_iconst (v := nI 1) hx hb dL_law_1239 (by decide) ?_
  refine q_iaddN (a := 6 * i) (b := 1) hx hb dL_law_1240 ?_
  refine va_sld hx hb hX hbl hbA hS (i := nI (6 * i + 1)) (vp_in_nI (by omega) (by omega)) dL_law_1241 ?_
  refine lv_aload_n hx hb dL_law_1242 rfl (lv_at hl 3 rfl) ?_
  refine lv_iload_n hx hb dL_law_1243 rfl (lv_at hl 0 rfl) ?_
  refine lv_iconst (v := nI 2) hx hb dL_law_1244 (by decide) ?_
  refine q_iaddN (a := 6 * i) (b := 2) hx hb dL_law_1245 ?_
  refine va_sld hx hb hX hbl hbA hS (i := nI (6 * i + 2)) (vp_in_nI (by omega) (by omega)) dL_law_1246 ?_
  refine lv_aload_n hx hb dL_law_1247 rfl (lv_at hl 3 rfl) ?_
  refine lv_iload_n hx hb dL_law_1248 rfl (lv_at hl 0 rfl) ?_
  refine lv_iconst (v := nI 3) hx hb dL_law_1249 (by decide) ?_
  refine q_iaddN (a := 6 * i) (b := 3) hx hb dL_law_1250 ?_
  refine va_sld hx hb hX hbl hbA hS (i := nI (6 * i + 3)) (vp_in_nI (by omega) (by omega)) dL_law_1251 ?_
  refine V4.call (rest := [_]) S kv_L_157 h4 hK hP hD hS hA (fun d hd => ⟨by show d + 1 ≤ 12; omega, by show 8 + _ + 36 * d ≤ 438; omega⟩) hl.1 rfl rfl (Nat.le_of_ble_eq_true rfl) (Nat.le_refl _) (Nat.le_refl _) dL_law_1252 (fun H locs hP hD hS => ?_)
  refine lv_icmp_eq (tgt := 1497) hx hb dL_law_1255 (by decide) (fun _ => ?_) (fun q => absurd rfl q)
  exact K f1 g1 h1 τ1 σ1 _ _ hT1 hP hD hS
theorem lw_c35 (hC : LC p s m c b L xs A D cI cJ mt ka kk vv) (hi : 6 * i + 6 ≤ L) (hL : L ≤ 3072) (hT : ST i f h τ σ) (hP : va_P D vwCl (TW cI cJ t f g h τ ++ MW cI a f σ) H) (hD : va_D A (TW cI cJ t f g h τ ++ MW cI a f σ)) (hS : va_S A s.heap H locs) (hl : lv_has ls 4 [(3, .int (nI (6 * i))), (2, .ref (a 0)), (1, .ref (t 0)), (0, .ref b)]) (K : KJ p l e s m below meth c b A D cI cJ t a i ls) : W p l e room_1 s m #[Value.ref b] below meth c H locs 600000 7302250 (lw_Z below #[Value.ref b] s) (F0 m 1260 ls []) := by
  obtain ⟨S, hK, hZ, hX, hbl, hbA, hA⟩ := hC
  obtain ⟨hx, hb, hml, hown, hU⟩ := id S
  refine lv_aload_n hx hb dL_law_1260 rfl (lv_at hl 2 rfl) ?_
  refine lv_aload_n hx hb dL_law_1261 rfl (lv_at hl 3 rfl) ?_
  refine lv_iload_n hx hb dL_law_1262 rfl (lv_at hl 0 rfl) ?_
  refine lv_iconst (v := nI 1) hx hb dL_law_1263 (by decide) ?_
  refine q_iaddN (a := 6 * i) (b := 1) hx hb dL_law_1264 ?_
  refine va_sld hx hb hX hbl hbA hS (i := nI (6 * i + 1)) (vp_in_nI (by omega) (by omega)) dL_law_1265 ?_
  refine lv_aload_n hx hb dL_law_1266 rfl (lv_at hl 3 rfl) ?_
  refine lv_iload_n hx hb dL_law_1267 rfl (lv_at hl 0 rfl) ?_
  refine lv_iconst (v := nI 2) hx hb dL_law_1268 (by decide) ?_
  refine q_iaddN (a := 6 * i) (b := 2) hx hb dL_law_1269 ?_
  refine va_sld hx hb hX hbl hbA hS (i := nI (6 * i + 2)) (vp_in_nI (by omega) (by omega)) dL_law_1270 ?_
  refine lv_aload_n hx hb dL_law_1271 rfl (lv_at hl 3 rfl) ?_
  refine lv_iload_n hx hb dL_law_1272 rfl (lv_at hl 0 rfl) ?_
  refine lv_iconst (v := nI 3) hx hb dL_law_1273 (by decide) ?_
  refine q_iaddN (a := 6 * i) (b := 3) hx hb dL_law_1274 ?_
  refine va_sld hx hb hX hbl hbA hS (i := nI (6 * i + 3)) (vp_in_nI (by omega) (by omega)) dL_law_1275 ?_
  obtain ⟨r, f1, h1, τ1, σ1, h3, h4, hT1⟩ := pr_write l D cI cJ t a mt ka kk vv i (by omega) f g h τ σ hT (xs (nI (6 * i + 1)).toNatClampNeg) (xs (nI (6 * i + 2)).toNatClampNeg) (xs (nI (6 * i + 3)).toNatClampNeg)
  refine V3.call (rest := []) hZ S kv_L_158 h3 hK hP hD hS hA (fun d hd => ⟨by show d + 1 ≤ 12; omega, by show 8 + _ + 36 * d ≤ 438; omega⟩) hl.1 rfl rfl (Nat.le_of_ble_eq_true rfl) (Nat.le_refl _) (Nat.le_refl _) dL_law_1276 (fun g1 H locs hP hD hS => ?_)
  refine lv_aload_n hx hb dL_law_1279 rfl (lv_at hl 1 rfl) ?_
  refine lv_aload_n hx hb dL_law_1280 rfl (lv_at hl 3 rfl) ?_
  refine lv_iload_n hx hb dL_law_1281 rfl (lv_at hl 0 rfl) ?_
  refine lv_iconst (v := nI 1) hx hb dL_law_1282 (by decide) ?_
  refine q_iaddN (a := 6 * i) (b := 1) hx hb dL_law_1283 ?_
  refine va_sld hx hb hX hbl hbA hS (i := nI (6 * i + 1)) (vp_in_nI (by omega) (by omega)) dL_law_1284 ?_
  refine lv_aload_n hx hb dL_law_1285 rfl (lv_at hl 3 rfl) ?_
  refine lv_iload_n hx hb dL_law_1286 rfl (lv_at hl 0 rfl) ?_
  refine lv_iconst (v := nI 2) hx hb dL_law_1287 (by decide) ?_
  refine q_iaddN (a := 6 * i) (b := 2) hx hb dL_law_1288 ?_
  refine va_sld hx hb hX hbl hbA hS (i := nI (6 * i + 2)) (vp_in_nI (by omega) (by omega)) dL_law_1289 ?_
  refine lv_aload_n hx hb dL_law_1290 rfl (lv_at hl 3 rfl) ?_
  refine lv_iload_n hx hb dL_law_1291 rfl (lv_at hl 0 rfl) ?_
  refine lv_iconst (v := nI 3) hx hb dL_law_1292 (by decide) ?_
  refine q_iaddN (a := 6 * i) (b := 3) hx hb dL_law_1293 ?_
  refine va_sld hx hb hX hbl hbA hS (i := nI (6 * i + 3)) (vp_in_nI (by omega) (by omega)) dL_law_1294 ?_
  refine V4.call (rest := [_]) S kv_L_161 h4 hK hP hD hS hA (fun d hd => ⟨by show d + 1 ≤ 12; omega, by show 8 + _ + 36 * d ≤ 438; omega⟩) hl.1 rfl rfl (Nat.le_of_ble_eq_true rfl) (Nat.le_refl _) (Nat.le_refl _) dL_law_1295 (fun H locs hP hD hS => ?_)
  refine lv_icmp_eq (tgt := 1497) hx hb dL_law_1298 (by decide) (fun _ => ?_) (fun q => absurd rfl q)
  exact K f1 g1 h1 τ1 σ1 _ _ hT1 hP hD hS
theorem lw_c36 (hC : LC p s m c b L xs A D cI cJ mt ka kk vv) (hi : 6 * i + 6 ≤ L) (hL : L ≤ 3072) (hT : ST i f h τ σ) (hP : va_P D vwCl (TW cI cJ t f g h τ ++ MW cI a f σ) H) (hD : va_D A (TW cI cJ t f g h τ ++ MW cI a f σ)) (hS : va_S A s.heap H locs) (hl : lv_has ls 4 [(3, .int (nI (6 * i))), (2, .ref (a 0)), (1, .ref (t 0)), (0, .ref b)]) (K : KJ p l e s m below meth c b A D cI cJ t a i ls) : W p l e room_1 s m #[Value.ref b] below meth c H locs 600000 7302250 (lw_Z below #[Value.ref b] s) (F0 m 1303 ls []) := by
  obtain ⟨S, hK, hZ, hX, hbl, hbA, hA⟩ := hC
  obtain ⟨hx, hb, hml, hown, hU⟩ := id S
  refine lv_aload_n hx hb dL_law_1303 rfl (lv_at hl 2 rfl) ?_
  refine lv_aload_n hx hb dL_law_1304 rfl (lv_at hl 3 rfl) ?_
  refine lv_iload_n hx hb dL_law_1305 rfl (lv_at hl 0 rfl) ?_
  refine lv_iconst (v := nI 1) hx hb dL_law_1306 (by decide) ?_
  refine q_iaddN (a := 6 * i) (b := 1) hx hb dL_law_1307 ?_
  refine va_sld hx hb hX hbl hbA hS (i := nI (6 * i + 1)) (vp_in_nI (by omega) (by omega)) dL_law_1308 ?_
  refine lv_aload_n hx hb dL_law_1309 rfl (lv_at hl 3 rfl) ?_
  refine lv_iload_n hx hb dL_law_1310 rfl (lv_at hl 0 rfl) ?_
  refine lv_iconst (v := nI 2) hx hb dL_law_1311 (by decide) ?_
  refine q_iaddN (a := 6 * i) (b := 2) hx hb dL_law_1312 ?_
  refine va_sld hx hb hX hbl hbA hS (i := nI (6 * i + 2)) (vp_in_nI (by omega) (by omega)) dL_law_1313 ?_
  refine lv_aload_n hx hb dL_law_1314 rfl (lv_at hl 3 rfl) ?_
  refine lv_iload_n hx hb dL_law_1315 rfl (lv_at hl 0 rfl) ?_
  refine lv_iconst (v := nI 3) hx hb dL_law_1316 (by decide) ?_
  refine q_iaddN (a := 6 * i) (b := 3) hx hb dL_law_1317 ?_
  refine va_sld hx hb hX hbl hbA hS (i := nI (6 * i + 3)) (vp_in_nI (by omega) (by omega)) dL_law_1318 ?_
  refine lv_aload_n hx hb dL_law_1319 rfl (lv_at hl 3 rfl) ?_
  refine lv_iload_n hx hb dL_law_1320 rfl (lv_at hl 0 rfl) ?_
  refine lv_iconst (v := nI 4) hx hb dL_law_1321 (by decide) ?_
  refine q_iaddN (a := 6 * i) (b := 4) hx hb dL_law_1322 ?_
  refine va_sld hx hb hX hbl hbA hS (i := nI (6 * i + 4)) (vp_in_nI (by omega) (by omega)) dL_law_1323 ?_
  refine lv_aload_n hx hb dL_law_1324 rfl (lv_at hl 3 rfl) ?_
  refine lv_iload_n hx hb dL_law_1325 rfl (lv_at hl 0 rfl) ?_
  refine lv_iconst (v := nI 5) hx hb dL_law_1326 (by decide) ?_
  refine q_iaddN (a := 6 * i) (b := 5) hx hb dL_law_1327 ?_
  refine va_sld hx hb hX hbl hbA hS (i := nI (6 * i + 5)) (vp_in_nI (by omega) (by omega)) dL_law_1328 ?_
  obtain ⟨r, f1, h1, τ1, σ1, h3, h4, hT1⟩ := pr_copy l D cI cJ t a mt ka kk vv i (by omega) f g h τ σ hT (xs (nI (6 * i + 1)).toNatClampNeg) (xs (nI (6 * i + 2)).toNatClampNeg) (xs (nI (6 * i + 3)).toNatClampNeg) (xs (nI (6 * i + 4)).toNatClampNeg) (xs (nI (6 * i + 5)).toNatClampNeg)
  refine V3.call (rest := []) hZ S kv_L_162 h3 hK hP hD hS hA (fun d hd => ⟨by show d + 1 ≤ 12; omega, by show 8 + _ + 36 * d ≤ 438; omega⟩) hl.1 rfl rfl (Nat.le_of_ble_eq_true rfl) (Nat.le_refl _) (Nat.le_refl _) dL_law_1329 (fun g1 H locs hP hD hS => ?_)
  refine lv_aload_n hx hb dL_law_1332 rfl (lv_at hl 1 rfl) ?_
  refine lv_aload_n hx hb dL_law_1333 rfl (lv_at hl 3 rfl) ?_
  refine lv_iload_n hx hb dL_law_1334 rfl (lv_at hl 0 rfl) ?_
  refine lv_iconst (v := nI 1) hx hb dL_law_1335 (by decide) ?_
  refine q_iaddN (a := 6 * i) (b := 1) hx hb dL_law_1336 ?_
  refine va_sld hx hb hX hbl hbA hS (i := nI (6 * i + 1)) (vp_in_nI (by omega) (by omega)) dL_law_1337 ?_
  refine lv_aload_n hx hb dL_law_1338 rfl (lv_at hl 3 rfl) ?_
  refine lv_iload_n hx hb dL_law_1339 rfl (lv_at hl 0 rfl) ?_
  refine lv_iconst (v := nI 2) hx hb dL_law_1340 (by decide) ?_
  refine q_iaddN (a := 6 * i) (b := 2) hx hb dL_law_1341 ?_
  refine va_sld hx hb hX hbl hbA hS (i := nI (6 * i + 2)) (vp_in_nI (by omega) (by omega)) dL_law_1342 ?_
  refine lv_aload_n hx hb dL_law_1343 rfl (lv_at hl 3 rfl) ?_
  refine lv_iload_n hx hb dL_law_1344 rfl (lv_at hl 0 rfl) ?_
  refine lv_iconst (v := nI 3) hx hb dL_law_1345 (by decide) ?_
  refine q_iaddN (a := 6 * i) (b := 3) hx hb dL_law_1346 ?_
  refine va_sld hx hb hX hbl hbA hS (i := nI (6 * i + 3)) (vp_in_nI (by omega) (by omega)) dL_law_1347 ?_
  refine lv_aload_n hx hb dL_law_1348 rfl (lv_at hl 3 rfl) ?_
  refine lv_iload_n hx hb dL_law_1349 rfl (lv_at hl 0 rfl) ?_
  refine lv_iconst (v := nI 4) hx hb dL_law_1350 (by decide) ?_
  refine q_iaddN (a := 6 * i) (b := 4) hx hb dL_law_1351 ?_
  refine va_sld hx hb hX hbl hbA hS (i := nI (6 * i + 4)) (vp_in_nI (by omega) (by omega)) dL_law_1352 ?_
  refine lv_aload_n hx hb dL_law_1353 rfl (lv_at hl 3 rfl) ?_
  refine lv_iload_n hx hb dL_law_1354 rfl (lv_at hl 0 rfl) ?_
  refine lv_iconst (v := nI 5) hx hb dL_law_1355 (by decide) ?_
  refine q_iaddN (a := 6 * i) (b := 5) hx hb dL_law_1356 ?_
  refine va_sld hx hb hX hbl hbA hS (i := nI (6 * i + 5)) (vp_in_nI (by omega) (by omega)) dL_law_1357 ?_
  refine V4.call (rest := [_]) S kv_L_166 h4 hK hP hD hS hA (fun d hd => ⟨by show d + 1 ≤ 12; omega, by show 8 + _ + 36 * d ≤ 438; omega⟩) hl.1 rfl rfl (Nat.le_of_ble_eq_true rfl) (Nat.le_refl _) (Nat.le_refl _) dL_law_1358 (fun H locs hP hD hS => ?_)
  refine lv_icmp_eq (tgt := 1497) hx hb dL_law_1361 (by decide) (fun _ => ?_) (fun q => absurd rfl q)
  exact K f1 g1 h1 τ1 σ1 _ _ hT1 hP hD hS
theorem lw_c37 (hC : LC p s m c b L xs A D cI cJ mt ka kk vv) (hi : 6 * i + 6 ≤ L) (hL : L ≤ 3072) (hT : ST i f h τ σ) (hP : va_P D vwCl (TW cI cJ t f g h τ ++ MW cI a f σ) H) (hD : va_D A (TW cI cJ t f g h τ ++ MW cI a f σ)) (hS : va_S A s.heap H locs) (hl : lv_has ls 4 [(3, .int (nI (6 * i))), (2, .ref (a 0)), (1, .ref (t 0)), (0, .ref b)]) (K : KJ p l e s m below meth c b A D cI cJ t a i ls) : W p l e room_1 s m #[Value.ref b] below meth c H locs 600000 7302250 (lw_Z below #[Value.ref b] s) (F0 m 1366 ls []) := by
  obtain ⟨S, hK, hZ, hX, hbl, hbA, hA⟩ := hC
  obtain ⟨hx, hb, hml, hown, hU⟩ := id S
  refine lv_aload_n hx hb dL_law_1366 rfl (lv_at hl 2 rfl) ?_
  refine lv_aload_n hx hb dL_law_1367 rfl (lv_at hl 3 rfl) ?_
  refine lv_iload_n hx hb dL_law_1368 rfl (lv_at hl 0 rfl) ?_
  refine lv_iconst (v := nI 1) hx hb dL_law_1369 (by decide) ?_
  refine q_iaddN (a := 6 * i) (b := 1) hx hb dL_law_1370 ?_
  refine va_sld hx hb hX hbl hbA hS (i := nI (6 * i + 1)) (vp_in_nI (by omega) (by omega)) dL_law_1371 ?_
  obtain ⟨r, f1, h1, τ1, σ1, h3, h4, hT1⟩ := pr_load l D cI cJ t a mt ka kk vv i (by omega) f g h τ σ hT (xs (nI (6 * i + 1)).toNatClampNeg)
  refine V3.call (rest := []) hZ S kv_L_167 h3 hK hP hD hS hA (fun d hd => ⟨by show d + 1 ≤ 12; omega, by show 8 + _ + 36 * d ≤ 438; omega⟩) hl.1 rfl rfl (Nat.le_of_ble_eq_true rfl) (Nat.le_refl _) (Nat.le_refl _) dL_law_1372 (fun g1 H locs hP hD hS => ?_)
  refine lv_aload_n hx hb dL_law_1375 rfl (lv_at hl 1 rfl) ?_
  refine lv_aload_n hx hb dL_law_1376 rfl (lv_at hl 3 rfl) ?_
  refine lv_iload_n hx hb dL_law_1377 rfl (lv_at hl 0 rfl) ?_
  refine lv_iconst (v := nI 1) hx hb dL_law_1378 (by decide) ?_
  refine q_iaddN (a := 6 * i) (b := 1) hx hb dL_law_1379 ?_
  refine va_sld hx hb hX hbl hbA hS (i := nI (6 * i + 1)) (vp_in_nI (by omega) (by omega)) dL_law_1380 ?_
  refine V4.call (rest := [_]) S kv_L_170 h4 hK hP hD hS hA (fun d hd => ⟨by show d + 1 ≤ 12; omega, by show 8 + _ + 36 * d ≤ 438; omega⟩) hl.1 rfl rfl (Nat.le_of_ble_eq_true rfl) (Nat.le_refl _) (Nat.le_refl _) dL_law_1381 (fun H locs hP hD hS => ?_)
  refine lv_icmp_eq (tgt := 1497) hx hb dL_law_1384 (by decide) (fun _ => ?_) (fun q => absurd rfl q)
  exact K f1 g1 h1 τ1 σ1 _ _ hT1 hP hD hS
theorem lw_c38 (hC : LC p s m c b L xs A D cI cJ mt ka kk vv) (hi : 6 * i + 6 ≤ L) (hL : L ≤ 3072) (hT : ST i f h τ σ) (hP : va_P D vwCl (TW cI cJ t f g h τ ++ MW cI a f σ) H) (hD : va_D A (TW cI cJ t f g h τ ++ MW cI a f σ)) (hS : va_S A s.heap H locs) (hl : lv_has ls 4 [(3, .int (nI (6 * i))), (2, .ref (a 0)), (1, .ref (t 0)), (0, .ref b)]) (K : KJ p l e s m below meth c b A D cI cJ t a i ls) : W p l e room_1 s m #[Value.ref b] below meth c H locs 600000 7302250 (lw_Z below #[Value.ref b] s) (F0 m 1389 ls []) := by
  obtain ⟨S, hK, hZ, hX, hbl, hbA, hA⟩ := hC
  obtain ⟨hx, hb, hml, hown, hU⟩ := id S
  refine lv_aload_n hx hb dL_law_1389 rfl (lv_at hl 2 rfl) ?_
  refine lv_aload_n hx hb dL_law_1390 rfl (lv_at hl 3 rfl) ?_
  refine lv_iload_n hx hb dL_law_1391 rfl (lv_at hl 0 rfl) ?_
  refine lv_iconst (v := nI 1) hx hb dL_law_1392 (by decide) ?_
  refine q_iaddN (a := 6 * i) (b := 1) hx hb dL_law_1393 ?_
  refine va_sld hx hb hX hbl hbA hS (i := nI (6 * i + 1)) (vp_in_nI (by omega) (by omega)) dL_law_1394 ?_
  obtain ⟨r, f1, h1, τ1, σ1, h3, h4, hT1⟩ := pr_judge l D cI cJ t a mt ka kk vv i (by omega) f g h τ σ hT (xs (nI (6 * i + 1)).toNatClampNeg)
  refine V3.call (rest := []) hZ S kv_L_171 h3 hK hP hD hS hA (fun d hd => ⟨by show d + 1 ≤ 12; omega, by show 8 + _ + 36 * d ≤ 438; omega⟩) hl.1 rfl rfl (Nat.le_of_ble_eq_true rfl) (Nat.le_refl _) (Nat.le_refl _) dL_law_1395 (fun g1 H locs hP hD hS => ?_)
  refine lv_aload_n hx hb dL_law_1398 rfl (lv_at hl 1 rfl) ?_
  refine lv_aload_n hx hb dL_law_1399 rfl (lv_at hl 3 rfl) ?_
  refine lv_iload_n hx hb dL_law_1400 rfl (lv_at hl 0 rfl) ?_
  refine lv_iconst (v := nI 1) hx hb dL_law_1401 (by decide) ?_
  refine q_iaddN (a := 6 * i) (b := 1) hx hb dL_law_1402 ?_
  refine va_sld hx hb hX hbl hbA hS (i := nI (6 * i + 1)) (vp_in_nI (by omega) (by omega)) dL_law_1403 ?_
  refine V4.call (rest := [_]) S kv_L_174 h4 hK hP hD hS hA (fun d hd => ⟨by show d + 1 ≤ 12; omega, by show 8 + _ + 36 * d ≤ 438; omega⟩) hl.1 rfl rfl (Nat.le_of_ble_eq_true rfl) (Nat.le_refl _) (Nat.le_refl _) dL_law_1404 (fun H locs hP hD hS => ?_)
  refine lv_icmp_eq (tgt := 1497) hx hb dL_law_1407 (by decide) (fun _ => ?_) (fun q => absurd rfl q)
  exact K f1 g1 h1 τ1 σ1 _ _ hT1 hP hD hS
theorem lw_c39 (hC : LC p s m c b L xs A D cI cJ mt ka kk vv) (hi : 6 * i + 6 ≤ L) (hL : L ≤ 3072) (hT : ST i f h τ σ) (hP : va_P D vwCl (TW cI cJ t f g h τ ++ MW cI a f σ) H) (hD : va_D A (TW cI cJ t f g h τ ++ MW cI a f σ)) (hS : va_S A s.heap H locs) (hl : lv_has ls 4 [(3, .int (nI (6 * i))), (2, .ref (a 0)), (1, .ref (t 0)), (0, .ref b)]) (K : KJ p l e s m below meth c b A D cI cJ t a i ls) : W p l e room_1 s m #[Value.ref b] below meth c H locs 600000 7302250 (lw_Z below #[Value.ref b] s) (F0 m 1412 ls []) := by
  obtain ⟨S, hK, hZ, hX, hbl, hbA, hA⟩ := hC
  obtain ⟨hx, hb, hml, hown, hU⟩ := id S
  refine lv_aload_n hx hb dL_law_1412 rfl (lv_at hl 2 rfl) ?_
  obtain ⟨r, f1, h1, τ1, σ1, h3, h4, hT1⟩ := pr_image l D cI cJ t a mt ka kk vv i (by omega) f g h τ σ hT 
  refine V3.call (rest := []) hZ S kv_L_175 h3 hK hP hD hS hA (fun d hd => ⟨by show d + 1 ≤ 12; omega, by show 8 + _ + 36 * d ≤ 438; omega⟩) hl.1 rfl rfl (Nat.le_of_ble_eq_true rfl) (Nat.le_refl _) (Nat.le_refl _) dL_law_1413 (fun g1 H locs hP hD hS => ?_)
  refine lv_aload_n hx hb dL_law_1416 rfl (lv_at hl 1 rfl) ?_
  refine V4.call (rest := [_]) S kv_L_178 h4 hK hP hD hS hA (fun d hd => ⟨by show d + 1 ≤ 12; omega, by show 8 + _ + 36 * d ≤ 438; omega⟩) hl.1 rfl rfl (Nat.le_of_ble_eq_true rfl) (Nat.le_refl _) (Nat.le_refl _) dL_law_1417 (fun H locs hP hD hS => ?_)
  refine lv_icmp_eq (tgt := 1497) hx hb dL_law_1420 (by decide) (fun _ => ?_) (fun q => absurd rfl q)
  exact K f1 g1 h1 τ1 σ1 _ _ hT1 hP hD hS
theorem lw_c40 (hC : LC p s m c b L xs A D cI cJ mt ka kk vv) (hi : 6 * i + 6 ≤ L) (hL : L ≤ 3072) (hT : ST i f h τ σ) (hP : va_P D vwCl (TW cI cJ t f g h τ ++ MW cI a f σ) H) (hD : va_D A (TW cI cJ t f g h τ ++ MW cI a f σ)) (hS : va_S A s.heap H locs) (hl : lv_has ls 4 [(3, .int (nI (6 * i))), (2, .ref (a 0)), (1, .ref (t 0)), (0, .ref b)]) (K : KJ p l e s m below meth c b A D cI cJ t a i ls) : W p l e room_1 s m #[Value.ref b] below meth c H locs 600000 7302250 (lw_Z below #[Value.ref b] s) (F0 m 1425 ls []) := by
  obtain ⟨S, hK, hZ, hX, hbl, hbA, hA⟩ := hC
  obtain ⟨hx, hb, hml, hown, hU⟩ := id S
  refine lv_aload_n hx hb dL_law_1425 rfl (lv_at hl 2 rfl) ?_
  obtain ⟨r, f1, h1, τ1, σ1, h3, h4, hT1⟩ := pr_undo l D cI cJ t a mt ka kk vv i (by omega) f g h τ σ hT 
  refine V3.call (rest := []) hZ S kv_L_179 h3 hK hP hD hS hA (fun d hd => ⟨by show d + 1 ≤ 12; omega, by show 8 + _ + 36 * d ≤ 438; omega⟩) hl.1 rfl rfl (Nat.le_of_ble_eq_true rfl) (Nat.le_refl _) (Nat.le_refl _) dL_law_1426 (fun g1 H locs hP hD hS => ?_)
  refine lv_aload_n hx hb dL_law_1429 rfl (lv_at hl 1 rfl) ?_
  refine V4.call (rest := [_]) S kv_L_182 h4 hK hP hD hS hA (fun d hd => ⟨by show d + 1 ≤ 12; omega, by show 8 + _ + 36 * d ≤ 438; omega⟩) hl.1 rfl rfl (Nat.le_of_ble_eq_true rfl) (Nat.le_refl _) (Nat.le_refl _) dL_law_1430 (fun H locs hP hD hS => ?_)
  refine lv_icmp_eq (tgt := 1497) hx hb dL_law_1433 (by decide) (fun _ => ?_) (fun q => absurd rfl q)
  exact K f1 g1 h1 τ1 σ1 _ _ hT1 hP hD hS
theorem lw_c41 (hC : LC p s m c b L xs A D cI cJ mt ka kk vv) (hi : 6 * i + 6 ≤ L) (hL : L ≤ 3072) (hT : ST i f h τ σ) (hP : va_P D vwCl (TW cI cJ t f g h τ ++ MW cI a f σ) H) (hD : va_D A (TW cI cJ t f g h τ ++ MW cI a f σ)) (hS : va_S A s.heap H locs) (hl : lv_has ls 4 [(3, .int (nI (6 * i))), (2, .ref (a 0)), (1, .ref (t 0)), (0, .ref b)]) (K : KJ p l e s m below meth c b A D cI cJ t a i ls) : W p l e room_1 s m #[Value.ref b] below meth c H locs 600000 7302250 (lw_Z below #[Value.ref b] s) (F0 m 1438 ls []) := by
  obtain ⟨S, hK, hZ, hX, hbl, hbA, hA⟩ := hC
  obtain ⟨hx, hb, hml, hown, hU⟩ := id S
  refine lv_aload_n hx hb dL_law_1438 rfl (lv_at hl 2 rfl) ?_
  obtain ⟨r, f1, h1, τ1, σ1, h3, h4, hT1⟩ := pr_tear l D cI cJ t a mt ka kk vv i (by omega) f g h τ σ hT 
  refine V3.call (rest := []) hZ S kv_L_183 h3 hK hP hD hS hA (fun d hd => ⟨by show d + 1 ≤ 12; omega, by show 8 + _ + 36 * d ≤ 438; omega⟩) hl.1 rfl rfl (Nat.le_of_ble_eq_true rfl) (Nat.le_refl _) (Nat.le_refl _) dL_law_1439 (fun g1 H locs hP hD hS => ?_)
  refine lv_aload_n hx hb dL_law_1442 rfl (lv_at hl 1 rfl) ?_
  refine V4.call (rest := [_]) S kv_L_186 h4 hK hP hD hS hA (fun d hd => ⟨by show d + 1 ≤ 12; omega, by show 8 + _ + 36 * d ≤ 438; omega⟩) hl.1 rfl rfl (Nat.le_of_ble_eq_true rfl) (Nat.le_refl _) (Nat.le_refl _) dL_law_1443 (fun H locs hP hD hS => ?_)
  refine lv_icmp_eq (tgt := 1497) hx hb dL_law_1446 (by decide) (fun _ => ?_) (fun q => absurd rfl q)
  exact K f1 g1 h1 τ1 σ1 _ _ hT1 hP hD hS
theorem lw_c42 (hC : LC p s m c b L xs A D cI cJ mt ka kk vv) (hi : 6 * i + 6 ≤ L) (hL : L ≤ 3072) (hT : ST i f h τ σ) (hP : va_P D vwCl (TW cI cJ t f g h τ ++ MW cI a f σ) H) (hD : va_D A (TW cI cJ t f g h τ ++ MW cI a f σ)) (hS : va_S A s.heap H locs) (hl : lv_has ls 4 [(3, .int (nI (6 * i))), (2, .ref (a 0)), (1, .ref (t 0)), (0, .ref b)]) (K : KJ p l e s m below meth c b A D cI cJ t a i ls) : W p l e room_1 s m #[Value.ref b] below meth c H locs 600000 7302250 (lw_Z below #[Value.ref b] s) (F0 m 1451 ls []) := by
  obtain ⟨S, hK, hZ, hX, hbl, hbA, hA⟩ := hC
  obtain ⟨hx, hb, hml, hown, hU⟩ := id S
  refine lv_aload_n hx hb dL_law_1451 rfl (lv_at hl 2 rfl) ?_
  refine lv_aload_n hx hb dL_law_1452 rfl (lv_at hl 3 rfl) ?_
  refine lv_iload_n hx hb dL_law_1453 rfl (lv_at hl 0 rfl) ?_
  refine lv_iconst (v := nI 1) hx hb dL_law_1454 (by decide) ?_
  refine q_iaddN (a := 6 * i) (b := 1) hx hb dL_law_1455 ?_
  refine va_sld hx hb hX hbl hbA hS (i := nI (6 * i + 1)) (vp_in_nI (by omega) (by omega)) dL_law_1456 ?_
  obtain ⟨r, f1, h1, τ1, σ1, h3, h4, hT1⟩ := pr_count l D cI cJ t a mt ka kk vv i (by omega) f g h τ σ hT (xs (nI (6 * i + 1)).toNatClampNeg)
  refine V3.call (rest := []) hZ S kv_L_187 h3 hK hP hD hS hA (fun d hd => ⟨by show d + 1 ≤ 12; omega, by show 8 + _ + 36 * d ≤ 438; omega⟩) hl.1 rfl rfl (Nat.le_of_ble_eq_true rfl) (Nat.le_refl _) (Nat.le_refl _) dL_law_1457 (fun g1 H locs hP hD hS => ?_)
  refine lv_aload_n hx hb dL_law_1460 rfl (lv_at hl 1 rfl) ?_
  refine lv_aload_n hx hb dL_law_1461 rfl (lv_at hl 3 rfl) ?_
  refine lv_iload_n hx hb dL_law_1462 rfl (lv_at hl 0 rfl) ?_
  refine lv_iconst (v := nI 1) hx hb dL_law_1463 (by decide) ?_
  refine q_iaddN (a := 6 * i) (b := 1) hx hb dL_law_1464 ?_
  refine va_sld hx hb hX hbl hbA hS (i := nI (6 * i + 1)) (vp_in_nI (by omega) (by omega)) dL_law_1465 ?_
  refine V4.call (rest := [_]) S kv_L_190 h4 hK hP hD hS hA (fun d hd => ⟨by show d + 1 ≤ 12; omega, by show 8 + _ + 36 * d ≤ 438; omega⟩) hl.1 rfl rfl (Nat.le_of_ble_eq_true rfl) (Nat.le_refl _) (Nat.le_refl _) dL_law_1466 (fun H locs hP hD hS => ?_)
  refine lv_icmp_eq (tgt := 1497) hx hb dL_law_1469 (by decide) (fun _ => ?_) (fun q => absurd rfl q)
  exact K f1 g1 h1 τ1 σ1 _ _ hT1 hP hD hS
theorem lw_c43 (hC : LC p s m c b L xs A D cI cJ mt ka kk vv) (hi : 6 * i + 6 ≤ L) (hL : L ≤ 3072) (hT : ST i f h τ σ) (hP : va_P D vwCl (TW cI cJ t f g h τ ++ MW cI a f σ) H) (hD : va_D A (TW cI cJ t f g h τ ++ MW cI a f σ)) (hS : va_S A s.heap H locs) (hl : lv_has ls 4 [(3, .int (nI (6 * i))), (2, .ref (a 0)), (1, .ref (t 0)), (0, .ref b)]) (K : KJ p l e s m below meth c b A D cI cJ t a i ls) : W p l e room_1 s m #[Value.ref b] below meth c H locs 600000 7302250 (lw_Z below #[Value.ref b] s) (F0 m 1474 ls []) := by
  obtain ⟨S, hK, hZ, hX, hbl, hbA, hA⟩ := hC
  obtain ⟨hx, hb, hml, hown, hU⟩ := id S
  refine lv_aload_n hx hb dL_law_1474 rfl (lv_at hl 2 rfl) ?_
  refine lv_aload_n hx hb dL_law_1475 rfl (lv_at hl 3 rfl) ?_
  refine lv_iload_n hx hb dL_law_1476 rfl (lv_at hl 0 rfl) ?_
  refine lv_iconst (v := nI 1) hx hb dL_law_1477 (by decide) ?_
  refine q_iaddN (a := 6 * i) (b := 1) hx hb dL_law_1478 ?_
  refine va_sld hx hb hX hbl hbA hS (i := nI (6 * i + 1)) (vp_in_nI (by omega) (by omega)) dL_law_1479 ?_
  obtain ⟨r, f1, h1, τ1, σ1, h3, h4, hT1⟩ := pr_status l D cI cJ t a mt ka kk vv i (by omega) f g h τ σ hT (xs (nI (6 * i + 1)).toNatClampNeg)
  refine V3.call (rest := []) hZ S kv_L_191 h3 hK hP hD hS hA (fun d hd => ⟨by show d + 1 ≤ 12; omega, by show 8 + _ + 36 * d ≤ 438; omega⟩) hl.1 rfl rfl (Nat.le_of_ble_eq_true rfl) (Nat.le_refl _) (Nat.le_refl _) dL_law_1480 (fun g1 H locs hP hD hS => ?_)
  refine lv_aload_n hx hb dL_law_1483 rfl (lv_at hl 1 rfl) ?_
  refine lv_aload_n hx hb dL_law_1484 rfl (lv_at hl 3 rfl) ?_
  refine lv_iload_n hx hb dL_law_1485 rfl (lv_at hl 0 rfl) ?_
  refine lv_iconst (v := nI 1) hx hb dL_law_1486 (by decide) ?_
  refine q_iaddN (a := 6 * i) (b := 1) hx hb dL_law_1487 ?_
  refine va_sld hx hb hX hbl hbA hS (i := nI (6 * i + 1)) (vp_in_nI (by omega) (by omega)) dL_law_1488 ?_
  refine V4.call (rest := [_]) S kv_L_194 h4 hK hP hD hS hA (fun d hd => ⟨by show d + 1 ≤ 12; omega, by show 8 + _ + 36 * d ≤ 438; omega⟩) hl.1 rfl rfl (Nat.le_of_ble_eq_true rfl) (Nat.le_refl _) (Nat.le_refl _) dL_law_1489 (fun H locs hP hD hS => ?_)
  refine lv_icmp_eq (tgt := 1497) hx hb dL_law_1492 (by decide) (fun _ => ?_) (fun q => absurd rfl q)
  exact K f1 g1 h1 τ1 σ1 _ _ hT1 hP hD hS
end Cases
