set_option maxRecDepth 100000 in
set_option maxHeartbeats 4000000 in
theorem law_c1 {p : Program} {l : Launch} {e : Env} {s : State} {m : MethodId} {below : List Frame} {meth : Method} {c : Code} {cells slots : Nat} {D : va_G} (xo : Nat) (nt : Nat) (es : Nat) (ro : Nat) (ad : Nat → Nat) (cI : ClassId) (cJ : ClassId) (cZ : ClassId) (h : Nat) (adM : Nat → Nat) (lo : Nat) (ln : Int32) (fz : Nat) (sx : Bool) (mo : Int32) (sn : Nat) (bw : Int32) (tkv : Nat → Int64) (opv : Nat → Int64) (shv : Nat → Int64) (ldv : Nat → Int32) (wyv : Nat → Int64) (bdv : Nat → Bool) (ct : Nat) (dA : Nat) (sta : Nat) (stc : Int64) (fev : Nat → Nat) (dl : Nat) (dnv : Nat → Int64) (rov : Nat → Nat) (thr : Int32) (snM : Nat) (tkvM : Nat → Int64) (opvM : Nat → Int64) (shvM : Nat → Int64) (ldvM : Nat → Int32) (lim : Int32) (wyvM : Nat → Int64) (bdvM : Nat → Bool) (isr : Bool) (rn : Nat) (rdv : Nat → Nat) (fzM : Nat) (icv : Nat → Nat) (exa : Bool) (fr : Nat) (fevM : Nat → Nat) (eav : Nat → Int64) (rs : Nat) (rovM : Nat → Nat) (lov : Nat → Int64) {b L : Nat} {xs : Nat → Int32} {i : Nat} (C : gz_C p s m #[Value.ref b] c cL_law 7 RL D [(cI, .int), (cJ, .long), (cZ, .boolean)] (fun q : Nat => s.heap.size ≤ q)) (hX : lwX b L xs s (fun q : Nat => s.heap.size ≤ q)) (hi : i + 7 ≤ L) (hce : cells ≤ 601024 ∧ slots ≤ 7293034) (hc_hsn : sn ≤ 20) (hm_hsn : snM ≤ 20)  (kk : GZ p l e room_1 s m #[Value.ref b] below meth c 7 D (fun q : Nat => s.heap.size ≤ q) cells slots (lw_Z below #[Value.ref b] s) ((wC xo nt es ro ad cI cJ cZ ln fz (f2_way_sx sx sn ((xs (i + 1))) ((xs (i + 2))) (((((xs (i + 3))).toInt64) <<< ((nI 32).toInt64 &&& 63)) ||| ((((xs (i + 4))).toInt64) &&& 4294967295))) mo sn bw tkv opv shv ldv (f2_way_wyv sn wyv ((xs (i + 1))) ((xs (i + 2))) (((((xs (i + 3))).toInt64) <<< ((nI 32).toInt64 &&& 63)) ||| ((((xs (i + 4))).toInt64) &&& 4294967295))) bdv ct dA dA sta stc fev dl dnv rov) ++ ((wM h adM cI cJ cZ (f3_way_thr snM ((xs (i + 1))) ((xs (i + 2))) (((((xs (i + 3))).toInt64) <<< ((nI 32).toInt64 &&& 63)) ||| ((((xs (i + 4))).toInt64) &&& 4294967295))) snM tkvM opvM shvM ldvM lim (f3_way_wyv snM wyvM ((xs (i + 1))) ((xs (i + 2))) (((((xs (i + 3))).toInt64) <<< ((nI 32).toInt64 &&& 63)) ||| ((((xs (i + 4))).toInt64) &&& 4294967295))) bdvM isr rn rdv fzM icv (f3_way_exa snM exa ((xs (i + 1))) ((xs (i + 2))) (((((xs (i + 3))).toInt64) <<< ((nI 32).toInt64 &&& 63)) ||| ((((xs (i + 4))).toInt64) &&& 4294967295))) fr fevM eav rs rovM) ++ [(lo, .inl (cJ, 1, .inr (.inl lov)))])) [(0, .ref b), (1, .ref xo), (2, .ref h), (3, .ref lo), (4, .int (nI i))] [] 668) : GZ p l e room_1 s m #[Value.ref b] below meth c 7 D (fun q : Nat => s.heap.size ≤ q) cells slots (lw_Z below #[Value.ref b] s) ((wC xo nt es ro ad cI cJ cZ ln fz sx mo sn bw tkv opv shv ldv wyv bdv ct dA dA sta stc fev dl dnv rov) ++ ((wM h adM cI cJ cZ thr snM tkvM opvM shvM ldvM lim wyvM bdvM isr rn rdv fzM icv exa fr fevM eav rs rovM) ++ [(lo, .inl (cJ, 1, .inr (.inl lov)))])) [(0, .ref b), (1, .ref xo), (2, .ref h), (3, .ref lo), (4, .int (nI i))] [] 255 := by
  have hL8 := hX.2.2.2
  refine gz_aload_n C 1 dL_law_255 rfl ?_
  refine gz_aload_n C 0 dL_law_256 rfl ?_
  refine gz_iload C 4 dL_law_257 rfl ?_
  refine gz_iconst (v := nI 1) C dL_law_259 (by decide) ?_
  refine gz_iadd (v := nI (i + 1)) C dL_law_260 (nI_add _ _) ?_
  refine gz_sld C hX (k := i + 1) (by omega) dL_law_261 ?_
  refine gz_aload_n C 0 dL_law_262 rfl ?_
  refine gz_iload C 4 dL_law_263 rfl ?_
  refine gz_iconst (v := nI 2) C dL_law_265 (by decide) ?_
  refine gz_iadd (v := nI (i + 2)) C dL_law_266 (nI_add _ _) ?_
  refine gz_sld C hX (k := i + 2) (by omega) dL_law_267 ?_
  refine gz_aload_n C 0 dL_law_268 rfl ?_
  refine gz_iload C 4 dL_law_269 rfl ?_
  refine gz_iconst (v := nI 3) C dL_law_271 (by decide) ?_
  refine gz_iadd (v := nI (i + 3)) C dL_law_272 (nI_add _ _) ?_
  refine gz_sld C hX (k := i + 3) (by omega) dL_law_273 ?_
  refine gz_i2l (v := ((xs (i + 3))).toInt64) C dL_law_274 rfl ?_
  refine gz_bipush (v := nI 32) C dL_law_275 (by decide) ?_
  refine gz_lshl (v := (((xs (i + 3))).toInt64) <<< ((nI 32).toInt64 &&& 63)) C dL_law_277 rfl ?_
  refine gz_aload_n C 0 dL_law_278 rfl ?_
  refine gz_iload C 4 dL_law_279 rfl ?_
  refine gz_iconst (v := nI 4) C dL_law_281 (by decide) ?_
  refine gz_iadd (v := nI (i + 4)) C dL_law_282 (nI_add _ _) ?_
  refine gz_sld C hX (k := i + 4) (by omega) dL_law_283 ?_
  refine gz_i2l (v := ((xs (i + 4))).toInt64) C dL_law_284 rfl ?_
  refine gz_ldc2 (v := 4294967295) C wk_568 dL_law_285 ?_
  refine gz_land (v := (((xs (i + 4))).toInt64) &&& 4294967295) C dL_law_288 rfl ?_
  refine gz_lor (v := ((((xs (i + 3))).toInt64) <<< ((nI 32).toInt64 &&& 63)) ||| ((((xs (i + 4))).toInt64) &&& 4294967295)) C dL_law_289 rfl ?_
  refine gz_callV (wr := ((wM h adM cI cJ cZ thr snM tkvM opvM shvM ldvM lim wyvM bdvM isr rn rdv fzM icv exa fr fevM eav rs rovM) ++ [(lo, .inl (cJ, 1, .inr (.inl lov)))])) (n := 3) (ws2 := (((wM h adM cI cJ cZ thr snM tkvM opvM shvM ldvM lim wyvM bdvM isr rn rdv fzM icv exa fr fevM eav rs rovM) ++ [(lo, .inl (cJ, 1, .inr (.inl lov)))]) ++ (wC xo nt es ro ad cI cJ cZ ln fz (f2_way_sx sx sn ((xs (i + 1))) ((xs (i + 2))) (((((xs (i + 3))).toInt64) <<< ((nI 32).toInt64 &&& 63)) ||| ((((xs (i + 4))).toInt64) &&& 4294967295))) mo sn bw tkv opv shv ldv (f2_way_wyv sn wyv ((xs (i + 1))) ((xs (i + 2))) (((((xs (i + 3))).toInt64) <<< ((nI 32).toInt64 &&& 63)) ||| ((((xs (i + 4))).toInt64) &&& 4294967295))) bdv ct dA dA sta stc fev dl dnv rov))) (st2 := []) (cells2 := cells) (slots2 := slots) (ci := 3) C (kX2_way l D xo nt es ro ad cI cJ cZ ln fz sx mo sn bw tkv opv shv ldv wyv bdv ct dA sta stc fev dl dnv rov ((xs (i + 1))) ((xs (i + 2))) (((((xs (i + 3))).toInt64) <<< ((nI 32).toInt64 &&& 63)) ||| ((((xs (i + 4))).toInt64) &&& 4294967295)) hc_hsn) (WB_V wk_114 wk_115 wk_116 wk_1 wk_117) (by decide +kernel) ⟨⟨rfl, rfl⟩, by decide, by decide⟩ [0, 1, 2, 3, 4, 5, 6, 7, 8, 9, 10, 11] [12, 13, 14, 15, 16, 17, 18, 19, 20, 21, 22, 23, 24] [0, 1, 2] rfl rfl rfl (by decide) rfl 0 rfl rfl rfl rfl (Nat.le_of_ble_eq_true rfl) dL_law_290 ⟨hce.1, hce.2⟩ rfl rfl rfl ?_
  refine gz_ws (ws2 := ((wC xo nt es ro ad cI cJ cZ ln fz (f2_way_sx sx sn ((xs (i + 1))) ((xs (i + 2))) (((((xs (i + 3))).toInt64) <<< ((nI 32).toInt64 &&& 63)) ||| ((((xs (i + 4))).toInt64) &&& 4294967295))) mo sn bw tkv opv shv ldv (f2_way_wyv sn wyv ((xs (i + 1))) ((xs (i + 2))) (((((xs (i + 3))).toInt64) <<< ((nI 32).toInt64 &&& 63)) ||| ((((xs (i + 4))).toInt64) &&& 4294967295))) bdv ct dA dA sta stc fev dl dnv rov) ++ ((wM h adM cI cJ cZ thr snM tkvM opvM shvM ldvM lim wyvM bdvM isr rn rdv fzM icv exa fr fevM eav rs rovM) ++ [(lo, .inl (cJ, 1, .inr (.inl lov)))]))) [13, 14, 15, 16, 17, 18, 19, 20, 21, 22, 23, 24, 0, 1, 2, 3, 4, 5, 6, 7, 8, 9, 10, 11, 12] (by decide) rfl ?_
  refine gz_aload_n C 2 dL_law_293 rfl ?_
  refine gz_aload_n C 0 dL_law_294 rfl ?_
  refine gz_iload C 4 dL_law_295 rfl ?_
  refine gz_iconst (v := nI 1) C dL_law_297 (by decide) ?_
  refine gz_iadd (v := nI (i + 1)) C dL_law_298 (nI_add _ _) ?_
  refine gz_sld C hX (k := i + 1) (by omega) dL_law_299 ?_
  refine gz_aload_n C 0 dL_law_300 rfl ?_
  refine gz_iload C 4 dL_law_301 rfl ?_
  refine gz_iconst (v := nI 2) C dL_law_303 (by decide) ?_
  refine gz_iadd (v := nI (i + 2)) C dL_law_304 (nI_add _ _) ?_
  refine gz_sld C hX (k := i + 2) (by omega) dL_law_305 ?_
  refine gz_aload_n C 0 dL_law_306 rfl ?_
  refine gz_iload C 4 dL_law_307 rfl ?_
  refine gz_iconst (v := nI 3) C dL_law_309 (by decide) ?_
  refine gz_iadd (v := nI (i + 3)) C dL_law_310 (nI_add _ _) ?_
  refine gz_sld C hX (k := i + 3) (by omega) dL_law_311 ?_
  refine gz_i2l (v := ((xs (i + 3))).toInt64) C dL_law_312 rfl ?_
  refine gz_bipush (v := nI 32) C dL_law_313 (by decide) ?_
  refine gz_lshl (v := (((xs (i + 3))).toInt64) <<< ((nI 32).toInt64 &&& 63)) C dL_law_315 rfl ?_
  refine gz_aload_n C 0 dL_law_316 rfl ?_
  refine gz_iload C 4 dL_law_317 rfl ?_
  refine gz_iconst (v := nI 4) C dL_law_319 (by decide) ?_
  refine gz_iadd (v := nI (i + 4)) C dL_law_320 (nI_add _ _) ?_
  refine gz_sld C hX (k := i + 4) (by omega) dL_law_321 ?_
  refine gz_i2l (v := ((xs (i + 4))).toInt64) C dL_law_322 rfl ?_
  refine gz_ldc2 (v := 4294967295) C wk_568 dL_law_323 ?_
  refine gz_land (v := (((xs (i + 4))).toInt64) &&& 4294967295) C dL_law_326 rfl ?_
  refine gz_lor (v := ((((xs (i + 3))).toInt64) <<< ((nI 32).toInt64 &&& 63)) ||| ((((xs (i + 4))).toInt64) &&& 4294967295)) C dL_law_327 rfl ?_
  refine gz_callV (wr := ((wC xo nt es ro ad cI cJ cZ ln fz (f2_way_sx sx sn ((xs (i + 1))) ((xs (i + 2))) (((((xs (i + 3))).toInt64) <<< ((nI 32).toInt64 &&& 63)) ||| ((((xs (i + 4))).toInt64) &&& 4294967295))) mo sn bw tkv opv shv ldv (f2_way_wyv sn wyv ((xs (i + 1))) ((xs (i + 2))) (((((xs (i + 3))).toInt64) <<< ((nI 32).toInt64 &&& 63)) ||| ((((xs (i + 4))).toInt64) &&& 4294967295))) bdv ct dA dA sta stc fev dl dnv rov) ++ [(lo, .inl (cJ, 1, .inr (.inl lov)))])) (n := 3) (ws2 := (((wC xo nt es ro ad cI cJ cZ ln fz (f2_way_sx sx sn ((xs (i + 1))) ((xs (i + 2))) (((((xs (i + 3))).toInt64) <<< ((nI 32).toInt64 &&& 63)) ||| ((((xs (i + 4))).toInt64) &&& 4294967295))) mo sn bw tkv opv shv ldv (f2_way_wyv sn wyv ((xs (i + 1))) ((xs (i + 2))) (((((xs (i + 3))).toInt64) <<< ((nI 32).toInt64 &&& 63)) ||| ((((xs (i + 4))).toInt64) &&& 4294967295))) bdv ct dA dA sta stc fev dl dnv rov) ++ [(lo, .inl (cJ, 1, .inr (.inl lov)))]) ++ (wM h adM cI cJ cZ (f3_way_thr snM ((xs (i + 1))) ((xs (i + 2))) (((((xs (i + 3))).toInt64) <<< ((nI 32).toInt64 &&& 63)) ||| ((((xs (i + 4))).toInt64) &&& 4294967295))) snM tkvM opvM shvM ldvM lim (f3_way_wyv snM wyvM ((xs (i + 1))) ((xs (i + 2))) (((((xs (i + 3))).toInt64) <<< ((nI 32).toInt64 &&& 63)) ||| ((((xs (i + 4))).toInt64) &&& 4294967295))) bdvM isr rn rdv fzM icv (f3_way_exa snM exa ((xs (i + 1))) ((xs (i + 2))) (((((xs (i + 3))).toInt64) <<< ((nI 32).toInt64 &&& 63)) ||| ((((xs (i + 4))).toInt64) &&& 4294967295))) fr fevM eav rs rovM))) (st2 := []) (cells2 := cells) (slots2 := slots) (ci := 4) C (kX3_way l D h adM cI cJ cZ thr snM tkvM opvM shvM ldvM lim wyvM bdvM isr rn rdv fzM icv exa fr fevM eav rs rovM ((xs (i + 1))) ((xs (i + 2))) (((((xs (i + 3))).toInt64) <<< ((nI 32).toInt64 &&& 63)) ||| ((((xs (i + 4))).toInt64) &&& 4294967295)) hm_hsn) (WB_V wk_447 wk_448 wk_449 wk_4 wk_450) (by decide +kernel) ⟨⟨rfl, rfl⟩, by decide, by decide⟩ [12, 13, 14, 15, 16, 17, 18, 19, 20, 21, 22, 23] [0, 1, 2, 3, 4, 5, 6, 7, 8, 9, 10, 11, 24] [0, 1, 2] rfl rfl rfl (by decide) rfl 12 rfl rfl rfl rfl (Nat.le_of_ble_eq_true rfl) dL_law_328 ⟨hce.1, hce.2⟩ rfl rfl rfl ?_
  refine gz_ws (ws2 := ((wC xo nt es ro ad cI cJ cZ ln fz (f2_way_sx sx sn ((xs (i + 1))) ((xs (i + 2))) (((((xs (i + 3))).toInt64) <<< ((nI 32).toInt64 &&& 63)) ||| ((((xs (i + 4))).toInt64) &&& 4294967295))) mo sn bw tkv opv shv ldv (f2_way_wyv sn wyv ((xs (i + 1))) ((xs (i + 2))) (((((xs (i + 3))).toInt64) <<< ((nI 32).toInt64 &&& 63)) ||| ((((xs (i + 4))).toInt64) &&& 4294967295))) bdv ct dA dA sta stc fev dl dnv rov) ++ ((wM h adM cI cJ cZ (f3_way_thr snM ((xs (i + 1))) ((xs (i + 2))) (((((xs (i + 3))).toInt64) <<< ((nI 32).toInt64 &&& 63)) ||| ((((xs (i + 4))).toInt64) &&& 4294967295))) snM tkvM opvM shvM ldvM lim (f3_way_wyv snM wyvM ((xs (i + 1))) ((xs (i + 2))) (((((xs (i + 3))).toInt64) <<< ((nI 32).toInt64 &&& 63)) ||| ((((xs (i + 4))).toInt64) &&& 4294967295))) bdvM isr rn rdv fzM icv (f3_way_exa snM exa ((xs (i + 1))) ((xs (i + 2))) (((((xs (i + 3))).toInt64) <<< ((nI 32).toInt64 &&& 63)) ||| ((((xs (i + 4))).toInt64) &&& 4294967295))) fr fevM eav rs rovM) ++ [(lo, .inl (cJ, 1, .inr (.inl lov)))]))) [0, 1, 2, 3, 4, 5, 6, 7, 8, 9, 10, 11, 13, 14, 15, 16, 17, 18, 19, 20, 21, 22, 23, 24, 12] (by decide) rfl ?_
  refine gz_goto C 668 dL_law_331 (by decide) ?_
  exact kk

