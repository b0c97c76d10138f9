set_option maxRecDepth 100000 in
set_option maxHeartbeats 4000000 in
theorem law_c10 {p : Program} {l : Launch} {e : Env} {s : State} {m : MethodId} {below : List Frame} {meth : Method} {c : Code} {cells slots : Nat} {D : va_G} (xo : Nat) (nt : Nat) (es : Nat) (ro : Nat) (ad : Nat → Nat) (cI : ClassId) (cJ : ClassId) (cZ : ClassId) (h : Nat) (adM : Nat → Nat) (lo : Nat) (ln : Int32) (fz : Nat) (sx : Bool) (mo : Int32) (sn : Nat) (bw : Int32) (tkv : Nat → Int64) (opv : Nat → Int64) (shv : Nat → Int64) (ldv : Nat → Int32) (wyv : Nat → Int64) (bdv : Nat → Bool) (ct : Nat) (dA : Nat) (sta : Nat) (stc : Int64) (fev : Nat → Nat) (dl : Nat) (dnv : Nat → Int64) (rov : Nat → Nat) (thr : Int32) (snM : Nat) (tkvM : Nat → Int64) (opvM : Nat → Int64) (shvM : Nat → Int64) (ldvM : Nat → Int32) (lim : Int32) (wyvM : Nat → Int64) (bdvM : Nat → Bool) (isr : Bool) (rn : Nat) (rdv : Nat → Nat) (fzM : Nat) (icv : Nat → Nat) (exa : Bool) (fr : Nat) (fevM : Nat → Nat) (eav : Nat → Int64) (rs : Nat) (rovM : Nat → Nat) (lov : Nat → Int64) {b L : Nat} {xs : Nat → Int32} {i : Nat} (C : gz_C p s m #[Value.ref b] c cL_law 7 RL D [(cI, .int), (cJ, .long), (cZ, .boolean)] (fun q : Nat => s.heap.size ≤ q)) (hX : lwX b L xs s (fun q : Nat => s.heap.size ≤ q)) (hi : i + 7 ≤ L) (hce : cells ≤ 601024 ∧ slots ≤ 7293034) (hc_hsn : sn ≤ 20) (hm_hsn : snM ≤ 20)  (kk : GZ p l e room_1 s m #[Value.ref b] below meth c 7 D (fun q : Nat => s.heap.size ≤ q) cells slots (lw_Z below #[Value.ref b] s) ((wC xo nt es ro ad cI cJ cZ ln fz (f2_arc_sx sx sn ((xs (i + 1))) ((xs (i + 2))) ((xs (i + 3)))) mo sn (f2_arc_bw sn bw bdv ((xs (i + 1))) ((xs (i + 2))) ((xs (i + 3)))) tkv opv shv ldv wyv (f2_arc_bdv sn bdv ((xs (i + 1))) ((xs (i + 2))) ((xs (i + 3)))) ct dA dA sta stc fev dl dnv rov) ++ ((wM h adM cI cJ cZ (f3_arc_thr snM ((xs (i + 1))) ((xs (i + 2))) ((xs (i + 3)))) snM tkvM opvM shvM ldvM lim wyvM (f3_arc_bdv snM bdvM ((xs (i + 1))) ((xs (i + 2))) ((xs (i + 3)))) isr rn rdv fzM icv (f3_arc_exa snM exa ((xs (i + 1))) ((xs (i + 2))) ((xs (i + 3)))) fr fevM eav rs rovM) ++ [(lo, .inl (cJ, 1, .inr (.inl lov)))])) [(0, .ref b), (1, .ref xo), (2, .ref h), (3, .ref lo), (4, .int (nI i))] [] 668) : GZ p l e room_1 s m #[Value.ref b] below meth c 7 D (fun q : Nat => s.heap.size ≤ q) cells slots (lw_Z below #[Value.ref b] s) ((wC xo nt es ro ad cI cJ cZ ln fz sx mo sn bw tkv opv shv ldv wyv bdv ct dA dA sta stc fev dl dnv rov) ++ ((wM h adM cI cJ cZ thr snM tkvM opvM shvM ldvM lim wyvM bdvM isr rn rdv fzM icv exa fr fevM eav rs rovM) ++ [(lo, .inl (cJ, 1, .inr (.inl lov)))])) [(0, .ref b), (1, .ref xo), (2, .ref h), (3, .ref lo), (4, .int (nI i))] [] 569 := by
  have hL8 := hX.2.2.2
  refine gz_aload_n C 1 dL_law_569 rfl ?_
  refine gz_aload_n C 0 dL_law_570 rfl ?_
  refine gz_iload C 4 dL_law_571 rfl ?_
  refine gz_iconst (v := nI 1) C dL_law_573 (by decide) ?_
  refine gz_iadd (v := nI (i + 1)) C dL_law_574 (nI_add _ _) ?_
  refine gz_sld C hX (k := i + 1) (by omega) dL_law_575 ?_
  refine gz_aload_n C 0 dL_law_576 rfl ?_
  refine gz_iload C 4 dL_law_577 rfl ?_
  refine gz_iconst (v := nI 2) C dL_law_579 (by decide) ?_
  refine gz_iadd (v := nI (i + 2)) C dL_law_580 (nI_add _ _) ?_
  refine gz_sld C hX (k := i + 2) (by omega) dL_law_581 ?_
  refine gz_aload_n C 0 dL_law_582 rfl ?_
  refine gz_iload C 4 dL_law_583 rfl ?_
  refine gz_iconst (v := nI 3) C dL_law_585 (by decide) ?_
  refine gz_iadd (v := nI (i + 3)) C dL_law_586 (nI_add _ _) ?_
  refine gz_sld C hX (k := i + 3) (by omega) dL_law_587 ?_
  refine gz_callV (wr := ((wM h adM cI cJ cZ thr snM tkvM opvM shvM ldvM lim wyvM bdvM isr rn rdv fzM icv exa fr fevM eav rs rovM) ++ [(lo, .inl (cJ, 1, .inr (.inl lov)))])) (n := 3) (ws2 := (((wM h adM cI cJ cZ thr snM tkvM opvM shvM ldvM lim wyvM bdvM isr rn rdv fzM icv exa fr fevM eav rs rovM) ++ [(lo, .inl (cJ, 1, .inr (.inl lov)))]) ++ (wC xo nt es ro ad cI cJ cZ ln fz (f2_arc_sx sx sn ((xs (i + 1))) ((xs (i + 2))) ((xs (i + 3)))) mo sn (f2_arc_bw sn bw bdv ((xs (i + 1))) ((xs (i + 2))) ((xs (i + 3)))) tkv opv shv ldv wyv (f2_arc_bdv sn bdv ((xs (i + 1))) ((xs (i + 2))) ((xs (i + 3)))) ct dA dA sta stc fev dl dnv rov))) (st2 := [.int (f2_arc sn bw bdv ((xs (i + 1))) ((xs (i + 2))) ((xs (i + 3))))]) (cells2 := cells) (slots2 := slots) (ci := 3) C (kX2_arc l D xo nt es ro ad cI cJ cZ ln fz sx mo sn bw tkv opv shv ldv wyv bdv ct dA sta stc fev dl dnv rov ((xs (i + 1))) ((xs (i + 2))) ((xs (i + 3))) hc_hsn) (WB_V wk_264 wk_265 wk_266 wk_1 wk_267) (by decide +kernel) ⟨⟨rfl, rfl⟩, by decide, by decide⟩ [0, 1, 2, 3, 4, 5, 6, 7, 8, 9, 10, 11] [12, 13, 14, 15, 16, 17, 18, 19, 20, 21, 22, 23, 24] [0, 1, 2] rfl rfl rfl (by decide) rfl 0 rfl rfl rfl rfl (Nat.le_of_ble_eq_true rfl) dL_law_588 ⟨hce.1, hce.2⟩ rfl rfl rfl ?_
  refine gz_ws (ws2 := ((wC xo nt es ro ad cI cJ cZ ln fz (f2_arc_sx sx sn ((xs (i + 1))) ((xs (i + 2))) ((xs (i + 3)))) mo sn (f2_arc_bw sn bw bdv ((xs (i + 1))) ((xs (i + 2))) ((xs (i + 3)))) tkv opv shv ldv wyv (f2_arc_bdv sn bdv ((xs (i + 1))) ((xs (i + 2))) ((xs (i + 3)))) ct dA dA sta stc fev dl dnv rov) ++ ((wM h adM cI cJ cZ thr snM tkvM opvM shvM ldvM lim wyvM bdvM isr rn rdv fzM icv exa fr fevM eav rs rovM) ++ [(lo, .inl (cJ, 1, .inr (.inl lov)))]))) [13, 14, 15, 16, 17, 18, 19, 20, 21, 22, 23, 24, 0, 1, 2, 3, 4, 5, 6, 7, 8, 9, 10, 11, 12] (by decide) rfl ?_
  refine gz_pop C dL_law_591 rfl ?_
  refine gz_aload_n C 2 dL_law_592 rfl ?_
  refine gz_aload_n C 0 dL_law_593 rfl ?_
  refine gz_iload C 4 dL_law_594 rfl ?_
  refine gz_iconst (v := nI 1) C dL_law_596 (by decide) ?_
  refine gz_iadd (v := nI (i + 1)) C dL_law_597 (nI_add _ _) ?_
  refine gz_sld C hX (k := i + 1) (by omega) dL_law_598 ?_
  refine gz_aload_n C 0 dL_law_599 rfl ?_
  refine gz_iload C 4 dL_law_600 rfl ?_
  refine gz_iconst (v := nI 2) C dL_law_602 (by decide) ?_
  refine gz_iadd (v := nI (i + 2)) C dL_law_603 (nI_add _ _) ?_
  refine gz_sld C hX (k := i + 2) (by omega) dL_law_604 ?_
  refine gz_aload_n C 0 dL_law_605 rfl ?_
  refine gz_iload C 4 dL_law_606 rfl ?_
  refine gz_iconst (v := nI 3) C dL_law_608 (by decide) ?_
  refine gz_iadd (v := nI (i + 3)) C dL_law_609 (nI_add _ _) ?_
  refine gz_sld C hX (k := i + 3) (by omega) dL_law_610 ?_
  refine gz_callV (wr := ((wC xo nt es ro ad cI cJ cZ ln fz (f2_arc_sx sx sn ((xs (i + 1))) ((xs (i + 2))) ((xs (i + 3)))) mo sn (f2_arc_bw sn bw bdv ((xs (i + 1))) ((xs (i + 2))) ((xs (i + 3)))) tkv opv shv ldv wyv (f2_arc_bdv sn bdv ((xs (i + 1))) ((xs (i + 2))) ((xs (i + 3)))) ct dA dA sta stc fev dl dnv rov) ++ [(lo, .inl (cJ, 1, .inr (.inl lov)))])) (n := 3) (ws2 := (((wC xo nt es ro ad cI cJ cZ ln fz (f2_arc_sx sx sn ((xs (i + 1))) ((xs (i + 2))) ((xs (i + 3)))) mo sn (f2_arc_bw sn bw bdv ((xs (i + 1))) ((xs (i + 2))) ((xs (i + 3)))) tkv opv shv ldv wyv (f2_arc_bdv sn bdv ((xs (i + 1))) ((xs (i + 2))) ((xs (i + 3)))) ct dA dA sta stc fev dl dnv rov) ++ [(lo, .inl (cJ, 1, .inr (.inl lov)))]) ++ (wM h adM cI cJ cZ (f3_arc_thr snM ((xs (i + 1))) ((xs (i + 2))) ((xs (i + 3)))) snM tkvM opvM shvM ldvM lim wyvM (f3_arc_bdv snM bdvM ((xs (i + 1))) ((xs (i + 2))) ((xs (i + 3)))) isr rn rdv fzM icv (f3_arc_exa snM exa ((xs (i + 1))) ((xs (i + 2))) ((xs (i + 3)))) fr fevM eav rs rovM))) (st2 := [.int (f3_arc snM bdvM ((xs (i + 1))) ((xs (i + 2))) ((xs (i + 3))))]) (cells2 := cells) (slots2 := slots) (ci := 4) C (kX3_arc l D h adM cI cJ cZ thr snM tkvM opvM shvM ldvM lim wyvM bdvM isr rn rdv fzM icv exa fr fevM eav rs rovM ((xs (i + 1))) ((xs (i + 2))) ((xs (i + 3))) hm_hsn) (WB_V wk_555 wk_556 wk_557 wk_4 wk_558) (by decide +kernel) ⟨⟨rfl, rfl⟩, by decide, by decide⟩ [12, 13, 14, 15, 16, 17, 18, 19, 20, 21, 22, 23] [0, 1, 2, 3, 4, 5, 6, 7, 8, 9, 10, 11, 24] [0, 1, 2] rfl rfl rfl (by decide) rfl 12 rfl rfl rfl rfl (Nat.le_of_ble_eq_true rfl) dL_law_611 ⟨hce.1, hce.2⟩ rfl rfl rfl ?_
  refine gz_ws (ws2 := ((wC xo nt es ro ad cI cJ cZ ln fz (f2_arc_sx sx sn ((xs (i + 1))) ((xs (i + 2))) ((xs (i + 3)))) mo sn (f2_arc_bw sn bw bdv ((xs (i + 1))) ((xs (i + 2))) ((xs (i + 3)))) tkv opv shv ldv wyv (f2_arc_bdv sn bdv ((xs (i + 1))) ((xs (i + 2))) ((xs (i + 3)))) ct dA dA sta stc fev dl dnv rov) ++ ((wM h adM cI cJ cZ (f3_arc_thr snM ((xs (i + 1))) ((xs (i + 2))) ((xs (i + 3)))) snM tkvM opvM shvM ldvM lim wyvM (f3_arc_bdv snM bdvM ((xs (i + 1))) ((xs (i + 2))) ((xs (i + 3)))) isr rn rdv fzM icv (f3_arc_exa snM exa ((xs (i + 1))) ((xs (i + 2))) ((xs (i + 3)))) fr fevM eav rs rovM) ++ [(lo, .inl (cJ, 1, .inr (.inl lov)))]))) [0, 1, 2, 3, 4, 5, 6, 7, 8, 9, 10, 11, 13, 14, 15, 16, 17, 18, 19, 20, 21, 22, 23, 24, 12] (by decide) rfl ?_
  refine gz_pop C dL_law_614 rfl ?_
  refine gz_goto C 668 dL_law_615 (by decide) ?_
  exact kk

