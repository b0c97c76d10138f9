theorem law_end {p : Program} {l : Launch} {e : Env} {s : State} {m : MethodId} {below : List Frame} {meth : Method} {c : Code} {cells slots : Nat} {D : va_G} (xo : Nat) (nt : Nat) (es : Nat) (ro : Nat) (ad : Nat → Nat) (cI : ClassId) (cJ : ClassId) (cZ : ClassId) (h : Nat) (adM : Nat → Nat) (lo : Nat) (ln : Int32) (fz : Nat) (sx : Bool) (mo : Int32) (sn : Nat) (bw : Int32) (tkv : Nat → Int64) (opv : Nat → Int64) (shv : Nat → Int64) (ldv : Nat → Int32) (wyv : Nat → Int64) (bdv : Nat → Bool) (ct : Nat) (dA : Nat) (sta : Nat) (stc : Int64) (fev : Nat → Nat) (dl : Nat) (dnv : Nat → Int64) (rov : Nat → Nat) (thr : Int32) (snM : Nat) (tkvM : Nat → Int64) (opvM : Nat → Int64) (shvM : Nat → Int64) (ldvM : Nat → Int32) (lim : Int32) (wyvM : Nat → Int64) (bdvM : Nat → Bool) (isr : Bool) (rn : Nat) (rdv : Nat → Nat) (fzM : Nat) (icv : Nat → Nat) (exa : Bool) (fr : Nat) (fevM : Nat → Nat) (eav : Nat → Int64) (rs : Nat) (rovM : Nat → Nat) (lov : Nat → Int64) {b : Nat} {i : Nat} (C : gz_C p s m #[Value.ref b] c cL_law 7 RL D [(cI, .int), (cJ, .long), (cZ, .boolean)] (fun q : Nat => s.heap.size ≤ q)) (hr : meth.sig.returnType = ret) (hlk : meth.locks = false) (hce : cells ≤ 601024 ∧ slots ≤ 7293034) : GZ p l e room_1 s m #[Value.ref b] below meth c 7 D (fun q : Nat => s.heap.size ≤ q) cells slots (lw_Z below #[Value.ref b] s) ((wC xo nt es ro ad cI cJ cZ ln fz sx mo sn bw tkv opv shv ldv wyv bdv ct dA dA sta stc fev dl dnv rov) ++ ((wM h adM cI cJ cZ thr snM tkvM opvM shvM ldvM lim wyvM bdvM isr rn rdv fzM icv exa fr fevM eav rs rovM) ++ [(lo, .inl (cJ, 1, .inr (.inl lov)))])) [(0, .ref b), (1, .ref xo), (2, .ref h), (3, .ref lo), (4, .int (nI i))] [] 674 := by
  intro H locs ls hP hD hS hl
  refine lv_iconst (v := 1) C.1 C.2.1 dL_law_674 (by decide) ?_
  refine va_forget (fun q hq => hS.2.2 q hq) ?_
  refine W.widen (k := 601024) (n := 7293034) hce.1 hce.2 ?_
  exact lw_ret C.1 C.2.1 hr hlk dL_law_675

set_option maxRecDepth 100000 in
set_option maxHeartbeats 4000000 in
theorem law_loop {p : Program} {l : Launch} {e : Env} {s : State} {m : MethodId} {below : List Frame} {meth : Method} {c : Code} {D : va_G} {b L : Nat} {xs : Nat → Int32} (xo : Nat) (nt : Nat) (es : Nat) (ro : Nat) (ad : Nat → Nat) (cI : ClassId) (cJ : ClassId) (cZ : ClassId) (h : Nat) (adM : Nat → Nat) (lo : Nat) (hfl : l.flags = flags0) (hZ : ZT s) (C : gz_C p s m #[Value.ref b] c cL_law 7 RL D [(cI, .int), (cJ, .long), (cZ, .boolean)] (fun q : Nat => s.heap.size ≤ q)) (hX : lwX b L xs s (fun q : Nat => s.heap.size ≤ q)) (hr : meth.sig.returnType = ret) (hlk : meth.locks = false) : ∀ (n i : Nat) (ln : Int32) (fz : Nat) (sx : Bool) (mo : Int32) (sn : Nat) (bw : Int32) (tkv : Nat → Int64) (opv : Nat → Int64) (shv : Nat → Int64) (ldv : Nat → Int32) (wyv : Nat → Int64) (bdv : Nat → Bool) (ct : Nat) (dA : Nat) (sta : Nat) (stc : Int64) (fev : Nat → Nat) (dl : Nat) (dnv : Nat → Int64) (rov : Nat → Nat) (thr : Int32) (snM : Nat) (tkvM : Nat → Int64) (opvM : Nat → Int64) (shvM : Nat → Int64) (ldvM : Nat → Int32) (lim : Int32) (wyvM : Nat → Int64) (bdvM : Nat → Bool) (isr : Bool) (rn : Nat) (rdv : Nat → Nat) (fzM : Nat) (icv : Nat → Nat) (exa : Bool) (fr : Nat) (fevM : Nat → Nat) (eav : Nat → Int64) (rs : Nat) (rovM : Nat → Nat) (lov : Nat → Int64) (cells slots : Nat), L < i + 7 * n + 7 → i ≤ L → Rel ln fz mo sn bw tkv opv shv ldv wyv bdv dl rov snM tkvM opvM shvM ldvM lim wyvM bdvM isr rn rdv fzM icv → cells + n ≤ 1000 → slots + 6 * n ≤ 40000 + 2 * dl → GZ p l e room_1 s m #[Value.ref b] below meth c 7 D (fun q : Nat => s.heap.size ≤ q) cells slots (lw_Z below #[Value.ref b] s) ((wC xo nt es ro ad cI cJ cZ ln fz sx mo sn bw tkv opv shv ldv wyv bdv ct dA dA sta stc fev dl dnv rov) ++ ((wM h adM cI cJ cZ thr snM tkvM opvM shvM ldvM lim wyvM bdvM isr rn rdv fzM icv exa fr fevM eav rs rovM) ++ [(lo, .inl (cJ, 1, .inr (.inl lov)))])) [(0, .ref b), (1, .ref xo), (2, .ref h), (3, .ref lo), (4, .int (nI i))] [] 23 := by
  have hL8 := hX.2.2.2
  intro n
  induction n with
  | zero =>
    intro i ln fz sx mo sn bw tkv opv shv ldv wyv bdv ct dA sta stc fev dl dnv rov thr snM tkvM opvM shvM ldvM lim wyvM bdvM isr rn rdv fzM icv exa fr fevM eav rs rovM lov cells slots hn hiL hR hcb hsb
    have hF := rel_facts hR
    obtain ⟨F1, F2, F3, F4, F5, F6, F7, F8, F9, F10, F11, F12, F13, F14, F15⟩ := hF
    refine gz_iload C 4 dL_law_23 rfl ?_
    refine gz_aload_n C 0 dL_law_25 rfl ?_
    refine gz_slen C hX dL_law_26 ?_
    refine gz_bipush (v := nI 7) C dL_law_27 (by decide) ?_
    refine gz_isub (v := nI L - nI 7) C dL_law_29 rfl ?_
    refine gz_icmp_gt C 674 dL_law_30 (by decide) (fun h1 => law_end xo nt es ro ad cI cJ cZ h adM lo ln fz sx mo sn bw tkv opv shv ldv wyv bdv ct dA sta stc fev dl dnv rov thr snM tkvM opvM shvM ldvM lim wyvM bdvM isr rn rdv fzM icv exa fr fevM eav rs rovM lov C hr hlk ⟨by omega, by omega⟩) (fun h1 => ?_)
    have hi : ¬ L < i + 7 := fun z => h1 ((lw_cmp (by omega) hL8).mpr z)
    omega
  | succ n ih =>
    intro i ln fz sx mo sn bw tkv opv shv ldv wyv bdv ct dA sta stc fev dl dnv rov thr snM tkvM opvM shvM ldvM lim wyvM bdvM isr rn rdv fzM icv exa fr fevM eav rs rovM lov cells slots hn hiL hR hcb hsb
    have hF := rel_facts hR
    obtain ⟨F1, F2, F3, F4, F5, F6, F7, F8, F9, F10, F11, F12, F13, F14, F15⟩ := hF
    refine gz_iload C 4 dL_law_23 rfl ?_
    refine gz_aload_n C 0 dL_law_25 rfl ?_
    refine gz_slen C hX dL_law_26 ?_
    refine gz_bipush (v := nI 7) C dL_law_27 (by decide) ?_
    refine gz_isub (v := nI L - nI 7) C dL_law_29 rfl ?_
    refine gz_icmp_gt C 674 dL_law_30 (by decide) (fun h1 => law_end xo nt es ro ad cI cJ cZ h adM lo ln fz sx mo sn bw tkv opv shv ldv wyv bdv ct dA sta stc fev dl dnv rov thr snM tkvM opvM shvM ldvM lim wyvM bdvM isr rn rdv fzM icv exa fr fevM eav rs rovM lov C hr hlk ⟨by omega, by omega⟩) (fun h1 => ?_)
    have hi : ¬ L < i + 7 := fun z => h1 ((lw_cmp (by omega) hL8).mpr z)
    have tail : ∀ {ln : Int32} {fz : Nat} {sx : Bool} {mo : Int32} {sn : Nat} {bw : Int32} {tkv : Nat → Int64} {opv : Nat → Int64} {shv : Nat → Int64} {ldv : Nat → Int32} {wyv : Nat → Int64} {bdv : Nat → Bool} {ct : Nat} {dA : Nat} {sta : Nat} {stc : Int64} {fev : Nat → Nat} {dl : Nat} {dnv : Nat → Int64} {rov : Nat → Nat} {thr : Int32} {snM : Nat} {tkvM : Nat → Int64} {opvM : Nat → Int64} {shvM : Nat → Int64} {ldvM : Nat → Int32} {lim : Int32} {wyvM : Nat → Int64} {bdvM : Nat → Bool} {isr : Bool} {rn : Nat} {rdv : Nat → Nat} {fzM : Nat} {icv : Nat → Nat} {exa : Bool} {fr : Nat} {fevM : Nat → Nat} {eav : Nat → Int64} {rs : Nat} {rovM : Nat → Nat} {lov : Nat → Int64} {cells slots : Nat}, Rel ln fz mo sn bw tkv opv shv ldv wyv bdv dl rov snM tkvM opvM shvM ldvM lim wyvM bdvM isr rn rdv fzM icv → cells + n ≤ 1000 → slots + 6 * n ≤ 40000 + 2 * dl → GZ p l e room_1 s m #[Value.ref b] below meth c 7 D (fun q : Nat => s.heap.size ≤ q) cells slots (lw_Z below #[Value.ref b] s) ((wC xo nt es ro ad cI cJ cZ ln fz sx mo sn bw tkv opv shv ldv wyv bdv ct dA dA sta stc fev dl dnv rov) ++ ((wM h adM cI cJ cZ thr snM tkvM opvM shvM ldvM lim wyvM bdvM isr rn rdv fzM icv exa fr fevM eav rs rovM) ++ [(lo, .inl (cJ, 1, .inr (.inl lov)))])) [(0, .ref b), (1, .ref xo), (2, .ref h), (3, .ref lo), (4, .int (nI i))] [] 668 := by
      intro ln fz sx mo sn bw tkv opv shv ldv wyv bdv ct dA sta stc fev dl dnv rov thr snM tkvM opvM shvM ldvM lim wyvM bdvM isr rn rdv fzM icv exa fr fevM eav rs rovM lov cells slots hR hcb hsb
      refine gz_iinc (v := nI (i + 7)) (lv2 := [(4, .int (nI (i + 7))), (0, .ref b), (1, .ref xo), (2, .ref h), (3, .ref lo)]) (k := 4) C dL_law_668 rfl (nI_add _ 7) (by decide) rfl ?_
      refine gz_goto C 23 dL_law_671 (by decide) ?_
      refine gz_lv [1, 2, 3, 4, 0] rfl ?_
      exact ih (i + 7) ln fz sx mo sn bw tkv opv shv ldv wyv bdv ct dA sta stc fev dl dnv rov thr snM tkvM opvM shvM ldvM lim wyvM bdvM isr rn rdv fzM icv exa fr fevM eav rs rovM lov cells slots (by omega) (by omega) hR hcb hsb
    refine gz_aload_n C 0 dL_law_33 rfl ?_
    refine gz_iload C 4 dL_law_34 rfl ?_
    refine gz_sld C hX (k := i) (by omega) dL_law_36 ?_
    refine gz_bipush (v := nI 15) C dL_law_37 (by decide) ?_
    obtain ⟨k, hk, ek⟩ := lw_and15 (xs i)
    refine gz_iand (v := nI k) C dL_law_39 ek ?_
    have hk16 : k = 0 ∨ k = 1 ∨ k = 2 ∨ k = 3 ∨ k = 4 ∨ k = 5 ∨ k = 6 ∨ k = 7 ∨ k = 8 ∨ k = 9 ∨ k = 10 ∨ k = 11 ∨ k = 12 ∨ k = 13 ∨ k = 14 ∨ k = 15 := by omega
    rcases hk16 with rfl | rfl | rfl | rfl | rfl | rfl | rfl | rfl | rfl | rfl | rfl | rfl | rfl | rfl | rfl | rfl
    · refine gz_tabIn C 108 dL_law_40 (by decide) (by decide) (off := 68) (by decide) (by decide) ?_
      exact law_c0 xo nt es ro ad cI cJ cZ h adM lo ln fz sx mo sn bw tkv opv shv ldv wyv bdv ct dA sta stc fev dl dnv rov thr snM tkvM opvM shvM ldvM lim wyvM bdvM isr rn rdv fzM icv exa fr fevM eav rs rovM lov C hX (by omega) ⟨by omega, by omega⟩ F1 F2 (re_stop _ _ _ hR) (tail (rl_stop _ _ _ hR) (by omega) (by omega))
    · refine gz_tabIn C 255 dL_law_40 (by decide) (by decide) (off := 215) (by decide) (by decide) ?_
      exact law_c1 xo nt es ro ad cI cJ cZ h adM lo ln fz sx mo sn bw tkv opv shv ldv wyv bdv ct dA sta stc fev dl dnv rov thr snM tkvM opvM shvM ldvM lim wyvM bdvM isr rn rdv fzM icv exa fr fevM eav rs rovM lov C hX (by omega) ⟨by omega, by omega⟩ F1 F2  (tail (rl_way _ _ _ hR) (by omega) (by omega))
    · refine gz_tabIn C 334 dL_law_40 (by decide) (by decide) (off := 294) (by decide) (by decide) ?_
      exact law_c2 xo nt es ro ad cI cJ cZ h adM lo ln fz sx mo sn bw tkv opv shv ldv wyv bdv ct dA sta stc fev dl dnv rov thr snM tkvM opvM shvM ldvM lim wyvM bdvM isr rn rdv fzM icv exa fr fevM eav rs rovM lov C hX (by omega) ⟨by omega, by omega⟩ F1 F2  (tail (rl_load _ _ hR) (by omega) (by omega))
    · refine gz_tabIn C 371 dL_law_40 (by decide) (by decide) (off := 331) (by decide) (by decide) ?_
      exact law_c3 xo nt es ro ad cI cJ cZ h adM lo ln fz sx mo sn bw tkv opv shv ldv wyv bdv ct dA sta stc fev dl dnv rov thr snM tkvM opvM shvM ldvM lim wyvM bdvM isr rn rdv fzM icv exa fr fevM eav rs rovM lov C hX (by omega) ⟨by omega, by omega⟩   (tail (rl_limit _ hR) (by omega) (by omega))
    · refine gz_tabIn C 396 dL_law_40 (by decide) (by decide) (off := 356) (by decide) (by decide) ?_
      exact law_c4 xo nt es ro ad cI cJ cZ h adM lo ln fz sx mo sn bw tkv opv shv ldv wyv bdv ct dA sta stc fev dl dnv rov thr snM tkvM opvM shvM ldvM lim wyvM bdvM isr rn rdv fzM icv exa fr fevM eav rs rovM lov C hX (by omega) ⟨by omega, by omega⟩ (rl_mc hR hcb hsb) F1 F3 F7 F9 F2 F4 F8  (fun dA' => tail (rl_solve _ hR) (rl_mc1 hR hcb) (rl_ms hR hsb))
    · refine gz_tabIn C 453 dL_law_40 (by decide) (by decide) (off := 413) (by decide) (by decide) ?_
      exact law_c5 xo nt es ro ad cI cJ cZ h adM lo ln fz sx mo sn bw tkv opv shv ldv wyv bdv ct dA sta stc fev dl dnv rov thr snM tkvM opvM shvM ldvM lim wyvM bdvM isr rn rdv fzM icv exa fr fevM eav rs rovM lov C hX (by omega) ⟨by omega, by omega⟩ ⟨by omega, by omega⟩ hfl hZ F10 F11 F13  (tail hR (by omega) (by omega))
    · refine gz_tabIn C 481 dL_law_40 (by decide) (by decide) (off := 441) (by decide) (by decide) ?_
      exact law_c6 xo nt es ro ad cI cJ cZ h adM lo ln fz sx mo sn bw tkv opv shv ldv wyv bdv ct dA sta stc fev dl dnv rov thr snM tkvM opvM shvM ldvM lim wyvM bdvM isr rn rdv fzM icv exa fr fevM eav rs rovM lov C hX (by omega) ⟨by omega, by omega⟩   (tail hR (by omega) (by omega))
    · refine gz_tabIn C 494 dL_law_40 (by decide) (by decide) (off := 454) (by decide) (by decide) ?_
      exact law_c7 xo nt es ro ad cI cJ cZ h adM lo ln fz sx mo sn bw tkv opv shv ldv wyv bdv ct dA sta stc fev dl dnv rov thr snM tkvM opvM shvM ldvM lim wyvM bdvM isr rn rdv fzM icv exa fr fevM eav rs rovM lov C hX (by omega) ⟨by omega, by omega⟩ F10 F11 F12 F13 F14  (tail hR (by omega) (by omega))
    · refine gz_tabIn C 519 dL_law_40 (by decide) (by decide) (off := 479) (by decide) (by decide) ?_
      exact law_c8 xo nt es ro ad cI cJ cZ h adM lo ln fz sx mo sn bw tkv opv shv ldv wyv bdv ct dA sta stc fev dl dnv rov thr snM tkvM opvM shvM ldvM lim wyvM bdvM isr rn rdv fzM icv exa fr fevM eav rs rovM lov C hX (by omega) ⟨by omega, by omega⟩ F10 F11 F13  (tail (rl_freeze _ hR) (by omega) (by omega))
    · refine gz_tabIn C 544 dL_law_40 (by decide) (by decide) (off := 504) (by decide) (by decide) ?_
      exact law_c9 xo nt es ro ad cI cJ cZ h adM lo ln fz sx mo sn bw tkv opv shv ldv wyv bdv ct dA sta stc fev dl dnv rov thr snM tkvM opvM shvM ldvM lim wyvM bdvM isr rn rdv fzM icv exa fr fevM eav rs rovM lov C hX (by omega) ⟨by omega, by omega⟩ F1 F10 F11 F12 F5 F2 F13 F14 F15 F6  (tail (rl_add _ hR) (by omega) (by omega))
    · refine gz_tabIn C 569 dL_law_40 (by decide) (by decide) (off := 529) (by decide) (by decide) ?_
      exact law_c10 xo nt es ro ad cI cJ cZ h adM lo ln fz sx mo sn bw tkv opv shv ldv wyv bdv ct dA sta stc fev dl dnv rov thr snM tkvM opvM shvM ldvM lim wyvM bdvM isr rn rdv fzM icv exa fr fevM eav rs rovM lov C hX (by omega) ⟨by omega, by omega⟩ F1 F2  (tail (rl_arc _ _ _ hR) (by omega) (by omega))
    · refine gz_tabIn C 618 dL_law_40 (by decide) (by decide) (off := 578) (by decide) (by decide) ?_
      exact law_c11 xo nt es ro ad cI cJ cZ h adM lo ln fz sx mo sn bw tkv opv shv ldv wyv bdv ct dA sta stc fev dl dnv rov thr snM tkvM opvM shvM ldvM lim wyvM bdvM isr rn rdv fzM icv exa fr fevM eav rs rovM lov C hX (by omega) ⟨by omega, by omega⟩ F10 F11 F12 F5 F13 F14 F6  (tail (rl_exchange _ _ hR) (by omega) (by omega))
    · refine gz_tabIn C 655 dL_law_40 (by decide) (by decide) (off := 615) (by decide) (by decide) ?_
      exact law_c12 xo nt es ro ad cI cJ cZ h adM lo ln fz sx mo sn bw tkv opv shv ldv wyv bdv ct dA sta stc fev dl dnv rov thr snM tkvM opvM shvM ldvM lim wyvM bdvM isr rn rdv fzM icv exa fr fevM eav rs rovM lov C hX (by omega) ⟨by omega, by omega⟩ F1 F2  (tail hR (by omega) (by omega))
    · refine gz_tabOut C 668 dL_law_40 (by decide) (by decide) ?_
      exact tail hR (by omega) (by omega)
    · refine gz_tabOut C 668 dL_law_40 (by decide) (by decide) ?_
      exact tail hR (by omega) (by omega)
    · refine gz_tabOut C 668 dL_law_40 (by decide) (by decide) ?_
      exact tail hR (by omega) (by omega)

