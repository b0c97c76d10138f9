theorem law_end {p : Program} {l : Launch} {e : Env} {s : State} {m : MethodId} {below : List Frame} {meth : Method} {c : Code} {cells slots : Nat} {D : va_G} (xo : Nat) (nt : Nat) (es : Nat) (ro : Nat) (ad : Nat → Nat) (cI : ClassId) (cJ : ClassId) (cZ : ClassId) (h : Nat) (adM : Nat → Nat) (lo : Nat) (ln : Int32) (fz : Nat) (sx : Bool) (mo : Int32) (sn : Nat) (bw : Int32) (tkv : Nat → Int64) (opv : Nat → Int64) (shv : Nat → Int64) (ldv : Nat → Int32) (wyv : Nat → Int64) (bdv : Nat → Bool) (ct : Nat) (dA : Nat) (sta : Nat) (stc : Int64) (fev : Nat → Nat) (dl : Nat) (dnv : Nat → Int64) (rov : Nat → Nat) (thr : Int32) (snM : Nat) (tkvM : Nat → Int64) (opvM : Nat → Int64) (shvM : Nat → Int64) (ldvM : Nat → Int32) (lim : Int32) (wyvM : Nat → Int64) (bdvM : Nat → Bool) (isr : Bool) (rn : Nat) (rdv : Nat → Nat) (fzM : Nat) (icv : Nat → Nat) (exa : Bool) (fr : Nat) (fevM : Nat → Nat) (eav : Nat → Int64) (rs : Nat) (rovM : Nat → Nat) (lov : Nat → Int64) {b : Nat} {i : Nat} (C : gz_C p s m #[Value.ref b] c cL_law 7 RL D [(cI, .int), (cJ, .long), (cZ, .boolean)] (fun q : Nat => s.heap.size ≤ q)) (hr : meth.sig.returnType = ret) (hlk : meth.locks = false) (hce : cells ≤ 600002 ∧ slots ≤ 7302232) : GZ p l e room_1 s m #[Value.ref b] below meth c 7 D (fun q : Nat => s.heap.size ≤ q) cells slots (lw_Z below #[Value.ref b] s) ((wC xo nt es ro ad cI cJ cZ ln fz sx mo sn bw tkv opv shv ldv wyv bdv ct dA dA sta stc fev dl dnv rov) ++ ((wM h adM cI cJ cZ thr snM tkvM opvM shvM ldvM lim wyvM bdvM isr rn rdv fzM icv exa fr fevM eav rs rovM) ++ [(lo, .inl (cJ, 1, .inr (.inl lov)))])) [(0, .ref b), (1, .ref xo), (2, .ref h), (3, .ref lo), (4, .int (nI i))] [] 704 := by
  intro H locs ls hP hD hS hl
  refine lv_iconst (v := 1) C.1 C.2.1 dL_law_704 (by decide) ?_
  refine va_forget (fun q hq => hS.2.2 q hq) ?_
  refine W.widen (k := 600002) (n := 7302232) hce.1 hce.2 ?_
  exact lw_ret C.1 C.2.1 hr hlk dL_law_705

set_option maxRecDepth 100000 in
set_option maxHeartbeats 4000000 in
theorem law_loop {p : Program} {l : Launch} {e : Env} {s : State} {m : MethodId} {below : List Frame} {meth : Method} {c : Code} {D : va_G} {b L : Nat} {xs : Nat → Int32} (xo : Nat) (nt : Nat) (es : Nat) (ro : Nat) (ad : Nat → Nat) (cI : ClassId) (cJ : ClassId) (cZ : ClassId) (h : Nat) (adM : Nat → Nat) (lo : Nat) (hfl : l.flags = flags0) (hZ : ZT s) (C : gz_C p s m #[Value.ref b] c cL_law 7 RL D [(cI, .int), (cJ, .long), (cZ, .boolean)] (fun q : Nat => s.heap.size ≤ q)) (hX : lwX b L xs s (fun q : Nat => s.heap.size ≤ q)) (hr : meth.sig.returnType = ret) (hlk : meth.locks = false) (hL7 : L ≤ 7) : ∀ (n i : Nat) (ln : Int32) (fz : Nat) (sx : Bool) (mo : Int32) (sn : Nat) (bw : Int32) (tkv : Nat → Int64) (opv : Nat → Int64) (shv : Nat → Int64) (ldv : Nat → Int32) (wyv : Nat → Int64) (bdv : Nat → Bool) (ct : Nat) (dA : Nat) (sta : Nat) (stc : Int64) (fev : Nat → Nat) (dl : Nat) (dnv : Nat → Int64) (rov : Nat → Nat) (thr : Int32) (snM : Nat) (tkvM : Nat → Int64) (opvM : Nat → Int64) (shvM : Nat → Int64) (ldvM : Nat → Int32) (lim : Int32) (wyvM : Nat → Int64) (bdvM : Nat → Bool) (isr : Bool) (rn : Nat) (rdv : Nat → Nat) (fzM : Nat) (icv : Nat → Nat) (exa : Bool) (fr : Nat) (fevM : Nat → Nat) (eav : Nat → Int64) (rs : Nat) (rovM : Nat → Nat) (lov : Nat → Int64) (cells slots : Nat), L < i + 7 * n + 7 → i ≤ L → (i = 0 → sx = exa) → Rel ln fz mo sn bw tkv opv shv ldv wyv bdv dl rov snM tkvM opvM shvM ldvM lim wyvM bdvM isr rn rdv fzM icv → cells + n ≤ 1000 → slots + 6 * n ≤ 40000 + 2 * dl → GZ p l e room_1 s m #[Value.ref b] below meth c 7 D (fun q : Nat => s.heap.size ≤ q) cells slots (lw_Z below #[Value.ref b] s) ((wC xo nt es ro ad cI cJ cZ ln fz sx mo sn bw tkv opv shv ldv wyv bdv ct dA dA sta stc fev dl dnv rov) ++ ((wM h adM cI cJ cZ thr snM tkvM opvM shvM ldvM lim wyvM bdvM isr rn rdv fzM icv exa fr fevM eav rs rovM) ++ [(lo, .inl (cJ, 1, .inr (.inl lov)))])) [(0, .ref b), (1, .ref xo), (2, .ref h), (3, .ref lo), (4, .int (nI i))] [] 23 := by
  have hL8 := hX.2.2.2
  intro n
  induction n with
  | zero =>
    intro i ln fz sx mo sn bw tkv opv shv ldv wyv bdv ct dA sta stc fev dl dnv rov thr snM tkvM opvM shvM ldvM lim wyvM bdvM isr rn rdv fzM icv exa fr fevM eav rs rovM lov cells slots hn hiL hE hR hcb hsb
    have hF := rel_facts hR
    obtain ⟨F1, F2, F3, F4, F5, F6, F7, F8, F9, F10, F11, F12, F13, F14, F15⟩ := hF
    refine gz_iload C 4 dL_law_23 rfl ?_
    refine gz_aload_n C 0 dL_law_25 rfl ?_
    refine gz_slen C hX dL_law_26 ?_
    refine gz_bipush (v := nI 7) C dL_law_27 (by decide) ?_
    refine gz_isub (v := nI L - nI 7) C dL_law_29 rfl ?_
    refine gz_icmp_gt C 704 dL_law_30 (by decide) (fun h1 => law_end xo nt es ro ad cI cJ cZ h adM lo ln fz sx mo sn bw tkv opv shv ldv wyv bdv ct dA sta stc fev dl dnv rov thr snM tkvM opvM shvM ldvM lim wyvM bdvM isr rn rdv fzM icv exa fr fevM eav rs rovM lov C hr hlk ⟨by omega, by omega⟩) (fun h1 => ?_)
    have hi : ¬ L < i + 7 := fun z => h1 ((lw_cmp (by omega) hL8).mpr z)
    omega
  | succ n ih =>
    intro i ln fz sx mo sn bw tkv opv shv ldv wyv bdv ct dA sta stc fev dl dnv rov thr snM tkvM opvM shvM ldvM lim wyvM bdvM isr rn rdv fzM icv exa fr fevM eav rs rovM lov cells slots hn hiL hE hR hcb hsb
    have hF := rel_facts hR
    obtain ⟨F1, F2, F3, F4, F5, F6, F7, F8, F9, F10, F11, F12, F13, F14, F15⟩ := hF
    refine gz_iload C 4 dL_law_23 rfl ?_
    refine gz_aload_n C 0 dL_law_25 rfl ?_
    refine gz_slen C hX dL_law_26 ?_
    refine gz_bipush (v := nI 7) C dL_law_27 (by decide) ?_
    refine gz_isub (v := nI L - nI 7) C dL_law_29 rfl ?_
    refine gz_icmp_gt C 704 dL_law_30 (by decide) (fun h1 => law_end xo nt es ro ad cI cJ cZ h adM lo ln fz sx mo sn bw tkv opv shv ldv wyv bdv ct dA sta stc fev dl dnv rov thr snM tkvM opvM shvM ldvM lim wyvM bdvM isr rn rdv fzM icv exa fr fevM eav rs rovM lov C hr hlk ⟨by omega, by omega⟩) (fun h1 => ?_)
    have hi : ¬ L < i + 7 := fun z => h1 ((lw_cmp (by omega) hL8).mpr z)
    have tail : ∀ {ln : Int32} {fz : Nat} {sx : Bool} {mo : Int32} {sn : Nat} {bw : Int32} {tkv : Nat → Int64} {opv : Nat → Int64} {shv : Nat → Int64} {ldv : Nat → Int32} {wyv : Nat → Int64} {bdv : Nat → Bool} {ct : Nat} {dA : Nat} {sta : Nat} {stc : Int64} {fev : Nat → Nat} {dl : Nat} {dnv : Nat → Int64} {rov : Nat → Nat} {thr : Int32} {snM : Nat} {tkvM : Nat → Int64} {opvM : Nat → Int64} {shvM : Nat → Int64} {ldvM : Nat → Int32} {lim : Int32} {wyvM : Nat → Int64} {bdvM : Nat → Bool} {isr : Bool} {rn : Nat} {rdv : Nat → Nat} {fzM : Nat} {icv : Nat → Nat} {exa : Bool} {fr : Nat} {fevM : Nat → Nat} {eav : Nat → Int64} {rs : Nat} {rovM : Nat → Nat} {lov : Nat → Int64} {cells slots : Nat}, Rel ln fz mo sn bw tkv opv shv ldv wyv bdv dl rov snM tkvM opvM shvM ldvM lim wyvM bdvM isr rn rdv fzM icv → cells + n ≤ 1000 → slots + 6 * n ≤ 40000 + 2 * dl → GZ p l e room_1 s m #[Value.ref b] below meth c 7 D (fun q : Nat => s.heap.size ≤ q) cells slots (lw_Z below #[Value.ref b] s) ((wC xo nt es ro ad cI cJ cZ ln fz sx mo sn bw tkv opv shv ldv wyv bdv ct dA dA sta stc fev dl dnv rov) ++ ((wM h adM cI cJ cZ thr snM tkvM opvM shvM ldvM lim wyvM bdvM isr rn rdv fzM icv exa fr fevM eav rs rovM) ++ [(lo, .inl (cJ, 1, .inr (.inl lov)))])) [(0, .ref b), (1, .ref xo), (2, .ref h), (3, .ref lo), (4, .int (nI i))] [] 698 := by
      intro ln fz sx mo sn bw tkv opv shv ldv wyv bdv ct dA sta stc fev dl dnv rov thr snM tkvM opvM shvM ldvM lim wyvM bdvM isr rn rdv fzM icv exa fr fevM eav rs rovM lov cells slots hR hcb hsb
      refine gz_iinc (v := nI (i + 7)) (lv2 := [(4, .int (nI (i + 7))), (0, .ref b), (1, .ref xo), (2, .ref h), (3, .ref lo)]) (k := 4) C dL_law_698 rfl (nI_add _ 7) (by decide) rfl ?_
      refine gz_goto C 23 dL_law_701 (by decide) ?_
      refine gz_lv [1, 2, 3, 4, 0] rfl ?_
      exact ih (i + 7) ln fz sx mo sn bw tkv opv shv ldv wyv bdv ct dA sta stc fev dl dnv rov thr snM tkvM opvM shvM ldvM lim wyvM bdvM isr rn rdv fzM icv exa fr fevM eav rs rovM lov cells slots (by omega) (by omega) (fun z => absurd z (by omega)) hR hcb hsb
    refine gz_aload_n C 0 dL_law_33 rfl ?_
    refine gz_iload C 4 dL_law_34 rfl ?_
    refine gz_sld C hX (k := i) (by omega) dL_law_36 ?_
    refine gz_bipush (v := nI 15) C dL_law_37 (by decide) ?_
    obtain ⟨k, hk, ek⟩ := lw_and15 (xs i)
    refine gz_iand (v := nI k) C dL_law_39 ek ?_
    have hk16 : k = 0 ∨ k = 1 ∨ k = 2 ∨ k = 3 ∨ k = 4 ∨ k = 5 ∨ k = 6 ∨ k = 7 ∨ k = 8 ∨ k = 9 ∨ k = 10 ∨ k = 11 ∨ k = 12 ∨ k = 13 ∨ k = 14 ∨ k = 15 := by omega
    rcases hk16 with rfl | rfl | rfl | rfl | rfl | rfl | rfl | rfl | rfl | rfl | rfl | rfl | rfl | rfl | rfl | rfl
    · refine gz_tabIn C 108 dL_law_40 (by decide) (by decide) (off := 68) (by decide) (by decide) ?_
      exact law_c0 xo nt es ro ad cI cJ cZ h adM lo ln fz sx mo sn bw tkv opv shv ldv wyv bdv ct dA sta stc fev dl dnv rov thr snM tkvM opvM shvM ldvM lim wyvM bdvM isr rn rdv fzM icv exa fr fevM eav rs rovM lov C hX (by omega) ⟨by omega, by omega⟩ F1 F2 (re_stop _ _ _ hR) (tail (rl_stop _ _ _ hR) (by omega) (by omega))
    · refine gz_tabIn C 255 dL_law_40 (by decide) (by decide) (off := 215) (by decide) (by decide) ?_
      exact law_c1 xo nt es ro ad cI cJ cZ h adM lo ln fz sx mo sn bw tkv opv shv ldv wyv bdv ct dA sta stc fev dl dnv rov thr snM tkvM opvM shvM ldvM lim wyvM bdvM isr rn rdv fzM icv exa fr fevM eav rs rovM lov C hX (by omega) ⟨by omega, by omega⟩ F1 F2  (tail (rl_way _ _ _ hR) (by omega) (by omega))
    · refine gz_tabIn C 334 dL_law_40 (by decide) (by decide) (off := 294) (by decide) (by decide) ?_
      exact law_c2 xo nt es ro ad cI cJ cZ h adM lo ln fz sx mo sn bw tkv opv shv ldv wyv bdv ct dA sta stc fev dl dnv rov thr snM tkvM opvM shvM ldvM lim wyvM bdvM isr rn rdv fzM icv exa fr fevM eav rs rovM lov C hX (by omega) ⟨by omega, by omega⟩ F1 F2 (re_load _ _ hR) (tail (rl_load _ _ hR) (by omega) (by omega))
    · refine gz_tabIn C 371 dL_law_40 (by decide) (by decide) (off := 331) (by decide) (by decide) ?_
      exact law_c3 xo nt es ro ad cI cJ cZ h adM lo ln fz sx mo sn bw tkv opv shv ldv wyv bdv ct dA sta stc fev dl dnv rov thr snM tkvM opvM shvM ldvM lim wyvM bdvM isr rn rdv fzM icv exa fr fevM eav rs rovM lov C hX (by omega) ⟨by omega, by omega⟩  (re_limit _) (tail (rl_limit _ hR) (by omega) (by omega))
    · refine gz_tabIn C 396 dL_law_40 (by decide) (by decide) (off := 356) (by decide) (by decide) ?_
      exact law_c4 xo nt es ro ad cI cJ cZ h adM lo ln fz sx mo sn bw tkv opv shv ldv wyv bdv ct dA sta stc fev dl dnv rov thr snM tkvM opvM shvM ldvM lim wyvM bdvM isr rn rdv fzM icv exa fr fevM eav rs rovM lov C hX (by omega) ⟨by omega, by omega⟩ (rl_mc hR hcb hsb) F1 F3 F7 F9 F2 F4 F8 (re_solve _ hR) (fun dA' => tail (rl_solve _ hR) (rl_mc1 hR hcb) (rl_ms hR hsb))
    · refine gz_tabIn C 454 dL_law_40 (by decide) (by decide) (off := 414) (by decide) (by decide) ?_
      exact law_c5 xo nt es ro ad cI cJ cZ h adM lo ln fz sx mo sn bw tkv opv shv ldv wyv bdv ct dA sta stc fev dl dnv rov thr snM tkvM opvM shvM ldvM lim wyvM bdvM isr rn rdv fzM icv exa fr fevM eav rs rovM lov C hX (by omega) ⟨by omega, by omega⟩ ⟨by omega, by omega⟩ hfl hZ F10 F11 F13 (re_at1 _ hR) (re_at2 _ hR) (tail hR (by omega) (by omega))
    · refine gz_tabIn C 510 dL_law_40 (by decide) (by decide) (off := 470) (by decide) (by decide) ?_
      exact law_c6 xo nt es ro ad cI cJ cZ h adM lo ln fz sx mo sn bw tkv opv shv ldv wyv bdv ct dA sta stc fev dl dnv rov thr snM tkvM opvM shvM ldvM lim wyvM bdvM isr rn rdv fzM icv exa fr fevM eav rs rovM lov C hX (by omega) ⟨by omega, by omega⟩  (by rw [hE (by omega)]; rfl) (tail hR (by omega) (by omega))
    · refine gz_tabIn C 523 dL_law_40 (by decide) (by decide) (off := 483) (by decide) (by decide) ?_
      exact law_c7 xo nt es ro ad cI cJ cZ h adM lo ln fz sx mo sn bw tkv opv shv ldv wyv bdv ct dA sta stc fev dl dnv rov thr snM tkvM opvM shvM ldvM lim wyvM bdvM isr rn rdv fzM icv exa fr fevM eav rs rovM lov C hX (by omega) ⟨by omega, by omega⟩ F10 F11 F12 F13 F14 (re_late _ hR) (tail hR (by omega) (by omega))
    · refine gz_tabIn C 548 dL_law_40 (by decide) (by decide) (off := 508) (by decide) (by decide) ?_
      exact law_c8 xo nt es ro ad cI cJ cZ h adM lo ln fz sx mo sn bw tkv opv shv ldv wyv bdv ct dA sta stc fev dl dnv rov thr snM tkvM opvM shvM ldvM lim wyvM bdvM isr rn rdv fzM icv exa fr fevM eav rs rovM lov C hX (by omega) ⟨by omega, by omega⟩ F10 F11 F13 (re_freeze _ hR) (tail (rl_freeze _ hR) (by omega) (by omega))
    · refine gz_tabIn C 573 dL_law_40 (by decide) (by decide) (off := 533) (by decide) (by decide) ?_
      exact law_c9 xo nt es ro ad cI cJ cZ h adM lo ln fz sx mo sn bw tkv opv shv ldv wyv bdv ct dA sta stc fev dl dnv rov thr snM tkvM opvM shvM ldvM lim wyvM bdvM isr rn rdv fzM icv exa fr fevM eav rs rovM lov C hX (by omega) ⟨by omega, by omega⟩ F1 F10 F11 F12 F5 F2 F13 F14 F15 F6 (re_add _ hR) (tail (rl_add _ hR) (by omega) (by omega))
    · refine gz_tabIn C 598 dL_law_40 (by decide) (by decide) (off := 558) (by decide) (by decide) ?_
      exact law_c10 xo nt es ro ad cI cJ cZ h adM lo ln fz sx mo sn bw tkv opv shv ldv wyv bdv ct dA sta stc fev dl dnv rov thr snM tkvM opvM shvM ldvM lim wyvM bdvM isr rn rdv fzM icv exa fr fevM eav rs rovM lov C hX (by omega) ⟨by omega, by omega⟩ F1 F2 (re_arc _ _ _ hR) (tail (rl_arc _ _ _ hR) (by omega) (by omega))
    · refine gz_tabIn C 647 dL_law_40 (by decide) (by decide) (off := 607) (by decide) (by decide) ?_
      exact law_c11 xo nt es ro ad cI cJ cZ h adM lo ln fz sx mo sn bw tkv opv shv ldv wyv bdv ct dA sta stc fev dl dnv rov thr snM tkvM opvM shvM ldvM lim wyvM bdvM isr rn rdv fzM icv exa fr fevM eav rs rovM lov C hX (by omega) ⟨by omega, by omega⟩ F10 F11 F12 F5 F13 F14 F6 (re_exchange _ _ hR) (tail (rl_exchange _ _ hR) (by omega) (by omega))
    · refine gz_tabIn C 684 dL_law_40 (by decide) (by decide) (off := 644) (by decide) (by decide) ?_
      exact law_c12 xo nt es ro ad cI cJ cZ h adM lo ln fz sx mo sn bw tkv opv shv ldv wyv bdv ct dA sta stc fev dl dnv rov thr snM tkvM opvM shvM ldvM lim wyvM bdvM isr rn rdv fzM icv exa fr fevM eav rs rovM lov C hX (by omega) ⟨by omega, by omega⟩ F1 F2 (re_bound hR) (tail hR (by omega) (by omega))
    · refine gz_tabOut C 698 dL_law_40 (by decide) (by decide) ?_
      exact tail hR (by omega) (by omega)
    · refine gz_tabOut C 698 dL_law_40 (by decide) (by decide) ?_
      exact tail hR (by omega) (by omega)
    · refine gz_tabOut C 698 dL_law_40 (by decide) (by decide) ?_
      exact tail hR (by omega) (by omega)


theorem init_eq : ∀ (n k : Nat) (f : Nat → Int64), f3_init_lp n k f = f1_init_lp n k f := by
  intro n
  induction n with
  | zero => intro k f; rfl
  | succ n ih => intro k f; unfold f3_init_lp f1_init_lp; exact ih _ _
theorem init_bnd : ∀ (n k : Nat) (f : Nat → Int64), (∀ i, bnd 100000 (f i)) → ∀ i, bnd 100000 ((f1_init_lp n k f).2 i) := by
  intro n
  induction n with
  | zero => intro k f h; exact h
  | succ n ih => intro k f h; unfold f1_init_lp; exact ih _ _ (bnd_up h ⟨1000, by decide, by decide⟩)
theorem init_arc : ∀ (n u k : Nat), (f3_arc_lp (fun _ => false) n u k).1 = u := by
  intro n
  induction n with
  | zero => intro u k; rfl
  | succ n ih => intro u k; unfold f3_arc_lp; rw [if_neg (by decide)]; exact ih _ _
theorem bnd_0 (B : Nat) : bnd B 0 := ⟨0, Nat.zero_le _, by decide⟩
theorem rel_init : Rel ((-1)) 0 ((-1)) 0 0 ((fun _ => 0)) ((fun _ => 0)) (va_up ((fun _ => 0)) 0 1000000000000000) ((fun _ => 0)) ((f1_init_lp  441 0 ((fun _ => 0))).2) ((fun _ => false)) 0 ((fun _ => 0)) 0 ((fun _ => 0)) ((fun _ => 0)) ((fun _ => 0)) ((fun _ => 0)) ((-1)) ((f3_init_lp  441 0 ((fun _ => 0))).2) ((fun _ => false)) false 0 ((fun _ => 0)) 0 ((fun _ => 0)) := by
  refine ⟨⟨rfl, rfl, rfl, rfl, rfl, by rw [init_eq], rfl, rfl⟩, ⟨by omega, by omega, ⟨fun k hk => by omega, fun i j hi => by omega⟩, fun i hi => by omega⟩, ⟨⟨fun _ => bnd_0 _, fun _ => bnd_0 _, fun _ => bnd_0 _, fun i hi => by rw [va_up_ne _ _ (by omega)], init_bnd _ _ _ (fun _ => bnd_0 _), rfl, rfl, va_up_self _ _ _⟩, Or.inl rfl, rfl, by rw [init_arc]; rfl, fun _ _ => rfl⟩, Or.inl ⟨rfl, rfl⟩, ⟨by omega, fun k hk => by omega⟩, 0, by omega, by decide⟩

set_option maxRecDepth 100000 in
set_option maxHeartbeats 4000000 in
theorem whole_start {p : Program} {e : Env} {s : State} {m : MethodId} {below : List Frame} {meth : Method} {c : Code} (l : Launch) (hfl : l.flags = flags0) {b L : Nat} {xs : Nat → Int32} (hL : L ≤ 7) (C0 : lw_At p s m meth c b L xs) : W p l e room_1 s m #[Value.ref b] below meth c s.heap [] 0 0 (lw_Z below #[Value.ref b] s) (entryFrame m ([Value.ref b] : List Value).toArray 7) := by
  obtain ⟨hx, hb, hr, hml, hown, hts, hX, hbl, hlocks, hgv⟩ := C0
  have hZ : ZT s := ZT.of hts hgv
  have hwb : ∀ w ∈ WB, w.before #[Value.ref b] s = true := fun w hw => hts w (WB_tbl hw)
  obtain ⟨c0, iS0, hKn0⟩ := u_known (C := RJx00060) (T := TJx00060) (N := 6) (n := 6) hwb iwJx00060 (hwb _ wk_303)
  obtain ⟨c1, iS1, hKn1⟩ := u_known (C := RX0) (T := TX0) (N := 5) (n := 5) hwb iwX0 (hwb _ wk_58)
  obtain ⟨c2, iS2, hKn2⟩ := u_known (C := RX1) (T := TX1) (N := 8) (n := 8) hwb iwX1 (hwb _ wk_20)
  obtain ⟨c3, iS3, hKn3⟩ := u_known (C := RX2) (T := TX2) (N := 7) (n := 7) hwb iwX2 (hwb _ wk_12)
  obtain ⟨c4, iS4, hKn4⟩ := u_known (C := RX3) (T := TX3) (N := 20) (n := 20) hwb iwX3 (hwb _ wk_374)
  obtain ⟨dC, dI, hKc⟩ : ∃ (dC : Nat → ClassId) (dI : Nat → Nat → Nat), ∀ (k : Nat) (q : vw_C), vwCl[k]? = some q → u_Kn s q.1 q.2.1 q.2.2 (dC k) (dI k) := by
    refine ⟨fun k => if k = 0 then c0 else if k = 1 then c1 else if k = 2 then c2 else if k = 3 then c3 else c4, fun k => if k = 0 then iS0 else if k = 1 then iS1 else if k = 2 then iS2 else if k = 3 then iS3 else iS4, ?_⟩
    intro k q hq
    match k, hq with
    | 0, hq => cases hq; exact hKn0
    | 1, hq => cases hq; exact hKn1
    | 2, hq => cases hq; exact hKn2
    | 3, hq => cases hq; exact hKn3
    | 4, hq => cases hq; exact hKn4
    | k + 5, hq => simp [vwCl] at hq
  obtain ⟨cI, aI1, aI2⟩ := z_arr (hwb _ wk_55)
  obtain ⟨cJ, aJ1, aJ2⟩ := z_arr (hwb _ wk_54)
  obtain ⟨cZ, aZ1, aZ2⟩ := z_arr (hwb _ wk_56)
  have hK : va_K (dC, dI) vwCl [(cI, .int), (cJ, .long), (cZ, .boolean)] s := by
    refine ⟨hKc, fun k q hq => ?_⟩
    match k, hq with
    | 0, hq => cases hq; exact ⟨aI1, aI2⟩
    | 1, hq => cases hq; exact ⟨aJ1, aJ2⟩
    | 2, hq => cases hq; exact ⟨aZ1, aZ2⟩
    | k + 3, hq => simp at hq
  have C : gz_C p s m #[Value.ref b] c cL_law 7 RL (dC, dI) [(cI, .int), (cJ, .long), (cZ, .boolean)] (fun q : Nat => s.heap.size ≤ q) := ⟨hx, hb, hml, hown, hwb, hK, fun _ h => h, NWs_of hts⟩
  have hXX : lwX b L xs s (fun q : Nat => s.heap.size ≤ q) := ⟨hX, hbl, Nat.not_le.mpr hbl, Nat.le_trans hL (by decide)⟩
  have hP : va_P (dC, dI) vwCl [] s.heap := fun k q h => by simp at h
  have hD : va_D (fun q : Nat => s.heap.size ≤ q) [] := ⟨fun i j p q h => by simp at h, fun k q h => by simp at h⟩
  have hl := lv_entry ([.ref b]) (n := 7) (Nat.le_of_ble_eq_true rfl)
  rw [lg_entry_eq]
  have hGZ : GZ p l e room_1 s m #[Value.ref b] below meth c 7 (dC, dI) (fun q : Nat => s.heap.size ≤ q) 0 0 (lw_Z below #[Value.ref b] s) [] [(0, .ref b)] [] 0 := by
    refine gz_new (ci := 3) (fs := [.null, .null, .null, .int 0, .int 0, .int 0, .int 0]) C iwX2 tyX2 tyX2_ok wk_11 wk_12 wk_1 rfl (by decide) (by decide) (by decide) dL_law_0 (fun xo => ?_)
    refine gz_wse (ws2 := [(xo, .inr (3, [.null, .null, .null, .int 0, .int 0, .int 0, .int 0]))]) rfl ?_
    refine gz_dup C dL_law_3 rfl ?_
    refine gz_callIX (wr := []) (n := 0) (As := []) (rest := [.ref xo]) C (kX2_init l (dC, dI) xo cI cJ cZ) wk_15 wk_1 wk_13 wk_14 rfl (by decide +kernel) ⟨⟨rfl, rfl⟩, by decide, by decide⟩ [0] [] [0, 1, 2] rfl rfl rfl (by decide) rfl rfl (Nat.le_of_ble_eq_true rfl) dL_law_4 ⟨by decide, by decide⟩ (fun u => ?_)
    refine gz_wse (ws2 := (wC xo u.1 u.2.1 u.2.2.1 u.2.2.2.1 cI cJ cZ ((-1)) 0 false ((-1)) 0 0 ((fun _ => 0)) ((fun _ => 0)) (va_up ((fun _ => 0)) 0 1000000000000000) ((fun _ => 0)) ((f1_init_lp  441 0 ((fun _ => 0))).2) ((fun _ => false)) 0 u.2.2.2.2 u.2.2.2.2 0 0 ((fun _ => 0)) 0 ((fun _ => 0)) ((fun _ => 0)))) rfl ?_
    refine gz_astore_n (lv2 := [(1, .ref xo), (0, .ref b)]) C dL_law_7 (by decide) rfl ?_
    refine gz_new (ci := 4) (fs := [.int 0, .int 0, .null, .null, .null, .null, .int 0, .null, .null, .int 0, .int 0, .null, .int 0, .null, .int 0, .int 0, .null, .null, .int 0, .null]) C iwX3 tyX3 tyX3_ok wk_373 wk_374 wk_4 rfl (by decide) (by decide) (by decide) dL_law_8 (fun h => ?_)
    refine gz_dup C dL_law_11 rfl ?_
    refine gz_callIX (wr := (wC xo u.1 u.2.1 u.2.2.1 u.2.2.2.1 cI cJ cZ ((-1)) 0 false ((-1)) 0 0 ((fun _ => 0)) ((fun _ => 0)) (va_up ((fun _ => 0)) 0 1000000000000000) ((fun _ => 0)) ((f1_init_lp  441 0 ((fun _ => 0))).2) ((fun _ => false)) 0 u.2.2.2.2 u.2.2.2.2 0 0 ((fun _ => 0)) 0 ((fun _ => 0)) ((fun _ => 0)))) (n := 0) (As := []) (rest := [.ref h]) C (kX3_init l (dC, dI) h cI cJ cZ) wk_377 wk_4 wk_375 wk_376 rfl (by decide +kernel) ⟨⟨rfl, rfl⟩, by decide, by decide⟩ [12] [0, 1, 2, 3, 4, 5, 6, 7, 8, 9, 10, 11] [0, 1, 2] rfl rfl rfl (by decide) rfl rfl (Nat.le_of_ble_eq_true rfl) dL_law_12 ⟨by decide, by decide⟩ (fun adM => ?_)
    refine gz_wse (ws2 := ((wC xo u.1 u.2.1 u.2.2.1 u.2.2.2.1 cI cJ cZ ((-1)) 0 false ((-1)) 0 0 ((fun _ => 0)) ((fun _ => 0)) (va_up ((fun _ => 0)) 0 1000000000000000) ((fun _ => 0)) ((f1_init_lp  441 0 ((fun _ => 0))).2) ((fun _ => false)) 0 u.2.2.2.2 u.2.2.2.2 0 0 ((fun _ => 0)) 0 ((fun _ => 0)) ((fun _ => 0))) ++ (wM h adM cI cJ cZ 0 0 ((fun _ => 0)) ((fun _ => 0)) ((fun _ => 0)) ((fun _ => 0)) ((-1)) ((f3_init_lp  441 0 ((fun _ => 0))).2) ((fun _ => false)) false 0 ((fun _ => 0)) 0 ((fun _ => 0)) false 0 ((fun _ => 0)) ((fun _ => 0)) 0 ((fun _ => 0))))) rfl ?_
    refine gz_astore_n (lv2 := [(2, .ref h), (1, .ref xo), (0, .ref b)]) C dL_law_15 (by decide) rfl ?_
    refine gz_iconst (v := nI 1) C dL_law_16 (by decide) ?_
    refine gz_newa (atype := .long) (N := 1) (a0 := (1, .inr (.inl (fun _ => 0)))) C wk_54 1 rfl (fun _ => rfl) (by decide) (by decide) (by decide) (by decide) dL_law_17 (fun lo => ?_)
    refine gz_wse (ws2 := ((wC xo u.1 u.2.1 u.2.2.1 u.2.2.2.1 cI cJ cZ ((-1)) 0 false ((-1)) 0 0 ((fun _ => 0)) ((fun _ => 0)) (va_up ((fun _ => 0)) 0 1000000000000000) ((fun _ => 0)) ((f1_init_lp  441 0 ((fun _ => 0))).2) ((fun _ => false)) 0 u.2.2.2.2 u.2.2.2.2 0 0 ((fun _ => 0)) 0 ((fun _ => 0)) ((fun _ => 0))) ++ ((wM h adM cI cJ cZ 0 0 ((fun _ => 0)) ((fun _ => 0)) ((fun _ => 0)) ((fun _ => 0)) ((-1)) ((f3_init_lp  441 0 ((fun _ => 0))).2) ((fun _ => false)) false 0 ((fun _ => 0)) 0 ((fun _ => 0)) false 0 ((fun _ => 0)) ((fun _ => 0)) 0 ((fun _ => 0))) ++ [(lo, .inl (cJ, 1, .inr (.inl (fun _ => 0))))]))) rfl ?_
    refine gz_astore_n (lv2 := [(3, .ref lo), (2, .ref h), (1, .ref xo), (0, .ref b)]) C dL_law_19 (by decide) rfl ?_
    refine gz_iconst (v := nI 0) C dL_law_20 (by decide) ?_
    refine gz_istore (lv2 := [(4, .int (nI 0)), (3, .ref lo), (2, .ref h), (1, .ref xo), (0, .ref b)]) C dL_law_21 (by decide) rfl ?_
    refine gz_lv (lv2 := [(0, .ref b), (1, .ref xo), (2, .ref h), (3, .ref lo), (4, .int (nI 0))]) [4, 3, 2, 1, 0] rfl ?_
    exact law_loop xo u.1 u.2.1 u.2.2.1 u.2.2.2.1 cI cJ cZ h adM lo hfl hZ C hXX hr hlocks hL 512 0 ((-1)) 0 false ((-1)) 0 0 ((fun _ => 0)) ((fun _ => 0)) (va_up ((fun _ => 0)) 0 1000000000000000) ((fun _ => 0)) ((f1_init_lp  441 0 ((fun _ => 0))).2) ((fun _ => false)) 0 u.2.2.2.2 0 0 ((fun _ => 0)) 0 ((fun _ => 0)) ((fun _ => 0)) 0 0 ((fun _ => 0)) ((fun _ => 0)) ((fun _ => 0)) ((fun _ => 0)) ((-1)) ((f3_init_lp  441 0 ((fun _ => 0))).2) ((fun _ => false)) false 0 ((fun _ => 0)) 0 ((fun _ => 0)) false 0 ((fun _ => 0)) ((fun _ => 0)) 0 ((fun _ => 0)) (fun _ => 0) _ _ (by omega) (by omega) (fun _ => rfl) rel_init (by decide) (by decide)
  exact hGZ s.heap [] _ hP hD va_S.rf hl

