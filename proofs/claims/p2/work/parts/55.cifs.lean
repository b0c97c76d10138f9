def f2_insertFreeStops_lp (fz : Nat) (tkv : Nat → Int64) (opv : Nat → Int64) (shv : Nat → Int64) (wyv : Nat → Int64) (bdv : Nat → Bool) : Nat → Nat → Nat → (Nat → Nat) → Nat × Nat × (Nat → Nat)
  | 0, cn, k, rov => (cn, k, rov)
  | n + 1, cn, k, rov => f2_insertFreeStops_lp fz tkv opv shv wyv bdv n ((if (f1_holds rov fz k) = true then cn else cn + 1)) (k + 1) ((if (f1_holds rov fz k) = true then rov else f2_insert_rov fz tkv opv shv wyv bdv rov k cn))
set_option maxRecDepth 100000 in
set_option maxHeartbeats 4000000 in
theorem lX2_insertFreeStops_lp {p : Program} {l : Launch} {e : Env} {R : Room} {s : State} {m : MethodId} {args : Array Value} {below : List Frame} {meth : Method} {c : Code} {cells slots : Nat} {Q : State → Prop} {A : Nat → Prop} {D : va_G} (xo : Nat) (nt : Nat) (es : Nat) (ro : Nat) (ad : Nat → Nat) (cI : ClassId) (cJ : ClassId) (cZ : ClassId) (ln : Int32) (fz : Nat) (sx : Bool) (mo : Int32) (sn : Nat) (bw : Int32) (tkv : Nat → Int64) (opv : Nat → Int64) (shv : Nat → Int64) (ldv : Nat → Int32) (wyv : Nat → Int64) (bdv : Nat → Bool) (ct : Nat) (dA : Nat) (sta : Nat) (stc : Int64) (fev : Nat → Nat) (dl : Nat) (dnv : Nat → Int64) (hsn : sn ≤ 20) (r0 : Nat → Nat) (hR : 4 ≤ R.frames ∧ 104 ≤ R.locals) (hce : cells ≤ R.cells ∧ slots ≤ R.slots) (C : gz_C p s m args c cX2_insertFreeStops 3 RX2 D [(cI, .int), (cJ, .long), (cZ, .boolean)] A) : ∀ (n : Nat) (cn : Nat) (k : Nat) (rov : Nat → Nat), (k + n = sn + 1) → (fz ≤ cn ∧ cn ≤ 20) → (∃ fe, (f3_solve_s1 fz r0 (sn + 1 - k) k (cn - fz) fe).2.1 + fz = sn) → (∀ i, i < fz → rov i = r0 i) → (∀ i, i < cn → rov i ≤ 20) → ((((f2_insertFreeStops_lp fz tkv opv shv wyv bdv n cn k rov).2.1) + 0 = sn + 1) → (fz ≤ ((f2_insertFreeStops_lp fz tkv opv shv wyv bdv n cn k rov).1) ∧ ((f2_insertFreeStops_lp fz tkv opv shv wyv bdv n cn k rov).1) ≤ 20) → (∃ fe, (f3_solve_s1 fz r0 (sn + 1 - ((f2_insertFreeStops_lp fz tkv opv shv wyv bdv n cn k rov).2.1)) ((f2_insertFreeStops_lp fz tkv opv shv wyv bdv n cn k rov).2.1) (((f2_insertFreeStops_lp fz tkv opv shv wyv bdv n cn k rov).1) - fz) fe).2.1 + fz = sn) → (∀ i, i < fz → ((f2_insertFreeStops_lp fz tkv opv shv wyv bdv n cn k rov).2.2) i = r0 i) → (∀ i, i < ((f2_insertFreeStops_lp fz tkv opv shv wyv bdv n cn k rov).1) → ((f2_insertFreeStops_lp fz tkv opv shv wyv bdv n cn k rov).2.2) i ≤ 20) → GZ p l e R s m args below meth c 3 D A cells slots Q (wC xo nt es ro ad cI cJ cZ ln fz sx mo sn bw tkv opv shv ldv wyv bdv ct dA dA sta stc fev dl dnv ((f2_insertFreeStops_lp fz tkv opv shv wyv bdv n cn k rov).2.2)) [(0, .ref xo), (1, .int (nI ((f2_insertFreeStops_lp fz tkv opv shv wyv bdv n cn k rov).1))), (2, .int (nI ((f2_insertFreeStops_lp fz tkv opv shv wyv bdv n cn k rov).2.1)))] [] 49) → GZ p l e R s m args below meth c 3 D A cells slots Q (wC xo nt es ro ad cI cJ cZ ln fz sx mo sn bw tkv opv shv ldv wyv bdv ct dA dA sta stc fev dl dnv rov) [(0, .ref xo), (1, .int (nI cn)), (2, .int (nI k))] [] 7 := by
  intro n
  induction n with
  | zero =>
    intro cn k rov hme hcn hfr hpre hro hx
    refine gz_iload_n C 2 dX2_insertFreeStops_7 rfl ?_
    refine gz_aload_n C 0 dX2_insertFreeStops_8 rfl ?_
    refine gz_get (ci := 3) C iwX2 0 rfl rfl 0 (by decide) wk_79 rfl rfl dX2_insertFreeStops_9 ?_
    refine gz_getN (ci := 2) C iwX1 1 rfl rfl 0 (by decide) (nw_1 C.2.2.2.2.2.2.2) rfl rfl dX2_insertFreeStops_12 ?_
    refine gz_ncmp_gt C 49 (by omega) (by omega) dX2_insertFreeStops_15 (by decide) (fun h_1 => ?_) (fun h_1 => ?_)
    · skip
      exact gz_lv [0, 1, 2] rfl (hx hme hcn hfr hpre hro)
    · have g_1 : ¬ (sn < k) := (Nat.not_lt.mpr h_1)
      exfalso; omega
  | succ n ih =>
    intro cn k rov hme hcn hfr hpre hro hx
    refine gz_iload_n C 2 dX2_insertFreeStops_7 rfl ?_
    refine gz_aload_n C 0 dX2_insertFreeStops_8 rfl ?_
    refine gz_get (ci := 3) C iwX2 0 rfl rfl 0 (by decide) wk_79 rfl rfl dX2_insertFreeStops_9 ?_
    refine gz_getN (ci := 2) C iwX1 1 rfl rfl 0 (by decide) (nw_1 C.2.2.2.2.2.2.2) rfl rfl dX2_insertFreeStops_12 ?_
    refine gz_ncmp_gt C 49 (by omega) (by omega) dX2_insertFreeStops_15 (by decide) (fun h_1 => ?_) (fun h_1 => ?_)
    · skip
      exfalso; omega
    · have g_1 : ¬ (sn < k) := (Nat.not_lt.mpr h_1)
      refine gz_aload_n C 0 dX2_insertFreeStops_18 rfl ?_
      refine gz_get (ci := 3) C iwX2 0 rfl rfl 2 (by decide) wk_81 rfl rfl dX2_insertFreeStops_19 ?_
      refine gz_aload_n C 0 dX2_insertFreeStops_22 rfl ?_
      refine gz_get (ci := 3) C iwX2 0 rfl rfl 4 (by decide) wk_83 rfl rfl dX2_insertFreeStops_23 ?_
      refine gz_iload_n C 2 dX2_insertFreeStops_26 rfl ?_
      refine gz_callS (wr := []) (n := 3) (ws2 := (wC xo nt es ro ad cI cJ cZ ln fz sx mo sn bw tkv opv shv ldv wyv bdv ct dA dA sta stc fev dl dnv rov)) (st2 := [.int (bI (f1_holds rov fz k))]) (cells2 := cells) (slots2 := slots) C (kX1_holds l D xo nt es ro ad cI cJ cZ ln fz sx mo sn bw tkv opv shv ldv wyv bdv ct dA sta stc fev dl dnv rov fz k (by first | assumption | omega) (by first | assumption | omega) (fun i hi => hro i (by omega))) (WB_S wk_213 wk_181 wk_2 wk_182) (by decide +kernel) ⟨⟨rfl, rfl⟩, Nat.le_trans (by decide) hR.1, Nat.le_trans (by decide) hR.2⟩ [0, 1, 2, 3, 4, 5, 6, 7, 8, 9, 10, 11] [] [0, 1, 2] rfl rfl rfl (by decide) rfl rfl rfl (Nat.le_of_ble_eq_true rfl) dX2_insertFreeStops_27 hce rfl rfl rfl ?_
      refine gz_J (ws2 := (wC xo nt es ro ad cI cJ cZ ln fz sx mo sn bw tkv opv shv ldv wyv bdv ct dA dA sta stc fev dl dnv ((if (f1_holds rov fz k) = true then rov else f2_insert_rov fz tkv opv shv wyv bdv rov k cn)))) (lv2 := [(0, .ref xo), (1, .int (nI ((if (f1_holds rov fz k) = true then cn else cn + 1)))), (2, .int (nI k))]) (st2 := []) (pc2 := 43) ?_ (fun J_2 => ?_)
      rotate_left
      · refine gz_bif_ne C 43 dX2_insertFreeStops_30 (by decide) (fun h_2 => ?_) (fun h_2 => ?_)
        · skip
          simp only [if_pos h_2] at J_2 ⊢
          exact gz_lv [0, 1, 2] rfl J_2
        · have g_2 : ¬ ((f1_holds rov fz k) = true) := (by rw [h_2]; decide)
          obtain ⟨fe9, hfe9⟩ := hfr
          have hz := (q2_s1_t (by omega) hfe9).2 (by rw [← q2_holds_c hpre]; exact g_2)
          have hz1 := hz.1
          refine gz_aload_n C 0 dX2_insertFreeStops_33 rfl ?_
          refine gz_iload_n C 2 dX2_insertFreeStops_34 rfl ?_
          refine gz_iload_n C 1 dX2_insertFreeStops_35 rfl ?_
          refine gz_callV (wr := []) (n := 2) (ws2 := (wC xo nt es ro ad cI cJ cZ ln fz sx mo sn bw tkv opv shv ldv wyv bdv ct dA dA sta stc fev dl dnv (f2_insert_rov fz tkv opv shv wyv bdv rov k cn))) (st2 := [.int (nI (f2_insert fz tkv opv shv wyv bdv rov k cn))]) (cells2 := cells) (slots2 := slots) (ci := 3) C (kX2_insert l D xo nt es ro ad cI cJ cZ ln fz sx mo sn bw tkv opv shv ldv wyv bdv ct dA sta stc fev dl dnv rov k cn (by first | assumption | omega) (by first | assumption | omega) (by first | assumption | omega) hro) (WB_V wk_214 wk_216 ws_8 wk_1 wk_217) (by decide +kernel) ⟨⟨rfl, rfl⟩, Nat.le_trans (by decide) hR.1, Nat.le_trans (by decide) hR.2⟩ [0, 1, 2, 3, 4, 5, 6, 7, 8, 9, 10, 11] [] [0, 1, 2] rfl rfl rfl (by decide) rfl 0 rfl rfl rfl rfl (Nat.le_of_ble_eq_true rfl) dX2_insertFreeStops_36 hce rfl rfl rfl ?_
          refine gz_pop C dX2_insertFreeStops_39 rfl ?_
          refine gz_iinc (v := nI (cn + 1)) (lv2 := [(1, .int (nI (cn + 1))), (0, .ref xo), (2, .int (nI k))]) (k := 1) C dX2_insertFreeStops_40 rfl (nI_add _ 1) (by decide) rfl ?_
          simp only [if_neg g_2] at J_2 ⊢
          exact gz_lv [1, 0, 2] rfl J_2
      refine gz_iinc (v := nI (k + 1)) (lv2 := [(2, .int (nI (k + 1))), (0, .ref xo), (1, .int (nI ((if (f1_holds rov fz k) = true then cn else cn + 1))))]) (k := 2) C dX2_insertFreeStops_43 rfl (nI_add _ 1) (by decide) rfl ?_
      refine gz_goto C 7 dX2_insertFreeStops_46 (by decide) ?_
      refine gz_lv [1, 2, 0] rfl ?_
      simp only [f2_insertFreeStops_lp, if_neg g_1] at hx
      exact ih ((if (f1_holds rov fz k) = true then cn else cn + 1)) (k + 1) ((if (f1_holds rov fz k) = true then rov else f2_insert_rov fz tkv opv shv wyv bdv rov k cn)) (by omega) (q2_if_step (tkv := tkv) (opv := opv) (shv := shv) (wyv := wyv) (bdv := bdv) hsn (by omega) hcn hfr hpre hro).1 (q2_if_step (tkv := tkv) (opv := opv) (shv := shv) (wyv := wyv) (bdv := bdv) hsn (by omega) hcn hfr hpre hro).2.1 (q2_if_step (tkv := tkv) (opv := opv) (shv := shv) (wyv := wyv) (bdv := bdv) hsn (by omega) hcn hfr hpre hro).2.2.1 (q2_if_step (tkv := tkv) (opv := opv) (shv := shv) (wyv := wyv) (bdv := bdv) hsn (by omega) hcn hfr hpre hro).2.2.2 hx

def f2_insertFreeStops_rov (fz : Nat) (sn : Nat) (tkv : Nat → Int64) (opv : Nat → Int64) (shv : Nat → Int64) (wyv : Nat → Int64) (bdv : Nat → Bool) (rov : Nat → Nat) : Nat → Nat := (f2_insertFreeStops_lp fz tkv opv shv wyv bdv sn fz 1 rov).2.2
set_option maxRecDepth 100000 in
set_option maxHeartbeats 4000000 in
theorem kX2_insertFreeStops (l : Launch) (D : va_G) (xo : Nat) (nt : Nat) (es : Nat) (ro : Nat) (ad : Nat → Nat) (cI : ClassId) (cJ : ClassId) (cZ : ClassId) (ln : Int32) (fz : Nat) (sx : Bool) (mo : Int32) (sn : Nat) (bw : Int32) (tkv : Nat → Int64) (opv : Nat → Int64) (shv : Nat → Int64) (ldv : Nat → Int32) (wyv : Nat → Int64) (bdv : Nat → Bool) (ct : Nat) (dA : Nat) (sta : Nat) (stc : Int64) (fev : Nat → Nat) (dl : Nat) (dnv : Nat → Int64) (rov : Nat → Nat) (hsn : sn ≤ 20) (hfs : fz ≤ sn) (hri : q_row fz sn rov) : gz_M l yX2_insertFreeStops cX2_insertFreeStops 3 none ({ frames := 4, cells := 0, slots := 0, locals := 104 } : Room) D [(cI, .int), (cJ, .long), (cZ, .boolean)] [.ref xo] (wC xo nt es ro ad cI cJ cZ ln fz sx mo sn bw tkv opv shv ldv wyv bdv ct dA dA sta stc fev dl dnv rov) (none) (wC xo nt es ro ad cI cJ cZ ln fz sx mo sn bw tkv opv shv ldv wyv bdv ct dA dA sta stc fev dl dnv (f2_insertFreeStops_rov fz sn tkv opv shv wyv bdv rov)) 0 0 := by
  refine gz_met l (by decide) (Nat.le_of_ble_eq_true rfl) [(0, .ref xo)] rfl ?_
  intro sz p e s m args below meth c C hr hk hnm
  have C : gz_C p s m args c cX2_insertFreeStops 3 RX2 D [(cI, .int), (cJ, .long), (cZ, .boolean)] (va_A (wC xo nt es ro ad cI cJ cZ ln fz sx mo sn bw tkv opv shv ldv wyv bdv ct dA dA sta stc fev dl dnv rov) sz) := C
  refine gz_aload_n C 0 dX2_insertFreeStops_0 rfl ?_
  refine gz_get (ci := 3) C iwX2 0 rfl rfl 4 (by decide) wk_83 rfl rfl dX2_insertFreeStops_1 ?_
  refine gz_istore_n (lv2 := [(1, .int (nI fz)), (0, .ref xo)]) C dX2_insertFreeStops_4 (by decide) rfl ?_
  refine gz_iconst (v := nI 1) C dX2_insertFreeStops_5 (by decide) ?_
  refine gz_istore_n (lv2 := [(2, .int (nI 1)), (1, .int (nI fz)), (0, .ref xo)]) C dX2_insertFreeStops_6 (by decide) rfl ?_
  refine gz_lv (lv2 := [(0, .ref xo), (1, .int (nI fz)), (2, .int (nI 1))]) [2, 1, 0] rfl ?_
  refine lX2_insertFreeStops_lp xo nt es ro ad cI cJ cZ ln fz sx mo sn bw tkv opv shv ldv wyv bdv ct dA sta stc fev dl dnv (by first | assumption | omega) rov ⟨Nat.le_of_ble_eq_true rfl, Nat.le_of_ble_eq_true rfl⟩ ⟨Nat.zero_le _, Nat.zero_le _⟩ C sn fz 1 rov (by omega) (by first | assumption | omega) ⟨fev, by have h9 := (q3_free (fev := fev) hri).1; have e9 : sn + 1 - 1 = sn := (by omega); have e8 : fz - fz = 0 := (by omega); rw [e9, e8]; exact h9⟩ (fun _ _ => rfl) (fun i hi => by have := (hri.1 i hi).2; omega) ?_
  intro zme_lp zhcn_lp zhfr_lp zhpre_lp zhro_lp
  exact gz_vret C hr hk (by first | rfl | (simp only [f2_insertFreeStops_rov]) | (simp only [f2_insertFreeStops_rov]; rfl)) (by first | rfl | (simp only [f2_insertFreeStops_rov]) | (simp only [f2_insertFreeStops_rov]; rfl)) (Nat.le_refl _) (Nat.le_refl _) dX2_insertFreeStops_49

