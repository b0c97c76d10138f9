def f0_reckonSets_lpa (tkv : Nat → Int64) (opv : Nat → Int64) (shv : Nat → Int64) (wyv : Nat → Int64) (bdv : Nat → Bool) (ct : Nat) (sta : Nat) (stc : Int64) (fev : Nat → Nat) (t : Nat) : Nat → Nat → (Nat → Int64) → Nat × (Nat → Int64)
  | 0, k, dnv => (k, dnv)
  | n + 1, k, dnv => f0_reckonSets_lpa tkv opv shv wyv bdv ct sta stc fev t n (k + 1) ((if (f0_has t k) = true then va_up dnv ((t * ct) + k) (f0_earliest tkv opv shv wyv bdv ct sta stc fev dnv (t ^^^ (2 ^ k)) (fev k)) else dnv))
set_option maxRecDepth 100000 in
set_option maxHeartbeats 4000000 in
theorem lX0_reckonSets_lpa {p : Program} {l : Launch} {e : Env} {R : Room} {s : State} {m : MethodId} {args : Array Value} {below : List Frame} {meth : Method} {c : Code} {cells slots : Nat} {Q : State → Prop} {A : Nat → Prop} {D : va_G} (xo : Nat) (nt : Nat) (es : Nat) (ro : Nat) (ad : Nat → Nat) (cI : ClassId) (cJ : ClassId) (cZ : ClassId) (ln : Int32) (fz : Nat) (sx : Bool) (mo : Int32) (sn : Nat) (bw : Int32) (tkv : Nat → Int64) (opv : Nat → Int64) (shv : Nat → Int64) (ldv : Nat → Int32) (wyv : Nat → Int64) (bdv : Nat → Bool) (ct : Nat) (dA : Nat) (sta : Nat) (stc : Int64) (fev : Nat → Nat) (dl : Nat) (rov : Nat → Nat) (se : Nat) (t : Nat) (hct : ct ≤ 11) (hfe : ∀ k, k < ct → fev k ≤ 20) (hsa : sta ≤ 20) (hdm : dl ≤ 22528) (hdl : 2 ^ ct * ct ≤ dl) (ht : t < 2 ^ ct) (hR : 4 ≤ R.frames ∧ 99 ≤ R.locals) (hce : cells ≤ R.cells ∧ slots ≤ R.slots) (C : gz_C p s m args c cX0_reckonSets 5 RX0 D [(cI, .int), (cJ, .long), (cZ, .boolean)] A) : ∀ (n : Nat) (k : Nat) (dnv : Nat → Int64), (k + n = ct) → ((((f0_reckonSets_lpa tkv opv shv wyv bdv ct sta stc fev t n k dnv).1) + 0 = ct) → GZ p l e R s m args below meth c 5 D A cells slots Q (wC xo nt es ro ad cI cJ cZ ln fz sx mo sn bw tkv opv shv ldv wyv bdv ct dA dA sta stc fev dl ((f0_reckonSets_lpa tkv opv shv wyv bdv ct sta stc fev t n k dnv).2) rov) [(0, .ref es), (1, .ref nt), (2, .int (nI se)), (3, .int (nI t)), (4, .int (nI ((f0_reckonSets_lpa tkv opv shv wyv bdv ct sta stc fev t n k dnv).1)))] [] 99) → GZ p l e R s m args below meth c 5 D A cells slots Q (wC xo nt es ro ad cI cJ cZ ln fz sx mo sn bw tkv opv shv ldv wyv bdv ct dA dA sta stc fev dl dnv rov) [(0, .ref es), (1, .ref nt), (2, .int (nI se)), (3, .int (nI t)), (4, .int (nI k))] [] 43 := by
  intro n
  induction n with
  | zero =>
    intro k dnv hme  hx
    refine gz_iload C 4 dX0_reckonSets_43 rfl ?_
    refine gz_aload_n C 0 dX0_reckonSets_45 rfl ?_
    refine gz_get (ci := 1) C iwX0 8 rfl rfl 1 (by decide) wk_64 rfl rfl dX0_reckonSets_46 ?_
    refine gz_ncmp_ge C 99 (by omega) (by omega) dX0_reckonSets_49 (by decide) (fun h_1 => ?_) (fun h_1 => ?_)
    · skip
      exact gz_lv [0, 1, 2, 3, 4] rfl (hx hme )
    · have g_1 : ¬ (ct ≤ k) := (Nat.not_le.mpr h_1)
      exfalso; omega
  | succ n ih =>
    intro k dnv hme  hx
    refine gz_iload C 4 dX0_reckonSets_43 rfl ?_
    refine gz_aload_n C 0 dX0_reckonSets_45 rfl ?_
    refine gz_get (ci := 1) C iwX0 8 rfl rfl 1 (by decide) wk_64 rfl rfl dX0_reckonSets_46 ?_
    refine gz_ncmp_ge C 99 (by omega) (by omega) dX0_reckonSets_49 (by decide) (fun h_1 => ?_) (fun h_1 => ?_)
    · skip
      exfalso; omega
    · have g_1 : ¬ (ct ≤ k) := (Nat.not_le.mpr h_1)
      have hp := bz_pow hct
      have hq := hfe k (by omega)
      refine gz_iload_n C 3 dX0_reckonSets_52 rfl ?_
      refine gz_iload C 4 dX0_reckonSets_53 rfl ?_
      refine gz_callS (wr := []) (n := 2) (ws2 := (wC xo nt es ro ad cI cJ cZ ln fz sx mo sn bw tkv opv shv ldv wyv bdv ct dA dA sta stc fev dl dnv rov)) (st2 := [.int (bI (f0_has t k))]) (cells2 := cells) (slots2 := slots) C (kX0_has l D xo nt es ro ad cI cJ cZ ln fz sx mo sn bw tkv opv shv ldv wyv bdv ct dA sta stc fev dl dnv rov t k (by first | assumption | omega) (by first | assumption | omega)) (WB_S wk_187 wk_188 wk_3 wk_189) (by decide +kernel) ⟨⟨rfl, rfl⟩, Nat.le_trans (by decide) hR.1, Nat.le_trans (by decide) hR.2⟩ [0, 1, 2, 3, 4, 5, 6, 7, 8, 9, 10, 11] [] [0, 1, 2] rfl rfl rfl (by decide) rfl rfl rfl (Nat.le_of_ble_eq_true rfl) dX0_reckonSets_55 hce rfl rfl rfl ?_
      refine gz_J (ws2 := (wC xo nt es ro ad cI cJ cZ ln fz sx mo sn bw tkv opv shv ldv wyv bdv ct dA dA sta stc fev dl ((if (f0_has t k) = true then va_up dnv ((t * ct) + k) (f0_earliest tkv opv shv wyv bdv ct sta stc fev dnv (t ^^^ (2 ^ k)) (fev k)) else dnv)) rov)) (lv2 := [(0, .ref es), (1, .ref nt), (2, .int (nI se)), (3, .int (nI t)), (4, .int (nI k))]) (st2 := []) (pc2 := 93) ?_ (fun J_2 => ?_)
      rotate_left
      · refine gz_bif_eq C 93 dX0_reckonSets_58 (by decide) (fun h_2 => ?_) (fun h_2 => ?_)
        · have g_2 : ¬ ((f0_has t k) = true) := (by rw [h_2]; decide)
          simp only [if_neg g_2] at J_2 ⊢
          exact gz_lv [0, 1, 2, 3, 4] rfl J_2
        · skip
          refine gz_aload_n C 0 dX0_reckonSets_61 rfl ?_
          refine gz_get (ci := 1) C iwX0 8 rfl rfl 2 (by decide) wk_65 rfl rfl dX0_reckonSets_62 ?_
          refine gz_iload_n C 3 dX0_reckonSets_65 rfl ?_
          refine gz_aload_n C 0 dX0_reckonSets_66 rfl ?_
          refine gz_get (ci := 1) C iwX0 8 rfl rfl 1 (by decide) wk_64 rfl rfl dX0_reckonSets_67 ?_
          refine gz_imul (v := nI (t * ct)) C dX0_reckonSets_70 (pk_mul _ _) ?_
          refine gz_iload C 4 dX0_reckonSets_71 rfl ?_
          refine gz_iadd (v := nI ((t * ct) + k)) C dX0_reckonSets_73 (nI_add _ _) ?_
          refine gz_aload_n C 0 dX0_reckonSets_74 rfl ?_
          refine gz_aload_n C 1 dX0_reckonSets_75 rfl ?_
          refine gz_iload_n C 3 dX0_reckonSets_76 rfl ?_
          refine gz_iconst (v := nI 1) C dX0_reckonSets_77 (by decide) ?_
          refine gz_iload C 4 dX0_reckonSets_78 rfl ?_
          refine gz_ishl (v := nI (2 ^ k)) C dX0_reckonSets_80 (bz_shl (by omega)) ?_
          refine gz_ixor (v := nI (t ^^^ (2 ^ k))) C dX0_reckonSets_81 (bz_xor _ _) ?_
          refine gz_aload_n C 0 dX0_reckonSets_82 rfl ?_
          refine gz_get (ci := 1) C iwX0 8 rfl rfl 0 (by decide) wk_63 rfl rfl dX0_reckonSets_83 ?_
          refine gz_iload C 4 dX0_reckonSets_86 rfl ?_
          refine gz_iald C 9 0 rfl rfl (by omega) (by decide) dX0_reckonSets_88 ?_
          refine gz_callV (wr := []) (n := 3) (ws2 := (wC xo nt es ro ad cI cJ cZ ln fz sx mo sn bw tkv opv shv ldv wyv bdv ct dA dA sta stc fev dl dnv rov)) (st2 := [.long (f0_earliest tkv opv shv wyv bdv ct sta stc fev dnv (t ^^^ (2 ^ k)) (fev k)), .int (nI ((t * ct) + k)), .ref dA]) (cells2 := cells) (slots2 := slots) (ci := 1) C (kX0_earliest l D xo nt es ro ad cI cJ cZ ln fz sx mo sn bw tkv opv shv ldv wyv bdv ct dA sta stc fev dl dnv rov (t ^^^ (2 ^ k)) (fev k) (by first | assumption | omega) (by first | assumption | omega) (by first | assumption | omega) (by first | assumption | omega) (by first | assumption | omega) (bz_xor_lt ht (by omega)) (by first | assumption | omega)) (WB_V wk_190 wk_192 ws_3 wk_3 wk_193) (by decide +kernel) ⟨⟨rfl, rfl⟩, Nat.le_trans (by decide) hR.1, Nat.le_trans (by decide) hR.2⟩ [0, 1, 2, 3, 4, 5, 6, 7, 8, 9, 10, 11] [] [0, 1, 2] rfl rfl rfl (by decide) rfl 8 rfl rfl rfl rfl (Nat.le_of_ble_eq_true rfl) dX0_reckonSets_89 hce rfl rfl rfl ?_
          refine gz_last (ws2 := (wC xo nt es ro ad cI cJ cZ ln fz sx mo sn bw tkv opv shv ldv wyv bdv ct dA dA sta stc fev dl (va_up dnv ((t * ct) + k) (f0_earliest tkv opv shv wyv bdv ct sta stc fev dnv (t ^^^ (2 ^ k)) (fev k))) rov)) C 10 1 rfl rfl (bz_ix ht (by omega) hdl) (by omega) rfl dX0_reckonSets_92 ?_
          simp only [if_pos h_2] at J_2 ⊢
          exact gz_lv [0, 1, 2, 3, 4] rfl J_2
      refine gz_iinc (v := nI (k + 1)) (lv2 := [(4, .int (nI (k + 1))), (0, .ref es), (1, .ref nt), (2, .int (nI se)), (3, .int (nI t))]) (k := 4) C dX0_reckonSets_93 rfl (nI_add _ 1) (by decide) rfl ?_
      refine gz_goto C 43 dX0_reckonSets_96 (by decide) ?_
      refine gz_lv [1, 2, 3, 4, 0] rfl ?_
      simp only [f0_reckonSets_lpa, if_neg g_1] at hx
      exact ih (k + 1) ((if (f0_has t k) = true then va_up dnv ((t * ct) + k) (f0_earliest tkv opv shv wyv bdv ct sta stc fev dnv (t ^^^ (2 ^ k)) (fev k)) else dnv)) (by omega)  hx

def f0_reckonSets_lpb (tkv : Nat → Int64) (opv : Nat → Int64) (shv : Nat → Int64) (wyv : Nat → Int64) (bdv : Nat → Bool) (ct : Nat) (sta : Nat) (stc : Int64) (fev : Nat → Nat) : Nat → Nat → (Nat → Int64) → Nat × (Nat → Int64)
  | 0, t, dnv => (t, dnv)
  | n + 1, t, dnv => f0_reckonSets_lpb tkv opv shv wyv bdv ct sta stc fev n (t + 1) ((f0_reckonSets_lpa tkv opv shv wyv bdv ct sta stc fev t ct 0 dnv).2)
set_option maxRecDepth 100000 in
set_option maxHeartbeats 4000000 in
theorem lX0_reckonSets_lpb {p : Program} {l : Launch} {e : Env} {R : Room} {s : State} {m : MethodId} {args : Array Value} {below : List Frame} {meth : Method} {c : Code} {cells slots : Nat} {Q : State → Prop} {A : Nat → Prop} {D : va_G} (xo : Nat) (nt : Nat) (es : Nat) (ro : Nat) (ad : Nat → Nat) (cI : ClassId) (cJ : ClassId) (cZ : ClassId) (ln : Int32) (fz : Nat) (sx : Bool) (mo : Int32) (sn : Nat) (bw : Int32) (tkv : Nat → Int64) (opv : Nat → Int64) (shv : Nat → Int64) (ldv : Nat → Int32) (wyv : Nat → Int64) (bdv : Nat → Bool) (ct : Nat) (dA : Nat) (sta : Nat) (stc : Int64) (fev : Nat → Nat) (dl : Nat) (rov : Nat → Nat) (se : Nat) (hct : ct ≤ 11) (hfe : ∀ k, k < ct → fev k ≤ 20) (hsa : sta ≤ 20) (hdm : dl ≤ 22528) (hdl : 2 ^ ct * ct ≤ dl) (hse : se = 2 ^ ct) (hR : 4 ≤ R.frames ∧ 99 ≤ R.locals) (hce : cells ≤ R.cells ∧ slots ≤ R.slots) (C : gz_C p s m args c cX0_reckonSets 5 RX0 D [(cI, .int), (cJ, .long), (cZ, .boolean)] A) : ∀ (n : Nat) (t : Nat) (dnv : Nat → Int64), (t + n = se) → ((((f0_reckonSets_lpb tkv opv shv wyv bdv ct sta stc fev n t dnv).1) + 0 = se) → GZ p l e R s m args below meth c 5 D A cells slots Q (wC xo nt es ro ad cI cJ cZ ln fz sx mo sn bw tkv opv shv ldv wyv bdv ct dA dA sta stc fev dl ((f0_reckonSets_lpb tkv opv shv wyv bdv ct sta stc fev n t dnv).2) rov) [(0, .ref es), (1, .ref nt), (2, .int (nI se)), (3, .int (nI ((f0_reckonSets_lpb tkv opv shv wyv bdv ct sta stc fev n t dnv).1)))] [] 105) → GZ p l e R s m args below meth c 5 D A cells slots Q (wC xo nt es ro ad cI cJ cZ ln fz sx mo sn bw tkv opv shv ldv wyv bdv ct dA dA sta stc fev dl dnv rov) [(0, .ref es), (1, .ref nt), (2, .int (nI se)), (3, .int (nI t))] [] 35 := by
  intro n
  induction n with
  | zero =>
    intro t dnv hme  hx
    have hp := bz_pow hct
    refine gz_iload_n C 3 dX0_reckonSets_35 rfl ?_
    refine gz_iload_n C 2 dX0_reckonSets_36 rfl ?_
    refine gz_ncmp_ge C 105 (by omega) (by omega) dX0_reckonSets_37 (by decide) (fun h_1 => ?_) (fun h_1 => ?_)
    · skip
      exact gz_lv [0, 1, 2, 3] rfl (hx hme )
    · have g_1 : ¬ (se ≤ t) := (Nat.not_le.mpr h_1)
      exfalso; omega
  | succ n ih =>
    intro t dnv hme  hx
    have hp := bz_pow hct
    refine gz_iload_n C 3 dX0_reckonSets_35 rfl ?_
    refine gz_iload_n C 2 dX0_reckonSets_36 rfl ?_
    refine gz_ncmp_ge C 105 (by omega) (by omega) dX0_reckonSets_37 (by decide) (fun h_1 => ?_) (fun h_1 => ?_)
    · skip
      exfalso; omega
    · have g_1 : ¬ (se ≤ t) := (Nat.not_le.mpr h_1)
      refine gz_iconst (v := nI 0) C dX0_reckonSets_40 (by decide) ?_
      refine gz_istore (lv2 := [(4, .int (nI 0)), (0, .ref es), (1, .ref nt), (2, .int (nI se)), (3, .int (nI t))]) C dX0_reckonSets_41 (by decide) rfl ?_
      refine gz_lv (lv2 := [(0, .ref es), (1, .ref nt), (2, .int (nI se)), (3, .int (nI t)), (4, .int (nI 0))]) [1, 2, 3, 4, 0] rfl ?_
      refine lX0_reckonSets_lpa xo nt es ro ad cI cJ cZ ln fz sx mo sn bw tkv opv shv ldv wyv bdv ct dA sta stc fev dl rov se t (by first | assumption | omega) (by first | assumption | omega) (by first | assumption | omega) (by first | assumption | omega) (by first | assumption | omega) (by first | assumption | omega) ⟨Nat.le_trans (by decide) hR.1, Nat.le_trans (by decide) hR.2⟩ hce C ct 0 dnv (by omega)  ?_
      intro zme_lpa
      refine gz_iinc (v := nI (t + 1)) (lv2 := [(3, .int (nI (t + 1))), (0, .ref es), (1, .ref nt), (2, .int (nI se)), (4, .int (nI ((f0_reckonSets_lpa tkv opv shv wyv bdv ct sta stc fev t ct 0 dnv).1)))]) (k := 3) C dX0_reckonSets_99 rfl (nI_add _ 1) (by decide) rfl ?_
      refine gz_goto C 35 dX0_reckonSets_102 (by decide) ?_
      refine gz_lv [1, 2, 3, 0] rfl ?_
      simp only [f0_reckonSets_lpb, if_neg g_1] at hx
      exact ih (t + 1) ((f0_reckonSets_lpa tkv opv shv wyv bdv ct sta stc fev t ct 0 dnv).2) (by omega)  hx

