def f1_cost_lp (tkv : Nat → Int64) (opv : Nat → Int64) (shv : Nat → Int64) (wyv : Nat → Int64) (bdv : Nat → Bool) (rov : Nat → Nat) : Nat → Int64 → Int64 → Nat → Nat → Int64 × Int64 × Nat × Nat
  | 0, fa, ck, he, k => (fa, ck, he, k)
  | n + 1, fa, ck, he, k => f1_cost_lp tkv opv shv wyv bdv rov n ((fa + ((if (bdv (he * 21 + (rov k))) = true then 1 else 0))) + ((if (ck + (wyv (he * 21 + (rov k)))) ≤ (shv (rov k)) then 0 else 1))) (f1_doneAt tkv opv (rov k) (ck + (wyv (he * 21 + (rov k))))) (rov k) (k + 1)
set_option maxRecDepth 100000 in
set_option maxHeartbeats 4000000 in
theorem lX1_cost_lp {p : Program} {l : Launch} {e : Env} {R : Room} {s : State} {m : MethodId} {args : Array Value} {below : List Frame} {meth : Method} {c : Code} {cells slots : Nat} {Q : State → Prop} {A : Nat → Prop} {D : va_G} (xo : Nat) (nt : Nat) (es : Nat) (ro : Nat) (ad : Nat → Nat) (cI : ClassId) (cJ : ClassId) (cZ : ClassId) (ln : Int32) (fz : Nat) (sx : Bool) (mo : Int32) (sn : Nat) (bw : Int32) (tkv : Nat → Int64) (opv : Nat → Int64) (shv : Nat → Int64) (ldv : Nat → Int32) (wyv : Nat → Int64) (bdv : Nat → Bool) (ct : Nat) (dA : Nat) (sta : Nat) (stc : Int64) (fev : Nat → Nat) (dl : Nat) (dnv : Nat → Int64) (rov : Nat → Nat) (co : Nat) (hc : co ≤ 20) (hro : ∀ k, k < co → rov k ≤ 20) (hR : 2 ≤ R.frames ∧ 46 ≤ R.locals) (hce : cells ≤ R.cells ∧ slots ≤ R.slots) (C : gz_C p s m args c cX1_cost 11 RX1 D [(cI, .int), (cJ, .long), (cZ, .boolean)] A) : ∀ (n : Nat) (fa : Int64) (ck : Int64) (he : Nat) (k : Nat), (k + n = co) → (he ≤ 20) → ((((f1_cost_lp tkv opv shv wyv bdv rov n fa ck he k).2.2.2) + 0 = co) → (((f1_cost_lp tkv opv shv wyv bdv rov n fa ck he k).2.2.1) ≤ 20) → GZ p l e R s m args below meth c 11 D A cells slots Q (wC xo nt es ro ad cI cJ cZ ln fz sx mo sn bw tkv opv shv ldv wyv bdv ct dA dA sta stc fev dl dnv rov) [(0, .ref nt), (1, .ref ro), (2, .int (nI co)), (3, .long ((f1_cost_lp tkv opv shv wyv bdv rov n fa ck he k).1)), (5, .long ((f1_cost_lp tkv opv shv wyv bdv rov n fa ck he k).2.1)), (7, .int (nI ((f1_cost_lp tkv opv shv wyv bdv rov n fa ck he k).2.2.1))), (8, .int (nI ((f1_cost_lp tkv opv shv wyv bdv rov n fa ck he k).2.2.2)))] [] 109) → GZ p l e R s m args below meth c 11 D A cells slots Q (wC xo nt es ro ad cI cJ cZ ln fz sx mo sn bw tkv opv shv ldv wyv bdv ct dA dA sta stc fev dl dnv rov) [(0, .ref nt), (1, .ref ro), (2, .int (nI co)), (3, .long fa), (5, .long ck), (7, .int (nI he)), (8, .int (nI k))] [] 17 := by
  intro n
  induction n with
  | zero =>
    intro fa ck he k hme hhe hx
    refine gz_iload C 6 dX1_cost_17 rfl ?_
    refine gz_iload_n C 2 dX1_cost_19 rfl ?_
    refine gz_ncmp_ge C 109 (by omega) (by omega) dX1_cost_20 (by decide) (fun h_1 => ?_) (fun h_1 => ?_)
    · skip
      exact gz_lv [0, 1, 2, 3, 4, 5, 6] rfl (hx hme hhe)
    · have g_1 : ¬ (co ≤ k) := (Nat.not_le.mpr h_1)
      exfalso; omega
  | succ n ih =>
    intro fa ck he k hme hhe hx
    refine gz_iload C 6 dX1_cost_17 rfl ?_
    refine gz_iload_n C 2 dX1_cost_19 rfl ?_
    refine gz_ncmp_ge C 109 (by omega) (by omega) dX1_cost_20 (by decide) (fun h_1 => ?_) (fun h_1 => ?_)
    · skip
      exfalso; omega
    · have g_1 : ¬ (co ≤ k) := (Nat.not_le.mpr h_1)
      have hq := hro k (by omega)
      refine gz_aload_n C 1 dX1_cost_23 rfl ?_
      refine gz_iload C 6 dX1_cost_24 rfl ?_
      refine gz_iald C 11 0 rfl rfl (by omega) (by decide) dX1_cost_26 ?_
      refine gz_istore (lv2 := [(9, .int (nI (rov k))), (0, .ref nt), (1, .ref ro), (2, .int (nI co)), (3, .long fa), (5, .long ck), (7, .int (nI he)), (8, .int (nI k))]) C dX1_cost_27 (by decide) rfl ?_
      refine gz_iload C 6 dX1_cost_29 rfl ?_
      refine gz_iload C 0 dX1_cost_31 rfl ?_
      refine gz_callS (wr := []) (n := 2) (ws2 := (wC xo nt es ro ad cI cJ cZ ln fz sx mo sn bw tkv opv shv ldv wyv bdv ct dA dA sta stc fev dl dnv rov)) (st2 := [.int (nI (he * 21 + (rov k)))]) (cells2 := cells) (slots2 := slots) C (kX1_between l D xo nt es ro ad cI cJ cZ ln fz sx mo sn bw tkv opv shv ldv wyv bdv ct dA sta stc fev dl dnv rov he (rov k) ) (WB_S wk_130 wk_131 wk_2 wk_132) (by decide +kernel) ⟨⟨rfl, rfl⟩, Nat.le_trans (by decide) hR.1, Nat.le_trans (by decide) hR.2⟩ [0, 1, 2, 3, 4, 5, 6, 7, 8, 9, 10, 11] [] [0, 1, 2] rfl rfl rfl (by decide) rfl rfl rfl (Nat.le_of_ble_eq_true rfl) dX1_cost_33 hce rfl rfl rfl ?_
      refine gz_istore (lv2 := [(10, .int (nI (he * 21 + (rov k)))), (9, .int (nI (rov k))), (0, .ref nt), (1, .ref ro), (2, .int (nI co)), (3, .long fa), (5, .long ck), (7, .int (nI he)), (8, .int (nI k))]) C dX1_cost_36 (by decide) rfl ?_
      refine gz_lload C 6 dX1_cost_38 rfl ?_
      refine gz_aload_n C 2 dX1_cost_40 rfl ?_
      refine gz_get (ci := 2) C iwX1 1 rfl rfl 6 (by decide) wk_35 rfl rfl dX1_cost_41 ?_
      refine gz_iload C 0 dX1_cost_44 rfl ?_
      refine gz_lald C 6 1 rfl rfl (by omega) (by decide) dX1_cost_46 ?_
      refine gz_ladd (v := ck + (wyv (he * 21 + (rov k)))) C dX1_cost_47 rfl ?_
      refine gz_lstore (lv2 := [(5, .long (ck + (wyv (he * 21 + (rov k))))), (10, .int (nI (he * 21 + (rov k)))), (9, .int (nI (rov k))), (0, .ref nt), (1, .ref ro), (2, .int (nI co)), (3, .long fa), (7, .int (nI he)), (8, .int (nI k))]) C dX1_cost_48 (by decide) rfl ?_
      refine gz_lload_n C 6 dX1_cost_50 rfl ?_
      refine gz_aload_n C 3 dX1_cost_51 rfl ?_
      refine gz_get (ci := 2) C iwX1 1 rfl rfl 7 (by decide) wk_36 rfl rfl dX1_cost_52 ?_
      refine gz_iload C 1 dX1_cost_55 rfl ?_
      refine gz_zald C 7 2 rfl rfl (by omega) (by decide) dX1_cost_57 ?_
      refine gz_J (ws2 := (wC xo nt es ro ad cI cJ cZ ln fz sx mo sn bw tkv opv shv ldv wyv bdv ct dA dA sta stc fev dl dnv rov)) (lv2 := [(5, .long (ck + (wyv (he * 21 + (rov k))))), (10, .int (nI (he * 21 + (rov k)))), (9, .int (nI (rov k))), (0, .ref nt), (1, .ref ro), (2, .int (nI co)), (3, .long fa), (7, .int (nI he)), (8, .int (nI k))]) (st2 := [.long ((if (bdv (he * 21 + (rov k))) = true then 1 else 0)), .long fa]) (pc2 := 66) ?_ (fun J_2 => ?_)
      rotate_left
      · refine gz_bif_eq C 65 dX1_cost_58 (by decide) (fun h_2 => ?_) (fun h_2 => ?_)
        · have g_2 : ¬ ((bdv (he * 21 + (rov k))) = true) := (by rw [h_2]; decide)
          refine gz_lconst (v := 0) C dX1_cost_65 (by decide) ?_
          simp only [if_neg g_2] at J_2 ⊢
          exact gz_lv [0, 1, 2, 3, 4, 5, 6, 7, 8] rfl J_2
        · skip
          refine gz_lconst (v := 1) C dX1_cost_61 (by decide) ?_
          refine gz_goto C 66 dX1_cost_62 (by decide) ?_
          simp only [if_pos h_2] at J_2 ⊢
          exact gz_lv [0, 1, 2, 3, 4, 5, 6, 7, 8] rfl J_2
      refine gz_ladd (v := fa + ((if (bdv (he * 21 + (rov k))) = true then 1 else 0))) C dX1_cost_66 rfl ?_
      refine gz_lstore_n (lv2 := [(3, .long (fa + ((if (bdv (he * 21 + (rov k))) = true then 1 else 0)))), (5, .long (ck + (wyv (he * 21 + (rov k))))), (10, .int (nI (he * 21 + (rov k)))), (9, .int (nI (rov k))), (0, .ref nt), (1, .ref ro), (2, .int (nI co)), (7, .int (nI he)), (8, .int (nI k))]) C dX1_cost_67 (by decide) rfl ?_
      refine gz_lload_n C 0 dX1_cost_68 rfl ?_
      refine gz_lload C 1 dX1_cost_69 rfl ?_
      refine gz_aload_n C 4 dX1_cost_71 rfl ?_
      refine gz_get (ci := 2) C iwX1 1 rfl rfl 4 (by decide) wk_33 rfl rfl dX1_cost_72 ?_
      refine gz_iload C 3 dX1_cost_75 rfl ?_
      refine gz_lald C 4 1 rfl rfl (by omega) (by decide) dX1_cost_77 ?_
      refine gz_J (ws2 := (wC xo nt es ro ad cI cJ cZ ln fz sx mo sn bw tkv opv shv ldv wyv bdv ct dA dA sta stc fev dl dnv rov)) (lv2 := [(3, .long (fa + ((if (bdv (he * 21 + (rov k))) = true then 1 else 0)))), (5, .long (ck + (wyv (he * 21 + (rov k))))), (10, .int (nI (he * 21 + (rov k)))), (9, .int (nI (rov k))), (0, .ref nt), (1, .ref ro), (2, .int (nI co)), (7, .int (nI he)), (8, .int (nI k))]) (st2 := [.long ((if (ck + (wyv (he * 21 + (rov k)))) ≤ (shv (rov k)) then 0 else 1)), .long (fa + ((if (bdv (he * 21 + (rov k))) = true then 1 else 0)))]) (pc2 := 87) ?_ (fun J_3 => ?_)
      rotate_left
      · refine gz_lcmp_le C 86 dX1_cost_78 dX1_cost_79 (by decide) (fun h_3 => ?_) (fun h_3 => ?_)
        · skip
          refine gz_lconst (v := 0) C dX1_cost_86 (by decide) ?_
          simp only [if_pos h_3] at J_3 ⊢
          exact gz_lv [0, 1, 2, 3, 4, 5, 6, 7, 8] rfl J_3
        · have g_3 : ¬ ((ck + (wyv (he * 21 + (rov k)))) ≤ (shv (rov k))) := h_3
          refine gz_lconst (v := 1) C dX1_cost_82 (by decide) ?_
          refine gz_goto C 87 dX1_cost_83 (by decide) ?_
          simp only [if_neg g_3] at J_3 ⊢
          exact gz_lv [0, 1, 2, 3, 4, 5, 6, 7, 8] rfl J_3
      refine gz_ladd (v := (fa + ((if (bdv (he * 21 + (rov k))) = true then 1 else 0))) + ((if (ck + (wyv (he * 21 + (rov k)))) ≤ (shv (rov k)) then 0 else 1))) C dX1_cost_87 rfl ?_
      refine gz_lstore_n (lv2 := [(3, .long ((fa + ((if (bdv (he * 21 + (rov k))) = true then 1 else 0))) + ((if (ck + (wyv (he * 21 + (rov k)))) ≤ (shv (rov k)) then 0 else 1)))), (5, .long (ck + (wyv (he * 21 + (rov k))))), (10, .int (nI (he * 21 + (rov k)))), (9, .int (nI (rov k))), (0, .ref nt), (1, .ref ro), (2, .int (nI co)), (7, .int (nI he)), (8, .int (nI k))]) C dX1_cost_88 (by decide) rfl ?_
      refine gz_aload_n C 4 dX1_cost_89 rfl ?_
      refine gz_iload C 3 dX1_cost_90 rfl ?_
      refine gz_lload C 1 dX1_cost_92 rfl ?_
      refine gz_callV (wr := []) (n := 2) (ws2 := (wC xo nt es ro ad cI cJ cZ ln fz sx mo sn bw tkv opv shv ldv wyv bdv ct dA dA sta stc fev dl dnv rov)) (st2 := [.long (f1_doneAt tkv opv (rov k) (ck + (wyv (he * 21 + (rov k)))))]) (cells2 := cells) (slots2 := slots) (ci := 2) C (kX1_doneAt l D xo nt es ro ad cI cJ cZ ln fz sx mo sn bw tkv opv shv ldv wyv bdv ct dA sta stc fev dl dnv rov (rov k) (ck + (wyv (he * 21 + (rov k)))) (by first | assumption | omega)) (WB_V wk_168 wk_169 wk_170 wk_2 wk_171) (by decide +kernel) ⟨⟨rfl, rfl⟩, Nat.le_trans (by decide) hR.1, Nat.le_trans (by decide) hR.2⟩ [0, 1, 2, 3, 4, 5, 6, 7, 8, 9, 10, 11] [] [0, 1, 2] rfl rfl rfl (by decide) rfl 1 rfl rfl rfl rfl (Nat.le_of_ble_eq_true rfl) dX1_cost_94 hce rfl rfl rfl ?_
      refine gz_lstore (lv2 := [(5, .long (f1_doneAt tkv opv (rov k) (ck + (wyv (he * 21 + (rov k)))))), (3, .long ((fa + ((if (bdv (he * 21 + (rov k))) = true then 1 else 0))) + ((if (ck + (wyv (he * 21 + (rov k)))) ≤ (shv (rov k)) then 0 else 1)))), (10, .int (nI (he * 21 + (rov k)))), (9, .int (nI (rov k))), (0, .ref nt), (1, .ref ro), (2, .int (nI co)), (7, .int (nI he)), (8, .int (nI k))]) C dX1_cost_97 (by decide) rfl ?_
      refine gz_iload C 3 dX1_cost_99 rfl ?_
      refine gz_istore (lv2 := [(7, .int (nI (rov k))), (5, .long (f1_doneAt tkv opv (rov k) (ck + (wyv (he * 21 + (rov k)))))), (3, .long ((fa + ((if (bdv (he * 21 + (rov k))) = true then 1 else 0))) + ((if (ck + (wyv (he * 21 + (rov k)))) ≤ (shv (rov k)) then 0 else 1)))), (10, .int (nI (he * 21 + (rov k)))), (9, .int (nI (rov k))), (0, .ref nt), (1, .ref ro), (2, .int (nI co)), (8, .int (nI k))]) C dX1_cost_101 (by decide) rfl ?_
      refine gz_iinc (v := nI (k + 1)) (lv2 := [(8, .int (nI (k + 1))), (7, .int (nI (rov k))), (5, .long (f1_doneAt tkv opv (rov k) (ck + (wyv (he * 21 + (rov k)))))), (3, .long ((fa + ((if (bdv (he * 21 + (rov k))) = true then 1 else 0))) + ((if (ck + (wyv (he * 21 + (rov k)))) ≤ (shv (rov k)) then 0 else 1)))), (10, .int (nI (he * 21 + (rov k)))), (9, .int (nI (rov k))), (0, .ref nt), (1, .ref ro), (2, .int (nI co))]) (k := 8) C dX1_cost_103 rfl (nI_add _ 1) (by decide) rfl ?_
      refine gz_goto C 17 dX1_cost_106 (by decide) ?_
      refine gz_lv [6, 7, 8, 3, 2, 1, 0] rfl ?_
      simp only [f1_cost_lp, if_neg g_1] at hx
      exact ih ((fa + ((if (bdv (he * 21 + (rov k))) = true then 1 else 0))) + ((if (ck + (wyv (he * 21 + (rov k)))) ≤ (shv (rov k)) then 0 else 1))) (f1_doneAt tkv opv (rov k) (ck + (wyv (he * 21 + (rov k))))) (rov k) (k + 1) (by omega) (by omega) hx

def f1_cost (tkv : Nat → Int64) (opv : Nat → Int64) (shv : Nat → Int64) (wyv : Nat → Int64) (bdv : Nat → Bool) (rov : Nat → Nat) (co : Nat) : Int64 := (if co = 0 then 0 else (((((f1_cost_lp tkv opv shv wyv bdv rov co 0 0 0 0).1) + ((if (bdv (((f1_cost_lp tkv opv shv wyv bdv rov co 0 0 0 0).2.2.1) * 21 + 0)) = true then 1 else 0))) * 1000000000) + ((f1_cost_lp tkv opv shv wyv bdv rov co 0 0 0 0).2.1)) + (wyv (((f1_cost_lp tkv opv shv wyv bdv rov co 0 0 0 0).2.2.1) * 21 + 0)))
set_option maxRecDepth 100000 in
set_option maxHeartbeats 4000000 in
theorem kX1_cost (l : Launch) (D : va_G) (xo : Nat) (nt : Nat) (es : Nat) (ro : Nat) (ad : Nat → Nat) (cI : ClassId) (cJ : ClassId) (cZ : ClassId) (ln : Int32) (fz : Nat) (sx : Bool) (mo : Int32) (sn : Nat) (bw : Int32) (tkv : Nat → Int64) (opv : Nat → Int64) (shv : Nat → Int64) (ldv : Nat → Int32) (wyv : Nat → Int64) (bdv : Nat → Bool) (ct : Nat) (dA : Nat) (sta : Nat) (stc : Int64) (fev : Nat → Nat) (dl : Nat) (dnv : Nat → Int64) (rov : Nat → Nat) (co : Nat) (hc : co ≤ 20) (hro : ∀ k, k < co → rov k ≤ 20) : gz_M l yX1_cost cX1_cost 11 (some .long) ({ frames := 2, cells := 0, slots := 0, locals := 46 } : Room) D [(cI, .int), (cJ, .long), (cZ, .boolean)] [.ref nt, .ref ro, .int (nI co)] (wC xo nt es ro ad cI cJ cZ ln fz sx mo sn bw tkv opv shv ldv wyv bdv ct dA dA sta stc fev dl dnv rov) (some (.long (f1_cost tkv opv shv wyv bdv rov co))) (wC xo nt es ro ad cI cJ cZ ln fz sx mo sn bw tkv opv shv ldv wyv bdv ct dA dA sta stc fev dl dnv rov) 0 0 := by
  refine gz_met l (by decide) (Nat.le_of_ble_eq_true rfl) [(0, .ref nt), (1, .ref ro), (2, .int (nI co))] rfl ?_
  intro sz p e s m args below meth c C hr hk hnm
  have C : gz_C p s m args c cX1_cost 11 RX1 D [(cI, .int), (cJ, .long), (cZ, .boolean)] (va_A (wC xo nt es ro ad cI cJ cZ ln fz sx mo sn bw tkv opv shv ldv wyv bdv ct dA dA sta stc fev dl dnv rov) sz) := C
  refine gz_iload_n C 2 dX1_cost_0 rfl ?_
  refine gz_nif_ne C 6 (by omega) dX1_cost_1 (by decide) (fun h_1 => ?_) (fun h_1 => ?_)
  · have g_1 : ¬ (co = 0) := h_1
    refine gz_lconst (v := 0) C dX1_cost_6 (by decide) ?_
    refine gz_lstore_n (lv2 := [(3, .long 0), (0, .ref nt), (1, .ref ro), (2, .int (nI co))]) C dX1_cost_7 (by decide) rfl ?_
    refine gz_lconst (v := 0) C dX1_cost_8 (by decide) ?_
    refine gz_lstore (lv2 := [(5, .long 0), (3, .long 0), (0, .ref nt), (1, .ref ro), (2, .int (nI co))]) C dX1_cost_9 (by decide) rfl ?_
    refine gz_iconst (v := nI 0) C dX1_cost_11 (by decide) ?_
    refine gz_istore (lv2 := [(7, .int (nI 0)), (5, .long 0), (3, .long 0), (0, .ref nt), (1, .ref ro), (2, .int (nI co))]) C dX1_cost_12 (by decide) rfl ?_
    refine gz_iconst (v := nI 0) C dX1_cost_14 (by decide) ?_
    refine gz_istore (lv2 := [(8, .int (nI 0)), (7, .int (nI 0)), (5, .long 0), (3, .long 0), (0, .ref nt), (1, .ref ro), (2, .int (nI co))]) C dX1_cost_15 (by decide) rfl ?_
    refine gz_lv (lv2 := [(0, .ref nt), (1, .ref ro), (2, .int (nI co)), (3, .long 0), (5, .long 0), (7, .int (nI 0)), (8, .int (nI 0))]) [4, 5, 6, 3, 2, 1, 0] rfl ?_
    refine lX1_cost_lp xo nt es ro ad cI cJ cZ ln fz sx mo sn bw tkv opv shv ldv wyv bdv ct dA sta stc fev dl dnv rov co (by first | assumption | omega) (by first | assumption | omega) ⟨Nat.le_of_ble_eq_true rfl, Nat.le_of_ble_eq_true rfl⟩ ⟨Nat.zero_le _, Nat.zero_le _⟩ C co 0 0 0 0 (by omega) (by first | assumption | omega) ?_
    intro zme_lp zhhe_lp
    refine gz_iload C 5 dX1_cost_109 rfl ?_
    refine gz_iconst (v := nI 0) C dX1_cost_111 (by decide) ?_
    refine gz_callS (wr := []) (n := 2) (ws2 := (wC xo nt es ro ad cI cJ cZ ln fz sx mo sn bw tkv opv shv ldv wyv bdv ct dA dA sta stc fev dl dnv rov)) (st2 := [.int (nI (((f1_cost_lp tkv opv shv wyv bdv rov co 0 0 0 0).2.2.1) * 21 + 0))]) (cells2 := 0) (slots2 := 0) C (kX1_between l D xo nt es ro ad cI cJ cZ ln fz sx mo sn bw tkv opv shv ldv wyv bdv ct dA sta stc fev dl dnv rov ((f1_cost_lp tkv opv shv wyv bdv rov co 0 0 0 0).2.2.1) 0 ) (WB_S wk_130 wk_131 wk_2 wk_132) (by decide +kernel) ⟨⟨rfl, rfl⟩, Nat.le_of_ble_eq_true rfl, Nat.le_of_ble_eq_true rfl⟩ [0, 1, 2, 3, 4, 5, 6, 7, 8, 9, 10, 11] [] [0, 1, 2] rfl rfl rfl (by decide) rfl rfl rfl (Nat.le_of_ble_eq_true rfl) dX1_cost_112 ⟨Nat.zero_le _, Nat.zero_le _⟩ rfl rfl rfl ?_
    refine gz_istore (lv2 := [(8, .int (nI (((f1_cost_lp tkv opv shv wyv bdv rov co 0 0 0 0).2.2.1) * 21 + 0))), (0, .ref nt), (1, .ref ro), (2, .int (nI co)), (3, .long ((f1_cost_lp tkv opv shv wyv bdv rov co 0 0 0 0).1)), (5, .long ((f1_cost_lp tkv opv shv wyv bdv rov co 0 0 0 0).2.1)), (7, .int (nI ((f1_cost_lp tkv opv shv wyv bdv rov co 0 0 0 0).2.2.1)))]) C dX1_cost_115 (by decide) rfl ?_
    refine gz_lload_n C 4 dX1_cost_117 rfl ?_
    refine gz_aload_n C 1 dX1_cost_118 rfl ?_
    refine gz_get (ci := 2) C iwX1 1 rfl rfl 7 (by decide) wk_36 rfl rfl dX1_cost_119 ?_
    refine gz_iload C 0 dX1_cost_122 rfl ?_
    refine gz_zald C 7 2 rfl rfl (by omega) (by decide) dX1_cost_124 ?_
    refine gz_J (ws2 := (wC xo nt es ro ad cI cJ cZ ln fz sx mo sn bw tkv opv shv ldv wyv bdv ct dA dA sta stc fev dl dnv rov)) (lv2 := [(8, .int (nI (((f1_cost_lp tkv opv shv wyv bdv rov co 0 0 0 0).2.2.1) * 21 + 0))), (0, .ref nt), (1, .ref ro), (2, .int (nI co)), (3, .long ((f1_cost_lp tkv opv shv wyv bdv rov co 0 0 0 0).1)), (5, .long ((f1_cost_lp tkv opv shv wyv bdv rov co 0 0 0 0).2.1)), (7, .int (nI ((f1_cost_lp tkv opv shv wyv bdv rov co 0 0 0 0).2.2.1)))]) (st2 := [.long ((if (bdv (((f1_cost_lp tkv opv shv wyv bdv rov co 0 0 0 0).2.2.1) * 21 + 0)) = true then 1 else 0)), .long ((f1_cost_lp tkv opv shv wyv bdv rov co 0 0 0 0).1)]) (pc2 := 133) ?_ (fun J_2 => ?_)
    rotate_left
    · refine gz_bif_eq C 132 dX1_cost_125 (by decide) (fun h_2 => ?_) (fun h_2 => ?_)
      · have g_2 : ¬ ((bdv (((f1_cost_lp tkv opv shv wyv bdv rov co 0 0 0 0).2.2.1) * 21 + 0)) = true) := (by rw [h_2]; decide)
        refine gz_lconst (v := 0) C dX1_cost_132 (by decide) ?_
        simp only [if_neg g_2] at J_2 ⊢
        exact gz_lv [0, 1, 2, 3, 4, 5, 6] rfl J_2
      · skip
        refine gz_lconst (v := 1) C dX1_cost_128 (by decide) ?_
        refine gz_goto C 133 dX1_cost_129 (by decide) ?_
        simp only [if_pos h_2] at J_2 ⊢
        exact gz_lv [0, 1, 2, 3, 4, 5, 6] rfl J_2
    refine gz_ladd (v := ((f1_cost_lp tkv opv shv wyv bdv rov co 0 0 0 0).1) + ((if (bdv (((f1_cost_lp tkv opv shv wyv bdv rov co 0 0 0 0).2.2.1) * 21 + 0)) = true then 1 else 0))) C dX1_cost_133 rfl ?_
    refine gz_lstore_n (lv2 := [(3, .long (((f1_cost_lp tkv opv shv wyv bdv rov co 0 0 0 0).1) + ((if (bdv (((f1_cost_lp tkv opv shv wyv bdv rov co 0 0 0 0).2.2.1) * 21 + 0)) = true then 1 else 0)))), (8, .int (nI (((f1_cost_lp tkv opv shv wyv bdv rov co 0 0 0 0).2.2.1) * 21 + 0))), (0, .ref nt), (1, .ref ro), (2, .int (nI co)), (5, .long ((f1_cost_lp tkv opv shv wyv bdv rov co 0 0 0 0).2.1)), (7, .int (nI ((f1_cost_lp tkv opv shv wyv bdv rov co 0 0 0 0).2.2.1)))]) C dX1_cost_134 (by decide) rfl ?_
    refine gz_lload_n C 0 dX1_cost_135 rfl ?_
    refine gz_ldc2 (v := 1000000000) C wk_222 dX1_cost_136 ?_
    refine gz_lmul (v := (((f1_cost_lp tkv opv shv wyv bdv rov co 0 0 0 0).1) + ((if (bdv (((f1_cost_lp tkv opv shv wyv bdv rov co 0 0 0 0).2.2.1) * 21 + 0)) = true then 1 else 0))) * 1000000000) C dX1_cost_139 rfl ?_
    refine gz_lload C 5 dX1_cost_140 rfl ?_
    refine gz_ladd (v := ((((f1_cost_lp tkv opv shv wyv bdv rov co 0 0 0 0).1) + ((if (bdv (((f1_cost_lp tkv opv shv wyv bdv rov co 0 0 0 0).2.2.1) * 21 + 0)) = true then 1 else 0))) * 1000000000) + ((f1_cost_lp tkv opv shv wyv bdv rov co 0 0 0 0).2.1)) C dX1_cost_142 rfl ?_
    refine gz_aload_n C 2 dX1_cost_143 rfl ?_
    refine gz_get (ci := 2) C iwX1 1 rfl rfl 6 (by decide) wk_35 rfl rfl dX1_cost_144 ?_
    refine gz_iload C 1 dX1_cost_147 rfl ?_
    refine gz_lald C 6 1 rfl rfl (by omega) (by decide) dX1_cost_149 ?_
    refine gz_ladd (v := (((((f1_cost_lp tkv opv shv wyv bdv rov co 0 0 0 0).1) + ((if (bdv (((f1_cost_lp tkv opv shv wyv bdv rov co 0 0 0 0).2.2.1) * 21 + 0)) = true then 1 else 0))) * 1000000000) + ((f1_cost_lp tkv opv shv wyv bdv rov co 0 0 0 0).2.1)) + (wyv (((f1_cost_lp tkv opv shv wyv bdv rov co 0 0 0 0).2.2.1) * 21 + 0))) C dX1_cost_150 rfl ?_
    exact gz_lret C hr hk (by first | rfl | (simp only [f1_cost, if_neg g_1]) | (simp only [f1_cost, if_neg g_1]; rfl)) rfl (Nat.le_refl _) (Nat.le_refl _) dX1_cost_151
  · skip
    refine gz_lconst (v := 0) C dX1_cost_4 (by decide) ?_
    exact gz_lret C hr hk (by first | rfl | (simp only [f1_cost, if_pos h_1]) | (simp only [f1_cost, if_pos h_1]; rfl)) rfl (Nat.le_refl _) (Nat.le_refl _) dX1_cost_5

def f1_home (tkv : Nat → Int64) (opv : Nat → Int64) (shv : Nat → Int64) (wyv : Nat → Int64) (bdv : Nat → Bool) (rov : Nat → Nat) (co : Nat) : Int64 := (f1_cost tkv opv shv wyv bdv rov co) - (f1_cost tkv opv shv wyv bdv rov co) / 1000000000 * 1000000000
set_option maxRecDepth 100000 in
set_option maxHeartbeats 4000000 in
theorem kX1_home (l : Launch) (D : va_G) (xo : Nat) (nt : Nat) (es : Nat) (ro : Nat) (ad : Nat → Nat) (cI : ClassId) (cJ : ClassId) (cZ : ClassId) (ln : Int32) (fz : Nat) (sx : Bool) (mo : Int32) (sn : Nat) (bw : Int32) (tkv : Nat → Int64) (opv : Nat → Int64) (shv : Nat → Int64) (ldv : Nat → Int32) (wyv : Nat → Int64) (bdv : Nat → Bool) (ct : Nat) (dA : Nat) (sta : Nat) (stc : Int64) (fev : Nat → Nat) (dl : Nat) (dnv : Nat → Int64) (rov : Nat → Nat) (co : Nat) (hc : co ≤ 20) (hro : ∀ k, k < co → rov k ≤ 20) : gz_M l yX1_home cX1_home 3 (some .long) ({ frames := 3, cells := 0, slots := 0, locals := 76 } : Room) D [(cI, .int), (cJ, .long), (cZ, .boolean)] [.ref nt, .ref ro, .int (nI co)] (wC xo nt es ro ad cI cJ cZ ln fz sx mo sn bw tkv opv shv ldv wyv bdv ct dA dA sta stc fev dl dnv rov) (some (.long (f1_home tkv opv shv wyv bdv rov co))) (wC xo nt es ro ad cI cJ cZ ln fz sx mo sn bw tkv opv shv ldv wyv bdv ct dA dA sta stc fev dl dnv rov) 0 0 := by
  refine gz_met l (by decide) (Nat.le_of_ble_eq_true rfl) [(0, .ref nt), (1, .ref ro), (2, .int (nI co))] rfl ?_
  intro sz p e s m args below meth c C hr hk hnm
  have C : gz_C p s m args c cX1_home 3 RX1 D [(cI, .int), (cJ, .long), (cZ, .boolean)] (va_A (wC xo nt es ro ad cI cJ cZ ln fz sx mo sn bw tkv opv shv ldv wyv bdv ct dA dA sta stc fev dl dnv rov) sz) := C
  refine gz_aload_n C 0 dX1_home_0 rfl ?_
  refine gz_aload_n C 1 dX1_home_1 rfl ?_
  refine gz_iload_n C 2 dX1_home_2 rfl ?_
  refine gz_callV (wr := []) (n := 2) (ws2 := (wC xo nt es ro ad cI cJ cZ ln fz sx mo sn bw tkv opv shv ldv wyv bdv ct dA dA sta stc fev dl dnv rov)) (st2 := [.long (f1_cost tkv opv shv wyv bdv rov co)]) (cells2 := 0) (slots2 := 0) (ci := 2) C (kX1_cost l D xo nt es ro ad cI cJ cZ ln fz sx mo sn bw tkv opv shv ldv wyv bdv ct dA sta stc fev dl dnv rov co (by first | assumption | omega) (by first | assumption | omega)) (WB_V wk_239 wk_219 wk_220 wk_2 wk_221) (by decide +kernel) ⟨⟨rfl, rfl⟩, Nat.le_of_ble_eq_true rfl, Nat.le_of_ble_eq_true rfl⟩ [0, 1, 2, 3, 4, 5, 6, 7, 8, 9, 10, 11] [] [0, 1, 2] rfl rfl rfl (by decide) rfl 1 rfl rfl rfl rfl (Nat.le_of_ble_eq_true rfl) dX1_home_3 ⟨Nat.zero_le _, Nat.zero_le _⟩ rfl rfl rfl ?_
  refine gz_ldc2 (v := 1000000000) C wk_222 dX1_home_6 ?_
  refine gz_lrem (v := (f1_cost tkv opv shv wyv bdv rov co) - (f1_cost tkv opv shv wyv bdv rov co) / 1000000000 * 1000000000) C dX1_home_9 (by decide) rfl ?_
  exact gz_lret C hr hk (by first | rfl | (simp only [f1_home]) | (simp only [f1_home]; rfl)) rfl (Nat.le_refl _) (Nat.le_refl _) dX1_home_10

def f1_lateStop_lp (tkv : Nat → Int64) (opv : Nat → Int64) (shv : Nat → Int64) (wyv : Nat → Int64) (rov : Nat → Nat) (y : Int32) : Nat → Nat → Int64 → Nat → Nat → Int32
  | 0, u, ck, he, k => nI 0
  | n + 1, u, ck, he, k => if (ck + (wyv (he * 21 + (rov k)))) ≤ (shv (rov k)) then f1_lateStop_lp tkv opv shv wyv rov y n u (f1_doneAt tkv opv (rov k) (ck + (wyv (he * 21 + (rov k))))) (rov k) (k + 1) else if (nI u) = y then nI (rov k) else f1_lateStop_lp tkv opv shv wyv rov y n (u + 1) (f1_doneAt tkv opv (rov k) (ck + (wyv (he * 21 + (rov k))))) (rov k) (k + 1)
set_option maxRecDepth 100000 in
set_option maxHeartbeats 4000000 in
theorem lX1_lateStop_lp {p : Program} {l : Launch} {e : Env} {R : Room} {s : State} {m : MethodId} {args : Array Value} {below : List Frame} {meth : Method} {c : Code} {cells slots mc ms : Nat} {A : Nat → Prop} {ov : Option Value} {D : va_G} (xo : Nat) (nt : Nat) (es : Nat) (ro : Nat) (ad : Nat → Nat) (cI : ClassId) (cJ : ClassId) (cZ : ClassId) (ln : Int32) (fz : Nat) (sx : Bool) (mo : Int32) (sn : Nat) (bw : Int32) (tkv : Nat → Int64) (opv : Nat → Int64) (shv : Nat → Int64) (ldv : Nat → Int32) (wyv : Nat → Int64) (bdv : Nat → Bool) (ct : Nat) (dA : Nat) (sta : Nat) (stc : Int64) (fev : Nat → Nat) (dl : Nat) (dnv : Nat → Int64) (rov : Nat → Nat) (co : Nat) (y : Int32) (hc : co ≤ 20) (hro : ∀ k, k < co → rov k ≤ 20) (hR : 2 ≤ R.frames ∧ 46 ≤ R.locals) (hce : cells ≤ R.cells ∧ slots ≤ R.slots) (C : gz_C p s m args c cX1_lateStop 10 RX1 D [(cI, .int), (cJ, .long), (cZ, .boolean)] A) (hr : meth.sig.returnType = (some .int)) (hk : meth.locks = false) (hcm : cells ≤ mc) (hsm : slots ≤ ms) : ∀ (n : Nat) (u : Nat) (ck : Int64) (he : Nat) (k : Nat), (k + n = co) → (he ≤ 20) → some (.int (f1_lateStop_lp tkv opv shv wyv rov y n u ck he k)) = ov → GZ p l e R s m args below meth c 10 D A cells slots (MQ below (gz_Q D [(cI, .int), (cJ, .long), (cZ, .boolean)] ov (wC xo nt es ro ad cI cJ cZ ln fz sx mo sn bw tkv opv shv ldv wyv bdv ct dA dA sta stc fev dl dnv rov) A) args s mc ms A) (wC xo nt es ro ad cI cJ cZ ln fz sx mo sn bw tkv opv shv ldv wyv bdv ct dA dA sta stc fev dl dnv rov) [(0, .ref nt), (1, .ref ro), (2, .int (nI co)), (3, .int y), (4, .int (nI u)), (5, .long ck), (7, .int (nI he)), (8, .int (nI k))] [] 12 := by
  intro n
  induction n with
  | zero =>
    intro u ck he k hme hhe hov
    refine gz_iload C 7 dX1_lateStop_12 rfl ?_
    refine gz_iload_n C 2 dX1_lateStop_14 rfl ?_
    refine gz_ncmp_ge C 86 (by omega) (by omega) dX1_lateStop_15 (by decide) (fun h_1 => ?_) (fun h_1 => ?_)
    · skip
      refine gz_iconst (v := nI 0) C dX1_lateStop_86 (by decide) ?_
      exact gz_iret C hr hk (by rw [← hov]; first | rfl | (simp only [f1_lateStop_lp, if_pos h_1])) rfl hcm hsm dX1_lateStop_87
    · have g_1 : ¬ (co ≤ k) := (Nat.not_le.mpr h_1)
      exfalso; omega
  | succ n ih =>
    intro u ck he k hme hhe hov
    refine gz_iload C 7 dX1_lateStop_12 rfl ?_
    refine gz_iload_n C 2 dX1_lateStop_14 rfl ?_
    refine gz_ncmp_ge C 86 (by omega) (by omega) dX1_lateStop_15 (by decide) (fun h_1 => ?_) (fun h_1 => ?_)
    · skip
      exfalso; omega
    · have g_1 : ¬ (co ≤ k) := (Nat.not_le.mpr h_1)
      have hq := hro k (by omega)
      refine gz_aload_n C 1 dX1_lateStop_18 rfl ?_
      refine gz_iload C 7 dX1_lateStop_19 rfl ?_
      refine gz_iald C 11 0 rfl rfl (by omega) (by decide) dX1_lateStop_21 ?_
      refine gz_istore (lv2 := [(9, .int (nI (rov k))), (0, .ref nt), (1, .ref ro), (2, .int (nI co)), (3, .int y), (4, .int (nI u)), (5, .long ck), (7, .int (nI he)), (8, .int (nI k))]) C dX1_lateStop_22 (by decide) rfl ?_
      refine gz_lload C 6 dX1_lateStop_24 rfl ?_
      refine gz_aload_n C 1 dX1_lateStop_26 rfl ?_
      refine gz_get (ci := 2) C iwX1 1 rfl rfl 6 (by decide) wk_35 rfl rfl dX1_lateStop_27 ?_
      refine gz_iload C 7 dX1_lateStop_30 rfl ?_
      refine gz_iload C 0 dX1_lateStop_32 rfl ?_
      refine gz_callS (wr := []) (n := 2) (ws2 := (wC xo nt es ro ad cI cJ cZ ln fz sx mo sn bw tkv opv shv ldv wyv bdv ct dA dA sta stc fev dl dnv rov)) (st2 := [.int (nI (he * 21 + (rov k))), .ref ((ad 6)), .long ck]) (cells2 := cells) (slots2 := slots) C (kX1_between l D xo nt es ro ad cI cJ cZ ln fz sx mo sn bw tkv opv shv ldv wyv bdv ct dA sta stc fev dl dnv rov he (rov k) ) (WB_S wk_130 wk_131 wk_2 wk_132) (by decide +kernel) ⟨⟨rfl, rfl⟩, Nat.le_trans (by decide) hR.1, Nat.le_trans (by decide) hR.2⟩ [0, 1, 2, 3, 4, 5, 6, 7, 8, 9, 10, 11] [] [0, 1, 2] rfl rfl rfl (by decide) rfl rfl rfl (Nat.le_of_ble_eq_true rfl) dX1_lateStop_34 hce rfl rfl rfl ?_
      refine gz_lald C 6 1 rfl rfl (by omega) (by decide) dX1_lateStop_37 ?_
      refine gz_ladd (v := ck + (wyv (he * 21 + (rov k)))) C dX1_lateStop_38 rfl ?_
      refine gz_lstore (lv2 := [(5, .long (ck + (wyv (he * 21 + (rov k))))), (9, .int (nI (rov k))), (0, .ref nt), (1, .ref ro), (2, .int (nI co)), (3, .int y), (4, .int (nI u)), (7, .int (nI he)), (8, .int (nI k))]) C dX1_lateStop_39 (by decide) rfl ?_
      refine gz_lload C 0 dX1_lateStop_41 rfl ?_
      refine gz_aload_n C 2 dX1_lateStop_43 rfl ?_
      refine gz_get (ci := 2) C iwX1 1 rfl rfl 4 (by decide) wk_33 rfl rfl dX1_lateStop_44 ?_
      refine gz_iload C 1 dX1_lateStop_47 rfl ?_
      refine gz_lald C 4 1 rfl rfl (by omega) (by decide) dX1_lateStop_49 ?_
      refine gz_lcmp_le C 66 dX1_lateStop_50 dX1_lateStop_51 (by decide) (fun h_2 => ?_) (fun h_2 => ?_)
      · skip
        refine gz_aload_n C 2 dX1_lateStop_66 rfl ?_
        refine gz_iload C 1 dX1_lateStop_67 rfl ?_
        refine gz_lload C 0 dX1_lateStop_69 rfl ?_
        refine gz_callV (wr := []) (n := 2) (ws2 := (wC xo nt es ro ad cI cJ cZ ln fz sx mo sn bw tkv opv shv ldv wyv bdv ct dA dA sta stc fev dl dnv rov)) (st2 := [.long (f1_doneAt tkv opv (rov k) (ck + (wyv (he * 21 + (rov k)))))]) (cells2 := cells) (slots2 := slots) (ci := 2) C (kX1_doneAt l D xo nt es ro ad cI cJ cZ ln fz sx mo sn bw tkv opv shv ldv wyv bdv ct dA sta stc fev dl dnv rov (rov k) (ck + (wyv (he * 21 + (rov k)))) (by first | assumption | omega)) (WB_V wk_168 wk_169 wk_170 wk_2 wk_171) (by decide +kernel) ⟨⟨rfl, rfl⟩, Nat.le_trans (by decide) hR.1, Nat.le_trans (by decide) hR.2⟩ [0, 1, 2, 3, 4, 5, 6, 7, 8, 9, 10, 11] [] [0, 1, 2] rfl rfl rfl (by decide) rfl 1 rfl rfl rfl rfl (Nat.le_of_ble_eq_true rfl) dX1_lateStop_71 hce rfl rfl rfl ?_
        refine gz_lstore (lv2 := [(5, .long (f1_doneAt tkv opv (rov k) (ck + (wyv (he * 21 + (rov k)))))), (9, .int (nI (rov k))), (0, .ref nt), (1, .ref ro), (2, .int (nI co)), (3, .int y), (4, .int (nI u)), (7, .int (nI he)), (8, .int (nI k))]) C dX1_lateStop_74 (by decide) rfl ?_
        refine gz_iload C 1 dX1_lateStop_76 rfl ?_
        refine gz_istore (lv2 := [(7, .int (nI (rov k))), (5, .long (f1_doneAt tkv opv (rov k) (ck + (wyv (he * 21 + (rov k)))))), (9, .int (nI (rov k))), (0, .ref nt), (1, .ref ro), (2, .int (nI co)), (3, .int y), (4, .int (nI u)), (8, .int (nI k))]) C dX1_lateStop_78 (by decide) rfl ?_
        refine gz_iinc (v := nI (k + 1)) (lv2 := [(8, .int (nI (k + 1))), (7, .int (nI (rov k))), (5, .long (f1_doneAt tkv opv (rov k) (ck + (wyv (he * 21 + (rov k)))))), (9, .int (nI (rov k))), (0, .ref nt), (1, .ref ro), (2, .int (nI co)), (3, .int y), (4, .int (nI u))]) (k := 8) C dX1_lateStop_80 rfl (nI_add _ 1) (by decide) rfl ?_
        refine gz_goto C 12 dX1_lateStop_83 (by decide) ?_
        refine gz_lv [4, 5, 6, 7, 8, 2, 1, 0] rfl ?_
        simp only [f1_lateStop_lp, if_neg g_1, if_pos h_2] at hov
        exact ih u (f1_doneAt tkv opv (rov k) (ck + (wyv (he * 21 + (rov k))))) (rov k) (k + 1) (by omega) (by omega) hov
      · have g_2 : ¬ ((ck + (wyv (he * 21 + (rov k)))) ≤ (shv (rov k))) := h_2
        refine gz_iload C 6 dX1_lateStop_54 rfl ?_
        refine gz_iload_n C 5 dX1_lateStop_56 rfl ?_
        refine gz_icmp_ne C 63 dX1_lateStop_57 (by decide) (fun h_3 => ?_) (fun h_3 => ?_)
        · have g_3 : ¬ ((nI u) = y) := h_3
          refine gz_iinc (v := nI (u + 1)) (lv2 := [(4, .int (nI (u + 1))), (5, .long (ck + (wyv (he * 21 + (rov k))))), (9, .int (nI (rov k))), (0, .ref nt), (1, .ref ro), (2, .int (nI co)), (3, .int y), (7, .int (nI he)), (8, .int (nI k))]) (k := 6) C dX1_lateStop_63 rfl (nI_add _ 1) (by decide) rfl ?_
          refine gz_aload_n C 3 dX1_lateStop_66 rfl ?_
          refine gz_iload C 2 dX1_lateStop_67 rfl ?_
          refine gz_lload C 1 dX1_lateStop_69 rfl ?_
          refine gz_callV (wr := []) (n := 2) (ws2 := (wC xo nt es ro ad cI cJ cZ ln fz sx mo sn bw tkv opv shv ldv wyv bdv ct dA dA sta stc fev dl dnv rov)) (st2 := [.long (f1_doneAt tkv opv (rov k) (ck + (wyv (he * 21 + (rov k)))))]) (cells2 := cells) (slots2 := slots) (ci := 2) C (kX1_doneAt l D xo nt es ro ad cI cJ cZ ln fz sx mo sn bw tkv opv shv ldv wyv bdv ct dA sta stc fev dl dnv rov (rov k) (ck + (wyv (he * 21 + (rov k)))) (by first | assumption | omega)) (WB_V wk_168 wk_169 wk_170 wk_2 wk_171) (by decide +kernel) ⟨⟨rfl, rfl⟩, Nat.le_trans (by decide) hR.1, Nat.le_trans (by decide) hR.2⟩ [0, 1, 2, 3, 4, 5, 6, 7, 8, 9, 10, 11] [] [0, 1, 2] rfl rfl rfl (by decide) rfl 1 rfl rfl rfl rfl (Nat.le_of_ble_eq_true rfl) dX1_lateStop_71 hce rfl rfl rfl ?_
          refine gz_lstore (lv2 := [(5, .long (f1_doneAt tkv opv (rov k) (ck + (wyv (he * 21 + (rov k)))))), (4, .int (nI (u + 1))), (9, .int (nI (rov k))), (0, .ref nt), (1, .ref ro), (2, .int (nI co)), (3, .int y), (7, .int (nI he)), (8, .int (nI k))]) C dX1_lateStop_74 (by decide) rfl ?_
          refine gz_iload C 2 dX1_lateStop_76 rfl ?_
          refine gz_istore (lv2 := [(7, .int (nI (rov k))), (5, .long (f1_doneAt tkv opv (rov k) (ck + (wyv (he * 21 + (rov k)))))), (4, .int (nI (u + 1))), (9, .int (nI (rov k))), (0, .ref nt), (1, .ref ro), (2, .int (nI co)), (3, .int y), (8, .int (nI k))]) C dX1_lateStop_78 (by decide) rfl ?_
          refine gz_iinc (v := nI (k + 1)) (lv2 := [(8, .int (nI (k + 1))), (7, .int (nI (rov k))), (5, .long (f1_doneAt tkv opv (rov k) (ck + (wyv (he * 21 + (rov k)))))), (4, .int (nI (u + 1))), (9, .int (nI (rov k))), (0, .ref nt), (1, .ref ro), (2, .int (nI co)), (3, .int y)]) (k := 8) C dX1_lateStop_80 rfl (nI_add _ 1) (by decide) rfl ?_
          refine gz_goto C 12 dX1_lateStop_83 (by decide) ?_
          refine gz_lv [5, 6, 7, 8, 3, 2, 1, 0] rfl ?_
          simp only [f1_lateStop_lp, if_neg g_1, if_neg g_2, if_neg g_3] at hov
          exact ih (u + 1) (f1_doneAt tkv opv (rov k) (ck + (wyv (he * 21 + (rov k))))) (rov k) (k + 1) (by omega) (by omega) hov
        · skip
          refine gz_iload C 1 dX1_lateStop_60 rfl ?_
          exact gz_iret C hr hk (by rw [← hov]; first | rfl | (simp only [f1_lateStop_lp, if_neg g_1, if_neg g_2, if_pos h_3])) rfl hcm hsm dX1_lateStop_62

def f1_lateStop (tkv : Nat → Int64) (opv : Nat → Int64) (shv : Nat → Int64) (wyv : Nat → Int64) (rov : Nat → Nat) (co : Nat) (y : Int32) : Int32 := f1_lateStop_lp tkv opv shv wyv rov y co 0 0 0 0
set_option maxRecDepth 100000 in
set_option maxHeartbeats 4000000 in
theorem kX1_lateStop (l : Launch) (D : va_G) (xo : Nat) (nt : Nat) (es : Nat) (ro : Nat) (ad : Nat → Nat) (cI : ClassId) (cJ : ClassId) (cZ : ClassId) (ln : Int32) (fz : Nat) (sx : Bool) (mo : Int32) (sn : Nat) (bw : Int32) (tkv : Nat → Int64) (opv : Nat → Int64) (shv : Nat → Int64) (ldv : Nat → Int32) (wyv : Nat → Int64) (bdv : Nat → Bool) (ct : Nat) (dA : Nat) (sta : Nat) (stc : Int64) (fev : Nat → Nat) (dl : Nat) (dnv : Nat → Int64) (rov : Nat → Nat) (co : Nat) (y : Int32) (hc : co ≤ 20) (hro : ∀ k, k < co → rov k ≤ 20) : gz_M l yX1_lateStop cX1_lateStop 10 (some .int) ({ frames := 2, cells := 0, slots := 0, locals := 46 } : Room) D [(cI, .int), (cJ, .long), (cZ, .boolean)] [.ref nt, .ref ro, .int (nI co), .int y] (wC xo nt es ro ad cI cJ cZ ln fz sx mo sn bw tkv opv shv ldv wyv bdv ct dA dA sta stc fev dl dnv rov) (some (.int (f1_lateStop tkv opv shv wyv rov co y))) (wC xo nt es ro ad cI cJ cZ ln fz sx mo sn bw tkv opv shv ldv wyv bdv ct dA dA sta stc fev dl dnv rov) 0 0 := by
  refine gz_met l (by decide) (Nat.le_of_ble_eq_true rfl) [(0, .ref nt), (1, .ref ro), (2, .int (nI co)), (3, .int y)] rfl ?_
  intro sz p e s m args below meth c C hr hk hnm
  have C : gz_C p s m args c cX1_lateStop 10 RX1 D [(cI, .int), (cJ, .long), (cZ, .boolean)] (va_A (wC xo nt es ro ad cI cJ cZ ln fz sx mo sn bw tkv opv shv ldv wyv bdv ct dA dA sta stc fev dl dnv rov) sz) := C
  refine gz_iconst (v := nI 0) C dX1_lateStop_0 (by decide) ?_
  refine gz_istore (lv2 := [(4, .int (nI 0)), (0, .ref nt), (1, .ref ro), (2, .int (nI co)), (3, .int y)]) C dX1_lateStop_1 (by decide) rfl ?_
  refine gz_lconst (v := 0) C dX1_lateStop_3 (by decide) ?_
  refine gz_lstore (lv2 := [(5, .long 0), (4, .int (nI 0)), (0, .ref nt), (1, .ref ro), (2, .int (nI co)), (3, .int y)]) C dX1_lateStop_4 (by decide) rfl ?_
  refine gz_iconst (v := nI 0) C dX1_lateStop_6 (by decide) ?_
  refine gz_istore (lv2 := [(7, .int (nI 0)), (5, .long 0), (4, .int (nI 0)), (0, .ref nt), (1, .ref ro), (2, .int (nI co)), (3, .int y)]) C dX1_lateStop_7 (by decide) rfl ?_
  refine gz_iconst (v := nI 0) C dX1_lateStop_9 (by decide) ?_
  refine gz_istore (lv2 := [(8, .int (nI 0)), (7, .int (nI 0)), (5, .long 0), (4, .int (nI 0)), (0, .ref nt), (1, .ref ro), (2, .int (nI co)), (3, .int y)]) C dX1_lateStop_10 (by decide) rfl ?_
  refine gz_lv (lv2 := [(0, .ref nt), (1, .ref ro), (2, .int (nI co)), (3, .int y), (4, .int (nI 0)), (5, .long 0), (7, .int (nI 0)), (8, .int (nI 0))]) [4, 5, 6, 7, 3, 2, 1, 0] rfl ?_
  exact lX1_lateStop_lp xo nt es ro ad cI cJ cZ ln fz sx mo sn bw tkv opv shv ldv wyv bdv ct dA sta stc fev dl dnv rov co y (by first | assumption | omega) (by first | assumption | omega) ⟨Nat.le_of_ble_eq_true rfl, Nat.le_of_ble_eq_true rfl⟩ ⟨Nat.zero_le _, Nat.zero_le _⟩ C hr hk (Nat.le_refl _) (Nat.le_refl _) co 0 0 0 0 (by omega) (by first | assumption | omega) (by first | rfl | (simp only [f1_lateStop]) | (simp only [f1_lateStop]; rfl))

def f1_leastWayTo_lp (wyv : Nat → Int64) (bdv : Nat → Bool) (b : Nat) : Nat → Int64 → Nat → Int64 × Nat
  | 0, le, a => (le, a)
  | n + 1, le, a => f1_leastWayTo_lp wyv bdv b n ((if a = b then le else (if (bdv (a * 21 + b)) = true then le else (if wyv (a * 21 + b) < le then wyv (a * 21 + b) else le)))) (a + 1)
set_option maxRecDepth 100000 in
set_option maxHeartbeats 4000000 in
theorem lX1_leastWayTo_lp {p : Program} {l : Launch} {e : Env} {R : Room} {s : State} {m : MethodId} {args : Array Value} {below : List Frame} {meth : Method} {c : Code} {cells slots : Nat} {Q : State → Prop} {A : Nat → Prop} {D : va_G} (xo : Nat) (nt : Nat) (es : Nat) (ro : Nat) (ad : Nat → Nat) (cI : ClassId) (cJ : ClassId) (cZ : ClassId) (ln : Int32) (fz : Nat) (sx : Bool) (mo : Int32) (sn : Nat) (bw : Int32) (tkv : Nat → Int64) (opv : Nat → Int64) (shv : Nat → Int64) (ldv : Nat → Int32) (wyv : Nat → Int64) (bdv : Nat → Bool) (ct : Nat) (dA : Nat) (sta : Nat) (stc : Int64) (fev : Nat → Nat) (dl : Nat) (dnv : Nat → Int64) (rov : Nat → Nat) (b : Nat) (hsn : sn ≤ 20) (hb : b ≤ 20) (hR : 1 ≤ R.frames ∧ 23 ≤ R.locals) (hce : cells ≤ R.cells ∧ slots ≤ R.slots) (C : gz_C p s m args c cX1_leastWayTo 6 RX1 D [(cI, .int), (cJ, .long), (cZ, .boolean)] A) : ∀ (n : Nat) (le : Int64) (a : Nat), (a + n = sn + 1) → ((((f1_leastWayTo_lp wyv bdv b n le a).2) + 0 = sn + 1) → GZ p l e R s m args below meth c 6 D A cells slots Q (wC xo nt es ro ad cI cJ cZ ln fz sx mo sn bw tkv opv shv ldv wyv bdv ct dA dA sta stc fev dl dnv rov) [(0, .ref nt), (1, .int (nI b)), (2, .long ((f1_leastWayTo_lp wyv bdv b n le a).1)), (4, .int (nI ((f1_leastWayTo_lp wyv bdv b n le a).2)))] [] 58) → GZ p l e R s m args below meth c 6 D A cells slots Q (wC xo nt es ro ad cI cJ cZ ln fz sx mo sn bw tkv opv shv ldv wyv bdv ct dA dA sta stc fev dl dnv rov) [(0, .ref nt), (1, .int (nI b)), (2, .long le), (4, .int (nI a))] [] 7 := by
  intro n
  induction n with
  | zero =>
    intro le a hme  hx
    refine gz_iload C 3 dX1_leastWayTo_7 rfl ?_
    refine gz_aload_n C 0 dX1_leastWayTo_9 rfl ?_
    refine gz_get (ci := 2) C iwX1 1 rfl rfl 0 (by decide) wk_27 rfl rfl dX1_leastWayTo_10 ?_
    refine gz_ncmp_gt C 58 (by omega) (by omega) dX1_leastWayTo_13 (by decide) (fun h_1 => ?_) (fun h_1 => ?_)
    · skip
      exact gz_lv [0, 1, 2, 3] rfl (hx hme )
    · have g_1 : ¬ (sn < a) := (Nat.not_lt.mpr h_1)
      exfalso; omega
  | succ n ih =>
    intro le a hme  hx
    refine gz_iload C 3 dX1_leastWayTo_7 rfl ?_
    refine gz_aload_n C 0 dX1_leastWayTo_9 rfl ?_
    refine gz_get (ci := 2) C iwX1 1 rfl rfl 0 (by decide) wk_27 rfl rfl dX1_leastWayTo_10 ?_
    refine gz_ncmp_gt C 58 (by omega) (by omega) dX1_leastWayTo_13 (by decide) (fun h_1 => ?_) (fun h_1 => ?_)
    · skip
      exfalso; omega
    · have g_1 : ¬ (sn < a) := (Nat.not_lt.mpr h_1)
      refine gz_iload C 3 dX1_leastWayTo_16 rfl ?_
      refine gz_iload_n C 1 dX1_leastWayTo_18 rfl ?_
      refine gz_callS (wr := []) (n := 2) (ws2 := (wC xo nt es ro ad cI cJ cZ ln fz sx mo sn bw tkv opv shv ldv wyv bdv ct dA dA sta stc fev dl dnv rov)) (st2 := [.int (nI (a * 21 + b))]) (cells2 := cells) (slots2 := slots) C (kX1_between l D xo nt es ro ad cI cJ cZ ln fz sx mo sn bw tkv opv shv ldv wyv bdv ct dA sta stc fev dl dnv rov a b ) (WB_S wk_130 wk_131 wk_2 wk_132) (by decide +kernel) ⟨⟨rfl, rfl⟩, Nat.le_trans (by decide) hR.1, Nat.le_trans (by decide) hR.2⟩ [0, 1, 2, 3, 4, 5, 6, 7, 8, 9, 10, 11] [] [0, 1, 2] rfl rfl rfl (by decide) rfl rfl rfl (Nat.le_of_ble_eq_true rfl) dX1_leastWayTo_19 hce rfl rfl rfl ?_
      refine gz_istore (lv2 := [(5, .int (nI (a * 21 + b))), (0, .ref nt), (1, .int (nI b)), (2, .long le), (4, .int (nI a))]) C dX1_leastWayTo_22 (by decide) rfl ?_
      refine gz_iload C 4 dX1_leastWayTo_24 rfl ?_
      refine gz_iload_n C 2 dX1_leastWayTo_26 rfl ?_
      refine gz_J (ws2 := (wC xo nt es ro ad cI cJ cZ ln fz sx mo sn bw tkv opv shv ldv wyv bdv ct dA dA sta stc fev dl dnv rov)) (lv2 := [(5, .int (nI (a * 21 + b))), (0, .ref nt), (1, .int (nI b)), (2, .long ((if a = b then le else (if (bdv (a * 21 + b)) = true then le else (if wyv (a * 21 + b) < le then wyv (a * 21 + b) else le))))), (4, .int (nI a))]) (st2 := []) (pc2 := 52) ?_ (fun J_2 => ?_)
      rotate_left
      · refine gz_ncmp_eq C 52 (by omega) (by omega) dX1_leastWayTo_27 (by decide) (fun h_2 => ?_) (fun h_2 => ?_)
        · skip
          simp only [if_pos h_2] at J_2 ⊢
          exact gz_lv [0, 1, 2, 3, 4] rfl J_2
        · have g_2 : ¬ (a = b) := h_2
          refine gz_aload_n C 1 dX1_leastWayTo_30 rfl ?_
          refine gz_get (ci := 2) C iwX1 1 rfl rfl 7 (by decide) wk_36 rfl rfl dX1_leastWayTo_31 ?_
          refine gz_iload C 0 dX1_leastWayTo_34 rfl ?_
          refine gz_zald C 7 2 rfl rfl (by omega) (by decide) dX1_leastWayTo_36 ?_
          refine gz_J (ws2 := (wC xo nt es ro ad cI cJ cZ ln fz sx mo sn bw tkv opv shv ldv wyv bdv ct dA dA sta stc fev dl dnv rov)) (lv2 := [(5, .int (nI (a * 21 + b))), (0, .ref nt), (1, .int (nI b)), (2, .long ((if (bdv (a * 21 + b)) = true then le else (if wyv (a * 21 + b) < le then wyv (a * 21 + b) else le)))), (4, .int (nI a))]) (st2 := []) (pc2 := 52) ?_ (fun J_3 => ?_)
          rotate_left
          · refine gz_bif_ne C 52 dX1_leastWayTo_37 (by decide) (fun h_3 => ?_) (fun h_3 => ?_)
            · skip
              simp only [if_pos h_3] at J_3 ⊢
              exact gz_lv [0, 1, 2, 3, 4] rfl J_3
            · have g_3 : ¬ ((bdv (a * 21 + b)) = true) := (by rw [h_3]; decide)
              refine gz_lload_n C 3 dX1_leastWayTo_40 rfl ?_
              refine gz_aload_n C 1 dX1_leastWayTo_41 rfl ?_
              refine gz_get (ci := 2) C iwX1 1 rfl rfl 6 (by decide) wk_35 rfl rfl dX1_leastWayTo_42 ?_
              refine gz_iload C 0 dX1_leastWayTo_45 rfl ?_
              refine gz_lald C 6 1 rfl rfl (by omega) (by decide) dX1_leastWayTo_47 ?_
              refine gz_mmin_long (v := (if wyv (a * 21 + b) < le then wyv (a * 21 + b) else le)) C wk_292 wk_195 wk_5 wk_196 (Nat.le_trans (by decide) hR.1) (Nat.le_trans (by decide) hR.2) hce.1 hce.2 dX1_leastWayTo_48 rfl ?_
              refine gz_lstore_n (lv2 := [(2, .long ((if wyv (a * 21 + b) < le then wyv (a * 21 + b) else le))), (5, .int (nI (a * 21 + b))), (0, .ref nt), (1, .int (nI b)), (4, .int (nI a))]) C dX1_leastWayTo_51 (by decide) rfl ?_
              simp only [if_neg g_3] at J_3 ⊢
              exact gz_lv [1, 2, 3, 0, 4] rfl J_3
          simp only [if_neg g_2] at J_2 ⊢
          exact gz_lv [0, 1, 2, 3, 4] rfl J_2
      refine gz_iinc (v := nI (a + 1)) (lv2 := [(4, .int (nI (a + 1))), (5, .int (nI (a * 21 + b))), (0, .ref nt), (1, .int (nI b)), (2, .long ((if a = b then le else (if (bdv (a * 21 + b)) = true then le else (if wyv (a * 21 + b) < le then wyv (a * 21 + b) else le)))))]) (k := 4) C dX1_leastWayTo_52 rfl (nI_add _ 1) (by decide) rfl ?_
      refine gz_goto C 7 dX1_leastWayTo_55 (by decide) ?_
      refine gz_lv [2, 3, 4, 0] rfl ?_
      simp only [f1_leastWayTo_lp, if_neg g_1] at hx
      exact ih ((if a = b then le else (if (bdv (a * 21 + b)) = true then le else (if wyv (a * 21 + b) < le then wyv (a * 21 + b) else le)))) (a + 1) (by omega)  hx

def f1_leastWayTo (sn : Nat) (wyv : Nat → Int64) (bdv : Nat → Bool) (b : Nat) : Int64 := (f1_leastWayTo_lp wyv bdv b (sn + 1) 1000000000000000 0).1
set_option maxRecDepth 100000 in
set_option maxHeartbeats 4000000 in
theorem kX1_leastWayTo (l : Launch) (D : va_G) (xo : Nat) (nt : Nat) (es : Nat) (ro : Nat) (ad : Nat → Nat) (cI : ClassId) (cJ : ClassId) (cZ : ClassId) (ln : Int32) (fz : Nat) (sx : Bool) (mo : Int32) (sn : Nat) (bw : Int32) (tkv : Nat → Int64) (opv : Nat → Int64) (shv : Nat → Int64) (ldv : Nat → Int32) (wyv : Nat → Int64) (bdv : Nat → Bool) (ct : Nat) (dA : Nat) (sta : Nat) (stc : Int64) (fev : Nat → Nat) (dl : Nat) (dnv : Nat → Int64) (rov : Nat → Nat) (b : Nat) (hsn : sn ≤ 20) (hb : b ≤ 20) : gz_M l yX1_leastWayTo cX1_leastWayTo 6 (some .long) ({ frames := 1, cells := 0, slots := 0, locals := 23 } : Room) D [(cI, .int), (cJ, .long), (cZ, .boolean)] [.ref nt, .int (nI b)] (wC xo nt es ro ad cI cJ cZ ln fz sx mo sn bw tkv opv shv ldv wyv bdv ct dA dA sta stc fev dl dnv rov) (some (.long (f1_leastWayTo sn wyv bdv b))) (wC xo nt es ro ad cI cJ cZ ln fz sx mo sn bw tkv opv shv ldv wyv bdv ct dA dA sta stc fev dl dnv rov) 0 0 := by
  refine gz_met l (by decide) (Nat.le_of_ble_eq_true rfl) [(0, .ref nt), (1, .int (nI b))] rfl ?_
  intro sz p e s m args below meth c C hr hk hnm
  have C : gz_C p s m args c cX1_leastWayTo 6 RX1 D [(cI, .int), (cJ, .long), (cZ, .boolean)] (va_A (wC xo nt es ro ad cI cJ cZ ln fz sx mo sn bw tkv opv shv ldv wyv bdv ct dA dA sta stc fev dl dnv rov) sz) := C
  refine gz_ldc2 (v := 1000000000000000) C wk_26 dX1_leastWayTo_0 ?_
  refine gz_lstore_n (lv2 := [(2, .long 1000000000000000), (0, .ref nt), (1, .int (nI b))]) C dX1_leastWayTo_3 (by decide) rfl ?_
  refine gz_iconst (v := nI 0) C dX1_leastWayTo_4 (by decide) ?_
  refine gz_istore (lv2 := [(4, .int (nI 0)), (2, .long 1000000000000000), (0, .ref nt), (1, .int (nI b))]) C dX1_leastWayTo_5 (by decide) rfl ?_
  refine gz_lv (lv2 := [(0, .ref nt), (1, .int (nI b)), (2, .long 1000000000000000), (4, .int (nI 0))]) [2, 3, 1, 0] rfl ?_
  refine lX1_leastWayTo_lp xo nt es ro ad cI cJ cZ ln fz sx mo sn bw tkv opv shv ldv wyv bdv ct dA sta stc fev dl dnv rov b (by first | assumption | omega) (by first | assumption | omega) ⟨Nat.le_of_ble_eq_true rfl, Nat.le_of_ble_eq_true rfl⟩ ⟨Nat.zero_le _, Nat.zero_le _⟩ C (sn + 1) 1000000000000000 0 (by omega)  ?_
  intro zme_lp
  refine gz_lload_n C 2 dX1_leastWayTo_58 rfl ?_
  exact gz_lret C hr hk (by first | rfl | (simp only [f1_leastWayTo]) | (simp only [f1_leastWayTo]; rfl)) rfl (Nat.le_refl _) (Nat.le_refl _) dX1_leastWayTo_59

def f1_leastTime_lp (sn : Nat) (tkv : Nat → Int64) (wyv : Nat → Int64) (bdv : Nat → Bool) : Nat → Int64 → Nat → Int64
  | 0, su, b => su
  | n + 1, su, b => if (f1_leastWayTo sn wyv bdv b) = 1000000000000000 then (-1) else f1_leastTime_lp sn tkv wyv bdv n (su + ((tkv b) + (f1_leastWayTo sn wyv bdv b))) (b + 1)
set_option maxRecDepth 100000 in
set_option maxHeartbeats 4000000 in
theorem lX1_leastTime_lp {p : Program} {l : Launch} {e : Env} {R : Room} {s : State} {m : MethodId} {args : Array Value} {below : List Frame} {meth : Method} {c : Code} {cells slots mc ms : Nat} {A : Nat → Prop} {ov : Option Value} {D : va_G} (xo : Nat) (nt : Nat) (es : Nat) (ro : Nat) (ad : Nat → Nat) (cI : ClassId) (cJ : ClassId) (cZ : ClassId) (ln : Int32) (fz : Nat) (sx : Bool) (mo : Int32) (sn : Nat) (bw : Int32) (tkv : Nat → Int64) (opv : Nat → Int64) (shv : Nat → Int64) (ldv : Nat → Int32) (wyv : Nat → Int64) (bdv : Nat → Bool) (ct : Nat) (dA : Nat) (sta : Nat) (stc : Int64) (fev : Nat → Nat) (dl : Nat) (dnv : Nat → Int64) (rov : Nat → Nat) (hsn : sn ≤ 20) (hR : 2 ≤ R.frames ∧ 48 ≤ R.locals) (hce : cells ≤ R.cells ∧ slots ≤ R.slots) (C : gz_C p s m args c cX1_leastTime 6 RX1 D [(cI, .int), (cJ, .long), (cZ, .boolean)] A) (hr : meth.sig.returnType = (some .long)) (hk : meth.locks = false) (hcm : cells ≤ mc) (hsm : slots ≤ ms) : ∀ (n : Nat) (su : Int64) (b : Nat), (b + n = sn + 1) → some (.long (f1_leastTime_lp sn tkv wyv bdv n su b)) = ov → GZ p l e R s m args below meth c 6 D A cells slots (MQ below (gz_Q D [(cI, .int), (cJ, .long), (cZ, .boolean)] ov (wC xo nt es ro ad cI cJ cZ ln fz sx mo sn bw tkv opv shv ldv wyv bdv ct dA dA sta stc fev dl dnv rov) A) args s mc ms A) (wC xo nt es ro ad cI cJ cZ ln fz sx mo sn bw tkv opv shv ldv wyv bdv ct dA dA sta stc fev dl dnv rov) [(0, .ref nt), (1, .long su), (3, .int (nI b))] [] 13 := by
  intro n
  induction n with
  | zero =>
    intro su b hme  hov
    refine gz_iload_n C 2 dX1_leastTime_13 rfl ?_
    refine gz_aload_n C 0 dX1_leastTime_14 rfl ?_
    refine gz_get (ci := 2) C iwX1 1 rfl rfl 0 (by decide) wk_27 rfl rfl dX1_leastTime_15 ?_
    refine gz_ncmp_gt C 59 (by omega) (by omega) dX1_leastTime_18 (by decide) (fun h_1 => ?_) (fun h_1 => ?_)
    · skip
      refine gz_lload_n C 1 dX1_leastTime_59 rfl ?_
      exact gz_lret C hr hk (by rw [← hov]; first | rfl | (simp only [f1_leastTime_lp, if_pos h_1])) rfl hcm hsm dX1_leastTime_60
    · have g_1 : ¬ (sn < b) := (Nat.not_lt.mpr h_1)
      exfalso; omega
  | succ n ih =>
    intro su b hme  hov
    refine gz_iload_n C 2 dX1_leastTime_13 rfl ?_
    refine gz_aload_n C 0 dX1_leastTime_14 rfl ?_
    refine gz_get (ci := 2) C iwX1 1 rfl rfl 0 (by decide) wk_27 rfl rfl dX1_leastTime_15 ?_
    refine gz_ncmp_gt C 59 (by omega) (by omega) dX1_leastTime_18 (by decide) (fun h_1 => ?_) (fun h_1 => ?_)
    · skip
      exfalso; omega
    · have g_1 : ¬ (sn < b) := (Nat.not_lt.mpr h_1)
      refine gz_aload_n C 0 dX1_leastTime_21 rfl ?_
      refine gz_iload_n C 2 dX1_leastTime_22 rfl ?_
      refine gz_callV (wr := []) (n := 1) (ws2 := (wC xo nt es ro ad cI cJ cZ ln fz sx mo sn bw tkv opv shv ldv wyv bdv ct dA dA sta stc fev dl dnv rov)) (st2 := [.long (f1_leastWayTo sn wyv bdv b)]) (cells2 := cells) (slots2 := slots) (ci := 2) C (kX1_leastWayTo l D xo nt es ro ad cI cJ cZ ln fz sx mo sn bw tkv opv shv ldv wyv bdv ct dA sta stc fev dl dnv rov b (by first | assumption | omega) (by first | assumption | omega)) (WB_V wk_288 wk_290 ws_14 wk_2 wk_291) (by decide +kernel) ⟨⟨rfl, rfl⟩, Nat.le_trans (by decide) hR.1, Nat.le_trans (by decide) hR.2⟩ [0, 1, 2, 3, 4, 5, 6, 7, 8, 9, 10, 11] [] [0, 1, 2] rfl rfl rfl (by decide) rfl 1 rfl rfl rfl rfl (Nat.le_of_ble_eq_true rfl) dX1_leastTime_23 hce rfl rfl rfl ?_
      refine gz_lstore (lv2 := [(4, .long (f1_leastWayTo sn wyv bdv b)), (0, .ref nt), (1, .long su), (3, .int (nI b))]) C dX1_leastTime_26 (by decide) rfl ?_
      refine gz_lload C 0 dX1_leastTime_28 rfl ?_
      refine gz_ldc2 (v := 1000000000000000) C wk_26 dX1_leastTime_30 ?_
      refine gz_lcmp_ne C 41 dX1_leastTime_33 dX1_leastTime_34 (by decide) (fun h_2 => ?_) (fun h_2 => ?_)
      · have g_2 : ¬ ((f1_leastWayTo sn wyv bdv b) = 1000000000000000) := h_2
        refine gz_lload_n C 2 dX1_leastTime_41 rfl ?_
        refine gz_aload_n C 1 dX1_leastTime_42 rfl ?_
        refine gz_get (ci := 2) C iwX1 1 rfl rfl 2 (by decide) wk_31 rfl rfl dX1_leastTime_43 ?_
        refine gz_iload_n C 3 dX1_leastTime_46 rfl ?_
        refine gz_lald C 2 1 rfl rfl (by omega) (by decide) dX1_leastTime_47 ?_
        refine gz_lload C 0 dX1_leastTime_48 rfl ?_
        refine gz_ladd (v := (tkv b) + (f1_leastWayTo sn wyv bdv b)) C dX1_leastTime_50 rfl ?_
        refine gz_ladd (v := su + ((tkv b) + (f1_leastWayTo sn wyv bdv b))) C dX1_leastTime_51 rfl ?_
        refine gz_lstore_n (lv2 := [(1, .long (su + ((tkv b) + (f1_leastWayTo sn wyv bdv b)))), (4, .long (f1_leastWayTo sn wyv bdv b)), (0, .ref nt), (3, .int (nI b))]) C dX1_leastTime_52 (by decide) rfl ?_
        refine gz_iinc (v := nI (b + 1)) (lv2 := [(3, .int (nI (b + 1))), (1, .long (su + ((tkv b) + (f1_leastWayTo sn wyv bdv b)))), (4, .long (f1_leastWayTo sn wyv bdv b)), (0, .ref nt)]) (k := 3) C dX1_leastTime_53 rfl (nI_add _ 1) (by decide) rfl ?_
        refine gz_goto C 13 dX1_leastTime_56 (by decide) ?_
        refine gz_lv [3, 1, 0] rfl ?_
        simp only [f1_leastTime_lp, if_neg g_1, if_neg g_2] at hov
        exact ih (su + ((tkv b) + (f1_leastWayTo sn wyv bdv b))) (b + 1) (by omega)  hov
      · skip
        refine gz_ldc2 (v := (-1)) C wk_293 dX1_leastTime_37 ?_
        exact gz_lret C hr hk (by rw [← hov]; first | rfl | (simp only [f1_leastTime_lp, if_neg g_1, if_pos h_2])) rfl hcm hsm dX1_leastTime_40

def f1_leastTime (sn : Nat) (tkv : Nat → Int64) (wyv : Nat → Int64) (bdv : Nat → Bool) : Int64 := (if sn = 0 then 0 else f1_leastTime_lp sn tkv wyv bdv (sn + 1) 0 0)
set_option maxRecDepth 100000 in
set_option maxHeartbeats 4000000 in
theorem kX1_leastTime (l : Launch) (D : va_G) (xo : Nat) (nt : Nat) (es : Nat) (ro : Nat) (ad : Nat → Nat) (cI : ClassId) (cJ : ClassId) (cZ : ClassId) (ln : Int32) (fz : Nat) (sx : Bool) (mo : Int32) (sn : Nat) (bw : Int32) (tkv : Nat → Int64) (opv : Nat → Int64) (shv : Nat → Int64) (ldv : Nat → Int32) (wyv : Nat → Int64) (bdv : Nat → Bool) (ct : Nat) (dA : Nat) (sta : Nat) (stc : Int64) (fev : Nat → Nat) (dl : Nat) (dnv : Nat → Int64) (rov : Nat → Nat) (hsn : sn ≤ 20) : gz_M l yX1_leastTime cX1_leastTime 6 (some .long) ({ frames := 2, cells := 0, slots := 0, locals := 48 } : Room) D [(cI, .int), (cJ, .long), (cZ, .boolean)] [.ref nt] (wC xo nt es ro ad cI cJ cZ ln fz sx mo sn bw tkv opv shv ldv wyv bdv ct dA dA sta stc fev dl dnv rov) (some (.long (f1_leastTime sn tkv wyv bdv))) (wC xo nt es ro ad cI cJ cZ ln fz sx mo sn bw tkv opv shv ldv wyv bdv ct dA dA sta stc fev dl dnv rov) 0 0 := by
  refine gz_met l (by decide) (Nat.le_of_ble_eq_true rfl) [(0, .ref nt)] rfl ?_
  intro sz p e s m args below meth c C hr hk hnm
  have C : gz_C p s m args c cX1_leastTime 6 RX1 D [(cI, .int), (cJ, .long), (cZ, .boolean)] (va_A (wC xo nt es ro ad cI cJ cZ ln fz sx mo sn bw tkv opv shv ldv wyv bdv ct dA dA sta stc fev dl dnv rov) sz) := C
  refine gz_aload_n C 0 dX1_leastTime_0 rfl ?_
  refine gz_get (ci := 2) C iwX1 1 rfl rfl 0 (by decide) wk_27 rfl rfl dX1_leastTime_1 ?_
  refine gz_nif_ne C 9 (by omega) dX1_leastTime_4 (by decide) (fun h_1 => ?_) (fun h_1 => ?_)
  · have g_1 : ¬ (sn = 0) := h_1
    refine gz_lconst (v := 0) C dX1_leastTime_9 (by decide) ?_
    refine gz_lstore_n (lv2 := [(1, .long 0), (0, .ref nt)]) C dX1_leastTime_10 (by decide) rfl ?_
    refine gz_iconst (v := nI 0) C dX1_leastTime_11 (by decide) ?_
    refine gz_istore_n (lv2 := [(3, .int (nI 0)), (1, .long 0), (0, .ref nt)]) C dX1_leastTime_12 (by decide) rfl ?_
    refine gz_lv (lv2 := [(0, .ref nt), (1, .long 0), (3, .int (nI 0))]) [2, 1, 0] rfl ?_
    refine gz_end (ws2 := (wC xo nt es ro ad cI cJ cZ ln fz sx mo sn bw tkv opv shv ldv wyv bdv ct dA dA sta stc fev dl dnv rov)) rfl ?_
    exact lX1_leastTime_lp xo nt es ro ad cI cJ cZ ln fz sx mo sn bw tkv opv shv ldv wyv bdv ct dA sta stc fev dl dnv rov (by first | assumption | omega) ⟨Nat.le_of_ble_eq_true rfl, Nat.le_of_ble_eq_true rfl⟩ ⟨Nat.zero_le _, Nat.zero_le _⟩ C hr hk (Nat.le_refl _) (Nat.le_refl _) (sn + 1) 0 0 (by omega)  (by first | rfl | (simp only [f1_leastTime, if_neg g_1]) | (simp only [f1_leastTime, if_neg g_1]; rfl))
  · skip
    refine gz_lconst (v := 0) C dX1_leastTime_7 (by decide) ?_
    exact gz_lret C hr hk (by first | rfl | (simp only [f1_leastTime, if_pos h_1]) | (simp only [f1_leastTime, if_pos h_1]; rfl)) rfl (Nat.le_refl _) (Nat.le_refl _) dX1_leastTime_8

