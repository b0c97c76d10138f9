theorem q2_swl_le {tkv opv shv wyv : Nat → Int64} {bdv : Nat → Bool} {rl i j B : Nat} {rov : Nat → Nat} {cs : Int64} (h : ∀ k, k < rl → rov k ≤ B) (hi : i < rl) (hj : j < rl) : ∀ k, k < rl → f2_swapIfLess_rov tkv opv shv wyv bdv rov i j cs rl k ≤ B := by
  unfold f2_swapIfLess_rov
  split
  · exact q2_swap_le (q2_swap_le h hi hj) hi hj
  · exact q2_swap_le h hi hj
theorem q2_us {us stp : Int64} {n : Nat} (h1 : ¬ stp < 0) (h2 : stp ≤ 100000) (h : us = lN (cN stp - n) ∧ n ≤ cN stp) : (stp ≤ us ↔ n = 0) ∧ (0 < n → us + 1 = lN (cN stp - (n - 1))) := by
  obtain ⟨e, hb⟩ := cN_of h1 h2
  obtain ⟨hu, hn⟩ := h
  constructor
  · have h3 : stp ≤ us ↔ lN (cN stp) ≤ lN (cN stp - n) := by rw [hu, ← e]
    rw [h3, pk_lLE (by omega) (by omega)]
    omega
  · intro h0
    rw [hu, lN_1]
    congr 1
    omega

def f2_improve_lp (fz : Nat) (tkv : Nat → Int64) (opv : Nat → Int64) (shv : Nat → Int64) (wyv : Nat → Int64) (bdv : Nat → Bool) (rl : Nat) : Nat → Int64 → Nat → Nat → Int64 → (Nat → Nat) → Int64 × Nat × Nat × Int64 × (Nat → Nat)
  | 0, cs, i, j, us, rov => (cs, i, j, us, rov)
  | n + 1, cs, i, j, us, rov => if rl ≤ j then (cs, i, j, us, rov) else f2_improve_lp fz tkv opv shv wyv bdv rl n ((if (f2_swapIfLess tkv opv shv wyv bdv rov i j cs rl) = true then f1_cost tkv opv shv wyv bdv (f2_swapIfLess_rov tkv opv shv wyv bdv rov i j cs rl) rl else cs)) ((if (f2_swapIfLess tkv opv shv wyv bdv rov i j cs rl) = true then fz else (if rl ≤ (j + 1) then i + 1 else i))) ((if (f2_swapIfLess tkv opv shv wyv bdv rov i j cs rl) = true then fz + 1 else (if rl ≤ (j + 1) then (i + 1) + 1 else j + 1))) (us + 1) (f2_swapIfLess_rov tkv opv shv wyv bdv rov i j cs rl)
set_option maxRecDepth 100000 in
set_option maxHeartbeats 4000000 in
theorem lX2_improve_lp {p : Program} {l : Launch} {e : Env} {R : Room} {s : State} {m : MethodId} {args : Array Value} {below : List Frame} {meth : Method} {c : Code} {cells slots : Nat} {Q : State → Prop} {A : Nat → Prop} {D : va_G} (xo : Nat) (nt : Nat) (es : Nat) (ro : Nat) (ad : Nat → Nat) (cI : ClassId) (cJ : ClassId) (cZ : ClassId) (ln : Int32) (fz : Nat) (sx : Bool) (mo : Int32) (sn : Nat) (bw : Int32) (tkv : Nat → Int64) (opv : Nat → Int64) (shv : Nat → Int64) (ldv : Nat → Int32) (wyv : Nat → Int64) (bdv : Nat → Bool) (ct : Nat) (dA : Nat) (sta : Nat) (stc : Int64) (fev : Nat → Nat) (dl : Nat) (dnv : Nat → Int64) (stp : Int64) (rl : Nat) (hln : ln = nI rl) (hr20 : rl ≤ 20) (hfz : fz ≤ 20) (hst1 : ¬ stp < 0) (hst2 : stp ≤ 100000) (hR : 4 ≤ R.frames ∧ 100 ≤ R.locals) (hce : cells ≤ R.cells ∧ slots ≤ R.slots) (C : gz_C p s m args c cX2_improve 9 RX2 D [(cI, .int), (cJ, .long), (cZ, .boolean)] A) : ∀ (n : Nat) (cs : Int64) (i : Nat) (j : Nat) (us : Int64) (rov : Nat → Nat), (us = lN (cN stp - n) ∧ n ≤ cN stp) → (i ≤ 20 ∧ j ≤ 21 ∧ i < j) → (∀ r, r < rl → rov r ≤ 20) → ((((f2_improve_lp fz tkv opv shv wyv bdv rl n cs i j us rov).2.1) ≤ 20 ∧ ((f2_improve_lp fz tkv opv shv wyv bdv rl n cs i j us rov).2.2.1) ≤ 21 ∧ ((f2_improve_lp fz tkv opv shv wyv bdv rl n cs i j us rov).2.1) < ((f2_improve_lp fz tkv opv shv wyv bdv rl n cs i j us rov).2.2.1)) → (∀ r, r < rl → ((f2_improve_lp fz tkv opv shv wyv bdv rl n cs i j us rov).2.2.2.2) r ≤ 20) → GZ p l e R s m args below meth c 9 D A cells slots Q (wC xo nt es ro ad cI cJ cZ ln fz sx mo sn bw tkv opv shv ldv wyv bdv ct dA dA sta stc fev dl dnv ((f2_improve_lp fz tkv opv shv wyv bdv rl n cs i j us rov).2.2.2.2)) [(0, .ref xo), (1, .long stp), (3, .long ((f2_improve_lp fz tkv opv shv wyv bdv rl n cs i j us rov).1)), (5, .int (nI ((f2_improve_lp fz tkv opv shv wyv bdv rl n cs i j us rov).2.1))), (6, .int (nI ((f2_improve_lp fz tkv opv shv wyv bdv rl n cs i j us rov).2.2.1))), (7, .long ((f2_improve_lp fz tkv opv shv wyv bdv rl n cs i j us rov).2.2.2.1))] [] 125) → GZ p l e R s m args below meth c 9 D A cells slots Q (wC xo nt es ro ad cI cJ cZ ln fz sx mo sn bw tkv opv shv ldv wyv bdv ct dA dA sta stc fev dl dnv rov) [(0, .ref xo), (1, .long stp), (3, .long cs), (5, .int (nI i)), (6, .int (nI j)), (7, .long us)] [] 31 := by
  intro n
  induction n with
  | zero =>
    intro cs i j us rov hme hij hro hx
    refine gz_lload C 5 dX2_improve_31 rfl ?_
    refine gz_lload_n C 1 dX2_improve_33 rfl ?_
    refine gz_lcmp_ge C 125 dX2_improve_34 dX2_improve_35 (by decide) (fun h_1 => ?_) (fun h_1 => ?_)
    · skip
      exact gz_lv [0, 1, 2, 3, 4, 5] rfl (hx hij hro)
    · have g_1 : ¬ (stp ≤ us) := h_1
      exact absurd ((q2_us hst1 hst2 hme).1.mpr rfl) g_1
  | succ n ih =>
    intro cs i j us rov hme hij hro hx
    refine gz_lload C 5 dX2_improve_31 rfl ?_
    refine gz_lload_n C 1 dX2_improve_33 rfl ?_
    refine gz_lcmp_ge C 125 dX2_improve_34 dX2_improve_35 (by decide) (fun h_1 => ?_) (fun h_1 => ?_)
    · skip
      exact absurd ((q2_us hst1 hst2 hme).1.mp h_1) (by omega)
    · have g_1 : ¬ (stp ≤ us) := h_1
      refine gz_iload C 4 dX2_improve_38 rfl ?_
      refine gz_aload_n C 0 dX2_improve_40 rfl ?_
      refine gz_get (ci := 3) C iwX2 0 rfl rfl 3 (by decide) wk_82 rfl rfl dX2_improve_41 ?_
      refine gz_sw (v := .int ln) (w := .int (nI rl)) (by rw [hln]) ?_
      refine gz_ncmp_ge C 125 (by omega) (by omega) dX2_improve_44 (by decide) (fun h_2 => ?_) (fun h_2 => ?_)
      · skip
        simp only [f2_improve_lp, if_neg g_1, if_pos h_2] at hx
        exact gz_lv [0, 1, 2, 3, 4, 5] rfl (hx hij hro)
      · have g_2 : ¬ (rl ≤ j) := (Nat.not_le.mpr h_2)
        refine gz_aload_n C 0 dX2_improve_47 rfl ?_
        refine gz_iload C 3 dX2_improve_48 rfl ?_
        refine gz_iload C 4 dX2_improve_50 rfl ?_
        refine gz_lload_n C 2 dX2_improve_52 rfl ?_
        refine gz_callV (wr := []) (n := 3) (ws2 := (wC xo nt es ro ad cI cJ cZ ln fz sx mo sn bw tkv opv shv ldv wyv bdv ct dA dA sta stc fev dl dnv (f2_swapIfLess_rov tkv opv shv wyv bdv rov i j cs rl))) (st2 := [.int (bI (f2_swapIfLess tkv opv shv wyv bdv rov i j cs rl))]) (cells2 := cells) (slots2 := slots) (ci := 3) C (kX2_swapIfLess l D xo nt es ro ad cI cJ cZ ln fz sx mo sn bw tkv opv shv ldv wyv bdv ct dA sta stc fev dl dnv rov i j cs rl (by first | assumption | omega) (by first | assumption | omega) (by first | assumption | omega) (by first | assumption | omega) (by first | assumption | omega)) (WB_V wk_231 wk_233 ws_11 wk_1 wk_234) (by decide +kernel) ⟨⟨rfl, rfl⟩, Nat.le_trans (by decide) hR.1, Nat.le_trans (by decide) hR.2⟩ [0, 1, 2, 3, 4, 5, 6, 7, 8, 9, 10, 11] [] [0, 1, 2] rfl rfl rfl (by decide) rfl 0 rfl rfl rfl rfl (Nat.le_of_ble_eq_true rfl) dX2_improve_53 hce rfl rfl rfl ?_
        refine gz_J (ws2 := (wC xo nt es ro ad cI cJ cZ ln fz sx mo sn bw tkv opv shv ldv wyv bdv ct dA dA sta stc fev dl dnv (f2_swapIfLess_rov tkv opv shv wyv bdv rov i j cs rl))) (lv2 := [(6, .int (nI ((if (f2_swapIfLess tkv opv shv wyv bdv rov i j cs rl) = true then fz + 1 else (if rl ≤ (j + 1) then (i + 1) + 1 else j + 1))))), (5, .int (nI ((if (f2_swapIfLess tkv opv shv wyv bdv rov i j cs rl) = true then fz else (if rl ≤ (j + 1) then i + 1 else i))))), (3, .long ((if (f2_swapIfLess tkv opv shv wyv bdv rov i j cs rl) = true then f1_cost tkv opv shv wyv bdv (f2_swapIfLess_rov tkv opv shv wyv bdv rov i j cs rl) rl else cs))), (0, .ref xo), (1, .long stp), (7, .long us)]) (st2 := []) (pc2 := 116) ?_ (fun J_3 => ?_)
        rotate_left
        · refine gz_bif_eq C 90 dX2_improve_56 (by decide) (fun h_3 => ?_) (fun h_3 => ?_)
          · have g_3 : ¬ ((f2_swapIfLess tkv opv shv wyv bdv rov i j cs rl) = true) := (by rw [h_3]; decide)
            refine gz_iload C 4 dX2_improve_90 rfl ?_
            refine gz_iconst (v := nI 1) C dX2_improve_92 (by decide) ?_
            refine gz_iadd (v := nI (j + 1)) C dX2_improve_93 (nI_add _ _) ?_
            refine gz_aload_n C 0 dX2_improve_94 rfl ?_
            refine gz_get (ci := 3) C iwX2 0 rfl rfl 3 (by decide) wk_82 rfl rfl dX2_improve_95 ?_
            refine gz_sw (v := .int ln) (w := .int (nI rl)) (by rw [hln]) ?_
            refine gz_J (ws2 := (wC xo nt es ro ad cI cJ cZ ln fz sx mo sn bw tkv opv shv ldv wyv bdv ct dA dA sta stc fev dl dnv (f2_swapIfLess_rov tkv opv shv wyv bdv rov i j cs rl))) (lv2 := [(6, .int (nI ((if rl ≤ (j + 1) then (i + 1) + 1 else j + 1)))), (5, .int (nI ((if rl ≤ (j + 1) then i + 1 else i)))), (0, .ref xo), (1, .long stp), (3, .long cs), (7, .long us)]) (st2 := []) (pc2 := 116) ?_ (fun J_4 => ?_)
            rotate_left
            · refine gz_ncmp_ge C 107 (by omega) (by omega) dX2_improve_98 (by decide) (fun h_4 => ?_) (fun h_4 => ?_)
              · skip
                refine gz_iinc (v := nI (i + 1)) (lv2 := [(5, .int (nI (i + 1))), (0, .ref xo), (1, .long stp), (3, .long cs), (6, .int (nI j)), (7, .long us)]) (k := 3) C dX2_improve_107 rfl (nI_add _ 1) (by decide) rfl ?_
                refine gz_iload C 0 dX2_improve_110 rfl ?_
                refine gz_iconst (v := nI 1) C dX2_improve_112 (by decide) ?_
                refine gz_iadd (v := nI ((i + 1) + 1)) C dX2_improve_113 (nI_add _ _) ?_
                refine gz_istore (lv2 := [(6, .int (nI ((i + 1) + 1))), (5, .int (nI (i + 1))), (0, .ref xo), (1, .long stp), (3, .long cs), (7, .long us)]) C dX2_improve_114 (by decide) rfl ?_
                simp only [if_pos h_4] at J_4 ⊢
                exact gz_lv [0, 1, 2, 3, 4, 5] rfl J_4
              · have g_4 : ¬ (rl ≤ (j + 1)) := (Nat.not_le.mpr h_4)
                refine gz_iinc (v := nI (j + 1)) (lv2 := [(6, .int (nI (j + 1))), (0, .ref xo), (1, .long stp), (3, .long cs), (5, .int (nI i)), (7, .long us)]) (k := 4) C dX2_improve_101 rfl (nI_add _ 1) (by decide) rfl ?_
                refine gz_goto C 116 dX2_improve_104 (by decide) ?_
                simp only [if_neg g_4] at J_4 ⊢
                exact gz_lv [0, 4, 1, 2, 3, 5] rfl J_4
            simp only [if_neg g_3] at J_3 ⊢
            exact gz_lv [0, 1, 4, 2, 3, 5] rfl J_3
          · skip
            refine gz_aload_n C 0 dX2_improve_59 rfl ?_
            refine gz_get (ci := 3) C iwX2 0 rfl rfl 0 (by decide) wk_79 rfl rfl dX2_improve_60 ?_
            refine gz_aload_n C 0 dX2_improve_63 rfl ?_
            refine gz_get (ci := 3) C iwX2 0 rfl rfl 2 (by decide) wk_81 rfl rfl dX2_improve_64 ?_
            refine gz_aload_n C 0 dX2_improve_67 rfl ?_
            refine gz_get (ci := 3) C iwX2 0 rfl rfl 3 (by decide) wk_82 rfl rfl dX2_improve_68 ?_
            refine gz_sw (v := .int ln) (w := .int (nI rl)) (by rw [hln]) ?_
            refine gz_callV (wr := []) (n := 2) (ws2 := (wC xo nt es ro ad cI cJ cZ ln fz sx mo sn bw tkv opv shv ldv wyv bdv ct dA dA sta stc fev dl dnv (f2_swapIfLess_rov tkv opv shv wyv bdv rov i j cs rl))) (st2 := [.long (f1_cost tkv opv shv wyv bdv (f2_swapIfLess_rov tkv opv shv wyv bdv rov i j cs rl) rl)]) (cells2 := cells) (slots2 := slots) (ci := 2) C (kX1_cost l D xo nt es ro ad cI cJ cZ ln fz sx mo sn bw tkv opv shv ldv wyv bdv ct dA sta stc fev dl dnv (f2_swapIfLess_rov tkv opv shv wyv bdv rov i j cs rl) rl (by first | assumption | omega) (q2_swl_le hro (by omega) (by omega))) (WB_V wk_218 wk_219 wk_220 wk_2 wk_221) (by decide +kernel) ⟨⟨rfl, rfl⟩, Nat.le_trans (by decide) hR.1, Nat.le_trans (by decide) hR.2⟩ [0, 1, 2, 3, 4, 5, 6, 7, 8, 9, 10, 11] [] [0, 1, 2] rfl rfl rfl (by decide) rfl 1 rfl rfl rfl rfl (Nat.le_of_ble_eq_true rfl) dX2_improve_71 hce rfl rfl rfl ?_
            refine gz_lstore_n (lv2 := [(3, .long (f1_cost tkv opv shv wyv bdv (f2_swapIfLess_rov tkv opv shv wyv bdv rov i j cs rl) rl)), (0, .ref xo), (1, .long stp), (5, .int (nI i)), (6, .int (nI j)), (7, .long us)]) C dX2_improve_74 (by decide) rfl ?_
            refine gz_aload_n C 1 dX2_improve_75 rfl ?_
            refine gz_get (ci := 3) C iwX2 0 rfl rfl 4 (by decide) wk_83 rfl rfl dX2_improve_76 ?_
            refine gz_istore (lv2 := [(5, .int (nI fz)), (3, .long (f1_cost tkv opv shv wyv bdv (f2_swapIfLess_rov tkv opv shv wyv bdv rov i j cs rl) rl)), (0, .ref xo), (1, .long stp), (6, .int (nI j)), (7, .long us)]) C dX2_improve_79 (by decide) rfl ?_
            refine gz_iload C 0 dX2_improve_81 rfl ?_
            refine gz_iconst (v := nI 1) C dX2_improve_83 (by decide) ?_
            refine gz_iadd (v := nI (fz + 1)) C dX2_improve_84 (nI_add _ _) ?_
            refine gz_istore (lv2 := [(6, .int (nI (fz + 1))), (5, .int (nI fz)), (3, .long (f1_cost tkv opv shv wyv bdv (f2_swapIfLess_rov tkv opv shv wyv bdv rov i j cs rl) rl)), (0, .ref xo), (1, .long stp), (7, .long us)]) C dX2_improve_85 (by decide) rfl ?_
            refine gz_goto C 116 dX2_improve_87 (by decide) ?_
            simp only [if_pos h_3] at J_3 ⊢
            exact gz_lv [0, 1, 2, 3, 4, 5] rfl J_3
        refine gz_lload C 5 dX2_improve_116 rfl ?_
        refine gz_lconst (v := 1) C dX2_improve_118 (by decide) ?_
        refine gz_ladd (v := us + 1) C dX2_improve_119 rfl ?_
        refine gz_lstore (lv2 := [(7, .long (us + 1)), (6, .int (nI ((if (f2_swapIfLess tkv opv shv wyv bdv rov i j cs rl) = true then fz + 1 else (if rl ≤ (j + 1) then (i + 1) + 1 else j + 1))))), (5, .int (nI ((if (f2_swapIfLess tkv opv shv wyv bdv rov i j cs rl) = true then fz else (if rl ≤ (j + 1) then i + 1 else i))))), (3, .long ((if (f2_swapIfLess tkv opv shv wyv bdv rov i j cs rl) = true then f1_cost tkv opv shv wyv bdv (f2_swapIfLess_rov tkv opv shv wyv bdv rov i j cs rl) rl else cs))), (0, .ref xo), (1, .long stp)]) C dX2_improve_120 (by decide) rfl ?_
        refine gz_goto C 31 dX2_improve_122 (by decide) ?_
        refine gz_lv [4, 5, 3, 2, 1, 0] rfl ?_
        simp only [f2_improve_lp, if_neg g_1, if_neg g_2] at hx
        exact ih ((if (f2_swapIfLess tkv opv shv wyv bdv rov i j cs rl) = true then f1_cost tkv opv shv wyv bdv (f2_swapIfLess_rov tkv opv shv wyv bdv rov i j cs rl) rl else cs)) ((if (f2_swapIfLess tkv opv shv wyv bdv rov i j cs rl) = true then fz else (if rl ≤ (j + 1) then i + 1 else i))) ((if (f2_swapIfLess tkv opv shv wyv bdv rov i j cs rl) = true then fz + 1 else (if rl ≤ (j + 1) then (i + 1) + 1 else j + 1))) (us + 1) (f2_swapIfLess_rov tkv opv shv wyv bdv rov i j cs rl) ⟨(q2_us hst1 hst2 hme).2 (by omega), by omega⟩ (by first | omega | ((repeat' split) <;> omega)) (q2_swl_le hro (by omega) (by omega)) hx

def f2_improve_rov (fz : Nat) (tkv : Nat → Int64) (opv : Nat → Int64) (shv : Nat → Int64) (wyv : Nat → Int64) (bdv : Nat → Bool) (rov : Nat → Nat) (stp : Int64) (rl : Nat) : Nat → Nat := (f2_improve_lp fz tkv opv shv wyv bdv rl (cN stp) (f1_cost tkv opv shv wyv bdv rov rl) fz (fz + 1) 0 rov).2.2.2.2
set_option maxRecDepth 100000 in
set_option maxHeartbeats 4000000 in
theorem kX2_improve (l : Launch) (D : va_G) (xo : Nat) (nt : Nat) (es : Nat) (ro : Nat) (ad : Nat → Nat) (cI : ClassId) (cJ : ClassId) (cZ : ClassId) (ln : Int32) (fz : Nat) (sx : Bool) (mo : Int32) (sn : Nat) (bw : Int32) (tkv : Nat → Int64) (opv : Nat → Int64) (shv : Nat → Int64) (ldv : Nat → Int32) (wyv : Nat → Int64) (bdv : Nat → Bool) (ct : Nat) (dA : Nat) (sta : Nat) (stc : Int64) (fev : Nat → Nat) (dl : Nat) (dnv : Nat → Int64) (rov : Nat → Nat) (stp : Int64) (rl : Nat) (hln : ln = nI rl) (hr20 : rl ≤ 20) (hro : ∀ k, k < rl → rov k ≤ 20) (hfz : fz ≤ 20) (hst1 : ¬ stp < 0) (hst2 : stp ≤ 100000) : gz_M l yX2_improve cX2_improve 9 none ({ frames := 4, cells := 0, slots := 0, locals := 100 } : Room) D [(cI, .int), (cJ, .long), (cZ, .boolean)] [.ref xo, .long stp] (wC xo nt es ro ad cI cJ cZ ln fz sx mo sn bw tkv opv shv ldv wyv bdv ct dA dA sta stc fev dl dnv rov) (none) (wC xo nt es ro ad cI cJ cZ ln fz sx mo sn bw tkv opv shv ldv wyv bdv ct dA dA sta stc fev dl dnv (f2_improve_rov fz tkv opv shv wyv bdv rov stp rl)) 0 0 := by
  refine gz_met l (by decide) (Nat.le_of_ble_eq_true rfl) [(0, .ref xo), (1, .long stp)] rfl ?_
  intro sz p e s m args below meth c C hr hk hnm
  have C : gz_C p s m args c cX2_improve 9 RX2 D [(cI, .int), (cJ, .long), (cZ, .boolean)] (va_A (wC xo nt es ro ad cI cJ cZ ln fz sx mo sn bw tkv opv shv ldv wyv bdv ct dA dA sta stc fev dl dnv rov) sz) := C
  refine gz_aload_n C 0 dX2_improve_0 rfl ?_
  refine gz_get (ci := 3) C iwX2 0 rfl rfl 0 (by decide) wk_79 rfl rfl dX2_improve_1 ?_
  refine gz_aload_n C 0 dX2_improve_4 rfl ?_
  refine gz_get (ci := 3) C iwX2 0 rfl rfl 2 (by decide) wk_81 rfl rfl dX2_improve_5 ?_
  refine gz_aload_n C 0 dX2_improve_8 rfl ?_
  refine gz_get (ci := 3) C iwX2 0 rfl rfl 3 (by decide) wk_82 rfl rfl dX2_improve_9 ?_
  refine gz_sw (v := .int ln) (w := .int (nI rl)) (by rw [hln]) ?_
  refine gz_callV (wr := []) (n := 2) (ws2 := (wC xo nt es ro ad cI cJ cZ ln fz sx mo sn bw tkv opv shv ldv wyv bdv ct dA dA sta stc fev dl dnv rov)) (st2 := [.long (f1_cost tkv opv shv wyv bdv rov rl)]) (cells2 := 0) (slots2 := 0) (ci := 2) C (kX1_cost l D xo nt es ro ad cI cJ cZ ln fz sx mo sn bw tkv opv shv ldv wyv bdv ct dA sta stc fev dl dnv rov rl (by first | assumption | omega) (by first | assumption | omega)) (WB_V wk_218 wk_219 wk_220 wk_2 wk_221) (by decide +kernel) ⟨⟨rfl, rfl⟩, Nat.le_of_ble_eq_true rfl, Nat.le_of_ble_eq_true rfl⟩ [0, 1, 2, 3, 4, 5, 6, 7, 8, 9, 10, 11] [] [0, 1, 2] rfl rfl rfl (by decide) rfl 1 rfl rfl rfl rfl (Nat.le_of_ble_eq_true rfl) dX2_improve_12 ⟨Nat.zero_le _, Nat.zero_le _⟩ rfl rfl rfl ?_
  refine gz_lstore_n (lv2 := [(3, .long (f1_cost tkv opv shv wyv bdv rov rl)), (0, .ref xo), (1, .long stp)]) C dX2_improve_15 (by decide) rfl ?_
  refine gz_aload_n C 1 dX2_improve_16 rfl ?_
  refine gz_get (ci := 3) C iwX2 0 rfl rfl 4 (by decide) wk_83 rfl rfl dX2_improve_17 ?_
  refine gz_istore (lv2 := [(5, .int (nI fz)), (3, .long (f1_cost tkv opv shv wyv bdv rov rl)), (0, .ref xo), (1, .long stp)]) C dX2_improve_20 (by decide) rfl ?_
  refine gz_iload C 0 dX2_improve_22 rfl ?_
  refine gz_iconst (v := nI 1) C dX2_improve_24 (by decide) ?_
  refine gz_iadd (v := nI (fz + 1)) C dX2_improve_25 (nI_add _ _) ?_
  refine gz_istore (lv2 := [(6, .int (nI (fz + 1))), (5, .int (nI fz)), (3, .long (f1_cost tkv opv shv wyv bdv rov rl)), (0, .ref xo), (1, .long stp)]) C dX2_improve_26 (by decide) rfl ?_
  refine gz_lconst (v := 0) C dX2_improve_28 (by decide) ?_
  refine gz_lstore (lv2 := [(7, .long 0), (6, .int (nI (fz + 1))), (5, .int (nI fz)), (3, .long (f1_cost tkv opv shv wyv bdv rov rl)), (0, .ref xo), (1, .long stp)]) C dX2_improve_29 (by decide) rfl ?_
  refine gz_lv (lv2 := [(0, .ref xo), (1, .long stp), (3, .long (f1_cost tkv opv shv wyv bdv rov rl)), (5, .int (nI fz)), (6, .int (nI (fz + 1))), (7, .long 0)]) [4, 5, 3, 2, 1, 0] rfl ?_
  refine lX2_improve_lp xo nt es ro ad cI cJ cZ ln fz sx mo sn bw tkv opv shv ldv wyv bdv ct dA sta stc fev dl dnv stp rl (by first | assumption | omega) (by first | assumption | omega) (by first | assumption | omega) (by first | assumption | omega) (by first | assumption | omega) ⟨Nat.le_of_ble_eq_true rfl, Nat.le_of_ble_eq_true rfl⟩ ⟨Nat.zero_le _, Nat.zero_le _⟩ C (cN stp) (f1_cost tkv opv shv wyv bdv rov rl) fz (fz + 1) 0 rov ⟨by rw [Nat.sub_self]; rfl, Nat.le_refl _⟩ (by first | assumption | omega) (by first | assumption | omega) ?_
  intro zhij_lp zhro_lp
  exact gz_vret C hr hk (by first | rfl | (simp only [f2_improve_rov]) | (simp only [f2_improve_rov]; rfl)) (by first | rfl | (simp only [f2_improve_rov]) | (simp only [f2_improve_rov]; rfl)) (Nat.le_refl _) (Nat.le_refl _) dX2_improve_125

