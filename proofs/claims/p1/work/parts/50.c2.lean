theorem q1_stop {sn : Nat} {x : Int32} (h : f1_isStop sn x = true) (hs : sn ≤ 20) : x = nI (cl x) ∧ 1 ≤ cl x ∧ cl x ≤ sn := q3_stop (sn := sn) (x := x) h hs
theorem q1_point {sn : Nat} {x : Int32} (h : f1_isPoint sn x = true) (hs : sn ≤ 20) : x = nI (cl x) ∧ cl x ≤ sn := by
  unfold f1_isPoint at h
  by_cases c : x = 0
  · subst c; exact ⟨rfl, Nat.zero_le _⟩
  · rw [if_neg c] at h
    by_cases c2 : f1_isStop sn x = true
    · have := q1_stop c2 hs
      exact ⟨this.1, this.2.2⟩
    · simp [c2] at h

def f2_isSeconds (t : Int64) : Bool := (if t < 0 then false else (if 100000 < t then false else true))
set_option maxRecDepth 100000 in
set_option maxHeartbeats 4000000 in
theorem kX2_isSeconds (l : Launch) (D : va_G) (xo : Nat) (nt : Nat) (es : Nat) (ro : Nat) (ad : Nat → Nat) (cI : ClassId) (cJ : ClassId) (cZ : ClassId) (ln : Int32) (fz : Nat) (sx : Bool) (mo : Int32) (sn : Nat) (bw : Int32) (tkv : Nat → Int64) (opv : Nat → Int64) (shv : Nat → Int64) (ldv : Nat → Int32) (wyv : Nat → Int64) (bdv : Nat → Bool) (ct : Nat) (dA : Nat) (sta : Nat) (stc : Int64) (fev : Nat → Nat) (dl : Nat) (dnv : Nat → Int64) (rov : Nat → Nat) (t : Int64)  : gz_M l yX2_isSeconds cX2_isSeconds 2 (some .boolean) ({ frames := 0, cells := 0, slots := 0, locals := 0 } : Room) D [(cI, .int), (cJ, .long), (cZ, .boolean)] [.long t] (wC xo nt es ro ad cI cJ cZ ln fz sx mo sn bw tkv opv shv ldv wyv bdv ct dA dA sta stc fev dl dnv rov) (some (.int (bI (f2_isSeconds t)))) (wC xo nt es ro ad cI cJ cZ ln fz sx mo sn bw tkv opv shv ldv wyv bdv ct dA dA sta stc fev dl dnv rov) 0 0 := by
  refine gz_met l (by decide) (Nat.le_of_ble_eq_true rfl) [(0, .long t)] rfl ?_
  intro sz p e s m args below meth c C hr hk hnm
  have C : gz_C p s m args c cX2_isSeconds 2 RX2 D [(cI, .int), (cJ, .long), (cZ, .boolean)] (va_A (wC xo nt es ro ad cI cJ cZ ln fz sx mo sn bw tkv opv shv ldv wyv bdv ct dA dA sta stc fev dl dnv rov) sz) := C
  refine gz_lload_n C 0 dX2_isSeconds_0 rfl ?_
  refine gz_lconst (v := 0) C dX2_isSeconds_1 (by decide) ?_
  refine gz_J (ws2 := (wC xo nt es ro ad cI cJ cZ ln fz sx mo sn bw tkv opv shv ldv wyv bdv ct dA dA sta stc fev dl dnv rov)) (lv2 := [(0, .long t)]) (st2 := [.int (nI ((if t < 0 then 0 else (if 100000 < t then 0 else 1))))]) (pc2 := 19) ?_ (fun J_1 => ?_)
  rotate_left
  · refine gz_lcmp_lt C 18 dX2_isSeconds_2 dX2_isSeconds_3 (by decide) (fun h_1 => ?_) (fun h_1 => ?_)
    · skip
      refine gz_iconst (v := nI 0) C dX2_isSeconds_18 (by decide) ?_
      simp only [if_pos h_1] at J_1 ⊢
      exact gz_lv [0] rfl J_1
    · have g_1 : ¬ (t < 0) := h_1
      refine gz_lload_n C 0 dX2_isSeconds_6 rfl ?_
      refine gz_ldc2 (v := 100000) C wk_108 dX2_isSeconds_7 ?_
      refine gz_J (ws2 := (wC xo nt es ro ad cI cJ cZ ln fz sx mo sn bw tkv opv shv ldv wyv bdv ct dA dA sta stc fev dl dnv rov)) (lv2 := [(0, .long t)]) (st2 := [.int (nI ((if 100000 < t then 0 else 1)))]) (pc2 := 19) ?_ (fun J_2 => ?_)
      rotate_left
      · refine gz_lcmp_gt C 18 dX2_isSeconds_10 dX2_isSeconds_11 (by decide) (fun h_2 => ?_) (fun h_2 => ?_)
        · skip
          refine gz_iconst (v := nI 0) C dX2_isSeconds_18 (by decide) ?_
          simp only [if_pos h_2] at J_2 ⊢
          exact gz_lv [0] rfl J_2
        · have g_2 : ¬ (100000 < t) := h_2
          refine gz_iconst (v := nI 1) C dX2_isSeconds_14 (by decide) ?_
          refine gz_goto C 19 dX2_isSeconds_15 (by decide) ?_
          simp only [if_neg g_2] at J_2 ⊢
          exact gz_lv [0] rfl J_2
      simp only [if_neg g_1] at J_1 ⊢
      exact gz_lv [0] rfl J_1
  refine gz_sw (v := .int (nI ((if t < 0 then 0 else (if 100000 < t then 0 else 1))))) (w := .int (bI ((if t < 0 then false else (if 100000 < t then false else true))))) (by rw [show nI ((if t < 0 then 0 else (if 100000 < t then 0 else 1))) = bI ((if t < 0 then false else (if 100000 < t then false else true))) from (by first | rfl | decide | ((repeat' split) <;> rfl))]) ?_
  exact gz_zret C hr hk (bI_nar _) (by first | rfl | (simp only [f2_isSeconds]) | (simp only [f2_isSeconds]; rfl)) rfl (Nat.le_refl _) (Nat.le_refl _) dX2_isSeconds_19

def f2_isPlace (ln : Int32) (x : Int32) : Bool := (if x < 0 then false else (if ln = (((-1))) then true else (if ln ≤ x then false else true)))
set_option maxRecDepth 100000 in
set_option maxHeartbeats 4000000 in
theorem kX2_isPlace (l : Launch) (D : va_G) (xo : Nat) (nt : Nat) (es : Nat) (ro : Nat) (ad : Nat → Nat) (cI : ClassId) (cJ : ClassId) (cZ : ClassId) (ln : Int32) (fz : Nat) (sx : Bool) (mo : Int32) (sn : Nat) (bw : Int32) (tkv : Nat → Int64) (opv : Nat → Int64) (shv : Nat → Int64) (ldv : Nat → Int32) (wyv : Nat → Int64) (bdv : Nat → Bool) (ct : Nat) (dA : Nat) (sta : Nat) (stc : Int64) (fev : Nat → Nat) (dl : Nat) (dnv : Nat → Int64) (rov : Nat → Nat) (x : Int32)  : gz_M l yX2_isPlace cX2_isPlace 2 (some .boolean) ({ frames := 0, cells := 0, slots := 0, locals := 0 } : Room) D [(cI, .int), (cJ, .long), (cZ, .boolean)] [.ref xo, .int x] (wC xo nt es ro ad cI cJ cZ ln fz sx mo sn bw tkv opv shv ldv wyv bdv ct dA dA sta stc fev dl dnv rov) (some (.int (bI (f2_isPlace ln x)))) (wC xo nt es ro ad cI cJ cZ ln fz sx mo sn bw tkv opv shv ldv wyv bdv ct dA dA sta stc fev dl dnv rov) 0 0 := by
  refine gz_met l (by decide) (Nat.le_of_ble_eq_true rfl) [(0, .ref xo), (1, .int x)] rfl ?_
  intro sz p e s m args below meth c C hr hk hnm
  have C : gz_C p s m args c cX2_isPlace 2 RX2 D [(cI, .int), (cJ, .long), (cZ, .boolean)] (va_A (wC xo nt es ro ad cI cJ cZ ln fz sx mo sn bw tkv opv shv ldv wyv bdv ct dA dA sta stc fev dl dnv rov) sz) := C
  refine gz_iload_n C 1 dX2_isPlace_0 rfl ?_
  refine gz_J (ws2 := (wC xo nt es ro ad cI cJ cZ ln fz sx mo sn bw tkv opv shv ldv wyv bdv ct dA dA sta stc fev dl dnv rov)) (lv2 := [(0, .ref xo), (1, .int x)]) (st2 := [.int (nI ((if x < 0 then 0 else (if ln = (((-1))) then 1 else (if ln ≤ x then 0 else 1)))))]) (pc2 := 25) ?_ (fun J_1 => ?_)
  rotate_left
  · refine gz_if_lt C 24 dX2_isPlace_1 (by decide) (fun h_1 => ?_) (fun h_1 => ?_)
    · skip
      refine gz_iconst (v := nI 0) C dX2_isPlace_24 (by decide) ?_
      simp only [if_pos h_1] at J_1 ⊢
      exact gz_lv [0, 1] rfl J_1
    · have g_1 : ¬ (x < 0) := h_1
      refine gz_aload_n C 0 dX2_isPlace_4 rfl ?_
      refine gz_get (ci := 3) C iwX2 0 rfl rfl 3 (by decide) wk_82 rfl rfl dX2_isPlace_5 ?_
      refine gz_iconst (v := ((-1))) C dX2_isPlace_8 (by decide) ?_
      refine gz_J (ws2 := (wC xo nt es ro ad cI cJ cZ ln fz sx mo sn bw tkv opv shv ldv wyv bdv ct dA dA sta stc fev dl dnv rov)) (lv2 := [(0, .ref xo), (1, .int x)]) (st2 := [.int (nI ((if ln = (((-1))) then 1 else (if ln ≤ x then 0 else 1))))]) (pc2 := 25) ?_ (fun J_2 => ?_)
      rotate_left
      · refine gz_icmp_eq C 20 dX2_isPlace_9 (by decide) (fun h_2 => ?_) (fun h_2 => ?_)
        · skip
          refine gz_iconst (v := nI 1) C dX2_isPlace_20 (by decide) ?_
          refine gz_goto C 25 dX2_isPlace_21 (by decide) ?_
          simp only [if_pos h_2] at J_2 ⊢
          exact gz_lv [0, 1] rfl J_2
        · have g_2 : ¬ (ln = (((-1)))) := h_2
          refine gz_iload_n C 1 dX2_isPlace_12 rfl ?_
          refine gz_aload_n C 0 dX2_isPlace_13 rfl ?_
          refine gz_get (ci := 3) C iwX2 0 rfl rfl 3 (by decide) wk_82 rfl rfl dX2_isPlace_14 ?_
          refine gz_J (ws2 := (wC xo nt es ro ad cI cJ cZ ln fz sx mo sn bw tkv opv shv ldv wyv bdv ct dA dA sta stc fev dl dnv rov)) (lv2 := [(0, .ref xo), (1, .int x)]) (st2 := [.int (nI ((if ln ≤ x then 0 else 1)))]) (pc2 := 25) ?_ (fun J_3 => ?_)
          rotate_left
          · refine gz_icmp_ge C 24 dX2_isPlace_17 (by decide) (fun h_3 => ?_) (fun h_3 => ?_)
            · skip
              refine gz_iconst (v := nI 0) C dX2_isPlace_24 (by decide) ?_
              simp only [if_pos h_3] at J_3 ⊢
              exact gz_lv [0, 1] rfl J_3
            · have g_3 : ¬ (ln ≤ x) := h_3
              refine gz_iconst (v := nI 1) C dX2_isPlace_20 (by decide) ?_
              refine gz_goto C 25 dX2_isPlace_21 (by decide) ?_
              simp only [if_neg g_3] at J_3 ⊢
              exact gz_lv [0, 1] rfl J_3
          simp only [if_neg g_2] at J_2 ⊢
          exact gz_lv [0, 1] rfl J_2
      simp only [if_neg g_1] at J_1 ⊢
      exact gz_lv [0, 1] rfl J_1
  refine gz_sw (v := .int (nI ((if x < 0 then 0 else (if ln = (((-1))) then 1 else (if ln ≤ x then 0 else 1)))))) (w := .int (bI ((if x < 0 then false else (if ln = (((-1))) then true else (if ln ≤ x then false else true)))))) (by rw [show nI ((if x < 0 then 0 else (if ln = (((-1))) then 1 else (if ln ≤ x then 0 else 1)))) = bI ((if x < 0 then false else (if ln = (((-1))) then true else (if ln ≤ x then false else true)))) from (by first | rfl | decide | ((repeat' split) <;> rfl))]) ?_
  exact gz_zret C hr hk (bI_nar _) (by first | rfl | (simp only [f2_isPlace]) | (simp only [f2_isPlace]; rfl)) rfl (Nat.le_refl _) (Nat.le_refl _) dX2_isPlace_25

def f2_swap_rov (rov : Nat → Nat) (i : Nat) (j : Nat) : Nat → Nat := va_up (va_up rov i (rov j)) j (rov i)
set_option maxRecDepth 100000 in
set_option maxHeartbeats 4000000 in
theorem kX2_swap (l : Launch) (D : va_G) (xo : Nat) (nt : Nat) (es : Nat) (ro : Nat) (ad : Nat → Nat) (cI : ClassId) (cJ : ClassId) (cZ : ClassId) (ln : Int32) (fz : Nat) (sx : Bool) (mo : Int32) (sn : Nat) (bw : Int32) (tkv : Nat → Int64) (opv : Nat → Int64) (shv : Nat → Int64) (ldv : Nat → Int32) (wyv : Nat → Int64) (bdv : Nat → Bool) (ct : Nat) (dA : Nat) (sta : Nat) (stc : Int64) (fev : Nat → Nat) (dl : Nat) (dnv : Nat → Int64) (rov : Nat → Nat) (i : Nat) (j : Nat) (hi : i < 20) (hj : j < 20) : gz_M l yX2_swap cX2_swap 4 none ({ frames := 0, cells := 0, slots := 0, locals := 0 } : Room) D [(cI, .int), (cJ, .long), (cZ, .boolean)] [.ref xo, .int (nI i), .int (nI j)] (wC xo nt es ro ad cI cJ cZ ln fz sx mo sn bw tkv opv shv ldv wyv bdv ct dA dA sta stc fev dl dnv rov) (none) (wC xo nt es ro ad cI cJ cZ ln fz sx mo sn bw tkv opv shv ldv wyv bdv ct dA dA sta stc fev dl dnv (f2_swap_rov rov i j)) 0 0 := by
  refine gz_met l (by decide) (Nat.le_of_ble_eq_true rfl) [(0, .ref xo), (1, .int (nI i)), (2, .int (nI j))] rfl ?_
  intro sz p e s m args below meth c C hr hk hnm
  have C : gz_C p s m args c cX2_swap 4 RX2 D [(cI, .int), (cJ, .long), (cZ, .boolean)] (va_A (wC xo nt es ro ad cI cJ cZ ln fz sx mo sn bw tkv opv shv ldv wyv bdv ct dA dA sta stc fev dl dnv rov) sz) := C
  refine gz_aload_n C 0 dX2_swap_0 rfl ?_
  refine gz_get (ci := 3) C iwX2 0 rfl rfl 2 (by decide) wk_81 rfl rfl dX2_swap_1 ?_
  refine gz_iload_n C 1 dX2_swap_4 rfl ?_
  refine gz_iald C 11 0 rfl rfl (by omega) (by decide) dX2_swap_5 ?_
  refine gz_istore_n (lv2 := [(3, .int (nI (rov i))), (0, .ref xo), (1, .int (nI i)), (2, .int (nI j))]) C dX2_swap_6 (by decide) rfl ?_
  refine gz_aload_n C 1 dX2_swap_7 rfl ?_
  refine gz_get (ci := 3) C iwX2 0 rfl rfl 2 (by decide) wk_81 rfl rfl dX2_swap_8 ?_
  refine gz_iload_n C 2 dX2_swap_11 rfl ?_
  refine gz_aload_n C 1 dX2_swap_12 rfl ?_
  refine gz_get (ci := 3) C iwX2 0 rfl rfl 2 (by decide) wk_81 rfl rfl dX2_swap_13 ?_
  refine gz_iload_n C 3 dX2_swap_16 rfl ?_
  refine gz_iald C 11 0 rfl rfl (by omega) (by decide) dX2_swap_17 ?_
  refine gz_iast (ws2 := (wC xo nt es ro ad cI cJ cZ ln fz sx mo sn bw tkv opv shv ldv wyv bdv ct dA dA sta stc fev dl dnv (va_up rov i (rov j)))) C 11 0 rfl rfl (by omega) (by decide) rfl dX2_swap_18 ?_
  refine gz_aload_n C 1 dX2_swap_19 rfl ?_
  refine gz_get (ci := 3) C iwX2 0 rfl rfl 2 (by decide) wk_81 rfl rfl dX2_swap_20 ?_
  refine gz_iload_n C 3 dX2_swap_23 rfl ?_
  refine gz_iload_n C 0 dX2_swap_24 rfl ?_
  refine gz_iast (ws2 := (wC xo nt es ro ad cI cJ cZ ln fz sx mo sn bw tkv opv shv ldv wyv bdv ct dA dA sta stc fev dl dnv (va_up (va_up rov i (rov j)) j (rov i)))) C 11 0 rfl rfl (by omega) (by decide) rfl dX2_swap_25 ?_
  exact gz_vret C hr hk (by first | rfl | (simp only [f2_swap_rov]) | (simp only [f2_swap_rov]; rfl)) (by first | rfl | (simp only [f2_swap_rov]) | (simp only [f2_swap_rov]; rfl)) (Nat.le_refl _) (Nat.le_refl _) dX2_swap_26

def f2_stop (sn : Nat) (ta : Int64) (tb : Int64) (tc : Int64) : Int32 := (if (f2_isSeconds ta) = true then (if tb < 0 then (-12) else (if tc < tb then (-12) else (if tc ≤ 1000000 then (if sn < 20 then f1_append sn else (-14)) else (-12)))) else (-12))
def f2_stop_ln (ln : Int32) (sn : Nat) (ta : Int64) (tb : Int64) (tc : Int64) : Int32 := (if (f2_isSeconds ta) = true then (if tb < 0 then ln else (if tc < tb then ln else (if tc ≤ 1000000 then (if sn < 20 then (-1) else ln) else ln))) else ln)
def f2_stop_sx (sx : Bool) (sn : Nat) (ta : Int64) (tb : Int64) (tc : Int64) : Bool := (if (f2_isSeconds ta) = true then (if tb < 0 then sx else (if tc < tb then sx else (if tc ≤ 1000000 then (if sn < 20 then false else sx) else sx))) else sx)
def f2_stop_sn (sn : Nat) (ta : Int64) (tb : Int64) (tc : Int64) : Nat := (if (f2_isSeconds ta) = true then (if tb < 0 then sn else (if tc < tb then sn else (if tc ≤ 1000000 then (if sn < 20 then f1_append_sn sn else sn) else sn))) else sn)
def f2_stop_tkv (sn : Nat) (tkv : Nat → Int64) (ta : Int64) (tb : Int64) (tc : Int64) : Nat → Int64 := (if (f2_isSeconds ta) = true then (if tb < 0 then tkv else (if tc < tb then tkv else (if tc ≤ 1000000 then (if sn < 20 then f1_append_tkv sn tkv ta else tkv) else tkv))) else tkv)
def f2_stop_opv (sn : Nat) (opv : Nat → Int64) (ta : Int64) (tb : Int64) (tc : Int64) : Nat → Int64 := (if (f2_isSeconds ta) = true then (if tb < 0 then opv else (if tc < tb then opv else (if tc ≤ 1000000 then (if sn < 20 then f1_append_opv sn opv tb else opv) else opv))) else opv)
def f2_stop_shv (sn : Nat) (shv : Nat → Int64) (ta : Int64) (tb : Int64) (tc : Int64) : Nat → Int64 := (if (f2_isSeconds ta) = true then (if tb < 0 then shv else (if tc < tb then shv else (if tc ≤ 1000000 then (if sn < 20 then f1_append_shv sn shv tc else shv) else shv))) else shv)
set_option maxRecDepth 100000 in
set_option maxHeartbeats 4000000 in
theorem kX2_stop (l : Launch) (D : va_G) (xo : Nat) (nt : Nat) (es : Nat) (ro : Nat) (ad : Nat → Nat) (cI : ClassId) (cJ : ClassId) (cZ : ClassId) (ln : Int32) (fz : Nat) (sx : Bool) (mo : Int32) (sn : Nat) (bw : Int32) (tkv : Nat → Int64) (opv : Nat → Int64) (shv : Nat → Int64) (ldv : Nat → Int32) (wyv : Nat → Int64) (bdv : Nat → Bool) (ct : Nat) (dA : Nat) (sta : Nat) (stc : Int64) (fev : Nat → Nat) (dl : Nat) (dnv : Nat → Int64) (rov : Nat → Nat) (ta : Int64) (tb : Int64) (tc : Int64) (hsn : sn ≤ 20) : gz_M l yX2_stop cX2_stop 7 (some .int) ({ frames := 1, cells := 0, slots := 0, locals := 26 } : Room) D [(cI, .int), (cJ, .long), (cZ, .boolean)] [.ref xo, .long ta, .long tb, .long tc] (wC xo nt es ro ad cI cJ cZ ln fz sx mo sn bw tkv opv shv ldv wyv bdv ct dA dA sta stc fev dl dnv rov) (some (.int (f2_stop sn ta tb tc))) (wC xo nt es ro ad cI cJ cZ (f2_stop_ln ln sn ta tb tc) fz (f2_stop_sx sx sn ta tb tc) mo (f2_stop_sn sn ta tb tc) bw (f2_stop_tkv sn tkv ta tb tc) (f2_stop_opv sn opv ta tb tc) (f2_stop_shv sn shv ta tb tc) ldv wyv bdv ct dA dA sta stc fev dl dnv rov) 0 0 := by
  refine gz_met l (by decide) (Nat.le_of_ble_eq_true rfl) [(0, .ref xo), (1, .long ta), (3, .long tb), (5, .long tc)] rfl ?_
  intro sz p e s m args below meth c C hr hk hnm
  have C : gz_C p s m args c cX2_stop 7 RX2 D [(cI, .int), (cJ, .long), (cZ, .boolean)] (va_A (wC xo nt es ro ad cI cJ cZ ln fz sx mo sn bw tkv opv shv ldv wyv bdv ct dA dA sta stc fev dl dnv rov) sz) := C
  refine gz_lload_n C 1 dX2_stop_0 rfl ?_
  refine gz_callS (wr := []) (n := 1) (ws2 := (wC xo nt es ro ad cI cJ cZ ln fz sx mo sn bw tkv opv shv ldv wyv bdv ct dA dA sta stc fev dl dnv rov)) (st2 := [.int (bI (f2_isSeconds ta))]) (cells2 := 0) (slots2 := 0) C (kX2_isSeconds l D xo nt es ro ad cI cJ cZ ln fz sx mo sn bw tkv opv shv ldv wyv bdv ct dA sta stc fev dl dnv rov ta ) (WB_S wk_105 wk_106 wk_1 wk_107) (by decide +kernel) ⟨⟨rfl, rfl⟩, Nat.le_of_ble_eq_true rfl, Nat.le_of_ble_eq_true rfl⟩ [0, 1, 2, 3, 4, 5, 6, 7, 8, 9, 10, 11] [] [0, 1, 2] rfl rfl rfl (by decide) rfl rfl rfl (Nat.le_of_ble_eq_true rfl) dX2_stop_1 ⟨Nat.zero_le _, Nat.zero_le _⟩ rfl rfl rfl ?_
  refine gz_bif_eq C 29 dX2_stop_4 (by decide) (fun h_1 => ?_) (fun h_1 => ?_)
  · have g_1 : ¬ ((f2_isSeconds ta) = true) := (by rw [h_1]; decide)
    refine gz_bipush (v := ((-12))) C dX2_stop_29 (by decide) ?_
    exact gz_iret C hr hk (by first | rfl | (simp only [f2_stop, f2_stop_ln, f2_stop_sx, f2_stop_sn, f2_stop_tkv, f2_stop_opv, f2_stop_shv, if_neg g_1]) | (simp only [f2_stop, f2_stop_ln, f2_stop_sx, f2_stop_sn, f2_stop_tkv, f2_stop_opv, f2_stop_shv, if_neg g_1]; rfl)) (by first | rfl | (simp only [f2_stop, f2_stop_ln, f2_stop_sx, f2_stop_sn, f2_stop_tkv, f2_stop_opv, f2_stop_shv, if_neg g_1]) | (simp only [f2_stop, f2_stop_ln, f2_stop_sx, f2_stop_sn, f2_stop_tkv, f2_stop_opv, f2_stop_shv, if_neg g_1]; rfl)) (Nat.le_refl _) (Nat.le_refl _) dX2_stop_31
  · skip
    refine gz_lload_n C 2 dX2_stop_7 rfl ?_
    refine gz_lconst (v := 0) C dX2_stop_8 (by decide) ?_
    refine gz_lcmp_lt C 29 dX2_stop_9 dX2_stop_10 (by decide) (fun h_2 => ?_) (fun h_2 => ?_)
    · skip
      refine gz_bipush (v := ((-12))) C dX2_stop_29 (by decide) ?_
      exact gz_iret C hr hk (by first | rfl | (simp only [f2_stop, f2_stop_ln, f2_stop_sx, f2_stop_sn, f2_stop_tkv, f2_stop_opv, f2_stop_shv, if_pos h_1, if_pos h_2]) | (simp only [f2_stop, f2_stop_ln, f2_stop_sx, f2_stop_sn, f2_stop_tkv, f2_stop_opv, f2_stop_shv, if_pos h_1, if_pos h_2]; rfl)) (by first | rfl | (simp only [f2_stop, f2_stop_ln, f2_stop_sx, f2_stop_sn, f2_stop_tkv, f2_stop_opv, f2_stop_shv, if_pos h_1, if_pos h_2]) | (simp only [f2_stop, f2_stop_ln, f2_stop_sx, f2_stop_sn, f2_stop_tkv, f2_stop_opv, f2_stop_shv, if_pos h_1, if_pos h_2]; rfl)) (Nat.le_refl _) (Nat.le_refl _) dX2_stop_31
    · have g_2 : ¬ (tb < 0) := h_2
      refine gz_lload_n C 2 dX2_stop_13 rfl ?_
      refine gz_lload C 3 dX2_stop_14 rfl ?_
      refine gz_lcmp_gt C 29 dX2_stop_16 dX2_stop_17 (by decide) (fun h_3 => ?_) (fun h_3 => ?_)
      · skip
        refine gz_bipush (v := ((-12))) C dX2_stop_29 (by decide) ?_
        exact gz_iret C hr hk (by first | rfl | (simp only [f2_stop, f2_stop_ln, f2_stop_sx, f2_stop_sn, f2_stop_tkv, f2_stop_opv, f2_stop_shv, if_pos h_1, if_neg g_2, if_pos h_3]) | (simp only [f2_stop, f2_stop_ln, f2_stop_sx, f2_stop_sn, f2_stop_tkv, f2_stop_opv, f2_stop_shv, if_pos h_1, if_neg g_2, if_pos h_3]; rfl)) (by first | rfl | (simp only [f2_stop, f2_stop_ln, f2_stop_sx, f2_stop_sn, f2_stop_tkv, f2_stop_opv, f2_stop_shv, if_pos h_1, if_neg g_2, if_pos h_3]) | (simp only [f2_stop, f2_stop_ln, f2_stop_sx, f2_stop_sn, f2_stop_tkv, f2_stop_opv, f2_stop_shv, if_pos h_1, if_neg g_2, if_pos h_3]; rfl)) (Nat.le_refl _) (Nat.le_refl _) dX2_stop_31
      · have g_3 : ¬ (tc < tb) := h_3
        refine gz_lload C 3 dX2_stop_20 rfl ?_
        refine gz_ldc2 (v := 1000000) C wk_109 dX2_stop_22 ?_
        refine gz_lcmp_le C 32 dX2_stop_25 dX2_stop_26 (by decide) (fun h_4 => ?_) (fun h_4 => ?_)
        · skip
          refine gz_aload_n C 0 dX2_stop_32 rfl ?_
          refine gz_get (ci := 3) C iwX2 0 rfl rfl 0 (by decide) wk_79 rfl rfl dX2_stop_33 ?_
          refine gz_getN (ci := 2) C iwX1 1 rfl rfl 0 (by decide) (nw_1 C.2.2.2.2.2.2.2) rfl rfl dX2_stop_36 ?_
          refine gz_bipush (v := nI 20) C dX2_stop_39 (by decide) ?_
          refine gz_ncmp_lt C 47 (by omega) (by omega) dX2_stop_41 (by decide) (fun h_5 => ?_) (fun h_5 => ?_)
          · skip
            refine gz_aload_n C 0 dX2_stop_47 rfl ?_
            refine gz_iconst (v := ((-1))) C dX2_stop_48 (by decide) ?_
            refine gz_put (ci := 3) (ws2 := (wC xo nt es ro ad cI cJ cZ ((-1)) fz sx mo sn bw tkv opv shv ldv wyv bdv ct dA dA sta stc fev dl dnv rov)) C iwX2 0 rfl rfl 3 (by decide) wk_82 rfl tyX2 tyX2_ok nmX2 rfl rfl rfl rfl (Nat.le_of_ble_eq_true rfl) rfl dX2_stop_49 ?_
            refine gz_aload_n C 0 dX2_stop_52 rfl ?_
            refine gz_iconst (v := nI 0) C dX2_stop_53 (by decide) ?_
            refine gz_sw (v := .int (nI 0)) (w := .int (bI false)) (by rw [show nI 0 = bI false from (by first | rfl | decide | ((repeat' split) <;> rfl))]) ?_
            refine gz_put (ci := 3) (ws2 := (wC xo nt es ro ad cI cJ cZ ((-1)) fz false mo sn bw tkv opv shv ldv wyv bdv ct dA dA sta stc fev dl dnv rov)) C iwX2 0 rfl rfl 5 (by decide) wk_84 rfl tyX2 tyX2_ok nmX2 rfl rfl (bI_nar _) (bI_fit _) (Nat.le_of_ble_eq_true rfl) rfl dX2_stop_54 ?_
            refine gz_aload_n C 0 dX2_stop_57 rfl ?_
            refine gz_get (ci := 3) C iwX2 0 rfl rfl 0 (by decide) wk_79 rfl rfl dX2_stop_58 ?_
            refine gz_lload_n C 1 dX2_stop_61 rfl ?_
            refine gz_lload_n C 2 dX2_stop_62 rfl ?_
            refine gz_lload C 3 dX2_stop_63 rfl ?_
            refine gz_callV (wr := []) (n := 3) (ws2 := (wC xo nt es ro ad cI cJ cZ ((-1)) fz false mo (f1_append_sn sn) bw (f1_append_tkv sn tkv ta) (f1_append_opv sn opv tb) (f1_append_shv sn shv tc) ldv wyv bdv ct dA dA sta stc fev dl dnv rov)) (st2 := [.int (f1_append sn)]) (cells2 := 0) (slots2 := 0) (ci := 2) C (kX1_append l D xo nt es ro ad cI cJ cZ ((-1)) fz false mo sn bw tkv opv shv ldv wyv bdv ct dA sta stc fev dl dnv rov ta tb tc (by first | assumption | omega)) (WB_V wk_110 wk_111 wk_112 wk_2 wk_113) (by decide +kernel) ⟨⟨rfl, rfl⟩, Nat.le_of_ble_eq_true rfl, Nat.le_of_ble_eq_true rfl⟩ [0, 1, 2, 3, 4, 5, 6, 7, 8, 9, 10, 11] [] [0, 1, 2] rfl rfl rfl (by decide) rfl 1 rfl rfl rfl rfl (Nat.le_of_ble_eq_true rfl) dX2_stop_65 ⟨Nat.zero_le _, Nat.zero_le _⟩ rfl rfl rfl ?_
            exact gz_iret C hr hk (by first | rfl | (simp only [f2_stop, f2_stop_ln, f2_stop_sx, f2_stop_sn, f2_stop_tkv, f2_stop_opv, f2_stop_shv, if_pos h_1, if_neg g_2, if_neg g_3, if_pos h_4, if_pos h_5]) | (simp only [f2_stop, f2_stop_ln, f2_stop_sx, f2_stop_sn, f2_stop_tkv, f2_stop_opv, f2_stop_shv, if_pos h_1, if_neg g_2, if_neg g_3, if_pos h_4, if_pos h_5]; rfl)) (by first | rfl | (simp only [f2_stop, f2_stop_ln, f2_stop_sx, f2_stop_sn, f2_stop_tkv, f2_stop_opv, f2_stop_shv, if_pos h_1, if_neg g_2, if_neg g_3, if_pos h_4, if_pos h_5]) | (simp only [f2_stop, f2_stop_ln, f2_stop_sx, f2_stop_sn, f2_stop_tkv, f2_stop_opv, f2_stop_shv, if_pos h_1, if_neg g_2, if_neg g_3, if_pos h_4, if_pos h_5]; rfl)) (Nat.le_refl _) (Nat.le_refl _) dX2_stop_68
          · have g_5 : ¬ (sn < 20) := (Nat.not_lt.mpr h_5)
            refine gz_bipush (v := ((-14))) C dX2_stop_44 (by decide) ?_
            exact gz_iret C hr hk (by first | rfl | (simp only [f2_stop, f2_stop_ln, f2_stop_sx, f2_stop_sn, f2_stop_tkv, f2_stop_opv, f2_stop_shv, if_pos h_1, if_neg g_2, if_neg g_3, if_pos h_4, if_neg g_5]) | (simp only [f2_stop, f2_stop_ln, f2_stop_sx, f2_stop_sn, f2_stop_tkv, f2_stop_opv, f2_stop_shv, if_pos h_1, if_neg g_2, if_neg g_3, if_pos h_4, if_neg g_5]; rfl)) (by first | rfl | (simp only [f2_stop, f2_stop_ln, f2_stop_sx, f2_stop_sn, f2_stop_tkv, f2_stop_opv, f2_stop_shv, if_pos h_1, if_neg g_2, if_neg g_3, if_pos h_4, if_neg g_5]) | (simp only [f2_stop, f2_stop_ln, f2_stop_sx, f2_stop_sn, f2_stop_tkv, f2_stop_opv, f2_stop_shv, if_pos h_1, if_neg g_2, if_neg g_3, if_pos h_4, if_neg g_5]; rfl)) (Nat.le_refl _) (Nat.le_refl _) dX2_stop_46
        · have g_4 : ¬ (tc ≤ 1000000) := h_4
          refine gz_bipush (v := ((-12))) C dX2_stop_29 (by decide) ?_
          exact gz_iret C hr hk (by first | rfl | (simp only [f2_stop, f2_stop_ln, f2_stop_sx, f2_stop_sn, f2_stop_tkv, f2_stop_opv, f2_stop_shv, if_pos h_1, if_neg g_2, if_neg g_3, if_neg g_4]) | (simp only [f2_stop, f2_stop_ln, f2_stop_sx, f2_stop_sn, f2_stop_tkv, f2_stop_opv, f2_stop_shv, if_pos h_1, if_neg g_2, if_neg g_3, if_neg g_4]; rfl)) (by first | rfl | (simp only [f2_stop, f2_stop_ln, f2_stop_sx, f2_stop_sn, f2_stop_tkv, f2_stop_opv, f2_stop_shv, if_pos h_1, if_neg g_2, if_neg g_3, if_neg g_4]) | (simp only [f2_stop, f2_stop_ln, f2_stop_sx, f2_stop_sn, f2_stop_tkv, f2_stop_opv, f2_stop_shv, if_pos h_1, if_neg g_2, if_neg g_3, if_neg g_4]; rfl)) (Nat.le_refl _) (Nat.le_refl _) dX2_stop_31

def f2_way_sx (sx : Bool) (sn : Nat) (a : Int32) (b : Int32) (t : Int64) : Bool := (if (f1_isPoint sn a) = true then (if (f1_isPoint sn b) = true then (if (cl a) = (cl b) then sx else (if (f2_isSeconds t) = true then false else sx)) else sx) else sx)
def f2_way_wyv (sn : Nat) (wyv : Nat → Int64) (a : Int32) (b : Int32) (t : Int64) : Nat → Int64 := (if (f1_isPoint sn a) = true then (if (f1_isPoint sn b) = true then (if (cl a) = (cl b) then wyv else (if (f2_isSeconds t) = true then f1_tellWay_wyv wyv (cl a) (cl b) t else wyv)) else wyv) else wyv)
set_option maxRecDepth 100000 in
set_option maxHeartbeats 4000000 in
theorem kX2_way (l : Launch) (D : va_G) (xo : Nat) (nt : Nat) (es : Nat) (ro : Nat) (ad : Nat → Nat) (cI : ClassId) (cJ : ClassId) (cZ : ClassId) (ln : Int32) (fz : Nat) (sx : Bool) (mo : Int32) (sn : Nat) (bw : Int32) (tkv : Nat → Int64) (opv : Nat → Int64) (shv : Nat → Int64) (ldv : Nat → Int32) (wyv : Nat → Int64) (bdv : Nat → Bool) (ct : Nat) (dA : Nat) (sta : Nat) (stc : Int64) (fev : Nat → Nat) (dl : Nat) (dnv : Nat → Int64) (rov : Nat → Nat) (a : Int32) (b : Int32) (t : Int64) (hsn : sn ≤ 20) : gz_M l yX2_way cX2_way 5 none ({ frames := 2, cells := 0, slots := 0, locals := 45 } : Room) D [(cI, .int), (cJ, .long), (cZ, .boolean)] [.ref xo, .int a, .int b, .long t] (wC xo nt es ro ad cI cJ cZ ln fz sx mo sn bw tkv opv shv ldv wyv bdv ct dA dA sta stc fev dl dnv rov) (none) (wC xo nt es ro ad cI cJ cZ ln fz (f2_way_sx sx sn a b t) mo sn bw tkv opv shv ldv (f2_way_wyv sn wyv a b t) bdv ct dA dA sta stc fev dl dnv rov) 0 0 := by
  refine gz_met l (by decide) (Nat.le_of_ble_eq_true rfl) [(0, .ref xo), (1, .int a), (2, .int b), (3, .long t)] rfl ?_
  intro sz p e s m args below meth c C hr hk hnm
  have C : gz_C p s m args c cX2_way 5 RX2 D [(cI, .int), (cJ, .long), (cZ, .boolean)] (va_A (wC xo nt es ro ad cI cJ cZ ln fz sx mo sn bw tkv opv shv ldv wyv bdv ct dA dA sta stc fev dl dnv rov) sz) := C
  refine gz_aload_n C 0 dX2_way_0 rfl ?_
  refine gz_get (ci := 3) C iwX2 0 rfl rfl 0 (by decide) wk_79 rfl rfl dX2_way_1 ?_
  refine gz_iload_n C 1 dX2_way_4 rfl ?_
  refine gz_callV (wr := []) (n := 1) (ws2 := (wC xo nt es ro ad cI cJ cZ ln fz sx mo sn bw tkv opv shv ldv wyv bdv ct dA dA sta stc fev dl dnv rov)) (st2 := [.int (bI (f1_isPoint sn a))]) (cells2 := 0) (slots2 := 0) (ci := 2) C (kX1_isPoint l D xo nt es ro ad cI cJ cZ ln fz sx mo sn bw tkv opv shv ldv wyv bdv ct dA sta stc fev dl dnv rov a (by first | assumption | omega)) (WB_V wk_118 wk_119 wk_120 wk_2 wk_121) (by decide +kernel) ⟨⟨rfl, rfl⟩, Nat.le_of_ble_eq_true rfl, Nat.le_of_ble_eq_true rfl⟩ [0, 1, 2, 3, 4, 5, 6, 7, 8, 9, 10, 11] [] [0, 1, 2] rfl rfl rfl (by decide) rfl 1 rfl rfl rfl rfl (Nat.le_of_ble_eq_true rfl) dX2_way_5 ⟨Nat.zero_le _, Nat.zero_le _⟩ rfl rfl rfl ?_
  refine gz_bif_eq C 34 dX2_way_8 (by decide) (fun h_1 => ?_) (fun h_1 => ?_)
  · have g_1 : ¬ ((f1_isPoint sn a) = true) := (by rw [h_1]; decide)
    exact gz_vret C hr hk (by first | rfl | (simp only [f2_way_sx, f2_way_wyv, if_neg g_1]) | (simp only [f2_way_sx, f2_way_wyv, if_neg g_1]; rfl)) (by first | rfl | (simp only [f2_way_sx, f2_way_wyv, if_neg g_1]) | (simp only [f2_way_sx, f2_way_wyv, if_neg g_1]; rfl)) (Nat.le_refl _) (Nat.le_refl _) dX2_way_34
  · skip
    obtain ⟨ha1, ha2⟩ := q1_point h_1 hsn
    refine gz_lve (lv2 := [(0, .ref xo), (1, .int (nI (cl a))), (2, .int b), (3, .long t)]) (by rw [← ha1]) ?_
    refine gz_aload_n C 0 dX2_way_11 rfl ?_
    refine gz_get (ci := 3) C iwX2 0 rfl rfl 0 (by decide) wk_79 rfl rfl dX2_way_12 ?_
    refine gz_iload_n C 2 dX2_way_15 rfl ?_
    refine gz_callV (wr := []) (n := 1) (ws2 := (wC xo nt es ro ad cI cJ cZ ln fz sx mo sn bw tkv opv shv ldv wyv bdv ct dA dA sta stc fev dl dnv rov)) (st2 := [.int (bI (f1_isPoint sn b))]) (cells2 := 0) (slots2 := 0) (ci := 2) C (kX1_isPoint l D xo nt es ro ad cI cJ cZ ln fz sx mo sn bw tkv opv shv ldv wyv bdv ct dA sta stc fev dl dnv rov b (by first | assumption | omega)) (WB_V wk_118 wk_119 wk_120 wk_2 wk_121) (by decide +kernel) ⟨⟨rfl, rfl⟩, Nat.le_of_ble_eq_true rfl, Nat.le_of_ble_eq_true rfl⟩ [0, 1, 2, 3, 4, 5, 6, 7, 8, 9, 10, 11] [] [0, 1, 2] rfl rfl rfl (by decide) rfl 1 rfl rfl rfl rfl (Nat.le_of_ble_eq_true rfl) dX2_way_16 ⟨Nat.zero_le _, Nat.zero_le _⟩ rfl rfl rfl ?_
    refine gz_bif_eq C 34 dX2_way_19 (by decide) (fun h_2 => ?_) (fun h_2 => ?_)
    · have g_2 : ¬ ((f1_isPoint sn b) = true) := (by rw [h_2]; decide)
      exact gz_vret C hr hk (by first | rfl | (simp only [f2_way_sx, f2_way_wyv, if_pos h_1, if_neg g_2]) | (simp only [f2_way_sx, f2_way_wyv, if_pos h_1, if_neg g_2]; rfl)) (by first | rfl | (simp only [f2_way_sx, f2_way_wyv, if_pos h_1, if_neg g_2]) | (simp only [f2_way_sx, f2_way_wyv, if_pos h_1, if_neg g_2]; rfl)) (Nat.le_refl _) (Nat.le_refl _) dX2_way_34
    · skip
      obtain ⟨hb1, hb2⟩ := q1_point h_2 hsn
      refine gz_lve (lv2 := [(0, .ref xo), (1, .int (nI (cl a))), (2, .int (nI (cl b))), (3, .long t)]) (by rw [← hb1]) ?_
      refine gz_iload_n C 1 dX2_way_22 rfl ?_
      refine gz_iload_n C 2 dX2_way_23 rfl ?_
      refine gz_ncmp_eq C 34 (by omega) (by omega) dX2_way_24 (by decide) (fun h_3 => ?_) (fun h_3 => ?_)
      · skip
        exact gz_vret C hr hk (by first | rfl | (simp only [f2_way_sx, f2_way_wyv, if_pos h_1, if_pos h_2, if_pos h_3]) | (simp only [f2_way_sx, f2_way_wyv, if_pos h_1, if_pos h_2, if_pos h_3]; rfl)) (by first | rfl | (simp only [f2_way_sx, f2_way_wyv, if_pos h_1, if_pos h_2, if_pos h_3]) | (simp only [f2_way_sx, f2_way_wyv, if_pos h_1, if_pos h_2, if_pos h_3]; rfl)) (Nat.le_refl _) (Nat.le_refl _) dX2_way_34
      · have g_3 : ¬ ((cl a) = (cl b)) := h_3
        refine gz_lload_n C 3 dX2_way_27 rfl ?_
        refine gz_callS (wr := []) (n := 1) (ws2 := (wC xo nt es ro ad cI cJ cZ ln fz sx mo sn bw tkv opv shv ldv wyv bdv ct dA dA sta stc fev dl dnv rov)) (st2 := [.int (bI (f2_isSeconds t))]) (cells2 := 0) (slots2 := 0) C (kX2_isSeconds l D xo nt es ro ad cI cJ cZ ln fz sx mo sn bw tkv opv shv ldv wyv bdv ct dA sta stc fev dl dnv rov t ) (WB_S wk_105 wk_106 wk_1 wk_107) (by decide +kernel) ⟨⟨rfl, rfl⟩, Nat.le_of_ble_eq_true rfl, Nat.le_of_ble_eq_true rfl⟩ [0, 1, 2, 3, 4, 5, 6, 7, 8, 9, 10, 11] [] [0, 1, 2] rfl rfl rfl (by decide) rfl rfl rfl (Nat.le_of_ble_eq_true rfl) dX2_way_28 ⟨Nat.zero_le _, Nat.zero_le _⟩ rfl rfl rfl ?_
        refine gz_bif_ne C 35 dX2_way_31 (by decide) (fun h_4 => ?_) (fun h_4 => ?_)
        · skip
          refine gz_aload_n C 0 dX2_way_35 rfl ?_
          refine gz_get (ci := 3) C iwX2 0 rfl rfl 0 (by decide) wk_79 rfl rfl dX2_way_36 ?_
          refine gz_iload_n C 1 dX2_way_39 rfl ?_
          refine gz_iload_n C 2 dX2_way_40 rfl ?_
          refine gz_lload_n C 3 dX2_way_41 rfl ?_
          refine gz_callV (wr := []) (n := 3) (ws2 := (wC xo nt es ro ad cI cJ cZ ln fz sx mo sn bw tkv opv shv ldv (f1_tellWay_wyv wyv (cl a) (cl b) t) bdv ct dA dA sta stc fev dl dnv rov)) (st2 := []) (cells2 := 0) (slots2 := 0) (ci := 2) C (kX1_tellWay l D xo nt es ro ad cI cJ cZ ln fz sx mo sn bw tkv opv shv ldv wyv bdv ct dA sta stc fev dl dnv rov (cl a) (cl b) t (by first | assumption | omega) (by first | assumption | omega)) (WB_V wk_126 wk_127 wk_128 wk_2 wk_129) (by decide +kernel) ⟨⟨rfl, rfl⟩, Nat.le_of_ble_eq_true rfl, Nat.le_of_ble_eq_true rfl⟩ [0, 1, 2, 3, 4, 5, 6, 7, 8, 9, 10, 11] [] [0, 1, 2] rfl rfl rfl (by decide) rfl 1 rfl rfl rfl rfl (Nat.le_of_ble_eq_true rfl) dX2_way_42 ⟨Nat.zero_le _, Nat.zero_le _⟩ rfl rfl rfl ?_
          refine gz_aload_n C 0 dX2_way_45 rfl ?_
          refine gz_iconst (v := nI 0) C dX2_way_46 (by decide) ?_
          refine gz_sw (v := .int (nI 0)) (w := .int (bI false)) (by rw [show nI 0 = bI false from (by first | rfl | decide | ((repeat' split) <;> rfl))]) ?_
          refine gz_put (ci := 3) (ws2 := (wC xo nt es ro ad cI cJ cZ ln fz false mo sn bw tkv opv shv ldv (f1_tellWay_wyv wyv (cl a) (cl b) t) bdv ct dA dA sta stc fev dl dnv rov)) C iwX2 0 rfl rfl 5 (by decide) wk_84 rfl tyX2 tyX2_ok nmX2 rfl rfl (bI_nar _) (bI_fit _) (Nat.le_of_ble_eq_true rfl) rfl dX2_way_47 ?_
          exact gz_vret C hr hk (by first | rfl | (simp only [f2_way_sx, f2_way_wyv, if_pos h_1, if_pos h_2, if_neg g_3, if_pos h_4]) | (simp only [f2_way_sx, f2_way_wyv, if_pos h_1, if_pos h_2, if_neg g_3, if_pos h_4]; rfl)) (by first | rfl | (simp only [f2_way_sx, f2_way_wyv, if_pos h_1, if_pos h_2, if_neg g_3, if_pos h_4]) | (simp only [f2_way_sx, f2_way_wyv, if_pos h_1, if_pos h_2, if_neg g_3, if_pos h_4]; rfl)) (Nat.le_refl _) (Nat.le_refl _) dX2_way_50
        · have g_4 : ¬ ((f2_isSeconds t) = true) := (by rw [h_4]; decide)
          exact gz_vret C hr hk (by first | rfl | (simp only [f2_way_sx, f2_way_wyv, if_pos h_1, if_pos h_2, if_neg g_3, if_neg g_4]) | (simp only [f2_way_sx, f2_way_wyv, if_pos h_1, if_pos h_2, if_neg g_3, if_neg g_4]; rfl)) (by first | rfl | (simp only [f2_way_sx, f2_way_wyv, if_pos h_1, if_pos h_2, if_neg g_3, if_neg g_4]) | (simp only [f2_way_sx, f2_way_wyv, if_pos h_1, if_pos h_2, if_neg g_3, if_neg g_4]; rfl)) (Nat.le_refl _) (Nat.le_refl _) dX2_way_34

def f2_load (sn : Nat) (ldv : Nat → Int32) (x : Int32) (y : Int32) : Int32 := (if (f1_isStop sn x) = true then (if y < 0 then (-12) else (if y ≤ (nI 1000) then f1_loads sn (f1_tellLoad_ldv ldv (cl x) y) else (-12))) else (-11))
def f2_load_ldv (sn : Nat) (ldv : Nat → Int32) (x : Int32) (y : Int32) : Nat → Int32 := (if (f1_isStop sn x) = true then (if y < 0 then ldv else (if y ≤ (nI 1000) then f1_tellLoad_ldv ldv (cl x) y else ldv)) else ldv)
set_option maxRecDepth 100000 in
set_option maxHeartbeats 4000000 in
theorem kX2_load (l : Launch) (D : va_G) (xo : Nat) (nt : Nat) (es : Nat) (ro : Nat) (ad : Nat → Nat) (cI : ClassId) (cJ : ClassId) (cZ : ClassId) (ln : Int32) (fz : Nat) (sx : Bool) (mo : Int32) (sn : Nat) (bw : Int32) (tkv : Nat → Int64) (opv : Nat → Int64) (shv : Nat → Int64) (ldv : Nat → Int32) (wyv : Nat → Int64) (bdv : Nat → Bool) (ct : Nat) (dA : Nat) (sta : Nat) (stc : Int64) (fev : Nat → Nat) (dl : Nat) (dnv : Nat → Int64) (rov : Nat → Nat) (x : Int32) (y : Int32) (hsn : sn ≤ 20) : gz_M l yX2_load cX2_load 3 (some .int) ({ frames := 1, cells := 0, slots := 0, locals := 22 } : Room) D [(cI, .int), (cJ, .long), (cZ, .boolean)] [.ref xo, .int x, .int y] (wC xo nt es ro ad cI cJ cZ ln fz sx mo sn bw tkv opv shv ldv wyv bdv ct dA dA sta stc fev dl dnv rov) (some (.int (f2_load sn ldv x y))) (wC xo nt es ro ad cI cJ cZ ln fz sx mo sn bw tkv opv shv (f2_load_ldv sn ldv x y) wyv bdv ct dA dA sta stc fev dl dnv rov) 0 0 := by
  refine gz_met l (by decide) (Nat.le_of_ble_eq_true rfl) [(0, .ref xo), (1, .int x), (2, .int y)] rfl ?_
  intro sz p e s m args below meth c C hr hk hnm
  have C : gz_C p s m args c cX2_load 3 RX2 D [(cI, .int), (cJ, .long), (cZ, .boolean)] (va_A (wC xo nt es ro ad cI cJ cZ ln fz sx mo sn bw tkv opv shv ldv wyv bdv ct dA dA sta stc fev dl dnv rov) sz) := C
  refine gz_aload_n C 0 dX2_load_0 rfl ?_
  refine gz_get (ci := 3) C iwX2 0 rfl rfl 0 (by decide) wk_79 rfl rfl dX2_load_1 ?_
  refine gz_iload_n C 1 dX2_load_4 rfl ?_
  refine gz_callV (wr := []) (n := 1) (ws2 := (wC xo nt es ro ad cI cJ cZ ln fz sx mo sn bw tkv opv shv ldv wyv bdv ct dA dA sta stc fev dl dnv rov)) (st2 := [.int (bI (f1_isStop sn x))]) (cells2 := 0) (slots2 := 0) (ci := 2) C (kX1_isStop l D xo nt es ro ad cI cJ cZ ln fz sx mo sn bw tkv opv shv ldv wyv bdv ct dA sta stc fev dl dnv rov x (by first | assumption | omega)) (WB_V wk_137 wk_123 wk_124 wk_2 wk_125) (by decide +kernel) ⟨⟨rfl, rfl⟩, Nat.le_of_ble_eq_true rfl, Nat.le_of_ble_eq_true rfl⟩ [0, 1, 2, 3, 4, 5, 6, 7, 8, 9, 10, 11] [] [0, 1, 2] rfl rfl rfl (by decide) rfl 1 rfl rfl rfl rfl (Nat.le_of_ble_eq_true rfl) dX2_load_5 ⟨Nat.zero_le _, Nat.zero_le _⟩ rfl rfl rfl ?_
  refine gz_bif_ne C 14 dX2_load_8 (by decide) (fun h_1 => ?_) (fun h_1 => ?_)
  · skip
    obtain ⟨hx1, hx2, hx3⟩ := q1_stop h_1 hsn
    refine gz_lve (lv2 := [(0, .ref xo), (1, .int (nI (cl x))), (2, .int y)]) (by rw [← hx1]) ?_
    refine gz_iload_n C 2 dX2_load_14 rfl ?_
    refine gz_if_lt C 25 dX2_load_15 (by decide) (fun h_2 => ?_) (fun h_2 => ?_)
    · skip
      refine gz_bipush (v := ((-12))) C dX2_load_25 (by decide) ?_
      exact gz_iret C hr hk (by first | rfl | (simp only [f2_load, f2_load_ldv, if_pos h_1, if_pos h_2]) | (simp only [f2_load, f2_load_ldv, if_pos h_1, if_pos h_2]; rfl)) (by first | rfl | (simp only [f2_load, f2_load_ldv, if_pos h_1, if_pos h_2]) | (simp only [f2_load, f2_load_ldv, if_pos h_1, if_pos h_2]; rfl)) (Nat.le_refl _) (Nat.le_refl _) dX2_load_27
    · have g_2 : ¬ (y < 0) := h_2
      refine gz_iload_n C 2 dX2_load_18 rfl ?_
      refine gz_sipush (v := nI 1000) C dX2_load_19 (by decide) ?_
      refine gz_icmp_le C 28 dX2_load_22 (by decide) (fun h_3 => ?_) (fun h_3 => ?_)
      · skip
        refine gz_aload_n C 0 dX2_load_28 rfl ?_
        refine gz_get (ci := 3) C iwX2 0 rfl rfl 0 (by decide) wk_79 rfl rfl dX2_load_29 ?_
        refine gz_iload_n C 1 dX2_load_32 rfl ?_
        refine gz_iload_n C 2 dX2_load_33 rfl ?_
        refine gz_callV (wr := []) (n := 2) (ws2 := (wC xo nt es ro ad cI cJ cZ ln fz sx mo sn bw tkv opv shv (f1_tellLoad_ldv ldv (cl x) y) wyv bdv ct dA dA sta stc fev dl dnv rov)) (st2 := []) (cells2 := 0) (slots2 := 0) (ci := 2) C (kX1_tellLoad l D xo nt es ro ad cI cJ cZ ln fz sx mo sn bw tkv opv shv ldv wyv bdv ct dA sta stc fev dl dnv rov (cl x) y (by first | assumption | omega)) (WB_V wk_138 wk_139 wk_140 wk_2 wk_141) (by decide +kernel) ⟨⟨rfl, rfl⟩, Nat.le_of_ble_eq_true rfl, Nat.le_of_ble_eq_true rfl⟩ [0, 1, 2, 3, 4, 5, 6, 7, 8, 9, 10, 11] [] [0, 1, 2] rfl rfl rfl (by decide) rfl 1 rfl rfl rfl rfl (Nat.le_of_ble_eq_true rfl) dX2_load_34 ⟨Nat.zero_le _, Nat.zero_le _⟩ rfl rfl rfl ?_
        refine gz_aload_n C 0 dX2_load_37 rfl ?_
        refine gz_get (ci := 3) C iwX2 0 rfl rfl 0 (by decide) wk_79 rfl rfl dX2_load_38 ?_
        refine gz_callV (wr := []) (n := 0) (ws2 := (wC xo nt es ro ad cI cJ cZ ln fz sx mo sn bw tkv opv shv (f1_tellLoad_ldv ldv (cl x) y) wyv bdv ct dA dA sta stc fev dl dnv rov)) (st2 := [.int (f1_loads sn (f1_tellLoad_ldv ldv (cl x) y))]) (cells2 := 0) (slots2 := 0) (ci := 2) C (kX1_loads l D xo nt es ro ad cI cJ cZ ln fz sx mo sn bw tkv opv shv (f1_tellLoad_ldv ldv (cl x) y) wyv bdv ct dA sta stc fev dl dnv rov (by first | assumption | omega)) (WB_V wk_142 wk_143 wk_144 wk_2 wk_145) (by decide +kernel) ⟨⟨rfl, rfl⟩, Nat.le_of_ble_eq_true rfl, Nat.le_of_ble_eq_true rfl⟩ [0, 1, 2, 3, 4, 5, 6, 7, 8, 9, 10, 11] [] [0, 1, 2] rfl rfl rfl (by decide) rfl 1 rfl rfl rfl rfl (Nat.le_of_ble_eq_true rfl) dX2_load_41 ⟨Nat.zero_le _, Nat.zero_le _⟩ rfl rfl rfl ?_
        exact gz_iret C hr hk (by first | rfl | (simp only [f2_load, f2_load_ldv, if_pos h_1, if_neg g_2, if_pos h_3]) | (simp only [f2_load, f2_load_ldv, if_pos h_1, if_neg g_2, if_pos h_3]; rfl)) (by first | rfl | (simp only [f2_load, f2_load_ldv, if_pos h_1, if_neg g_2, if_pos h_3]) | (simp only [f2_load, f2_load_ldv, if_pos h_1, if_neg g_2, if_pos h_3]; rfl)) (Nat.le_refl _) (Nat.le_refl _) dX2_load_44
      · have g_3 : ¬ (y ≤ (nI 1000)) := h_3
        refine gz_bipush (v := ((-12))) C dX2_load_25 (by decide) ?_
        exact gz_iret C hr hk (by first | rfl | (simp only [f2_load, f2_load_ldv, if_pos h_1, if_neg g_2, if_neg g_3]) | (simp only [f2_load, f2_load_ldv, if_pos h_1, if_neg g_2, if_neg g_3]; rfl)) (by first | rfl | (simp only [f2_load, f2_load_ldv, if_pos h_1, if_neg g_2, if_neg g_3]) | (simp only [f2_load, f2_load_ldv, if_pos h_1, if_neg g_2, if_neg g_3]; rfl)) (Nat.le_refl _) (Nat.le_refl _) dX2_load_27
  · have g_1 : ¬ ((f1_isStop sn x) = true) := (by rw [h_1]; decide)
    refine gz_bipush (v := ((-11))) C dX2_load_11 (by decide) ?_
    exact gz_iret C hr hk (by first | rfl | (simp only [f2_load, f2_load_ldv, if_neg g_1]) | (simp only [f2_load, f2_load_ldv, if_neg g_1]; rfl)) (by first | rfl | (simp only [f2_load, f2_load_ldv, if_neg g_1]) | (simp only [f2_load, f2_load_ldv, if_neg g_1]; rfl)) (Nat.le_refl _) (Nat.le_refl _) dX2_load_13

def f2_limit (n : Int32) : Int32 := (if (((-1))) ≤ n then nI ((if n = (((-1))) then 0 else 1)) else (-12))
def f2_limit_mo (mo : Int32) (n : Int32) : Int32 := (if (((-1))) ≤ n then n else mo)
set_option maxRecDepth 100000 in
set_option maxHeartbeats 4000000 in
theorem kX2_limit (l : Launch) (D : va_G) (xo : Nat) (nt : Nat) (es : Nat) (ro : Nat) (ad : Nat → Nat) (cI : ClassId) (cJ : ClassId) (cZ : ClassId) (ln : Int32) (fz : Nat) (sx : Bool) (mo : Int32) (sn : Nat) (bw : Int32) (tkv : Nat → Int64) (opv : Nat → Int64) (shv : Nat → Int64) (ldv : Nat → Int32) (wyv : Nat → Int64) (bdv : Nat → Bool) (ct : Nat) (dA : Nat) (sta : Nat) (stc : Int64) (fev : Nat → Nat) (dl : Nat) (dnv : Nat → Int64) (rov : Nat → Nat) (n : Int32)  : gz_M l yX2_limit cX2_limit 2 (some .int) ({ frames := 0, cells := 0, slots := 0, locals := 0 } : Room) D [(cI, .int), (cJ, .long), (cZ, .boolean)] [.ref xo, .int n] (wC xo nt es ro ad cI cJ cZ ln fz sx mo sn bw tkv opv shv ldv wyv bdv ct dA dA sta stc fev dl dnv rov) (some (.int (f2_limit n))) (wC xo nt es ro ad cI cJ cZ ln fz sx (f2_limit_mo mo n) sn bw tkv opv shv ldv wyv bdv ct dA dA sta stc fev dl dnv rov) 0 0 := by
  refine gz_met l (by decide) (Nat.le_of_ble_eq_true rfl) [(0, .ref xo), (1, .int n)] rfl ?_
  intro sz p e s m args below meth c C hr hk hnm
  have C : gz_C p s m args c cX2_limit 2 RX2 D [(cI, .int), (cJ, .long), (cZ, .boolean)] (va_A (wC xo nt es ro ad cI cJ cZ ln fz sx mo sn bw tkv opv shv ldv wyv bdv ct dA dA sta stc fev dl dnv rov) sz) := C
  refine gz_iload_n C 1 dX2_limit_0 rfl ?_
  refine gz_iconst (v := ((-1))) C dX2_limit_1 (by decide) ?_
  refine gz_icmp_ge C 8 dX2_limit_2 (by decide) (fun h_1 => ?_) (fun h_1 => ?_)
  · skip
    refine gz_aload_n C 0 dX2_limit_8 rfl ?_
    refine gz_iload_n C 1 dX2_limit_9 rfl ?_
    refine gz_put (ci := 3) (ws2 := (wC xo nt es ro ad cI cJ cZ ln fz sx n sn bw tkv opv shv ldv wyv bdv ct dA dA sta stc fev dl dnv rov)) C iwX2 0 rfl rfl 6 (by decide) wk_85 rfl tyX2 tyX2_ok nmX2 rfl rfl rfl rfl (Nat.le_of_ble_eq_true rfl) rfl dX2_limit_10 ?_
    refine gz_iload_n C 1 dX2_limit_13 rfl ?_
    refine gz_iconst (v := ((-1))) C dX2_limit_14 (by decide) ?_
    refine gz_J (ws2 := (wC xo nt es ro ad cI cJ cZ ln fz sx n sn bw tkv opv shv ldv wyv bdv ct dA dA sta stc fev dl dnv rov)) (lv2 := [(0, .ref xo), (1, .int n)]) (st2 := [.int (nI ((if n = (((-1))) then 0 else 1)))]) (pc2 := 23) ?_ (fun J_2 => ?_)
    rotate_left
    · refine gz_icmp_ne C 22 dX2_limit_15 (by decide) (fun h_2 => ?_) (fun h_2 => ?_)
      · have g_2 : ¬ (n = (((-1)))) := h_2
        refine gz_iconst (v := nI 1) C dX2_limit_22 (by decide) ?_
        simp only [if_neg g_2] at J_2 ⊢
        exact gz_lv [0, 1] rfl J_2
      · skip
        refine gz_iconst (v := nI 0) C dX2_limit_18 (by decide) ?_
        refine gz_goto C 23 dX2_limit_19 (by decide) ?_
        simp only [if_pos h_2] at J_2 ⊢
        exact gz_lv [0, 1] rfl J_2
    exact gz_iret C hr hk (by first | rfl | (simp only [f2_limit, f2_limit_mo, if_pos h_1]) | (simp only [f2_limit, f2_limit_mo, if_pos h_1]; rfl)) (by first | rfl | (simp only [f2_limit, f2_limit_mo, if_pos h_1]) | (simp only [f2_limit, f2_limit_mo, if_pos h_1]; rfl)) (Nat.le_refl _) (Nat.le_refl _) dX2_limit_23
  · have g_1 : ¬ ((((-1))) ≤ n) := h_1
    refine gz_bipush (v := ((-12))) C dX2_limit_5 (by decide) ?_
    exact gz_iret C hr hk (by first | rfl | (simp only [f2_limit, f2_limit_mo, if_neg g_1]) | (simp only [f2_limit, f2_limit_mo, if_neg g_1]; rfl)) (by first | rfl | (simp only [f2_limit, f2_limit_mo, if_neg g_1]) | (simp only [f2_limit, f2_limit_mo, if_neg g_1]; rfl)) (Nat.le_refl _) (Nat.le_refl _) dX2_limit_7

def f2_exact (sx : Bool) : Bool := sx
set_option maxRecDepth 100000 in
set_option maxHeartbeats 4000000 in
theorem kX2_exact (l : Launch) (D : va_G) (xo : Nat) (nt : Nat) (es : Nat) (ro : Nat) (ad : Nat → Nat) (cI : ClassId) (cJ : ClassId) (cZ : ClassId) (ln : Int32) (fz : Nat) (sx : Bool) (mo : Int32) (sn : Nat) (bw : Int32) (tkv : Nat → Int64) (opv : Nat → Int64) (shv : Nat → Int64) (ldv : Nat → Int32) (wyv : Nat → Int64) (bdv : Nat → Bool) (ct : Nat) (dA : Nat) (sta : Nat) (stc : Int64) (fev : Nat → Nat) (dl : Nat) (dnv : Nat → Int64) (rov : Nat → Nat)  : gz_M l yX2_exact cX2_exact 1 (some .boolean) ({ frames := 0, cells := 0, slots := 0, locals := 0 } : Room) D [(cI, .int), (cJ, .long), (cZ, .boolean)] [.ref xo] (wC xo nt es ro ad cI cJ cZ ln fz sx mo sn bw tkv opv shv ldv wyv bdv ct dA dA sta stc fev dl dnv rov) (some (.int (bI (f2_exact sx)))) (wC xo nt es ro ad cI cJ cZ ln fz sx mo sn bw tkv opv shv ldv wyv bdv ct dA dA sta stc fev dl dnv rov) 0 0 := by
  refine gz_met l (by decide) (Nat.le_of_ble_eq_true rfl) [(0, .ref xo)] rfl ?_
  intro sz p e s m args below meth c C hr hk hnm
  have C : gz_C p s m args c cX2_exact 1 RX2 D [(cI, .int), (cJ, .long), (cZ, .boolean)] (va_A (wC xo nt es ro ad cI cJ cZ ln fz sx mo sn bw tkv opv shv ldv wyv bdv ct dA dA sta stc fev dl dnv rov) sz) := C
  refine gz_aload_n C 0 dX2_exact_0 rfl ?_
  refine gz_get (ci := 3) C iwX2 0 rfl rfl 5 (by decide) wk_84 rfl rfl dX2_exact_1 ?_
  exact gz_zret C hr hk (bI_nar _) (by first | rfl | (simp only [f2_exact]) | (simp only [f2_exact]; rfl)) rfl (Nat.le_refl _) (Nat.le_refl _) dX2_exact_4

def f2_bound (sn : Nat) (tkv : Nat → Int64) (wyv : Nat → Int64) (bdv : Nat → Bool) : Int64 := f1_leastTime sn tkv wyv bdv
set_option maxRecDepth 100000 in
set_option maxHeartbeats 4000000 in
theorem kX2_bound (l : Launch) (D : va_G) (xo : Nat) (nt : Nat) (es : Nat) (ro : Nat) (ad : Nat → Nat) (cI : ClassId) (cJ : ClassId) (cZ : ClassId) (ln : Int32) (fz : Nat) (sx : Bool) (mo : Int32) (sn : Nat) (bw : Int32) (tkv : Nat → Int64) (opv : Nat → Int64) (shv : Nat → Int64) (ldv : Nat → Int32) (wyv : Nat → Int64) (bdv : Nat → Bool) (ct : Nat) (dA : Nat) (sta : Nat) (stc : Int64) (fev : Nat → Nat) (dl : Nat) (dnv : Nat → Int64) (rov : Nat → Nat) (hsn : sn ≤ 20) : gz_M l yX2_bound cX2_bound 1 (some .long) ({ frames := 3, cells := 0, slots := 0, locals := 73 } : Room) D [(cI, .int), (cJ, .long), (cZ, .boolean)] [.ref xo] (wC xo nt es ro ad cI cJ cZ ln fz sx mo sn bw tkv opv shv ldv wyv bdv ct dA dA sta stc fev dl dnv rov) (some (.long (f2_bound sn tkv wyv bdv))) (wC xo nt es ro ad cI cJ cZ ln fz sx mo sn bw tkv opv shv ldv wyv bdv ct dA dA sta stc fev dl dnv rov) 0 0 := by
  refine gz_met l (by decide) (Nat.le_of_ble_eq_true rfl) [(0, .ref xo)] rfl ?_
  intro sz p e s m args below meth c C hr hk hnm
  have C : gz_C p s m args c cX2_bound 1 RX2 D [(cI, .int), (cJ, .long), (cZ, .boolean)] (va_A (wC xo nt es ro ad cI cJ cZ ln fz sx mo sn bw tkv opv shv ldv wyv bdv ct dA dA sta stc fev dl dnv rov) sz) := C
  refine gz_aload_n C 0 dX2_bound_0 rfl ?_
  refine gz_get (ci := 3) C iwX2 0 rfl rfl 0 (by decide) wk_79 rfl rfl dX2_bound_1 ?_
  refine gz_callV (wr := []) (n := 0) (ws2 := (wC xo nt es ro ad cI cJ cZ ln fz sx mo sn bw tkv opv shv ldv wyv bdv ct dA dA sta stc fev dl dnv rov)) (st2 := [.long (f1_leastTime sn tkv wyv bdv)]) (cells2 := 0) (slots2 := 0) (ci := 2) C (kX1_leastTime l D xo nt es ro ad cI cJ cZ ln fz sx mo sn bw tkv opv shv ldv wyv bdv ct dA sta stc fev dl dnv rov (by first | assumption | omega)) (WB_V wk_284 wk_285 wk_286 wk_2 wk_287) (by decide +kernel) ⟨⟨rfl, rfl⟩, Nat.le_of_ble_eq_true rfl, Nat.le_of_ble_eq_true rfl⟩ [0, 1, 2, 3, 4, 5, 6, 7, 8, 9, 10, 11] [] [0, 1, 2] rfl rfl rfl (by decide) rfl 1 rfl rfl rfl rfl (Nat.le_of_ble_eq_true rfl) dX2_bound_4 ⟨Nat.zero_le _, Nat.zero_le _⟩ rfl rfl rfl ?_
  exact gz_lret C hr hk (by first | rfl | (simp only [f2_bound]) | (simp only [f2_bound]; rfl)) rfl (Nat.le_refl _) (Nat.le_refl _) dX2_bound_7

def f2_arc (sn : Nat) (bw : Int32) (bdv : Nat → Bool) (a : Int32) (b : Int32) (y : Int32) : Int32 := (if (f1_isPoint sn a) = true then (if (f1_isPoint sn b) = true then (if y < 0 then (-12) else (if (nI 1) < y then (-12) else (if (cl a) = (cl b) then (-12) else f1_bar bw bdv (cl a) (cl b) ((if y = 0 then true else false))))) else (-11)) else (-11))
def f2_arc_sx (sx : Bool) (sn : Nat) (a : Int32) (b : Int32) (y : Int32) : Bool := (if (f1_isPoint sn a) = true then (if (f1_isPoint sn b) = true then (if y < 0 then sx else (if (nI 1) < y then sx else (if (cl a) = (cl b) then sx else false))) else sx) else sx)
def f2_arc_bw (sn : Nat) (bw : Int32) (bdv : Nat → Bool) (a : Int32) (b : Int32) (y : Int32) : Int32 := (if (f1_isPoint sn a) = true then (if (f1_isPoint sn b) = true then (if y < 0 then bw else (if (nI 1) < y then bw else (if (cl a) = (cl b) then bw else f1_bar_bw bw bdv (cl a) (cl b) ((if y = 0 then true else false))))) else bw) else bw)
def f2_arc_bdv (sn : Nat) (bdv : Nat → Bool) (a : Int32) (b : Int32) (y : Int32) : Nat → Bool := (if (f1_isPoint sn a) = true then (if (f1_isPoint sn b) = true then (if y < 0 then bdv else (if (nI 1) < y then bdv else (if (cl a) = (cl b) then bdv else f1_bar_bdv bdv (cl a) (cl b) ((if y = 0 then true else false))))) else bdv) else bdv)
set_option maxRecDepth 100000 in
set_option maxHeartbeats 4000000 in
theorem kX2_arc (l : Launch) (D : va_G) (xo : Nat) (nt : Nat) (es : Nat) (ro : Nat) (ad : Nat → Nat) (cI : ClassId) (cJ : ClassId) (cZ : ClassId) (ln : Int32) (fz : Nat) (sx : Bool) (mo : Int32) (sn : Nat) (bw : Int32) (tkv : Nat → Int64) (opv : Nat → Int64) (shv : Nat → Int64) (ldv : Nat → Int32) (wyv : Nat → Int64) (bdv : Nat → Bool) (ct : Nat) (dA : Nat) (sta : Nat) (stc : Int64) (fev : Nat → Nat) (dl : Nat) (dnv : Nat → Int64) (rov : Nat → Nat) (a : Int32) (b : Int32) (y : Int32) (hsn : sn ≤ 20) : gz_M l yX2_arc cX2_arc 4 (some .int) ({ frames := 2, cells := 0, slots := 0, locals := 45 } : Room) D [(cI, .int), (cJ, .long), (cZ, .boolean)] [.ref xo, .int a, .int b, .int y] (wC xo nt es ro ad cI cJ cZ ln fz sx mo sn bw tkv opv shv ldv wyv bdv ct dA dA sta stc fev dl dnv rov) (some (.int (f2_arc sn bw bdv a b y))) (wC xo nt es ro ad cI cJ cZ ln fz (f2_arc_sx sx sn a b y) mo sn (f2_arc_bw sn bw bdv a b y) tkv opv shv ldv wyv (f2_arc_bdv sn bdv a b y) ct dA dA sta stc fev dl dnv rov) 0 0 := by
  refine gz_met l (by decide) (Nat.le_of_ble_eq_true rfl) [(0, .ref xo), (1, .int a), (2, .int b), (3, .int y)] rfl ?_
  intro sz p e s m args below meth c C hr hk hnm
  have C : gz_C p s m args c cX2_arc 4 RX2 D [(cI, .int), (cJ, .long), (cZ, .boolean)] (va_A (wC xo nt es ro ad cI cJ cZ ln fz sx mo sn bw tkv opv shv ldv wyv bdv ct dA dA sta stc fev dl dnv rov) sz) := C
  refine gz_aload_n C 0 dX2_arc_0 rfl ?_
  refine gz_get (ci := 3) C iwX2 0 rfl rfl 0 (by decide) wk_79 rfl rfl dX2_arc_1 ?_
  refine gz_iload_n C 1 dX2_arc_4 rfl ?_
  refine gz_callV (wr := []) (n := 1) (ws2 := (wC xo nt es ro ad cI cJ cZ ln fz sx mo sn bw tkv opv shv ldv wyv bdv ct dA dA sta stc fev dl dnv rov)) (st2 := [.int (bI (f1_isPoint sn a))]) (cells2 := 0) (slots2 := 0) (ci := 2) C (kX1_isPoint l D xo nt es ro ad cI cJ cZ ln fz sx mo sn bw tkv opv shv ldv wyv bdv ct dA sta stc fev dl dnv rov a (by first | assumption | omega)) (WB_V wk_118 wk_119 wk_120 wk_2 wk_121) (by decide +kernel) ⟨⟨rfl, rfl⟩, Nat.le_of_ble_eq_true rfl, Nat.le_of_ble_eq_true rfl⟩ [0, 1, 2, 3, 4, 5, 6, 7, 8, 9, 10, 11] [] [0, 1, 2] rfl rfl rfl (by decide) rfl 1 rfl rfl rfl rfl (Nat.le_of_ble_eq_true rfl) dX2_arc_5 ⟨Nat.zero_le _, Nat.zero_le _⟩ rfl rfl rfl ?_
  refine gz_bif_eq C 22 dX2_arc_8 (by decide) (fun h_1 => ?_) (fun h_1 => ?_)
  · have g_1 : ¬ ((f1_isPoint sn a) = true) := (by rw [h_1]; decide)
    refine gz_bipush (v := ((-11))) C dX2_arc_22 (by decide) ?_
    exact gz_iret C hr hk (by first | rfl | (simp only [f2_arc, f2_arc_sx, f2_arc_bw, f2_arc_bdv, if_neg g_1]) | (simp only [f2_arc, f2_arc_sx, f2_arc_bw, f2_arc_bdv, if_neg g_1]; rfl)) (by first | rfl | (simp only [f2_arc, f2_arc_sx, f2_arc_bw, f2_arc_bdv, if_neg g_1]) | (simp only [f2_arc, f2_arc_sx, f2_arc_bw, f2_arc_bdv, if_neg g_1]; rfl)) (Nat.le_refl _) (Nat.le_refl _) dX2_arc_24
  · skip
    obtain ⟨ha1, ha2⟩ := q1_point h_1 hsn
    refine gz_lve (lv2 := [(0, .ref xo), (1, .int (nI (cl a))), (2, .int b), (3, .int y)]) (by rw [← ha1]) ?_
    refine gz_aload_n C 0 dX2_arc_11 rfl ?_
    refine gz_get (ci := 3) C iwX2 0 rfl rfl 0 (by decide) wk_79 rfl rfl dX2_arc_12 ?_
    refine gz_iload_n C 2 dX2_arc_15 rfl ?_
    refine gz_callV (wr := []) (n := 1) (ws2 := (wC xo nt es ro ad cI cJ cZ ln fz sx mo sn bw tkv opv shv ldv wyv bdv ct dA dA sta stc fev dl dnv rov)) (st2 := [.int (bI (f1_isPoint sn b))]) (cells2 := 0) (slots2 := 0) (ci := 2) C (kX1_isPoint l D xo nt es ro ad cI cJ cZ ln fz sx mo sn bw tkv opv shv ldv wyv bdv ct dA sta stc fev dl dnv rov b (by first | assumption | omega)) (WB_V wk_118 wk_119 wk_120 wk_2 wk_121) (by decide +kernel) ⟨⟨rfl, rfl⟩, Nat.le_of_ble_eq_true rfl, Nat.le_of_ble_eq_true rfl⟩ [0, 1, 2, 3, 4, 5, 6, 7, 8, 9, 10, 11] [] [0, 1, 2] rfl rfl rfl (by decide) rfl 1 rfl rfl rfl rfl (Nat.le_of_ble_eq_true rfl) dX2_arc_16 ⟨Nat.zero_le _, Nat.zero_le _⟩ rfl rfl rfl ?_
    refine gz_bif_ne C 25 dX2_arc_19 (by decide) (fun h_2 => ?_) (fun h_2 => ?_)
    · skip
      obtain ⟨hb1, hb2⟩ := q1_point h_2 hsn
      refine gz_lve (lv2 := [(0, .ref xo), (1, .int (nI (cl a))), (2, .int (nI (cl b))), (3, .int y)]) (by rw [← hb1]) ?_
      refine gz_iload_n C 3 dX2_arc_25 rfl ?_
      refine gz_if_lt C 39 dX2_arc_26 (by decide) (fun h_3 => ?_) (fun h_3 => ?_)
      · skip
        refine gz_bipush (v := ((-12))) C dX2_arc_39 (by decide) ?_
        exact gz_iret C hr hk (by first | rfl | (simp only [f2_arc, f2_arc_sx, f2_arc_bw, f2_arc_bdv, if_pos h_1, if_pos h_2, if_pos h_3]) | (simp only [f2_arc, f2_arc_sx, f2_arc_bw, f2_arc_bdv, if_pos h_1, if_pos h_2, if_pos h_3]; rfl)) (by first | rfl | (simp only [f2_arc, f2_arc_sx, f2_arc_bw, f2_arc_bdv, if_pos h_1, if_pos h_2, if_pos h_3]) | (simp only [f2_arc, f2_arc_sx, f2_arc_bw, f2_arc_bdv, if_pos h_1, if_pos h_2, if_pos h_3]; rfl)) (Nat.le_refl _) (Nat.le_refl _) dX2_arc_41
      · have g_3 : ¬ (y < 0) := h_3
        refine gz_iload_n C 3 dX2_arc_29 rfl ?_
        refine gz_iconst (v := nI 1) C dX2_arc_30 (by decide) ?_
        refine gz_icmp_gt C 39 dX2_arc_31 (by decide) (fun h_4 => ?_) (fun h_4 => ?_)
        · skip
          refine gz_bipush (v := ((-12))) C dX2_arc_39 (by decide) ?_
          exact gz_iret C hr hk (by first | rfl | (simp only [f2_arc, f2_arc_sx, f2_arc_bw, f2_arc_bdv, if_pos h_1, if_pos h_2, if_neg g_3, if_pos h_4]) | (simp only [f2_arc, f2_arc_sx, f2_arc_bw, f2_arc_bdv, if_pos h_1, if_pos h_2, if_neg g_3, if_pos h_4]; rfl)) (by first | rfl | (simp only [f2_arc, f2_arc_sx, f2_arc_bw, f2_arc_bdv, if_pos h_1, if_pos h_2, if_neg g_3, if_pos h_4]) | (simp only [f2_arc, f2_arc_sx, f2_arc_bw, f2_arc_bdv, if_pos h_1, if_pos h_2, if_neg g_3, if_pos h_4]; rfl)) (Nat.le_refl _) (Nat.le_refl _) dX2_arc_41
        · have g_4 : ¬ ((nI 1) < y) := h_4
          refine gz_iload_n C 1 dX2_arc_34 rfl ?_
          refine gz_iload_n C 2 dX2_arc_35 rfl ?_
          refine gz_ncmp_ne C 42 (by omega) (by omega) dX2_arc_36 (by decide) (fun h_5 => ?_) (fun h_5 => ?_)
          · have g_5 : ¬ ((cl a) = (cl b)) := h_5
            refine gz_aload_n C 0 dX2_arc_42 rfl ?_
            refine gz_iconst (v := nI 0) C dX2_arc_43 (by decide) ?_
            refine gz_sw (v := .int (nI 0)) (w := .int (bI false)) (by rw [show nI 0 = bI false from (by first | rfl | decide | ((repeat' split) <;> rfl))]) ?_
            refine gz_put (ci := 3) (ws2 := (wC xo nt es ro ad cI cJ cZ ln fz false mo sn bw tkv opv shv ldv wyv bdv ct dA dA sta stc fev dl dnv rov)) C iwX2 0 rfl rfl 5 (by decide) wk_84 rfl tyX2 tyX2_ok nmX2 rfl rfl (bI_nar _) (bI_fit _) (Nat.le_of_ble_eq_true rfl) rfl dX2_arc_44 ?_
            refine gz_aload_n C 0 dX2_arc_47 rfl ?_
            refine gz_get (ci := 3) C iwX2 0 rfl rfl 0 (by decide) wk_79 rfl rfl dX2_arc_48 ?_
            refine gz_iload_n C 1 dX2_arc_51 rfl ?_
            refine gz_iload_n C 2 dX2_arc_52 rfl ?_
            refine gz_iload_n C 3 dX2_arc_53 rfl ?_
            refine gz_J (ws2 := (wC xo nt es ro ad cI cJ cZ ln fz false mo sn bw tkv opv shv ldv wyv bdv ct dA dA sta stc fev dl dnv rov)) (lv2 := [(0, .ref xo), (1, .int (nI (cl a))), (2, .int (nI (cl b))), (3, .int y)]) (st2 := [.int (nI ((if y = 0 then 1 else 0))), .int (nI (cl b)), .int (nI (cl a)), .ref nt]) (pc2 := 62) ?_ (fun J_6 => ?_)
            rotate_left
            · refine gz_if_ne C 61 dX2_arc_54 (by decide) (fun h_6 => ?_) (fun h_6 => ?_)
              · have g_6 : ¬ (y = 0) := h_6
                refine gz_iconst (v := nI 0) C dX2_arc_61 (by decide) ?_
                simp only [if_neg g_6] at J_6 ⊢
                exact gz_lv [0, 1, 2, 3] rfl J_6
              · skip
                refine gz_iconst (v := nI 1) C dX2_arc_57 (by decide) ?_
                refine gz_goto C 62 dX2_arc_58 (by decide) ?_
                simp only [if_pos h_6] at J_6 ⊢
                exact gz_lv [0, 1, 2, 3] rfl J_6
            refine gz_sw (v := .int (nI ((if y = 0 then 1 else 0)))) (w := .int (bI ((if y = 0 then true else false)))) (by rw [show nI ((if y = 0 then 1 else 0)) = bI ((if y = 0 then true else false)) from (by first | rfl | decide | ((repeat' split) <;> rfl))]) ?_
            refine gz_callV (wr := []) (n := 3) (ws2 := (wC xo nt es ro ad cI cJ cZ ln fz false mo sn (f1_bar_bw bw bdv (cl a) (cl b) ((if y = 0 then true else false))) tkv opv shv ldv wyv (f1_bar_bdv bdv (cl a) (cl b) ((if y = 0 then true else false))) ct dA dA sta stc fev dl dnv rov)) (st2 := [.int (f1_bar bw bdv (cl a) (cl b) ((if y = 0 then true else false)))]) (cells2 := 0) (slots2 := 0) (ci := 2) C (kX1_bar l D xo nt es ro ad cI cJ cZ ln fz false mo sn bw tkv opv shv ldv wyv bdv ct dA sta stc fev dl dnv rov (cl a) (cl b) ((if y = 0 then true else false)) (by first | assumption | omega) (by first | assumption | omega)) (WB_V wk_268 wk_269 wk_270 wk_2 wk_271) (by decide +kernel) ⟨⟨rfl, rfl⟩, Nat.le_of_ble_eq_true rfl, Nat.le_of_ble_eq_true rfl⟩ [0, 1, 2, 3, 4, 5, 6, 7, 8, 9, 10, 11] [] [0, 1, 2] rfl rfl rfl (by decide) rfl 1 rfl rfl rfl rfl (Nat.le_of_ble_eq_true rfl) dX2_arc_62 ⟨Nat.zero_le _, Nat.zero_le _⟩ rfl rfl rfl ?_
            exact gz_iret C hr hk (by first | rfl | (simp only [f2_arc, f2_arc_sx, f2_arc_bw, f2_arc_bdv, if_pos h_1, if_pos h_2, if_neg g_3, if_neg g_4, if_neg g_5]) | (simp only [f2_arc, f2_arc_sx, f2_arc_bw, f2_arc_bdv, if_pos h_1, if_pos h_2, if_neg g_3, if_neg g_4, if_neg g_5]; rfl)) (by first | rfl | (simp only [f2_arc, f2_arc_sx, f2_arc_bw, f2_arc_bdv, if_pos h_1, if_pos h_2, if_neg g_3, if_neg g_4, if_neg g_5]) | (simp only [f2_arc, f2_arc_sx, f2_arc_bw, f2_arc_bdv, if_pos h_1, if_pos h_2, if_neg g_3, if_neg g_4, if_neg g_5]; rfl)) (Nat.le_refl _) (Nat.le_refl _) dX2_arc_65
          · skip
            refine gz_bipush (v := ((-12))) C dX2_arc_39 (by decide) ?_
            exact gz_iret C hr hk (by first | rfl | (simp only [f2_arc, f2_arc_sx, f2_arc_bw, f2_arc_bdv, if_pos h_1, if_pos h_2, if_neg g_3, if_neg g_4, if_pos h_5]) | (simp only [f2_arc, f2_arc_sx, f2_arc_bw, f2_arc_bdv, if_pos h_1, if_pos h_2, if_neg g_3, if_neg g_4, if_pos h_5]; rfl)) (by first | rfl | (simp only [f2_arc, f2_arc_sx, f2_arc_bw, f2_arc_bdv, if_pos h_1, if_pos h_2, if_neg g_3, if_neg g_4, if_pos h_5]) | (simp only [f2_arc, f2_arc_sx, f2_arc_bw, f2_arc_bdv, if_pos h_1, if_pos h_2, if_neg g_3, if_neg g_4, if_pos h_5]; rfl)) (Nat.le_refl _) (Nat.le_refl _) dX2_arc_41
    · have g_2 : ¬ ((f1_isPoint sn b) = true) := (by rw [h_2]; decide)
      refine gz_bipush (v := ((-11))) C dX2_arc_22 (by decide) ?_
      exact gz_iret C hr hk (by first | rfl | (simp only [f2_arc, f2_arc_sx, f2_arc_bw, f2_arc_bdv, if_pos h_1, if_neg g_2]) | (simp only [f2_arc, f2_arc_sx, f2_arc_bw, f2_arc_bdv, if_pos h_1, if_neg g_2]; rfl)) (by first | rfl | (simp only [f2_arc, f2_arc_sx, f2_arc_bw, f2_arc_bdv, if_pos h_1, if_neg g_2]) | (simp only [f2_arc, f2_arc_sx, f2_arc_bw, f2_arc_bdv, if_pos h_1, if_neg g_2]; rfl)) (Nat.le_refl _) (Nat.le_refl _) dX2_arc_24


theorem q2_ge {ln : Int32} {rl k : Nat} (h : ln = (-1) ∧ rl = 0 ∨ ln = nI rl) (hr : rl ≤ 20) (hk : k = rl) : ln ≤ nI k := by
  subst hk
  rcases h with ⟨h1, h2⟩ | h
  · subst h1; subst h2; decide
  · subst h; exact nI_le (Nat.le_refl _) (by omega)
theorem q2_lt {ln : Int32} {rl k : Nat} (h : ln = (-1) ∧ rl = 0 ∨ ln = nI rl) (hr : rl ≤ 20) (hk : k < rl) : ¬ ln ≤ nI k := by
  rcases h with ⟨h1, h2⟩ | h
  · omega
  · subst h; exact nI_ge hk (by omega)
theorem q2_ln {ln : Int32} {rl : Nat} (h : ln = (-1) ∧ rl = 0 ∨ ln = nI rl) (hr : rl ≤ 20) (hne : ¬ ln = (-1)) : ln = nI rl := by
  rcases h with ⟨h1, _⟩ | h
  · exact absurd h1 hne
  · exact h

def f2_placeOf_lp (rov : Nat → Nat) (x : Nat) : Nat → Nat → Int32
  | 0, k => (-1)
  | n + 1, k => if (rov k) = x then nI k else f2_placeOf_lp rov x n (k + 1)
set_option maxRecDepth 100000 in
set_option maxHeartbeats 4000000 in
theorem lX2_placeOf_lp {p : Program} {l : Launch} {e : Env} {R : Room} {s : State} {m : MethodId} {args : Array Value} {below : List Frame} {meth : Method} {c : Code} {cells slots mc ms : Nat} {A : Nat → Prop} {ov : Option Value} {D : va_G} (xo : Nat) (nt : Nat) (es : Nat) (ro : Nat) (ad : Nat → Nat) (cI : ClassId) (cJ : ClassId) (cZ : ClassId) (ln : Int32) (fz : Nat) (sx : Bool) (mo : Int32) (sn : Nat) (bw : Int32) (tkv : Nat → Int64) (opv : Nat → Int64) (shv : Nat → Int64) (ldv : Nat → Int32) (wyv : Nat → Int64) (bdv : Nat → Bool) (ct : Nat) (dA : Nat) (sta : Nat) (stc : Int64) (fev : Nat → Nat) (dl : Nat) (dnv : Nat → Int64) (rov : Nat → Nat) (x : Nat) (rl : Nat) (hln : ln = (-1) ∧ rl = 0 ∨ ln = nI rl) (hr20 : rl ≤ 20) (hro : ∀ k, k < rl → rov k ≤ 20) (hxx : x ≤ 20) (C : gz_C p s m args c cX2_placeOf 3 RX2 D [(cI, .int), (cJ, .long), (cZ, .boolean)] A) (hr : meth.sig.returnType = (some .int)) (hk : meth.locks = false) (hcm : cells ≤ mc) (hsm : slots ≤ ms) : ∀ (n : Nat) (k : Nat), (k + n = rl) → some (.int (f2_placeOf_lp rov x n k)) = ov → GZ p l e R s m args below meth c 3 D A cells slots (MQ below (gz_Q D [(cI, .int), (cJ, .long), (cZ, .boolean)] ov (wC xo nt es ro ad cI cJ cZ ln fz sx mo sn bw tkv opv shv ldv wyv bdv ct dA dA sta stc fev dl dnv rov) A) args s mc ms A) (wC xo nt es ro ad cI cJ cZ ln fz sx mo sn bw tkv opv shv ldv wyv bdv ct dA dA sta stc fev dl dnv rov) [(0, .ref xo), (1, .int (nI x)), (2, .int (nI k))] [] 2 := by
  intro n
  induction n with
  | zero =>
    intro k hme  hov
    refine gz_iload_n C 2 dX2_placeOf_2 rfl ?_
    refine gz_aload_n C 0 dX2_placeOf_3 rfl ?_
    refine gz_get (ci := 3) C iwX2 0 rfl rfl 3 (by decide) wk_82 rfl rfl dX2_placeOf_4 ?_
    refine gz_icmp_ge C 28 dX2_placeOf_7 (by decide) (fun h_1 => ?_) (fun h_1 => ?_)
    · skip
      refine gz_iconst (v := ((-1))) C dX2_placeOf_28 (by decide) ?_
      exact gz_iret C hr hk (by rw [← hov]; first | rfl | (simp only [f2_placeOf_lp, if_pos h_1])) rfl hcm hsm dX2_placeOf_29
    · have g_1 : ¬ (ln ≤ (nI k)) := h_1
      exact absurd (q2_ge hln hr20 (by omega)) g_1
  | succ n ih =>
    intro k hme  hov
    refine gz_iload_n C 2 dX2_placeOf_2 rfl ?_
    refine gz_aload_n C 0 dX2_placeOf_3 rfl ?_
    refine gz_get (ci := 3) C iwX2 0 rfl rfl 3 (by decide) wk_82 rfl rfl dX2_placeOf_4 ?_
    refine gz_icmp_ge C 28 dX2_placeOf_7 (by decide) (fun h_1 => ?_) (fun h_1 => ?_)
    · skip
      exact absurd h_1 (q2_lt hln hr20 (by omega))
    · have g_1 : ¬ (ln ≤ (nI k)) := h_1
      have hq := hro k (by omega)
      refine gz_aload_n C 0 dX2_placeOf_10 rfl ?_
      refine gz_get (ci := 3) C iwX2 0 rfl rfl 2 (by decide) wk_81 rfl rfl dX2_placeOf_11 ?_
      refine gz_iload_n C 2 dX2_placeOf_14 rfl ?_
      refine gz_iald C 11 0 rfl rfl (by omega) (by decide) dX2_placeOf_15 ?_
      refine gz_iload_n C 1 dX2_placeOf_16 rfl ?_
      refine gz_ncmp_ne C 22 (by omega) (by omega) dX2_placeOf_17 (by decide) (fun h_2 => ?_) (fun h_2 => ?_)
      · have g_2 : ¬ ((rov k) = x) := h_2
        refine gz_iinc (v := nI (k + 1)) (lv2 := [(2, .int (nI (k + 1))), (0, .ref xo), (1, .int (nI x))]) (k := 2) C dX2_placeOf_22 rfl (nI_add _ 1) (by decide) rfl ?_
        refine gz_goto C 2 dX2_placeOf_25 (by decide) ?_
        refine gz_lv [1, 2, 0] rfl ?_
        simp only [f2_placeOf_lp, if_neg g_1, if_neg g_2] at hov
        exact ih (k + 1) (by omega)  hov
      · skip
        refine gz_iload_n C 2 dX2_placeOf_20 rfl ?_
        exact gz_iret C hr hk (by rw [← hov]; first | rfl | (simp only [f2_placeOf_lp, if_neg g_1, if_pos h_2])) rfl hcm hsm dX2_placeOf_21

def f2_placeOf (rov : Nat → Nat) (x : Nat) (rl : Nat) : Int32 := f2_placeOf_lp rov x rl 0
set_option maxRecDepth 100000 in
set_option maxHeartbeats 4000000 in
theorem kX2_placeOf (l : Launch) (D : va_G) (xo : Nat) (nt : Nat) (es : Nat) (ro : Nat) (ad : Nat → Nat) (cI : ClassId) (cJ : ClassId) (cZ : ClassId) (ln : Int32) (fz : Nat) (sx : Bool) (mo : Int32) (sn : Nat) (bw : Int32) (tkv : Nat → Int64) (opv : Nat → Int64) (shv : Nat → Int64) (ldv : Nat → Int32) (wyv : Nat → Int64) (bdv : Nat → Bool) (ct : Nat) (dA : Nat) (sta : Nat) (stc : Int64) (fev : Nat → Nat) (dl : Nat) (dnv : Nat → Int64) (rov : Nat → Nat) (x : Nat) (rl : Nat) (hln : ln = (-1) ∧ rl = 0 ∨ ln = nI rl) (hr20 : rl ≤ 20) (hro : ∀ k, k < rl → rov k ≤ 20) (hxx : x ≤ 20) : gz_M l yX2_placeOf cX2_placeOf 3 (some .int) ({ frames := 0, cells := 0, slots := 0, locals := 0 } : Room) D [(cI, .int), (cJ, .long), (cZ, .boolean)] [.ref xo, .int (nI x)] (wC xo nt es ro ad cI cJ cZ ln fz sx mo sn bw tkv opv shv ldv wyv bdv ct dA dA sta stc fev dl dnv rov) (some (.int (f2_placeOf rov x rl))) (wC xo nt es ro ad cI cJ cZ ln fz sx mo sn bw tkv opv shv ldv wyv bdv ct dA dA sta stc fev dl dnv rov) 0 0 := by
  refine gz_met l (by decide) (Nat.le_of_ble_eq_true rfl) [(0, .ref xo), (1, .int (nI x))] rfl ?_
  intro sz p e s m args below meth c C hr hk hnm
  have C : gz_C p s m args c cX2_placeOf 3 RX2 D [(cI, .int), (cJ, .long), (cZ, .boolean)] (va_A (wC xo nt es ro ad cI cJ cZ ln fz sx mo sn bw tkv opv shv ldv wyv bdv ct dA dA sta stc fev dl dnv rov) sz) := C
  refine gz_iconst (v := nI 0) C dX2_placeOf_0 (by decide) ?_
  refine gz_istore_n (lv2 := [(2, .int (nI 0)), (0, .ref xo), (1, .int (nI x))]) C dX2_placeOf_1 (by decide) rfl ?_
  refine gz_lv (lv2 := [(0, .ref xo), (1, .int (nI x)), (2, .int (nI 0))]) [1, 2, 0] rfl ?_
  exact lX2_placeOf_lp xo nt es ro ad cI cJ cZ ln fz sx mo sn bw tkv opv shv ldv wyv bdv ct dA sta stc fev dl dnv rov x rl (by first | assumption | omega) (by first | assumption | omega) (by first | assumption | omega) (by first | assumption | omega) C hr hk (Nat.le_refl _) (Nat.le_refl _) rl 0 (by omega)  (by first | rfl | (simp only [f2_placeOf]) | (simp only [f2_placeOf]; rfl))

def f2_late (ln : Int32) (tkv : Nat → Int64) (opv : Nat → Int64) (shv : Nat → Int64) (wyv : Nat → Int64) (rov : Nat → Nat) (y : Int32) (rl : Nat) : Int32 := (if y < 0 then nI 0 else (if ln = (((-1))) then nI 0 else f1_lateStop tkv opv shv wyv rov rl y))
set_option maxRecDepth 100000 in
set_option maxHeartbeats 4000000 in
theorem kX2_late (l : Launch) (D : va_G) (xo : Nat) (nt : Nat) (es : Nat) (ro : Nat) (ad : Nat → Nat) (cI : ClassId) (cJ : ClassId) (cZ : ClassId) (ln : Int32) (fz : Nat) (sx : Bool) (mo : Int32) (sn : Nat) (bw : Int32) (tkv : Nat → Int64) (opv : Nat → Int64) (shv : Nat → Int64) (ldv : Nat → Int32) (wyv : Nat → Int64) (bdv : Nat → Bool) (ct : Nat) (dA : Nat) (sta : Nat) (stc : Int64) (fev : Nat → Nat) (dl : Nat) (dnv : Nat → Int64) (rov : Nat → Nat) (y : Int32) (rl : Nat) (hln : ln = (-1) ∧ rl = 0 ∨ ln = nI rl) (hr20 : rl ≤ 20) (hro : ∀ k, k < rl → rov k ≤ 20) : gz_M l yX2_late cX2_late 2 (some .int) ({ frames := 3, cells := 0, slots := 0, locals := 75 } : Room) D [(cI, .int), (cJ, .long), (cZ, .boolean)] [.ref xo, .int y] (wC xo nt es ro ad cI cJ cZ ln fz sx mo sn bw tkv opv shv ldv wyv bdv ct dA dA sta stc fev dl dnv rov) (some (.int (f2_late ln tkv opv shv wyv rov y rl))) (wC xo nt es ro ad cI cJ cZ ln fz sx mo sn bw tkv opv shv ldv wyv bdv ct dA dA sta stc fev dl dnv rov) 0 0 := by
  refine gz_met l (by decide) (Nat.le_of_ble_eq_true rfl) [(0, .ref xo), (1, .int y)] rfl ?_
  intro sz p e s m args below meth c C hr hk hnm
  have C : gz_C p s m args c cX2_late 2 RX2 D [(cI, .int), (cJ, .long), (cZ, .boolean)] (va_A (wC xo nt es ro ad cI cJ cZ ln fz sx mo sn bw tkv opv shv ldv wyv bdv ct dA dA sta stc fev dl dnv rov) sz) := C
  refine gz_iload_n C 1 dX2_late_0 rfl ?_
  refine gz_if_lt C 12 dX2_late_1 (by decide) (fun h_1 => ?_) (fun h_1 => ?_)
  · skip
    refine gz_iconst (v := nI 0) C dX2_late_12 (by decide) ?_
    refine gz_goto C 32 dX2_late_13 (by decide) ?_
    exact gz_iret C hr hk (by first | rfl | (simp only [f2_late, if_pos h_1]) | (simp only [f2_late, if_pos h_1]; rfl)) rfl (Nat.le_refl _) (Nat.le_refl _) dX2_late_32
  · have g_1 : ¬ (y < 0) := h_1
    refine gz_aload_n C 0 dX2_late_4 rfl ?_
    refine gz_get (ci := 3) C iwX2 0 rfl rfl 3 (by decide) wk_82 rfl rfl dX2_late_5 ?_
    refine gz_iconst (v := ((-1))) C dX2_late_8 (by decide) ?_
    refine gz_icmp_ne C 16 dX2_late_9 (by decide) (fun h_2 => ?_) (fun h_2 => ?_)
    · have g_2 : ¬ (ln = (((-1)))) := h_2
      have hln9 := q2_ln hln hr20 g_2
      refine gz_aload_n C 0 dX2_late_16 rfl ?_
      refine gz_get (ci := 3) C iwX2 0 rfl rfl 0 (by decide) wk_79 rfl rfl dX2_late_17 ?_
      refine gz_aload_n C 0 dX2_late_20 rfl ?_
      refine gz_get (ci := 3) C iwX2 0 rfl rfl 2 (by decide) wk_81 rfl rfl dX2_late_21 ?_
      refine gz_aload_n C 0 dX2_late_24 rfl ?_
      refine gz_get (ci := 3) C iwX2 0 rfl rfl 3 (by decide) wk_82 rfl rfl dX2_late_25 ?_
      refine gz_sw (v := .int ln) (w := .int (nI rl)) (by rw [hln9]) ?_
      refine gz_iload_n C 1 dX2_late_28 rfl ?_
      refine gz_callV (wr := []) (n := 3) (ws2 := (wC xo nt es ro ad cI cJ cZ ln fz sx mo sn bw tkv opv shv ldv wyv bdv ct dA dA sta stc fev dl dnv rov)) (st2 := [.int (f1_lateStop tkv opv shv wyv rov rl y)]) (cells2 := 0) (slots2 := 0) (ci := 2) C (kX1_lateStop l D xo nt es ro ad cI cJ cZ ln fz sx mo sn bw tkv opv shv ldv wyv bdv ct dA sta stc fev dl dnv rov rl y (by first | assumption | omega) (by first | assumption | omega)) (WB_V wk_248 wk_249 wk_250 wk_2 wk_251) (by decide +kernel) ⟨⟨rfl, rfl⟩, Nat.le_of_ble_eq_true rfl, Nat.le_of_ble_eq_true rfl⟩ [0, 1, 2, 3, 4, 5, 6, 7, 8, 9, 10, 11] [] [0, 1, 2] rfl rfl rfl (by decide) rfl 1 rfl rfl rfl rfl (Nat.le_of_ble_eq_true rfl) dX2_late_29 ⟨Nat.zero_le _, Nat.zero_le _⟩ rfl rfl rfl ?_
      exact gz_iret C hr hk (by first | rfl | (simp only [f2_late, if_neg g_1, if_neg g_2]) | (simp only [f2_late, if_neg g_1, if_neg g_2]; rfl)) rfl (Nat.le_refl _) (Nat.le_refl _) dX2_late_32
    · skip
      refine gz_iconst (v := nI 0) C dX2_late_12 (by decide) ?_
      refine gz_goto C 32 dX2_late_13 (by decide) ?_
      exact gz_iret C hr hk (by first | rfl | (simp only [f2_late, if_neg g_1, if_pos h_2]) | (simp only [f2_late, if_neg g_1, if_pos h_2]; rfl)) rfl (Nat.le_refl _) (Nat.le_refl _) dX2_late_32

def f2_freeze (ln : Int32) (y : Int32) : Int32 := (if y < 0 then (-11) else (if ln = (((-1))) then (-13) else (if y ≤ ln then nI (cl y) else (-11))))
def f2_freeze_fz (ln : Int32) (fz : Nat) (y : Int32) : Nat := (if y < 0 then fz else (if ln = (((-1))) then fz else (if y ≤ ln then cl y else fz)))
set_option maxRecDepth 100000 in
set_option maxHeartbeats 4000000 in
theorem kX2_freeze (l : Launch) (D : va_G) (xo : Nat) (nt : Nat) (es : Nat) (ro : Nat) (ad : Nat → Nat) (cI : ClassId) (cJ : ClassId) (cZ : ClassId) (ln : Int32) (fz : Nat) (sx : Bool) (mo : Int32) (sn : Nat) (bw : Int32) (tkv : Nat → Int64) (opv : Nat → Int64) (shv : Nat → Int64) (ldv : Nat → Int32) (wyv : Nat → Int64) (bdv : Nat → Bool) (ct : Nat) (dA : Nat) (sta : Nat) (stc : Int64) (fev : Nat → Nat) (dl : Nat) (dnv : Nat → Int64) (rov : Nat → Nat) (y : Int32) (rl : Nat) (hln : ln = (-1) ∧ rl = 0 ∨ ln = nI rl) (hr20 : rl ≤ 20) : gz_M l yX2_freeze cX2_freeze 2 (some .int) ({ frames := 0, cells := 0, slots := 0, locals := 0 } : Room) D [(cI, .int), (cJ, .long), (cZ, .boolean)] [.ref xo, .int y] (wC xo nt es ro ad cI cJ cZ ln fz sx mo sn bw tkv opv shv ldv wyv bdv ct dA dA sta stc fev dl dnv rov) (some (.int (f2_freeze ln y))) (wC xo nt es ro ad cI cJ cZ ln (f2_freeze_fz ln fz y) sx mo sn bw tkv opv shv ldv wyv bdv ct dA dA sta stc fev dl dnv rov) 0 0 := by
  refine gz_met l (by decide) (Nat.le_of_ble_eq_true rfl) [(0, .ref xo), (1, .int y)] rfl ?_
  intro sz p e s m args below meth c C hr hk hnm
  have C : gz_C p s m args c cX2_freeze 2 RX2 D [(cI, .int), (cJ, .long), (cZ, .boolean)] (va_A (wC xo nt es ro ad cI cJ cZ ln fz sx mo sn bw tkv opv shv ldv wyv bdv ct dA dA sta stc fev dl dnv rov) sz) := C
  refine gz_iload_n C 1 dX2_freeze_0 rfl ?_
  refine gz_if_lt C 20 dX2_freeze_1 (by decide) (fun h_1 => ?_) (fun h_1 => ?_)
  · skip
    refine gz_bipush (v := ((-11))) C dX2_freeze_20 (by decide) ?_
    exact gz_iret C hr hk (by first | rfl | (simp only [f2_freeze, f2_freeze_fz, if_pos h_1]) | (simp only [f2_freeze, f2_freeze_fz, if_pos h_1]; rfl)) (by first | rfl | (simp only [f2_freeze, f2_freeze_fz, if_pos h_1]) | (simp only [f2_freeze, f2_freeze_fz, if_pos h_1]; rfl)) (Nat.le_refl _) (Nat.le_refl _) dX2_freeze_22
  · have g_1 : ¬ (y < 0) := h_1
    refine gz_aload_n C 0 dX2_freeze_4 rfl ?_
    refine gz_get (ci := 3) C iwX2 0 rfl rfl 3 (by decide) wk_82 rfl rfl dX2_freeze_5 ?_
    refine gz_iconst (v := ((-1))) C dX2_freeze_8 (by decide) ?_
    refine gz_icmp_eq C 23 dX2_freeze_9 (by decide) (fun h_2 => ?_) (fun h_2 => ?_)
    · skip
      refine gz_aload_n C 0 dX2_freeze_23 rfl ?_
      refine gz_get (ci := 3) C iwX2 0 rfl rfl 3 (by decide) wk_82 rfl rfl dX2_freeze_24 ?_
      refine gz_iconst (v := ((-1))) C dX2_freeze_27 (by decide) ?_
      refine gz_icmp_ne C 34 dX2_freeze_28 (by decide) (fun z => absurd h_2 z) (fun _ => ?_)
      refine gz_bipush (v := ((-13))) C dX2_freeze_31 (by decide) ?_
      exact gz_iret C hr hk (by first | rfl | (simp only [f2_freeze, f2_freeze_fz, if_neg g_1, if_pos h_2]) | (simp only [f2_freeze, f2_freeze_fz, if_neg g_1, if_pos h_2]; rfl)) (by first | rfl | (simp only [f2_freeze, f2_freeze_fz, if_neg g_1, if_pos h_2]) | (simp only [f2_freeze, f2_freeze_fz, if_neg g_1, if_pos h_2]; rfl)) (Nat.le_refl _) (Nat.le_refl _) dX2_freeze_33
    · have g_2 : ¬ (ln = (((-1)))) := h_2
      refine gz_iload_n C 1 dX2_freeze_12 rfl ?_
      refine gz_aload_n C 0 dX2_freeze_13 rfl ?_
      refine gz_get (ci := 3) C iwX2 0 rfl rfl 3 (by decide) wk_82 rfl rfl dX2_freeze_14 ?_
      refine gz_icmp_le C 23 dX2_freeze_17 (by decide) (fun h_3 => ?_) (fun h_3 => ?_)
      · skip
        refine gz_aload_n C 0 dX2_freeze_23 rfl ?_
        refine gz_get (ci := 3) C iwX2 0 rfl rfl 3 (by decide) wk_82 rfl rfl dX2_freeze_24 ?_
        refine gz_iconst (v := ((-1))) C dX2_freeze_27 (by decide) ?_
        refine gz_icmp_ne C 34 dX2_freeze_28 (by decide) (fun _ => ?_) (fun z => absurd z g_2)
        have hln9 := q2_ln hln hr20 g_2
        have hc1 := cl_of g_1
        have hc2 : cl y ≤ rl := cl_lep g_1 (hln9 ▸ h_3) (by omega)
        refine gz_lve (lv2 := [(0, .ref xo), (1, .int (nI (cl y)))]) (by rw [← hc1]) ?_
        refine gz_aload_n C 0 dX2_freeze_34 rfl ?_
        refine gz_iload_n C 1 dX2_freeze_35 rfl ?_
        refine gz_put (ci := 3) (ws2 := (wC xo nt es ro ad cI cJ cZ ln (cl y) sx mo sn bw tkv opv shv ldv wyv bdv ct dA dA sta stc fev dl dnv rov)) C iwX2 0 rfl rfl 4 (by decide) wk_83 rfl tyX2 tyX2_ok nmX2 rfl rfl rfl rfl (Nat.le_of_ble_eq_true rfl) rfl dX2_freeze_36 ?_
        refine gz_iload_n C 1 dX2_freeze_39 rfl ?_
        exact gz_iret C hr hk (by first | rfl | (simp only [f2_freeze, f2_freeze_fz, if_neg g_1, if_neg g_2, if_pos h_3]) | (simp only [f2_freeze, f2_freeze_fz, if_neg g_1, if_neg g_2, if_pos h_3]; rfl)) (by first | rfl | (simp only [f2_freeze, f2_freeze_fz, if_neg g_1, if_neg g_2, if_pos h_3]) | (simp only [f2_freeze, f2_freeze_fz, if_neg g_1, if_neg g_2, if_pos h_3]; rfl)) (Nat.le_refl _) (Nat.le_refl _) dX2_freeze_40
      · have g_3 : ¬ (y ≤ ln) := h_3
        refine gz_bipush (v := ((-11))) C dX2_freeze_20 (by decide) ?_
        exact gz_iret C hr hk (by first | rfl | (simp only [f2_freeze, f2_freeze_fz, if_neg g_1, if_neg g_2, if_neg g_3]) | (simp only [f2_freeze, f2_freeze_fz, if_neg g_1, if_neg g_2, if_neg g_3]; rfl)) (by first | rfl | (simp only [f2_freeze, f2_freeze_fz, if_neg g_1, if_neg g_2, if_neg g_3]) | (simp only [f2_freeze, f2_freeze_fz, if_neg g_1, if_neg g_2, if_neg g_3]; rfl)) (Nat.le_refl _) (Nat.le_refl _) dX2_freeze_22


theorem q2_swap {rov : Nat → Nat} {i j : Nat} : f2_swap_rov rov i j = f3_turn_rov rov i j := rfl
theorem q2_swap_le {rov : Nat → Nat} {B n i j : Nat} (h : ∀ k, k < n → rov k ≤ B) (hi : i < n) (hj : j < n) : ∀ k, k < n → f2_swap_rov rov i j k ≤ B := q3_turn_le h hi hj

def f2_swapIfLess (tkv : Nat → Int64) (opv : Nat → Int64) (shv : Nat → Int64) (wyv : Nat → Int64) (bdv : Nat → Bool) (rov : Nat → Nat) (i : Nat) (j : Nat) (cs : Int64) (rl : Nat) : Bool := (if cs ≤ (f1_cost tkv opv shv wyv bdv (f2_swap_rov rov i j) rl) then false else true)
def f2_swapIfLess_rov (tkv : Nat → Int64) (opv : Nat → Int64) (shv : Nat → Int64) (wyv : Nat → Int64) (bdv : Nat → Bool) (rov : Nat → Nat) (i : Nat) (j : Nat) (cs : Int64) (rl : Nat) : Nat → Nat := (if cs ≤ (f1_cost tkv opv shv wyv bdv (f2_swap_rov rov i j) rl) then f2_swap_rov (f2_swap_rov rov i j) i j else f2_swap_rov rov i j)
set_option maxRecDepth 100000 in
set_option maxHeartbeats 4000000 in
theorem kX2_swapIfLess (l : Launch) (D : va_G) (xo : Nat) (nt : Nat) (es : Nat) (ro : Nat) (ad : Nat → Nat) (cI : ClassId) (cJ : ClassId) (cZ : ClassId) (ln : Int32) (fz : Nat) (sx : Bool) (mo : Int32) (sn : Nat) (bw : Int32) (tkv : Nat → Int64) (opv : Nat → Int64) (shv : Nat → Int64) (ldv : Nat → Int32) (wyv : Nat → Int64) (bdv : Nat → Bool) (ct : Nat) (dA : Nat) (sta : Nat) (stc : Int64) (fev : Nat → Nat) (dl : Nat) (dnv : Nat → Int64) (rov : Nat → Nat) (i : Nat) (j : Nat) (cs : Int64) (rl : Nat) (hln : ln = nI rl) (hr20 : rl ≤ 20) (hro : ∀ k, k < rl → rov k ≤ 20) (hi : i < rl) (hj : j < rl) : gz_M l yX2_swapIfLess cX2_swapIfLess 5 (some .boolean) ({ frames := 3, cells := 0, slots := 0, locals := 76 } : Room) D [(cI, .int), (cJ, .long), (cZ, .boolean)] [.ref xo, .int (nI i), .int (nI j), .long cs] (wC xo nt es ro ad cI cJ cZ ln fz sx mo sn bw tkv opv shv ldv wyv bdv ct dA dA sta stc fev dl dnv rov) (some (.int (bI (f2_swapIfLess tkv opv shv wyv bdv rov i j cs rl)))) (wC xo nt es ro ad cI cJ cZ ln fz sx mo sn bw tkv opv shv ldv wyv bdv ct dA dA sta stc fev dl dnv (f2_swapIfLess_rov tkv opv shv wyv bdv rov i j cs rl)) 0 0 := by
  refine gz_met l (by decide) (Nat.le_of_ble_eq_true rfl) [(0, .ref xo), (1, .int (nI i)), (2, .int (nI j)), (3, .long cs)] rfl ?_
  intro sz p e s m args below meth c C hr hk hnm
  have C : gz_C p s m args c cX2_swapIfLess 5 RX2 D [(cI, .int), (cJ, .long), (cZ, .boolean)] (va_A (wC xo nt es ro ad cI cJ cZ ln fz sx mo sn bw tkv opv shv ldv wyv bdv ct dA dA sta stc fev dl dnv rov) sz) := C
  refine gz_aload_n C 0 dX2_swapIfLess_0 rfl ?_
  refine gz_iload_n C 1 dX2_swapIfLess_1 rfl ?_
  refine gz_iload_n C 2 dX2_swapIfLess_2 rfl ?_
  refine gz_callV (wr := []) (n := 2) (ws2 := (wC xo nt es ro ad cI cJ cZ ln fz sx mo sn bw tkv opv shv ldv wyv bdv ct dA dA sta stc fev dl dnv (f2_swap_rov rov i j))) (st2 := []) (cells2 := 0) (slots2 := 0) (ci := 3) C (kX2_swap l D xo nt es ro ad cI cJ cZ ln fz sx mo sn bw tkv opv shv ldv wyv bdv ct dA sta stc fev dl dnv rov i j (by first | assumption | omega) (by first | assumption | omega)) (WB_V wk_223 wk_225 ws_9 wk_1 wk_226) (by decide +kernel) ⟨⟨rfl, rfl⟩, Nat.le_of_ble_eq_true rfl, Nat.le_of_ble_eq_true rfl⟩ [0, 1, 2, 3, 4, 5, 6, 7, 8, 9, 10, 11] [] [0, 1, 2] rfl rfl rfl (by decide) rfl 0 rfl rfl rfl rfl (Nat.le_of_ble_eq_true rfl) dX2_swapIfLess_3 ⟨Nat.zero_le _, Nat.zero_le _⟩ rfl rfl rfl ?_
  refine gz_aload_n C 0 dX2_swapIfLess_6 rfl ?_
  refine gz_get (ci := 3) C iwX2 0 rfl rfl 0 (by decide) wk_79 rfl rfl dX2_swapIfLess_7 ?_
  refine gz_aload_n C 0 dX2_swapIfLess_10 rfl ?_
  refine gz_get (ci := 3) C iwX2 0 rfl rfl 2 (by decide) wk_81 rfl rfl dX2_swapIfLess_11 ?_
  refine gz_aload_n C 0 dX2_swapIfLess_14 rfl ?_
  refine gz_get (ci := 3) C iwX2 0 rfl rfl 3 (by decide) wk_82 rfl rfl dX2_swapIfLess_15 ?_
  refine gz_sw (v := .int ln) (w := .int (nI rl)) (by rw [hln]) ?_
  refine gz_callV (wr := []) (n := 2) (ws2 := (wC xo nt es ro ad cI cJ cZ ln fz sx mo sn bw tkv opv shv ldv wyv bdv ct dA dA sta stc fev dl dnv (f2_swap_rov rov i j))) (st2 := [.long (f1_cost tkv opv shv wyv bdv (f2_swap_rov rov i j) rl)]) (cells2 := 0) (slots2 := 0) (ci := 2) C (kX1_cost l D xo nt es ro ad cI cJ cZ ln fz sx mo sn bw tkv opv shv ldv wyv bdv ct dA sta stc fev dl dnv (f2_swap_rov rov i j) rl (by first | assumption | omega) (q2_swap_le hro hi hj)) (WB_V wk_218 wk_219 wk_220 wk_2 wk_221) (by decide +kernel) ⟨⟨rfl, rfl⟩, Nat.le_of_ble_eq_true rfl, Nat.le_of_ble_eq_true rfl⟩ [0, 1, 2, 3, 4, 5, 6, 7, 8, 9, 10, 11] [] [0, 1, 2] rfl rfl rfl (by decide) rfl 1 rfl rfl rfl rfl (Nat.le_of_ble_eq_true rfl) dX2_swapIfLess_18 ⟨Nat.zero_le _, Nat.zero_le _⟩ rfl rfl rfl ?_
  refine gz_lload_n C 3 dX2_swapIfLess_21 rfl ?_
  refine gz_lcmp_ge C 28 dX2_swapIfLess_22 dX2_swapIfLess_23 (by decide) (fun h_1 => ?_) (fun h_1 => ?_)
  · skip
    refine gz_aload_n C 0 dX2_swapIfLess_28 rfl ?_
    refine gz_iload_n C 1 dX2_swapIfLess_29 rfl ?_
    refine gz_iload_n C 2 dX2_swapIfLess_30 rfl ?_
    refine gz_callV (wr := []) (n := 2) (ws2 := (wC xo nt es ro ad cI cJ cZ ln fz sx mo sn bw tkv opv shv ldv wyv bdv ct dA dA sta stc fev dl dnv (f2_swap_rov (f2_swap_rov rov i j) i j))) (st2 := []) (cells2 := 0) (slots2 := 0) (ci := 3) C (kX2_swap l D xo nt es ro ad cI cJ cZ ln fz sx mo sn bw tkv opv shv ldv wyv bdv ct dA sta stc fev dl dnv (f2_swap_rov rov i j) i j (by first | assumption | omega) (by first | assumption | omega)) (WB_V wk_223 wk_225 ws_9 wk_1 wk_226) (by decide +kernel) ⟨⟨rfl, rfl⟩, Nat.le_of_ble_eq_true rfl, Nat.le_of_ble_eq_true rfl⟩ [0, 1, 2, 3, 4, 5, 6, 7, 8, 9, 10, 11] [] [0, 1, 2] rfl rfl rfl (by decide) rfl 0 rfl rfl rfl rfl (Nat.le_of_ble_eq_true rfl) dX2_swapIfLess_31 ⟨Nat.zero_le _, Nat.zero_le _⟩ rfl rfl rfl ?_
    refine gz_iconst (v := nI 0) C dX2_swapIfLess_34 (by decide) ?_
    refine gz_sw (v := .int (nI 0)) (w := .int (bI false)) (by rw [show nI 0 = bI false from (by first | rfl | decide | ((repeat' split) <;> rfl))]) ?_
    exact gz_zret C hr hk (bI_nar _) (by first | rfl | (simp only [f2_swapIfLess, f2_swapIfLess_rov, if_pos h_1]) | (simp only [f2_swapIfLess, f2_swapIfLess_rov, if_pos h_1]; rfl)) (by first | rfl | (simp only [f2_swapIfLess, f2_swapIfLess_rov, if_pos h_1]) | (simp only [f2_swapIfLess, f2_swapIfLess_rov, if_pos h_1]; rfl)) (Nat.le_refl _) (Nat.le_refl _) dX2_swapIfLess_35
  · have g_1 : ¬ (cs ≤ (f1_cost tkv opv shv wyv bdv (f2_swap_rov rov i j) rl)) := h_1
    refine gz_iconst (v := nI 1) C dX2_swapIfLess_26 (by decide) ?_
    refine gz_sw (v := .int (nI 1)) (w := .int (bI true)) (by rw [show nI 1 = bI true from (by first | rfl | decide | ((repeat' split) <;> rfl))]) ?_
    exact gz_zret C hr hk (bI_nar _) (by first | rfl | (simp only [f2_swapIfLess, f2_swapIfLess_rov, if_neg g_1]) | (simp only [f2_swapIfLess, f2_swapIfLess_rov, if_neg g_1]; rfl)) (by first | rfl | (simp only [f2_swapIfLess, f2_swapIfLess_rov, if_neg g_1]) | (simp only [f2_swapIfLess, f2_swapIfLess_rov, if_neg g_1]; rfl)) (Nat.le_refl _) (Nat.le_refl _) dX2_swapIfLess_27

def f2_insert_i1  : Nat → Nat → (Nat → Nat) → Nat × (Nat → Nat)
  | 0, k, rov => (k, rov)
  | n + 1, k, rov => f2_insert_i1  n (k - 1) (va_up rov k (rov (k - 1)))
set_option maxRecDepth 100000 in
set_option maxHeartbeats 4000000 in
theorem lX2_insert_i1 {p : Program} {l : Launch} {e : Env} {R : Room} {s : State} {m : MethodId} {args : Array Value} {below : List Frame} {meth : Method} {c : Code} {cells slots : Nat} {Q : State → Prop} {A : Nat → Prop} {D : va_G} (xo : Nat) (nt : Nat) (es : Nat) (ro : Nat) (ad : Nat → Nat) (cI : ClassId) (cJ : ClassId) (cZ : ClassId) (ln : Int32) (fz : Nat) (sx : Bool) (mo : Int32) (sn : Nat) (bw : Int32) (tkv : Nat → Int64) (opv : Nat → Int64) (shv : Nat → Int64) (ldv : Nat → Int32) (wyv : Nat → Int64) (bdv : Nat → Bool) (ct : Nat) (dA : Nat) (sta : Nat) (stc : Int64) (fev : Nat → Nat) (dl : Nat) (dnv : Nat → Int64) (x : Nat) (co : Nat)  (C : gz_C p s m args c cX2_insert 9 RX2 D [(cI, .int), (cJ, .long), (cZ, .boolean)] A) : ∀ (n : Nat) (k : Nat) (rov : Nat → Nat), (k = fz + n ∧ k ≤ 19) → ((((f2_insert_i1  n k rov).1) = fz + 0 ∧ ((f2_insert_i1  n k rov).1) ≤ 19) → GZ p l e R s m args below meth c 9 D A cells slots Q (wC xo nt es ro ad cI cJ cZ ln fz sx mo sn bw tkv opv shv ldv wyv bdv ct dA dA sta stc fev dl dnv ((f2_insert_i1  n k rov).2)) [(0, .ref xo), (1, .int (nI x)), (2, .int (nI co)), (3, .int (nI ((f2_insert_i1  n k rov).1)))] [] 30) → GZ p l e R s m args below meth c 9 D A cells slots Q (wC xo nt es ro ad cI cJ cZ ln fz sx mo sn bw tkv opv shv ldv wyv bdv ct dA dA sta stc fev dl dnv rov) [(0, .ref xo), (1, .int (nI x)), (2, .int (nI co)), (3, .int (nI k))] [] 2 := by
  intro n
  induction n with
  | zero =>
    intro k rov hme  hx
    refine gz_iload_n C 3 dX2_insert_2 rfl ?_
    refine gz_aload_n C 0 dX2_insert_3 rfl ?_
    refine gz_get (ci := 3) C iwX2 0 rfl rfl 4 (by decide) wk_83 rfl rfl dX2_insert_4 ?_
    refine gz_ncmp_le C 30 (by omega) (by omega) dX2_insert_7 (by decide) (fun h_1 => ?_) (fun h_1 => ?_)
    · skip
      exact gz_lv [0, 1, 2, 3] rfl (hx hme )
    · have g_1 : ¬ (k ≤ fz) := (Nat.not_le.mpr h_1)
      exfalso; omega
  | succ n ih =>
    intro k rov hme  hx
    refine gz_iload_n C 3 dX2_insert_2 rfl ?_
    refine gz_aload_n C 0 dX2_insert_3 rfl ?_
    refine gz_get (ci := 3) C iwX2 0 rfl rfl 4 (by decide) wk_83 rfl rfl dX2_insert_4 ?_
    refine gz_ncmp_le C 30 (by omega) (by omega) dX2_insert_7 (by decide) (fun h_1 => ?_) (fun h_1 => ?_)
    · skip
      exfalso; omega
    · have g_1 : ¬ (k ≤ fz) := (Nat.not_le.mpr h_1)
      refine gz_aload_n C 0 dX2_insert_10 rfl ?_
      refine gz_get (ci := 3) C iwX2 0 rfl rfl 2 (by decide) wk_81 rfl rfl dX2_insert_11 ?_
      refine gz_iload_n C 3 dX2_insert_14 rfl ?_
      refine gz_aload_n C 0 dX2_insert_15 rfl ?_
      refine gz_get (ci := 3) C iwX2 0 rfl rfl 2 (by decide) wk_81 rfl rfl dX2_insert_16 ?_
      refine gz_iload_n C 3 dX2_insert_19 rfl ?_
      refine gz_iconst (v := nI 1) C dX2_insert_20 (by decide) ?_
      refine gz_isub (v := nI (k - 1)) C dX2_insert_21 (pk_sub (by first | omega | exact Nat.one_le_two_pow)) ?_
      refine gz_iald C 11 0 rfl rfl (by omega) (by decide) dX2_insert_22 ?_
      refine gz_iast (ws2 := (wC xo nt es ro ad cI cJ cZ ln fz sx mo sn bw tkv opv shv ldv wyv bdv ct dA dA sta stc fev dl dnv (va_up rov k (rov (k - 1))))) C 11 0 rfl rfl (by omega) (by decide) rfl dX2_insert_23 ?_
      refine gz_iinc (v := nI (k - 1)) (lv2 := [(3, .int (nI (k - 1))), (0, .ref xo), (1, .int (nI x)), (2, .int (nI co))]) (k := 3) C dX2_insert_24 rfl (sb_m1 (by omega)) (by decide) rfl ?_
      refine gz_goto C 2 dX2_insert_27 (by decide) ?_
      refine gz_lv [1, 2, 3, 0] rfl ?_
      simp only [f2_insert_i1, if_neg g_1] at hx
      exact ih (k - 1) (va_up rov k (rov (k - 1))) (by omega)  hx

theorem q2_i1 : ∀ (n k : Nat) (rov : Nat → Nat), (f2_insert_i1 n k rov).2 = (f3_putIn_lp n k rov).2 := by
  intro n
  induction n with
  | zero => intro k rov; rfl
  | succ n ih => intro k rov; exact ih _ _
theorem q2_put {co fz x : Nat} {rov : Nat → Nat} : va_up (f2_insert_i1 (co - fz) co rov).2 fz x = f3_putIn_rov co rov fz x := by
  unfold f3_putIn_rov
  rw [q2_i1]

def f2_insert_i2 (tkv : Nat → Int64) (opv : Nat → Int64) (shv : Nat → Int64) (wyv : Nat → Int64) (bdv : Nat → Bool) (co : Nat) : Nat → Nat → Int64 → Nat → (Nat → Nat) → Nat × Int64 × Nat × (Nat → Nat)
  | 0, pl, lst, k, rov => (pl, lst, k, rov)
  | n + 1, pl, lst, k, rov => f2_insert_i2 tkv opv shv wyv bdv co n ((if lst ≤ (f1_cost tkv opv shv wyv bdv (f2_swap_rov rov k (k + 1)) (co + 1)) then pl else k + 1)) ((if lst ≤ (f1_cost tkv opv shv wyv bdv (f2_swap_rov rov k (k + 1)) (co + 1)) then lst else f1_cost tkv opv shv wyv bdv (f2_swap_rov rov k (k + 1)) (co + 1))) (k + 1) (f2_swap_rov rov k (k + 1))
set_option maxRecDepth 100000 in
set_option maxHeartbeats 4000000 in
theorem lX2_insert_i2 {p : Program} {l : Launch} {e : Env} {R : Room} {s : State} {m : MethodId} {args : Array Value} {below : List Frame} {meth : Method} {c : Code} {cells slots : Nat} {Q : State → Prop} {A : Nat → Prop} {D : va_G} (xo : Nat) (nt : Nat) (es : Nat) (ro : Nat) (ad : Nat → Nat) (cI : ClassId) (cJ : ClassId) (cZ : ClassId) (ln : Int32) (fz : Nat) (sx : Bool) (mo : Int32) (sn : Nat) (bw : Int32) (tkv : Nat → Int64) (opv : Nat → Int64) (shv : Nat → Int64) (ldv : Nat → Int32) (wyv : Nat → Int64) (bdv : Nat → Bool) (ct : Nat) (dA : Nat) (sta : Nat) (stc : Int64) (fev : Nat → Nat) (dl : Nat) (dnv : Nat → Int64) (x : Nat) (co : Nat) (hco : co ≤ 19) (hR : 3 ≤ R.frames ∧ 76 ≤ R.locals) (hce : cells ≤ R.cells ∧ slots ≤ R.slots) (C : gz_C p s m args c cX2_insert 9 RX2 D [(cI, .int), (cJ, .long), (cZ, .boolean)] A) : ∀ (n : Nat) (pl : Nat) (lst : Int64) (k : Nat) (rov : Nat → Nat), (k + n = co) → (pl ≤ k) → (∀ j, j < co + 1 → rov j ≤ 20) → ((((f2_insert_i2 tkv opv shv wyv bdv co n pl lst k rov).2.2.1) + 0 = co) → (((f2_insert_i2 tkv opv shv wyv bdv co n pl lst k rov).1) ≤ ((f2_insert_i2 tkv opv shv wyv bdv co n pl lst k rov).2.2.1)) → (∀ j, j < co + 1 → ((f2_insert_i2 tkv opv shv wyv bdv co n pl lst k rov).2.2.2) j ≤ 20) → GZ p l e R s m args below meth c 9 D A cells slots Q (wC xo nt es ro ad cI cJ cZ ln fz sx mo sn bw tkv opv shv ldv wyv bdv ct dA dA sta stc fev dl dnv ((f2_insert_i2 tkv opv shv wyv bdv co n pl lst k rov).2.2.2)) [(0, .ref xo), (1, .int (nI x)), (2, .int (nI co)), (3, .int (nI ((f2_insert_i2 tkv opv shv wyv bdv co n pl lst k rov).1))), (4, .long ((f2_insert_i2 tkv opv shv wyv bdv co n pl lst k rov).2.1)), (6, .int (nI ((f2_insert_i2 tkv opv shv wyv bdv co n pl lst k rov).2.2.1)))] [] 122) → GZ p l e R s m args below meth c 9 D A cells slots Q (wC xo nt es ro ad cI cJ cZ ln fz sx mo sn bw tkv opv shv ldv wyv bdv ct dA dA sta stc fev dl dnv rov) [(0, .ref xo), (1, .int (nI x)), (2, .int (nI co)), (3, .int (nI pl)), (4, .long lst), (6, .int (nI k))] [] 67 := by
  intro n
  induction n with
  | zero =>
    intro pl lst k rov hme hpl hro hx
    refine gz_iload C 5 dX2_insert_67 rfl ?_
    refine gz_iload_n C 2 dX2_insert_69 rfl ?_
    refine gz_ncmp_ge C 122 (by omega) (by omega) dX2_insert_70 (by decide) (fun h_1 => ?_) (fun h_1 => ?_)
    · skip
      exact gz_lv [0, 1, 2, 3, 4, 5] rfl (hx hme hpl hro)
    · have g_1 : ¬ (co ≤ k) := (Nat.not_le.mpr h_1)
      exfalso; omega
  | succ n ih =>
    intro pl lst k rov hme hpl hro hx
    refine gz_iload C 5 dX2_insert_67 rfl ?_
    refine gz_iload_n C 2 dX2_insert_69 rfl ?_
    refine gz_ncmp_ge C 122 (by omega) (by omega) dX2_insert_70 (by decide) (fun h_1 => ?_) (fun h_1 => ?_)
    · skip
      exfalso; omega
    · have g_1 : ¬ (co ≤ k) := (Nat.not_le.mpr h_1)
      refine gz_aload_n C 0 dX2_insert_73 rfl ?_
      refine gz_iload C 5 dX2_insert_74 rfl ?_
      refine gz_iload C 5 dX2_insert_76 rfl ?_
      refine gz_iconst (v := nI 1) C dX2_insert_78 (by decide) ?_
      refine gz_iadd (v := nI (k + 1)) C dX2_insert_79 (nI_add _ _) ?_
      refine gz_callV (wr := []) (n := 2) (ws2 := (wC xo nt es ro ad cI cJ cZ ln fz sx mo sn bw tkv opv shv ldv wyv bdv ct dA dA sta stc fev dl dnv (f2_swap_rov rov k (k + 1)))) (st2 := []) (cells2 := cells) (slots2 := slots) (ci := 3) C (kX2_swap l D xo nt es ro ad cI cJ cZ ln fz sx mo sn bw tkv opv shv ldv wyv bdv ct dA sta stc fev dl dnv rov k (k + 1) (by first | assumption | omega) (by first | assumption | omega)) (WB_V wk_223 wk_225 ws_9 wk_1 wk_226) (by decide +kernel) ⟨⟨rfl, rfl⟩, Nat.le_trans (by decide) hR.1, Nat.le_trans (by decide) hR.2⟩ [0, 1, 2, 3, 4, 5, 6, 7, 8, 9, 10, 11] [] [0, 1, 2] rfl rfl rfl (by decide) rfl 0 rfl rfl rfl rfl (Nat.le_of_ble_eq_true rfl) dX2_insert_80 hce rfl rfl rfl ?_
      refine gz_aload_n C 0 dX2_insert_83 rfl ?_
      refine gz_get (ci := 3) C iwX2 0 rfl rfl 0 (by decide) wk_79 rfl rfl dX2_insert_84 ?_
      refine gz_aload_n C 0 dX2_insert_87 rfl ?_
      refine gz_get (ci := 3) C iwX2 0 rfl rfl 2 (by decide) wk_81 rfl rfl dX2_insert_88 ?_
      refine gz_iload_n C 2 dX2_insert_91 rfl ?_
      refine gz_iconst (v := nI 1) C dX2_insert_92 (by decide) ?_
      refine gz_iadd (v := nI (co + 1)) C dX2_insert_93 (nI_add _ _) ?_
      refine gz_callV (wr := []) (n := 2) (ws2 := (wC xo nt es ro ad cI cJ cZ ln fz sx mo sn bw tkv opv shv ldv wyv bdv ct dA dA sta stc fev dl dnv (f2_swap_rov rov k (k + 1)))) (st2 := [.long (f1_cost tkv opv shv wyv bdv (f2_swap_rov rov k (k + 1)) (co + 1))]) (cells2 := cells) (slots2 := slots) (ci := 2) C (kX1_cost l D xo nt es ro ad cI cJ cZ ln fz sx mo sn bw tkv opv shv ldv wyv bdv ct dA sta stc fev dl dnv (f2_swap_rov rov k (k + 1)) (co + 1) (by first | assumption | omega) (q2_swap_le hro (by omega) (by omega))) (WB_V wk_218 wk_219 wk_220 wk_2 wk_221) (by decide +kernel) ⟨⟨rfl, rfl⟩, Nat.le_trans (by decide) hR.1, Nat.le_trans (by decide) hR.2⟩ [0, 1, 2, 3, 4, 5, 6, 7, 8, 9, 10, 11] [] [0, 1, 2] rfl rfl rfl (by decide) rfl 1 rfl rfl rfl rfl (Nat.le_of_ble_eq_true rfl) dX2_insert_94 hce rfl rfl rfl ?_
      refine gz_lstore (lv2 := [(7, .long (f1_cost tkv opv shv wyv bdv (f2_swap_rov rov k (k + 1)) (co + 1))), (0, .ref xo), (1, .int (nI x)), (2, .int (nI co)), (3, .int (nI pl)), (4, .long lst), (6, .int (nI k))]) C dX2_insert_97 (by decide) rfl ?_
      refine gz_lload C 0 dX2_insert_99 rfl ?_
      refine gz_lload C 5 dX2_insert_101 rfl ?_
      refine gz_J (ws2 := (wC xo nt es ro ad cI cJ cZ ln fz sx mo sn bw tkv opv shv ldv wyv bdv ct dA dA sta stc fev dl dnv (f2_swap_rov rov k (k + 1)))) (lv2 := [(7, .long (f1_cost tkv opv shv wyv bdv (f2_swap_rov rov k (k + 1)) (co + 1))), (0, .ref xo), (1, .int (nI x)), (2, .int (nI co)), (3, .int (nI ((if lst ≤ (f1_cost tkv opv shv wyv bdv (f2_swap_rov rov k (k + 1)) (co + 1)) then pl else k + 1)))), (4, .long ((if lst ≤ (f1_cost tkv opv shv wyv bdv (f2_swap_rov rov k (k + 1)) (co + 1)) then lst else f1_cost tkv opv shv wyv bdv (f2_swap_rov rov k (k + 1)) (co + 1)))), (6, .int (nI k))]) (st2 := []) (pc2 := 116) ?_ (fun J_2 => ?_)
      rotate_left
      · refine gz_lcmp_ge C 116 dX2_insert_103 dX2_insert_104 (by decide) (fun h_2 => ?_) (fun h_2 => ?_)
        · skip
          simp only [if_pos h_2] at J_2 ⊢
          exact gz_lv [0, 1, 2, 3, 4, 5, 6] rfl J_2
        · have g_2 : ¬ (lst ≤ (f1_cost tkv opv shv wyv bdv (f2_swap_rov rov k (k + 1)) (co + 1))) := h_2
          refine gz_lload C 0 dX2_insert_107 rfl ?_
          refine gz_lstore (lv2 := [(4, .long (f1_cost tkv opv shv wyv bdv (f2_swap_rov rov k (k + 1)) (co + 1))), (7, .long (f1_cost tkv opv shv wyv bdv (f2_swap_rov rov k (k + 1)) (co + 1))), (0, .ref xo), (1, .int (nI x)), (2, .int (nI co)), (3, .int (nI pl)), (6, .int (nI k))]) C dX2_insert_109 (by decide) rfl ?_
          refine gz_iload C 6 dX2_insert_111 rfl ?_
          refine gz_iconst (v := nI 1) C dX2_insert_113 (by decide) ?_
          refine gz_iadd (v := nI (k + 1)) C dX2_insert_114 (nI_add _ _) ?_
          refine gz_istore_n (lv2 := [(3, .int (nI (k + 1))), (4, .long (f1_cost tkv opv shv wyv bdv (f2_swap_rov rov k (k + 1)) (co + 1))), (7, .long (f1_cost tkv opv shv wyv bdv (f2_swap_rov rov k (k + 1)) (co + 1))), (0, .ref xo), (1, .int (nI x)), (2, .int (nI co)), (6, .int (nI k))]) C dX2_insert_115 (by decide) rfl ?_
          simp only [if_neg g_2] at J_2 ⊢
          exact gz_lv [2, 3, 4, 5, 0, 1, 6] rfl J_2
      refine gz_iinc (v := nI (k + 1)) (lv2 := [(6, .int (nI (k + 1))), (7, .long (f1_cost tkv opv shv wyv bdv (f2_swap_rov rov k (k + 1)) (co + 1))), (0, .ref xo), (1, .int (nI x)), (2, .int (nI co)), (3, .int (nI ((if lst ≤ (f1_cost tkv opv shv wyv bdv (f2_swap_rov rov k (k + 1)) (co + 1)) then pl else k + 1)))), (4, .long ((if lst ≤ (f1_cost tkv opv shv wyv bdv (f2_swap_rov rov k (k + 1)) (co + 1)) then lst else f1_cost tkv opv shv wyv bdv (f2_swap_rov rov k (k + 1)) (co + 1))))]) (k := 6) C dX2_insert_116 rfl (nI_add _ 1) (by decide) rfl ?_
      refine gz_goto C 67 dX2_insert_119 (by decide) ?_
      refine gz_lv [2, 3, 4, 5, 6, 0] rfl ?_
      simp only [f2_insert_i2, if_neg g_1] at hx
      exact ih ((if lst ≤ (f1_cost tkv opv shv wyv bdv (f2_swap_rov rov k (k + 1)) (co + 1)) then pl else k + 1)) ((if lst ≤ (f1_cost tkv opv shv wyv bdv (f2_swap_rov rov k (k + 1)) (co + 1)) then lst else f1_cost tkv opv shv wyv bdv (f2_swap_rov rov k (k + 1)) (co + 1))) (k + 1) (f2_swap_rov rov k (k + 1)) (by omega) (by first | omega | (split <;> omega)) (q2_swap_le hro (by omega) (by omega)) hx

def f2_insert_i3  : Nat → Nat → (Nat → Nat) → Nat × (Nat → Nat)
  | 0, k, rov => (k, rov)
  | n + 1, k, rov => f2_insert_i3  n (k - 1) (f2_swap_rov rov k (k - 1))
set_option maxRecDepth 100000 in
set_option maxHeartbeats 4000000 in
theorem lX2_insert_i3 {p : Program} {l : Launch} {e : Env} {R : Room} {s : State} {m : MethodId} {args : Array Value} {below : List Frame} {meth : Method} {c : Code} {cells slots : Nat} {Q : State → Prop} {A : Nat → Prop} {D : va_G} (xo : Nat) (nt : Nat) (es : Nat) (ro : Nat) (ad : Nat → Nat) (cI : ClassId) (cJ : ClassId) (cZ : ClassId) (ln : Int32) (fz : Nat) (sx : Bool) (mo : Int32) (sn : Nat) (bw : Int32) (tkv : Nat → Int64) (opv : Nat → Int64) (shv : Nat → Int64) (ldv : Nat → Int32) (wyv : Nat → Int64) (bdv : Nat → Bool) (ct : Nat) (dA : Nat) (sta : Nat) (stc : Int64) (fev : Nat → Nat) (dl : Nat) (dnv : Nat → Int64) (pl : Nat)  (hR : 1 ≤ R.frames ∧ 23 ≤ R.locals) (hce : cells ≤ R.cells ∧ slots ≤ R.slots) (C : gz_C p s m args c cX2_insert 9 RX2 D [(cI, .int), (cJ, .long), (cZ, .boolean)] A) : ∀ (n : Nat) (k : Nat) (rov : Nat → Nat), (k = pl + n ∧ k ≤ 19) → ((((f2_insert_i3  n k rov).1) = pl + 0 ∧ ((f2_insert_i3  n k rov).1) ≤ 19) → GZ p l e R s m args below meth c 9 D A cells slots Q (wC xo nt es ro ad cI cJ cZ ln fz sx mo sn bw tkv opv shv ldv wyv bdv ct dA dA sta stc fev dl dnv ((f2_insert_i3  n k rov).2)) [(0, .ref xo), (3, .int (nI pl)), (6, .int (nI ((f2_insert_i3  n k rov).1)))] [] 147) → GZ p l e R s m args below meth c 9 D A cells slots Q (wC xo nt es ro ad cI cJ cZ ln fz sx mo sn bw tkv opv shv ldv wyv bdv ct dA dA sta stc fev dl dnv rov) [(0, .ref xo), (3, .int (nI pl)), (6, .int (nI k))] [] 125 := by
  intro n
  induction n with
  | zero =>
    intro k rov hme  hx
    refine gz_iload C 2 dX2_insert_125 rfl ?_
    refine gz_iload_n C 1 dX2_insert_127 rfl ?_
    refine gz_ncmp_le C 147 (by omega) (by omega) dX2_insert_128 (by decide) (fun h_1 => ?_) (fun h_1 => ?_)
    · skip
      exact gz_lv [0, 1, 2] rfl (hx hme )
    · have g_1 : ¬ (k ≤ pl) := (Nat.not_le.mpr h_1)
      exfalso; omega
  | succ n ih =>
    intro k rov hme  hx
    refine gz_iload C 2 dX2_insert_125 rfl ?_
    refine gz_iload_n C 1 dX2_insert_127 rfl ?_
    refine gz_ncmp_le C 147 (by omega) (by omega) dX2_insert_128 (by decide) (fun h_1 => ?_) (fun h_1 => ?_)
    · skip
      exfalso; omega
    · have g_1 : ¬ (k ≤ pl) := (Nat.not_le.mpr h_1)
      refine gz_aload_n C 0 dX2_insert_131 rfl ?_
      refine gz_iload C 2 dX2_insert_132 rfl ?_
      refine gz_iload C 2 dX2_insert_134 rfl ?_
      refine gz_iconst (v := nI 1) C dX2_insert_136 (by decide) ?_
      refine gz_isub (v := nI (k - 1)) C dX2_insert_137 (pk_sub (by first | omega | exact Nat.one_le_two_pow)) ?_
      refine gz_callV (wr := []) (n := 2) (ws2 := (wC xo nt es ro ad cI cJ cZ ln fz sx mo sn bw tkv opv shv ldv wyv bdv ct dA dA sta stc fev dl dnv (f2_swap_rov rov k (k - 1)))) (st2 := []) (cells2 := cells) (slots2 := slots) (ci := 3) C (kX2_swap l D xo nt es ro ad cI cJ cZ ln fz sx mo sn bw tkv opv shv ldv wyv bdv ct dA sta stc fev dl dnv rov k (k - 1) (by first | assumption | omega) (by first | assumption | omega)) (WB_V wk_223 wk_225 ws_9 wk_1 wk_226) (by decide +kernel) ⟨⟨rfl, rfl⟩, Nat.le_trans (by decide) hR.1, Nat.le_trans (by decide) hR.2⟩ [0, 1, 2, 3, 4, 5, 6, 7, 8, 9, 10, 11] [] [0, 1, 2] rfl rfl rfl (by decide) rfl 0 rfl rfl rfl rfl (Nat.le_of_ble_eq_true rfl) dX2_insert_138 hce rfl rfl rfl ?_
      refine gz_iinc (v := nI (k - 1)) (lv2 := [(6, .int (nI (k - 1))), (0, .ref xo), (3, .int (nI pl))]) (k := 2) C dX2_insert_141 rfl (sb_m1 (by omega)) (by decide) rfl ?_
      refine gz_goto C 125 dX2_insert_144 (by decide) ?_
      refine gz_lv [1, 2, 0] rfl ?_
      simp only [f2_insert_i3, if_neg g_1] at hx
      exact ih (k - 1) (f2_swap_rov rov k (k - 1)) (by omega)  hx

def f2_insert (fz : Nat) (tkv : Nat → Int64) (opv : Nat → Int64) (shv : Nat → Int64) (wyv : Nat → Int64) (bdv : Nat → Bool) (rov : Nat → Nat) (x : Nat) (co : Nat) : Nat := (f2_insert_i2 tkv opv shv wyv bdv co (co - fz) fz (f1_cost tkv opv shv wyv bdv (va_up ((f2_insert_i1  (co - fz) co rov).2) fz x) (co + 1)) fz (va_up ((f2_insert_i1  (co - fz) co rov).2) fz x)).1
def f2_insert_rov (fz : Nat) (tkv : Nat → Int64) (opv : Nat → Int64) (shv : Nat → Int64) (wyv : Nat → Int64) (bdv : Nat → Bool) (rov : Nat → Nat) (x : Nat) (co : Nat) : Nat → Nat := (f2_insert_i3  (co - ((f2_insert_i2 tkv opv shv wyv bdv co (co - fz) fz (f1_cost tkv opv shv wyv bdv (va_up ((f2_insert_i1  (co - fz) co rov).2) fz x) (co + 1)) fz (va_up ((f2_insert_i1  (co - fz) co rov).2) fz x)).1)) co ((f2_insert_i2 tkv opv shv wyv bdv co (co - fz) fz (f1_cost tkv opv shv wyv bdv (va_up ((f2_insert_i1  (co - fz) co rov).2) fz x) (co + 1)) fz (va_up ((f2_insert_i1  (co - fz) co rov).2) fz x)).2.2.2)).2
set_option maxRecDepth 100000 in
set_option maxHeartbeats 4000000 in
theorem kX2_insert (l : Launch) (D : va_G) (xo : Nat) (nt : Nat) (es : Nat) (ro : Nat) (ad : Nat → Nat) (cI : ClassId) (cJ : ClassId) (cZ : ClassId) (ln : Int32) (fz : Nat) (sx : Bool) (mo : Int32) (sn : Nat) (bw : Int32) (tkv : Nat → Int64) (opv : Nat → Int64) (shv : Nat → Int64) (ldv : Nat → Int32) (wyv : Nat → Int64) (bdv : Nat → Bool) (ct : Nat) (dA : Nat) (sta : Nat) (stc : Int64) (fev : Nat → Nat) (dl : Nat) (dnv : Nat → Int64) (rov : Nat → Nat) (x : Nat) (co : Nat) (hco : co ≤ 19) (hfz : fz ≤ co) (hxx : x ≤ 20) (hro : ∀ k, k < co → rov k ≤ 20) : gz_M l yX2_insert cX2_insert 9 (some .int) ({ frames := 3, cells := 0, slots := 0, locals := 76 } : Room) D [(cI, .int), (cJ, .long), (cZ, .boolean)] [.ref xo, .int (nI x), .int (nI co)] (wC xo nt es ro ad cI cJ cZ ln fz sx mo sn bw tkv opv shv ldv wyv bdv ct dA dA sta stc fev dl dnv rov) (some (.int (nI (f2_insert fz tkv opv shv wyv bdv rov x co)))) (wC xo nt es ro ad cI cJ cZ ln fz sx mo sn bw tkv opv shv ldv wyv bdv ct dA dA sta stc fev dl dnv (f2_insert_rov fz tkv opv shv wyv bdv rov x co)) 0 0 := by
  refine gz_met l (by decide) (Nat.le_of_ble_eq_true rfl) [(0, .ref xo), (1, .int (nI x)), (2, .int (nI co))] rfl ?_
  intro sz p e s m args below meth c C hr hk hnm
  have C : gz_C p s m args c cX2_insert 9 RX2 D [(cI, .int), (cJ, .long), (cZ, .boolean)] (va_A (wC xo nt es ro ad cI cJ cZ ln fz sx mo sn bw tkv opv shv ldv wyv bdv ct dA dA sta stc fev dl dnv rov) sz) := C
  refine gz_iload_n C 2 dX2_insert_0 rfl ?_
  refine gz_istore_n (lv2 := [(3, .int (nI co)), (0, .ref xo), (1, .int (nI x)), (2, .int (nI co))]) C dX2_insert_1 (by decide) rfl ?_
  refine gz_lv (lv2 := [(0, .ref xo), (1, .int (nI x)), (2, .int (nI co)), (3, .int (nI co))]) [1, 2, 3, 0] rfl ?_
  refine lX2_insert_i1 xo nt es ro ad cI cJ cZ ln fz sx mo sn bw tkv opv shv ldv wyv bdv ct dA sta stc fev dl dnv x co  C (co - fz) co rov (by omega)  ?_
  intro zme_i1
  refine gz_aload_n C 0 dX2_insert_30 rfl ?_
  refine gz_get (ci := 3) C iwX2 0 rfl rfl 2 (by decide) wk_81 rfl rfl dX2_insert_31 ?_
  refine gz_aload_n C 0 dX2_insert_34 rfl ?_
  refine gz_get (ci := 3) C iwX2 0 rfl rfl 4 (by decide) wk_83 rfl rfl dX2_insert_35 ?_
  refine gz_iload_n C 1 dX2_insert_38 rfl ?_
  refine gz_iast (ws2 := (wC xo nt es ro ad cI cJ cZ ln fz sx mo sn bw tkv opv shv ldv wyv bdv ct dA dA sta stc fev dl dnv (va_up ((f2_insert_i1  (co - fz) co rov).2) fz x))) C 11 0 rfl rfl (by omega) (by decide) rfl dX2_insert_39 ?_
  have hro9 : ∀ k, k < co + 1 → va_up (f2_insert_i1 (co - fz) co rov).2 fz x k ≤ 20 := by rw [q2_put]; exact q3_putIn_le hfz hxx hro
  refine gz_aload_n C 0 dX2_insert_40 rfl ?_
  refine gz_get (ci := 3) C iwX2 0 rfl rfl 4 (by decide) wk_83 rfl rfl dX2_insert_41 ?_
  refine gz_istore_n (lv2 := [(3, .int (nI fz)), (0, .ref xo), (1, .int (nI x)), (2, .int (nI co))]) C dX2_insert_44 (by decide) rfl ?_
  refine gz_aload_n C 1 dX2_insert_45 rfl ?_
  refine gz_get (ci := 3) C iwX2 0 rfl rfl 0 (by decide) wk_79 rfl rfl dX2_insert_46 ?_
  refine gz_aload_n C 1 dX2_insert_49 rfl ?_
  refine gz_get (ci := 3) C iwX2 0 rfl rfl 2 (by decide) wk_81 rfl rfl dX2_insert_50 ?_
  refine gz_iload_n C 3 dX2_insert_53 rfl ?_
  refine gz_iconst (v := nI 1) C dX2_insert_54 (by decide) ?_
  refine gz_iadd (v := nI (co + 1)) C dX2_insert_55 (nI_add _ _) ?_
  refine gz_callV (wr := []) (n := 2) (ws2 := (wC xo nt es ro ad cI cJ cZ ln fz sx mo sn bw tkv opv shv ldv wyv bdv ct dA dA sta stc fev dl dnv (va_up ((f2_insert_i1  (co - fz) co rov).2) fz x))) (st2 := [.long (f1_cost tkv opv shv wyv bdv (va_up ((f2_insert_i1  (co - fz) co rov).2) fz x) (co + 1))]) (cells2 := 0) (slots2 := 0) (ci := 2) C (kX1_cost l D xo nt es ro ad cI cJ cZ ln fz sx mo sn bw tkv opv shv ldv wyv bdv ct dA sta stc fev dl dnv (va_up ((f2_insert_i1  (co - fz) co rov).2) fz x) (co + 1) (by first | assumption | omega) hro9) (WB_V wk_218 wk_219 wk_220 wk_2 wk_221) (by decide +kernel) ⟨⟨rfl, rfl⟩, Nat.le_of_ble_eq_true rfl, Nat.le_of_ble_eq_true rfl⟩ [0, 1, 2, 3, 4, 5, 6, 7, 8, 9, 10, 11] [] [0, 1, 2] rfl rfl rfl (by decide) rfl 1 rfl rfl rfl rfl (Nat.le_of_ble_eq_true rfl) dX2_insert_56 ⟨Nat.zero_le _, Nat.zero_le _⟩ rfl rfl rfl ?_
  refine gz_lstore (lv2 := [(4, .long (f1_cost tkv opv shv wyv bdv (va_up ((f2_insert_i1  (co - fz) co rov).2) fz x) (co + 1))), (3, .int (nI fz)), (0, .ref xo), (1, .int (nI x)), (2, .int (nI co))]) C dX2_insert_59 (by decide) rfl ?_
  refine gz_aload_n C 2 dX2_insert_61 rfl ?_
  refine gz_get (ci := 3) C iwX2 0 rfl rfl 4 (by decide) wk_83 rfl rfl dX2_insert_62 ?_
  refine gz_istore (lv2 := [(6, .int (nI fz)), (4, .long (f1_cost tkv opv shv wyv bdv (va_up ((f2_insert_i1  (co - fz) co rov).2) fz x) (co + 1))), (3, .int (nI fz)), (0, .ref xo), (1, .int (nI x)), (2, .int (nI co))]) C dX2_insert_65 (by decide) rfl ?_
  refine gz_lv (lv2 := [(0, .ref xo), (1, .int (nI x)), (2, .int (nI co)), (3, .int (nI fz)), (4, .long (f1_cost tkv opv shv wyv bdv (va_up ((f2_insert_i1  (co - fz) co rov).2) fz x) (co + 1))), (6, .int (nI fz))]) [3, 4, 5, 2, 1, 0] rfl ?_
  refine lX2_insert_i2 xo nt es ro ad cI cJ cZ ln fz sx mo sn bw tkv opv shv ldv wyv bdv ct dA sta stc fev dl dnv x co (by first | assumption | omega) ⟨Nat.le_of_ble_eq_true rfl, Nat.le_of_ble_eq_true rfl⟩ ⟨Nat.zero_le _, Nat.zero_le _⟩ C (co - fz) fz (f1_cost tkv opv shv wyv bdv (va_up ((f2_insert_i1  (co - fz) co rov).2) fz x) (co + 1)) fz (va_up ((f2_insert_i1  (co - fz) co rov).2) fz x) (by omega) (by omega) hro9 ?_
  intro zme_i2 zhpl_i2 zhro_i2
  refine gz_iload_n C 2 dX2_insert_122 rfl ?_
  refine gz_istore (lv2 := [(6, .int (nI co)), (0, .ref xo), (1, .int (nI x)), (2, .int (nI co)), (3, .int (nI ((f2_insert_i2 tkv opv shv wyv bdv co (co - fz) fz (f1_cost tkv opv shv wyv bdv (va_up ((f2_insert_i1  (co - fz) co rov).2) fz x) (co + 1)) fz (va_up ((f2_insert_i1  (co - fz) co rov).2) fz x)).1))), (4, .long ((f2_insert_i2 tkv opv shv wyv bdv co (co - fz) fz (f1_cost tkv opv shv wyv bdv (va_up ((f2_insert_i1  (co - fz) co rov).2) fz x) (co + 1)) fz (va_up ((f2_insert_i1  (co - fz) co rov).2) fz x)).2.1))]) C dX2_insert_123 (by decide) rfl ?_
  refine gz_lv (lv2 := [(0, .ref xo), (3, .int (nI ((f2_insert_i2 tkv opv shv wyv bdv co (co - fz) fz (f1_cost tkv opv shv wyv bdv (va_up ((f2_insert_i1  (co - fz) co rov).2) fz x) (co + 1)) fz (va_up ((f2_insert_i1  (co - fz) co rov).2) fz x)).1))), (6, .int (nI co))]) [1, 4, 0] rfl ?_
  refine lX2_insert_i3 xo nt es ro ad cI cJ cZ ln fz sx mo sn bw tkv opv shv ldv wyv bdv ct dA sta stc fev dl dnv ((f2_insert_i2 tkv opv shv wyv bdv co (co - fz) fz (f1_cost tkv opv shv wyv bdv (va_up ((f2_insert_i1  (co - fz) co rov).2) fz x) (co + 1)) fz (va_up ((f2_insert_i1  (co - fz) co rov).2) fz x)).1)  ⟨Nat.le_of_ble_eq_true rfl, Nat.le_of_ble_eq_true rfl⟩ ⟨Nat.zero_le _, Nat.zero_le _⟩ C (co - ((f2_insert_i2 tkv opv shv wyv bdv co (co - fz) fz (f1_cost tkv opv shv wyv bdv (va_up ((f2_insert_i1  (co - fz) co rov).2) fz x) (co + 1)) fz (va_up ((f2_insert_i1  (co - fz) co rov).2) fz x)).1)) co ((f2_insert_i2 tkv opv shv wyv bdv co (co - fz) fz (f1_cost tkv opv shv wyv bdv (va_up ((f2_insert_i1  (co - fz) co rov).2) fz x) (co + 1)) fz (va_up ((f2_insert_i1  (co - fz) co rov).2) fz x)).2.2.2) (by omega)  ?_
  intro zme_i3
  refine gz_iload_n C 1 dX2_insert_147 rfl ?_
  exact gz_iret C hr hk (by first | rfl | (simp only [f2_insert, f2_insert_rov]) | (simp only [f2_insert, f2_insert_rov]; rfl)) (by first | rfl | (simp only [f2_insert, f2_insert_rov]) | (simp only [f2_insert, f2_insert_rov]; rfl)) (Nat.le_refl _) (Nat.le_refl _) dX2_insert_148


/-! class and reference side by side: the cost, inserting, exchanging -/
section CEQ
variable {tkv opv shv wyv : Nat → Int64} {bdv : Nat → Bool}
theorem ce_done (a : Nat) (t : Int64) : f1_doneAt tkv opv a t = (if opv a ≤ t then t else opv a) + tkv a := by
  unfold f1_doneAt
  congr 1
  by_cases h1 : opv a < t
  · rw [if_pos h1, if_pos (Int64.le_of_lt h1)]
  · rw [if_neg h1]
    by_cases h2 : opv a ≤ t
    · rw [if_pos h2]
      exact Int64.le_antisymm h2 (Int64.not_lt.mp h1)
    · rw [if_neg h2]
theorem ce_fa {fa : Int64} {c : Bool} {P : Prop} [Decidable P] : (fa + (if c = true then 1 else 0)) + (if P then 0 else 1) = (if c = true then (if P then fa else fa + 1) + 1 else (if P then fa else fa + 1)) := by
  by_cases h1 : c = true <;> by_cases h2 : P
  · rw [if_pos h1, if_pos h2, if_pos h1, if_pos h2, Int64.add_zero]
  · rw [if_pos h1, if_neg h2, if_pos h1, if_neg h2]
  · rw [if_neg h1, if_pos h2, if_neg h1, if_pos h2, Int64.add_zero, Int64.add_zero]
  · rw [if_neg h1, if_neg h2, if_neg h1, if_neg h2, Int64.add_zero]
theorem ce_cost_lp {rov : Nat → Nat} : ∀ (n : Nat) (fa ck : Int64) (he k : Nat), (f1_cost_lp tkv opv shv wyv bdv rov n fa ck he k).1 = (f3_measure_lp tkv opv shv wyv bdv rov n ck fa he k).2.1 ∧ (f1_cost_lp tkv opv shv wyv bdv rov n fa ck he k).2.1 = (f3_measure_lp tkv opv shv wyv bdv rov n ck fa he k).1 ∧ (f1_cost_lp tkv opv shv wyv bdv rov n fa ck he k).2.2.1 = (f3_measure_lp tkv opv shv wyv bdv rov n ck fa he k).2.2.1 := by
  intro n
  induction n with
  | zero => intro fa ck he k; exact ⟨rfl, rfl, rfl⟩
  | succ n ih =>
    intro fa ck he k
    unfold f1_cost_lp f3_measure_lp
    rw [ce_fa, ce_done, Nat.mul_comm he 21]
    exact ih _ _ _ _
/-- the cost of a row is the same in both -/
theorem ce_cost {rov : Nat → Nat} {n : Nat} : f1_cost tkv opv shv wyv bdv rov n = f3_measure tkv opv shv wyv bdv n rov := by
  unfold f1_cost f3_measure
  obtain ⟨h1, h2, h3⟩ := ce_cost_lp (tkv := tkv) (opv := opv) (shv := shv) (wyv := wyv) (bdv := bdv) (rov := rov) n 0 0 0 0
  rw [h1, h2, h3]
  by_cases c : n = 0
  · rw [if_pos c, if_pos c]
  · rw [if_neg c, if_neg c, Nat.mul_comm _ 21, Nat.add_zero]
    congr 3
    split
    · rfl
    · rw [Int64.add_zero]
/-- the measure looks at the row's own places alone, and at no span of the office -/
theorem ce_meas_lp {r1 r2 : Nat → Nat} {sh2 : Nat → Int64} {N : Nat} (hr : ∀ k, k < N → r1 k = r2 k) (hs : ∀ k, k < N → shv (r2 k) = sh2 (r2 k)) : ∀ (n : Nat) (ck fa : Int64) (he k : Nat), k + n = N → f3_measure_lp tkv opv shv wyv bdv r1 n ck fa he k = f3_measure_lp tkv opv sh2 wyv bdv r2 n ck fa he k := by
  intro n
  induction n with
  | zero => intro ck fa he k _; rfl
  | succ n ih =>
    intro ck fa he k hk
    unfold f3_measure_lp
    rw [hr k (by omega), hs k (by omega)]
    exact ih _ _ _ _ (by omega)
theorem ce_meas {r1 r2 : Nat → Nat} {sh2 : Nat → Int64} {N : Nat} (hr : ∀ k, k < N → r1 k = r2 k) (hs : ∀ k, k < N → shv (r2 k) = sh2 (r2 k)) : f3_measure tkv opv shv wyv bdv N r1 = f3_measure tkv opv sh2 wyv bdv N r2 := by
  unfold f3_measure
  rw [ce_meas_lp hr hs N 0 0 0 0 (by omega)]
/-- a stop that goes on by one place -/
theorem ce_step {co p x : Nat} {r f : Nat → Nat} (hp : p < co) (h : ∀ k, k < co + 1 → f k = f3_putIn_rov co r p x k) : ∀ k, k < co + 1 → f2_swap_rov f p (p + 1) k = f3_putIn_rov co r (p + 1) x k := by
  intro k hk
  rw [q2_swap, q3_turn_at, h p (by omega), h (p + 1) (by omega), h k hk, q3_putIn (by omega), q3_putIn (by omega), q3_putIn (by omega), q3_putIn (by omega)]
  by_cases c1 : k = p + 1
  · rw [if_pos c1, if_pos rfl, if_pos c1]
  · rw [if_neg c1, if_neg c1]
    by_cases c2 : k = p
    · subst c2
      rw [if_pos rfl, if_neg (by omega), if_pos (by omega), if_neg (by omega)]
      rfl
    · rw [if_neg c2, if_neg c2]
      by_cases c3 : p < k ∧ k ≤ co
      · rw [if_pos c3, if_pos (by omega)]
      · rw [if_neg c3, if_neg (by omega)]
theorem ce_stepb {co p x : Nat} {r f : Nat → Nat} (hp : p < co) (h : ∀ k, k < co + 1 → f k = f3_putIn_rov co r (p + 1) x k) : ∀ k, k < co + 1 → f2_swap_rov f (p + 1) p k = f3_putIn_rov co r p x k := by
  intro k hk
  rw [q2_swap, q3_turn_at, h p (by omega), h (p + 1) (by omega), h k hk, q3_putIn (by omega), q3_putIn (by omega), q3_putIn (by omega), q3_putIn (by omega)]
  by_cases c1 : k = p
  · subst c1
    rw [if_pos rfl, if_pos rfl, if_pos rfl]
  · rw [if_neg c1, if_neg c1]
    by_cases c2 : k = p + 1
    · subst c2
      rw [if_pos rfl, if_neg (by omega), if_neg (by omega), if_pos (by omega)]
      rfl
    · rw [if_neg c2, if_neg c2]
      by_cases c3 : p < k ∧ k ≤ co
      · rw [if_pos c3, if_pos (by omega)]
      · rw [if_neg c3, if_neg (by omega)]
/-- the cheapest place, as the reference finds it, behind the first one -/
theorem ce_i2 {co x fz : Nat} {r : Nat → Nat} (hco : co ≤ 19) : ∀ (n pl : Nat) (lst : Int64) (k : Nat) (f g : Nat → Nat), k + n = co → fz ≤ pl → pl ≤ k → (∀ j, j < co + 1 → f j = f3_putIn_rov co r k x j) → (∀ j, j < co → g j = r j) →
    (f3_insert_lp tkv opv shv wyv bdv co x n (nI pl) lst (k + 1) g).1 = nI (f2_insert_i2 tkv opv shv wyv bdv co n pl lst k f).1 ∧ (f2_insert_i2 tkv opv shv wyv bdv co n pl lst k f).1 ≤ co ∧ fz ≤ (f2_insert_i2 tkv opv shv wyv bdv co n pl lst k f).1 ∧ ∀ j, j < co + 1 → (f2_insert_i2 tkv opv shv wyv bdv co n pl lst k f).2.2.2 j = f3_putIn_rov co r co x j := by
  intro n
  induction n with
  | zero =>
    intro pl lst k f g h1 h0 h2 h3 h4
    have e : k = co := by omega
    subst e
    exact ⟨rfl, h2, h0, h3⟩
  | succ n ih =>
    intro pl lst k f g h1 h0 h2 h3 h4
    unfold f3_insert_lp f2_insert_i2
    have hst := ce_step (r := r) (x := x) (show k < co by omega) h3
    have hm : f3_measure tkv opv shv wyv bdv (f3_putIn_rs co) (f3_putIn_rov co g (k + 1) x) = f1_cost tkv opv shv wyv bdv (f2_swap_rov f k (k + 1)) (co + 1) := by
      rw [ce_cost]
      refine ce_meas (N := co + 1) (fun j hj => ?_) (fun _ _ => rfl)
      rw [hst j hj, q3_putIn (by omega), q3_putIn (by omega)]
      by_cases c1 : j = k + 1
      · rw [if_pos c1, if_pos c1]
      · rw [if_neg c1, if_neg c1]
        by_cases c2 : k + 1 < j ∧ j ≤ co
        · rw [if_pos c2, if_pos c2]; exact h4 _ (by omega)
        · rw [if_neg c2, if_neg c2]; exact h4 _ (by omega)
    have hg : ∀ j, j < co → f3_takeOut_rov (f3_putIn_rs co) (f3_putIn_rov co g (k + 1) x) (k + 1) j = r j := fun j hj => by
      rw [show f3_putIn_rs co = co + 1 from rfl, q3_tp (by omega) hj]; exact h4 j hj
    have hn : ¬ nI pl < 0 := nI_pos (by omega)
    rw [hm]
    simp only [if_neg hn]
    generalize f1_cost tkv opv shv wyv bdv (f2_swap_rov f k (k + 1)) (co + 1) = c at *
    by_cases c1 : lst ≤ c
    · simp only [if_pos c1]
      exact ih pl lst (k + 1) _ _ (by omega) h0 (by omega) hst hg
    · simp only [if_neg c1]
      exact ih (k + 1) c (k + 1) _ _ (by omega) (by omega) (Nat.le_refl _) hst hg
theorem ce_i3 {co x : Nat} {r : Nat → Nat} : ∀ (n k pl : Nat) (f : Nat → Nat), k = pl + n → k ≤ co → (∀ j, j < co + 1 → f j = f3_putIn_rov co r k x j) → ∀ j, j < co + 1 → (f2_insert_i3 n k f).2 j = f3_putIn_rov co r pl x j := by
  intro n
  induction n with
  | zero =>
    intro k pl f h1 h2 h3
    have e : k = pl := by omega
    subst e
    exact h3
  | succ n ih =>
    intro k pl f h1 h2 h3
    unfold f2_insert_i3
    refine ih (k - 1) pl _ (by omega) (by omega) ?_
    have e : k = (k - 1) + 1 := by omega
    have h4 := ce_stepb (r := r) (x := x) (p := k - 1) (f := f) (show k - 1 < co by omega) (by rw [← e]; exact h3)
    rw [← e] at h4
    exact h4
/-- inserting: the same place, the same row -/
theorem ce_insert {co x fz : Nat} {r : Nat → Nat} (hco : co ≤ 19) (hfz : fz ≤ co) : f3_insert tkv opv shv wyv bdv fz co r x = nI (f2_insert fz tkv opv shv wyv bdv r x co) ∧ f2_insert fz tkv opv shv wyv bdv r x co ≤ co ∧ fz ≤ f2_insert fz tkv opv shv wyv bdv r x co ∧ ∀ j, j < co + 1 → f2_insert_rov fz tkv opv shv wyv bdv r x co j = f3_insert_rov tkv opv shv wyv bdv fz co r x j := by
  have h0 : ∀ j, j < co + 1 → va_up (f2_insert_i1 (co - fz) co r).2 fz x j = f3_putIn_rov co r fz x j := fun j _ => by rw [q2_put]
  have hm : f3_measure tkv opv shv wyv bdv (f3_putIn_rs co) (f3_putIn_rov co r fz x) = f1_cost tkv opv shv wyv bdv (va_up (f2_insert_i1 (co - fz) co r).2 fz x) (co + 1) := by
    rw [ce_cost, q2_put]; rfl
  have hg : ∀ j, j < co → f3_takeOut_rov (f3_putIn_rs co) (f3_putIn_rov co r fz x) fz j = r j := fun j hj => by
    rw [show f3_putIn_rs co = co + 1 from rfl, q3_tp hfz hj]
  have hlp : f3_insert_lp tkv opv shv wyv bdv co x (co + 1 - fz) (-1) 0 fz r = f3_insert_lp tkv opv shv wyv bdv co x (co - fz) (nI fz) (f1_cost tkv opv shv wyv bdv (va_up (f2_insert_i1 (co - fz) co r).2 fz x) (co + 1)) (fz + 1) (f3_takeOut_rov (f3_putIn_rs co) (f3_putIn_rov co r fz x) fz) := by
    have e : co + 1 - fz = (co - fz) + 1 := by omega
    rw [e]
    have hn : (-1 : Int32) < 0 := by decide
    rw [← hm]
    show f3_insert_lp tkv opv shv wyv bdv co x (co - fz) _ _ _ _ = _
    simp only [if_pos hn]
  obtain ⟨a1, a2, a3, a4⟩ := ce_i2 (tkv := tkv) (opv := opv) (shv := shv) (wyv := wyv) (bdv := bdv) (r := r) (x := x) hco (co - fz) fz (f1_cost tkv opv shv wyv bdv (va_up (f2_insert_i1 (co - fz) co r).2 fz x) (co + 1)) fz _ _ (by omega) (Nat.le_refl _) (Nat.le_refl _) h0 hg
  rw [← hlp] at a1
  have hpl : f3_insert tkv opv shv wyv bdv fz co r x = nI (f2_insert fz tkv opv shv wyv bdv r x co) := by
    unfold f3_insert f2_insert
    rw [a1, cl_nI (by omega)]
  refine ⟨hpl, a2, a3, fun j hj => ?_⟩
  obtain ⟨_, hr0⟩ := q3_ins_lp (tkv := tkv) (opv := opv) (shv := shv) (wyv := wyv) (bdv := bdv) (x := x) hco hfz r (co + 1 - fz) (-1) 0 fz r (by omega) (Nat.le_refl _) (Or.inl ⟨by decide, rfl⟩) (fun _ _ => rfl)
  unfold f2_insert_rov f3_insert_rov
  rw [a1, cl_nI (by omega)]
  generalize (f2_insert_i2 tkv opv shv wyv bdv co (co - fz) fz (f1_cost tkv opv shv wyv bdv (va_up (f2_insert_i1 (co - fz) co r).2 fz x) (co + 1)) fz (va_up (f2_insert_i1 (co - fz) co r).2 fz x)).1 = P at a2 a3 ⊢
  rw [ce_i3 (r := r) (x := x) (co - P) co P _ (by omega) (Nat.le_refl _) a4 j hj, q3_putIn a2, q3_putIn a2]
  by_cases c1 : j = P
  · rw [if_pos c1, if_pos c1]
  · rw [if_neg c1, if_neg c1]
    by_cases c2 : P < j ∧ j ≤ co
    · rw [if_pos c2, if_pos c2]; exact (hr0 _ (by omega)).symm
    · rw [if_neg c2, if_neg c2]
      by_cases c3 : j < co
      · exact (hr0 _ c3).symm
      · omega
end CEQ


theorem q2_s1_t {z sn k c : Nat} {r0 fe : Nat → Nat} (hk : k ≤ sn) (h : (f3_solve_s1 z r0 (sn + 1 - k) k c fe).2.1 + z = sn) : (f3_isFrozen z r0 k = true → ∃ fe2, (f3_solve_s1 z r0 (sn + 1 - (k + 1)) (k + 1) c fe2).2.1 + z = sn) ∧ (¬ f3_isFrozen z r0 k = true → c + 1 + z ≤ sn ∧ ∃ fe2, (f3_solve_s1 z r0 (sn + 1 - (k + 1)) (k + 1) (c + 1) fe2).2.1 + z = sn) := by
  have e : sn + 1 - k = (sn + 1 - (k + 1)) + 1 := by omega
  rw [e] at h
  unfold f3_solve_s1 at h
  constructor
  · intro c1
    simp only [if_pos c1] at h
    exact ⟨_, h⟩
  · intro c1
    simp only [if_neg c1] at h
    have := (q3_s1_mono (z := z) (rov := r0) (sn + 1 - (k + 1)) (k + 1) (c + 1) (va_up fe c k)).1
    exact ⟨by omega, _, h⟩
theorem q2_holds_c {z x : Nat} {rov r0 : Nat → Nat} (h : ∀ i, i < z → rov i = r0 i) : f1_holds rov z x = f3_isFrozen z r0 x := by
  rw [q0_holds]
  have h2 : f3_isFrozen z rov x = true ↔ f3_isFrozen z r0 x = true := by
    rw [q3_isFr, q3_isFr]
    constructor
    · rintro ⟨i, a, b⟩; exact ⟨i, a, by rw [← h i a]; exact b⟩
    · rintro ⟨i, a, b⟩; exact ⟨i, a, by rw [h i a]; exact b⟩
  cases a : f3_isFrozen z rov x <;> cases b : f3_isFrozen z r0 x <;> simp_all

section CIF
variable {tkv opv shv wyv : Nat → Int64} {bdv : Nat → Bool}
theorem q2_if_step {fz sn k cn : Nat} {rov r0 : Nat → Nat} (hsn : sn ≤ 20) (hk : k ≤ sn) (hcn : fz ≤ cn ∧ cn ≤ 20) (hfr : ∃ fe, (f3_solve_s1 fz r0 (sn + 1 - k) k (cn - fz) fe).2.1 + fz = sn) (hpre : ∀ i, i < fz → rov i = r0 i) (hro : ∀ i, i < cn → rov i ≤ 20) :
    (fz ≤ (if f1_holds rov fz k = true then cn else cn + 1) ∧ (if f1_holds rov fz k = true then cn else cn + 1) ≤ 20) ∧ (∃ fe, (f3_solve_s1 fz r0 (sn + 1 - (k + 1)) (k + 1) ((if f1_holds rov fz k = true then cn else cn + 1) - fz) fe).2.1 + fz = sn) ∧ (∀ i, i < fz → (if f1_holds rov fz k = true then rov else f2_insert_rov fz tkv opv shv wyv bdv rov k cn) i = r0 i) ∧ (∀ i, i < (if f1_holds rov fz k = true then cn else cn + 1) → (if f1_holds rov fz k = true then rov else f2_insert_rov fz tkv opv shv wyv bdv rov k cn) i ≤ 20) := by
  obtain ⟨fe, hfe⟩ := hfr
  have ht := q2_s1_t hk hfe
  rw [q2_holds_c (x := k) hpre]
  by_cases c : f3_isFrozen fz r0 k = true
  · simp only [if_pos c]
    exact ⟨hcn, ht.1 c, hpre, hro⟩
  · obtain ⟨h1, h2⟩ := ht.2 c
    simp only [if_neg c]
    have e : cn + 1 - fz = cn - fz + 1 := by omega
    obtain ⟨_, _, _, a4⟩ := ce_insert (tkv := tkv) (opv := opv) (shv := shv) (wyv := wyv) (bdv := bdv) (co := cn) (x := k) (fz := fz) (r := rov) (by omega) hcn.1
    obtain ⟨r1, pl, p1, p2, e1, _, e2⟩ := q3_insert (tkv := tkv) (opv := opv) (shv := shv) (wyv := wyv) (bdv := bdv) (x := k) (rs := cn) (fz := fz) (by omega) hcn.1 rov
    refine ⟨⟨by omega, by omega⟩, by rw [e]; exact h2, fun i hi => ?_, fun i hi => ?_⟩
    · rw [a4 i (by omega), e2, q3_putIn p2, if_neg (by omega), if_neg (by omega), e1 i (by omega)]
      exact hpre i hi
    · rw [a4 i hi]
      exact q3_insert_le (by omega) hcn.1 (by omega) hro i hi
theorem q3_s1_keep {z : Nat} {rov : Nat → Nat} : ∀ (n k ct : Nat) (fev : Nat → Nat) (j : Nat), j < ct → (f3_solve_s1 z rov n k ct fev).2.2 j = fev j := by
  intro n
  induction n with
  | zero => intro k ct fev j _; rfl
  | succ n ih =>
    intro k ct fev j hj
    unfold f3_solve_s1
    by_cases c : f3_isFrozen z rov k = true
    · simp only [if_pos c]; exact ih _ _ _ j hj
    · simp only [if_neg c]
      rw [ih _ _ _ j (by omega), va_up_ne _ _ (by omega)]
theorem ce_ins_c {co x fz : Nat} {r r2 : Nat → Nat} (hco : co ≤ 19) (hfz : fz ≤ co) (h : ∀ j, j < co → r j = r2 j) : ∀ (n : Nat) (ch : Int32) (lst : Int64) (pl : Nat) (f g : Nat → Nat), pl + n = co + 1 → (∀ j, j < co → f j = g j) →
    (f3_insert_lp tkv opv shv wyv bdv co x n ch lst pl f).1 = (f3_insert_lp tkv opv shv wyv bdv co x n ch lst pl g).1 := by
  intro n
  induction n with
  | zero => intro ch lst pl f g _ _; rfl
  | succ n ih =>
    intro ch lst pl f g h1 h2
    unfold f3_insert_lp
    have hm : f3_measure tkv opv shv wyv bdv (f3_putIn_rs co) (f3_putIn_rov co f pl x) = f3_measure tkv opv shv wyv bdv (f3_putIn_rs co) (f3_putIn_rov co g pl x) := by
      refine ce_meas (N := co + 1) (fun j hj => ?_) (fun _ _ => rfl)
      rw [q3_putIn (by omega), q3_putIn (by omega)]
      by_cases c1 : j = pl
      · rw [if_pos c1, if_pos c1]
      · rw [if_neg c1, if_neg c1]
        by_cases c2 : pl < j ∧ j ≤ co
        · rw [if_pos c2, if_pos c2]; exact h2 _ (by omega)
        · rw [if_neg c2, if_neg c2]; exact h2 _ (by omega)
    rw [hm]
    refine ih _ _ _ _ _ (by omega) (fun j hj => ?_)
    rw [show f3_putIn_rs co = co + 1 from rfl, q3_tp (by omega) hj, q3_tp (by omega) hj]
    exact h2 j hj
theorem ce_ins_r {co x fz : Nat} {r r2 : Nat → Nat} (hco : co ≤ 19) (hfz : fz ≤ co) (h : ∀ j, j < co → r j = r2 j) : f3_insert tkv opv shv wyv bdv fz co r x = f3_insert tkv opv shv wyv bdv fz co r2 x ∧ ∀ j, j < co + 1 → f3_insert_rov tkv opv shv wyv bdv fz co r x j = f3_insert_rov tkv opv shv wyv bdv fz co r2 x j := by
  have e := ce_ins_c (tkv := tkv) (opv := opv) (shv := shv) (wyv := wyv) (bdv := bdv) (x := x) hco hfz h (co + 1 - fz) (-1) 0 fz r r2 (by omega) h
  obtain ⟨g1, h1⟩ := q3_ins_lp (tkv := tkv) (opv := opv) (shv := shv) (wyv := wyv) (bdv := bdv) (x := x) hco hfz r (co + 1 - fz) (-1) 0 fz r (by omega) (Nat.le_refl _) (Or.inl ⟨by decide, rfl⟩) (fun _ _ => rfl)
  obtain ⟨g2, h2⟩ := q3_ins_lp (tkv := tkv) (opv := opv) (shv := shv) (wyv := wyv) (bdv := bdv) (x := x) hco hfz r2 (co + 1 - fz) (-1) 0 fz r2 (by omega) (Nat.le_refl _) (Or.inl ⟨by decide, rfl⟩) (fun _ _ => rfl)
  refine ⟨by unfold f3_insert; rw [e], fun j hj => ?_⟩
  unfold f3_insert_rov
  rw [e]
  have hp : cl (f3_insert_lp tkv opv shv wyv bdv co x (co + 1 - fz) (-1) 0 fz r2).1 ≤ co := by
    rcases g2 with z | z
    · omega
    · exact z.2.2
  rw [q3_putIn hp, q3_putIn hp]
  generalize cl (f3_insert_lp tkv opv shv wyv bdv co x (co + 1 - fz) (-1) 0 fz r2).1 = P at hp ⊢
  by_cases c1 : j = P
  · rw [if_pos c1, if_pos c1]
  · rw [if_neg c1, if_neg c1]
    by_cases c2 : P < j ∧ j ≤ co
    · rw [if_pos c2, if_pos c2, h1 _ (by omega), h2 _ (by omega)]; exact h _ (by omega)
    · rw [if_neg c2, if_neg c2, h1 _ (by omega), h2 _ (by omega)]; exact h _ (by omega)
end CIF


def f2_insertFreeStops_lp (fz : Nat) (tkv : Nat → Int64) (opv : Nat → Int64) (shv : Nat → Int64) (wyv : Nat → Int64) (bdv : Nat → Bool) : Nat → Nat → Nat → (Nat → Nat) → Nat × Nat × (Nat → Nat)
  | 0, cn, k, rov => (cn, k, rov)
  | n + 1, cn, k, rov => f2_insertFreeStops_lp fz tkv opv shv wyv bdv n ((if (f1_holds rov fz k) = true then cn else cn + 1)) (k + 1) ((if (f1_holds rov fz k) = true then rov else f2_insert_rov fz tkv opv shv wyv bdv rov k cn))
set_option maxRecDepth 100000 in
set_option maxHeartbeats 4000000 in
theorem lX2_insertFreeStops_lp {p : Program} {l : Launch} {e : Env} {R : Room} {s : State} {m : MethodId} {args : Array Value} {below : List Frame} {meth : Method} {c : Code} {cells slots : Nat} {Q : State → Prop} {A : Nat → Prop} {D : va_G} (xo : Nat) (nt : Nat) (es : Nat) (ro : Nat) (ad : Nat → Nat) (cI : ClassId) (cJ : ClassId) (cZ : ClassId) (ln : Int32) (fz : Nat) (sx : Bool) (mo : Int32) (sn : Nat) (bw : Int32) (tkv : Nat → Int64) (opv : Nat → Int64) (shv : Nat → Int64) (ldv : Nat → Int32) (wyv : Nat → Int64) (bdv : Nat → Bool) (ct : Nat) (dA : Nat) (sta : Nat) (stc : Int64) (fev : Nat → Nat) (dl : Nat) (dnv : Nat → Int64) (hsn : sn ≤ 20) (r0 : Nat → Nat) (hR : 4 ≤ R.frames ∧ 104 ≤ R.locals) (hce : cells ≤ R.cells ∧ slots ≤ R.slots) (C : gz_C p s m args c cX2_insertFreeStops 3 RX2 D [(cI, .int), (cJ, .long), (cZ, .boolean)] A) : ∀ (n : Nat) (cn : Nat) (k : Nat) (rov : Nat → Nat), (k + n = sn + 1) → (fz ≤ cn ∧ cn ≤ 20) → (∃ fe, (f3_solve_s1 fz r0 (sn + 1 - k) k (cn - fz) fe).2.1 + fz = sn) → (∀ i, i < fz → rov i = r0 i) → (∀ i, i < cn → rov i ≤ 20) → ((((f2_insertFreeStops_lp fz tkv opv shv wyv bdv n cn k rov).2.1) + 0 = sn + 1) → (fz ≤ ((f2_insertFreeStops_lp fz tkv opv shv wyv bdv n cn k rov).1) ∧ ((f2_insertFreeStops_lp fz tkv opv shv wyv bdv n cn k rov).1) ≤ 20) → (∃ fe, (f3_solve_s1 fz r0 (sn + 1 - ((f2_insertFreeStops_lp fz tkv opv shv wyv bdv n cn k rov).2.1)) ((f2_insertFreeStops_lp fz tkv opv shv wyv bdv n cn k rov).2.1) (((f2_insertFreeStops_lp fz tkv opv shv wyv bdv n cn k rov).1) - fz) fe).2.1 + fz = sn) → (∀ i, i < fz → ((f2_insertFreeStops_lp fz tkv opv shv wyv bdv n cn k rov).2.2) i = r0 i) → (∀ i, i < ((f2_insertFreeStops_lp fz tkv opv shv wyv bdv n cn k rov).1) → ((f2_insertFreeStops_lp fz tkv opv shv wyv bdv n cn k rov).2.2) i ≤ 20) → GZ p l e R s m args below meth c 3 D A cells slots Q (wC xo nt es ro ad cI cJ cZ ln fz sx mo sn bw tkv opv shv ldv wyv bdv ct dA dA sta stc fev dl dnv ((f2_insertFreeStops_lp fz tkv opv shv wyv bdv n cn k rov).2.2)) [(0, .ref xo), (1, .int (nI ((f2_insertFreeStops_lp fz tkv opv shv wyv bdv n cn k rov).1))), (2, .int (nI ((f2_insertFreeStops_lp fz tkv opv shv wyv bdv n cn k rov).2.1)))] [] 49) → GZ p l e R s m args below meth c 3 D A cells slots Q (wC xo nt es ro ad cI cJ cZ ln fz sx mo sn bw tkv opv shv ldv wyv bdv ct dA dA sta stc fev dl dnv rov) [(0, .ref xo), (1, .int (nI cn)), (2, .int (nI k))] [] 7 := by
  intro n
  induction n with
  | zero =>
    intro cn k rov hme hcn hfr hpre hro hx
    refine gz_iload_n C 2 dX2_insertFreeStops_7 rfl ?_
    refine gz_aload_n C 0 dX2_insertFreeStops_8 rfl ?_
    refine gz_get (ci := 3) C iwX2 0 rfl rfl 0 (by decide) wk_79 rfl rfl dX2_insertFreeStops_9 ?_
    refine gz_getN (ci := 2) C iwX1 1 rfl rfl 0 (by decide) (nw_1 C.2.2.2.2.2.2.2) rfl rfl dX2_insertFreeStops_12 ?_
    refine gz_ncmp_gt C 49 (by omega) (by omega) dX2_insertFreeStops_15 (by decide) (fun h_1 => ?_) (fun h_1 => ?_)
    · skip
      exact gz_lv [0, 1, 2] rfl (hx hme hcn hfr hpre hro)
    · have g_1 : ¬ (sn < k) := (Nat.not_lt.mpr h_1)
      exfalso; omega
  | succ n ih =>
    intro cn k rov hme hcn hfr hpre hro hx
    refine gz_iload_n C 2 dX2_insertFreeStops_7 rfl ?_
    refine gz_aload_n C 0 dX2_insertFreeStops_8 rfl ?_
    refine gz_get (ci := 3) C iwX2 0 rfl rfl 0 (by decide) wk_79 rfl rfl dX2_insertFreeStops_9 ?_
    refine gz_getN (ci := 2) C iwX1 1 rfl rfl 0 (by decide) (nw_1 C.2.2.2.2.2.2.2) rfl rfl dX2_insertFreeStops_12 ?_
    refine gz_ncmp_gt C 49 (by omega) (by omega) dX2_insertFreeStops_15 (by decide) (fun h_1 => ?_) (fun h_1 => ?_)
    · skip
      exfalso; omega
    · have g_1 : ¬ (sn < k) := (Nat.not_lt.mpr h_1)
      refine gz_aload_n C 0 dX2_insertFreeStops_18 rfl ?_
      refine gz_get (ci := 3) C iwX2 0 rfl rfl 2 (by decide) wk_81 rfl rfl dX2_insertFreeStops_19 ?_
      refine gz_aload_n C 0 dX2_insertFreeStops_22 rfl ?_
      refine gz_get (ci := 3) C iwX2 0 rfl rfl 4 (by decide) wk_83 rfl rfl dX2_insertFreeStops_23 ?_
      refine gz_iload_n C 2 dX2_insertFreeStops_26 rfl ?_
      refine gz_callS (wr := []) (n := 3) (ws2 := (wC xo nt es ro ad cI cJ cZ ln fz sx mo sn bw tkv opv shv ldv wyv bdv ct dA dA sta stc fev dl dnv rov)) (st2 := [.int (bI (f1_holds rov fz k))]) (cells2 := cells) (slots2 := slots) C (kX1_holds l D xo nt es ro ad cI cJ cZ ln fz sx mo sn bw tkv opv shv ldv wyv bdv ct dA sta stc fev dl dnv rov fz k (by first | assumption | omega) (by first | assumption | omega) (fun i hi => hro i (by omega))) (WB_S wk_213 wk_181 wk_2 wk_182) (by decide +kernel) ⟨⟨rfl, rfl⟩, Nat.le_trans (by decide) hR.1, Nat.le_trans (by decide) hR.2⟩ [0, 1, 2, 3, 4, 5, 6, 7, 8, 9, 10, 11] [] [0, 1, 2] rfl rfl rfl (by decide) rfl rfl rfl (Nat.le_of_ble_eq_true rfl) dX2_insertFreeStops_27 hce rfl rfl rfl ?_
      refine gz_J (ws2 := (wC xo nt es ro ad cI cJ cZ ln fz sx mo sn bw tkv opv shv ldv wyv bdv ct dA dA sta stc fev dl dnv ((if (f1_holds rov fz k) = true then rov else f2_insert_rov fz tkv opv shv wyv bdv rov k cn)))) (lv2 := [(0, .ref xo), (1, .int (nI ((if (f1_holds rov fz k) = true then cn else cn + 1)))), (2, .int (nI k))]) (st2 := []) (pc2 := 43) ?_ (fun J_2 => ?_)
      rotate_left
      · refine gz_bif_ne C 43 dX2_insertFreeStops_30 (by decide) (fun h_2 => ?_) (fun h_2 => ?_)
        · skip
          simp only [if_pos h_2] at J_2 ⊢
          exact gz_lv [0, 1, 2] rfl J_2
        · have g_2 : ¬ ((f1_holds rov fz k) = true) := (by rw [h_2]; decide)
          obtain ⟨fe9, hfe9⟩ := hfr
          have hz := (q2_s1_t (by omega) hfe9).2 (by rw [← q2_holds_c hpre]; exact g_2)
          have hz1 := hz.1
          refine gz_aload_n C 0 dX2_insertFreeStops_33 rfl ?_
          refine gz_iload_n C 2 dX2_insertFreeStops_34 rfl ?_
          refine gz_iload_n C 1 dX2_insertFreeStops_35 rfl ?_
          refine gz_callV (wr := []) (n := 2) (ws2 := (wC xo nt es ro ad cI cJ cZ ln fz sx mo sn bw tkv opv shv ldv wyv bdv ct dA dA sta stc fev dl dnv (f2_insert_rov fz tkv opv shv wyv bdv rov k cn))) (st2 := [.int (nI (f2_insert fz tkv opv shv wyv bdv rov k cn))]) (cells2 := cells) (slots2 := slots) (ci := 3) C (kX2_insert l D xo nt es ro ad cI cJ cZ ln fz sx mo sn bw tkv opv shv ldv wyv bdv ct dA sta stc fev dl dnv rov k cn (by first | assumption | omega) (by first | assumption | omega) (by first | assumption | omega) hro) (WB_V wk_214 wk_216 ws_8 wk_1 wk_217) (by decide +kernel) ⟨⟨rfl, rfl⟩, Nat.le_trans (by decide) hR.1, Nat.le_trans (by decide) hR.2⟩ [0, 1, 2, 3, 4, 5, 6, 7, 8, 9, 10, 11] [] [0, 1, 2] rfl rfl rfl (by decide) rfl 0 rfl rfl rfl rfl (Nat.le_of_ble_eq_true rfl) dX2_insertFreeStops_36 hce rfl rfl rfl ?_
          refine gz_pop C dX2_insertFreeStops_39 rfl ?_
          refine gz_iinc (v := nI (cn + 1)) (lv2 := [(1, .int (nI (cn + 1))), (0, .ref xo), (2, .int (nI k))]) (k := 1) C dX2_insertFreeStops_40 rfl (nI_add _ 1) (by decide) rfl ?_
          simp only [if_neg g_2] at J_2 ⊢
          exact gz_lv [1, 0, 2] rfl J_2
      refine gz_iinc (v := nI (k + 1)) (lv2 := [(2, .int (nI (k + 1))), (0, .ref xo), (1, .int (nI ((if (f1_holds rov fz k) = true then cn else cn + 1))))]) (k := 2) C dX2_insertFreeStops_43 rfl (nI_add _ 1) (by decide) rfl ?_
      refine gz_goto C 7 dX2_insertFreeStops_46 (by decide) ?_
      refine gz_lv [1, 2, 0] rfl ?_
      simp only [f2_insertFreeStops_lp, if_neg g_1] at hx
      exact ih ((if (f1_holds rov fz k) = true then cn else cn + 1)) (k + 1) ((if (f1_holds rov fz k) = true then rov else f2_insert_rov fz tkv opv shv wyv bdv rov k cn)) (by omega) (q2_if_step (tkv := tkv) (opv := opv) (shv := shv) (wyv := wyv) (bdv := bdv) hsn (by omega) hcn hfr hpre hro).1 (q2_if_step (tkv := tkv) (opv := opv) (shv := shv) (wyv := wyv) (bdv := bdv) hsn (by omega) hcn hfr hpre hro).2.1 (q2_if_step (tkv := tkv) (opv := opv) (shv := shv) (wyv := wyv) (bdv := bdv) hsn (by omega) hcn hfr hpre hro).2.2.1 (q2_if_step (tkv := tkv) (opv := opv) (shv := shv) (wyv := wyv) (bdv := bdv) hsn (by omega) hcn hfr hpre hro).2.2.2 hx

def f2_insertFreeStops_rov (fz : Nat) (sn : Nat) (tkv : Nat → Int64) (opv : Nat → Int64) (shv : Nat → Int64) (wyv : Nat → Int64) (bdv : Nat → Bool) (rov : Nat → Nat) : Nat → Nat := (f2_insertFreeStops_lp fz tkv opv shv wyv bdv sn fz 1 rov).2.2
set_option maxRecDepth 100000 in
set_option maxHeartbeats 4000000 in
theorem kX2_insertFreeStops (l : Launch) (D : va_G) (xo : Nat) (nt : Nat) (es : Nat) (ro : Nat) (ad : Nat → Nat) (cI : ClassId) (cJ : ClassId) (cZ : ClassId) (ln : Int32) (fz : Nat) (sx : Bool) (mo : Int32) (sn : Nat) (bw : Int32) (tkv : Nat → Int64) (opv : Nat → Int64) (shv : Nat → Int64) (ldv : Nat → Int32) (wyv : Nat → Int64) (bdv : Nat → Bool) (ct : Nat) (dA : Nat) (sta : Nat) (stc : Int64) (fev : Nat → Nat) (dl : Nat) (dnv : Nat → Int64) (rov : Nat → Nat) (hsn : sn ≤ 20) (hfs : fz ≤ sn) (hri : q_row fz sn rov) : gz_M l yX2_insertFreeStops cX2_insertFreeStops 3 none ({ frames := 4, cells := 0, slots := 0, locals := 104 } : Room) D [(cI, .int), (cJ, .long), (cZ, .boolean)] [.ref xo] (wC xo nt es ro ad cI cJ cZ ln fz sx mo sn bw tkv opv shv ldv wyv bdv ct dA dA sta stc fev dl dnv rov) (none) (wC xo nt es ro ad cI cJ cZ ln fz sx mo sn bw tkv opv shv ldv wyv bdv ct dA dA sta stc fev dl dnv (f2_insertFreeStops_rov fz sn tkv opv shv wyv bdv rov)) 0 0 := by
  refine gz_met l (by decide) (Nat.le_of_ble_eq_true rfl) [(0, .ref xo)] rfl ?_
  intro sz p e s m args below meth c C hr hk hnm
  have C : gz_C p s m args c cX2_insertFreeStops 3 RX2 D [(cI, .int), (cJ, .long), (cZ, .boolean)] (va_A (wC xo nt es ro ad cI cJ cZ ln fz sx mo sn bw tkv opv shv ldv wyv bdv ct dA dA sta stc fev dl dnv rov) sz) := C
  refine gz_aload_n C 0 dX2_insertFreeStops_0 rfl ?_
  refine gz_get (ci := 3) C iwX2 0 rfl rfl 4 (by decide) wk_83 rfl rfl dX2_insertFreeStops_1 ?_
  refine gz_istore_n (lv2 := [(1, .int (nI fz)), (0, .ref xo)]) C dX2_insertFreeStops_4 (by decide) rfl ?_
  refine gz_iconst (v := nI 1) C dX2_insertFreeStops_5 (by decide) ?_
  refine gz_istore_n (lv2 := [(2, .int (nI 1)), (1, .int (nI fz)), (0, .ref xo)]) C dX2_insertFreeStops_6 (by decide) rfl ?_
  refine gz_lv (lv2 := [(0, .ref xo), (1, .int (nI fz)), (2, .int (nI 1))]) [2, 1, 0] rfl ?_
  refine lX2_insertFreeStops_lp xo nt es ro ad cI cJ cZ ln fz sx mo sn bw tkv opv shv ldv wyv bdv ct dA sta stc fev dl dnv (by first | assumption | omega) rov ⟨Nat.le_of_ble_eq_true rfl, Nat.le_of_ble_eq_true rfl⟩ ⟨Nat.zero_le _, Nat.zero_le _⟩ C sn fz 1 rov (by omega) (by first | assumption | omega) ⟨fev, by have h9 := (q3_free (fev := fev) hri).1; have e9 : sn + 1 - 1 = sn := (by omega); have e8 : fz - fz = 0 := (by omega); rw [e9, e8]; exact h9⟩ (fun _ _ => rfl) (fun i hi => by have := (hri.1 i hi).2; omega) ?_
  intro zme_lp zhcn_lp zhfr_lp zhpre_lp zhro_lp
  exact gz_vret C hr hk (by first | rfl | (simp only [f2_insertFreeStops_rov]) | (simp only [f2_insertFreeStops_rov]; rfl)) (by first | rfl | (simp only [f2_insertFreeStops_rov]) | (simp only [f2_insertFreeStops_rov]; rfl)) (Nat.le_refl _) (Nat.le_refl _) dX2_insertFreeStops_49


theorem q2_swl_le {tkv opv shv wyv : Nat → Int64} {bdv : Nat → Bool} {rl i j B : Nat} {rov : Nat → Nat} {cs : Int64} (h : ∀ k, k < rl → rov k ≤ B) (hi : i < rl) (hj : j < rl) : ∀ k, k < rl → f2_swapIfLess_rov tkv opv shv wyv bdv rov i j cs rl k ≤ B := by
  unfold f2_swapIfLess_rov
  split
  · exact q2_swap_le (q2_swap_le h hi hj) hi hj
  · exact q2_swap_le h hi hj
theorem q2_us {us stp : Int64} {n : Nat} (h1 : ¬ stp < 0) (h2 : stp ≤ 100000) (h : us = lN (cN stp - n) ∧ n ≤ cN stp) : (stp ≤ us ↔ n = 0) ∧ (0 < n → us + 1 = lN (cN stp - (n - 1))) := by
  obtain ⟨e, hb⟩ := cN_of h1 h2
  obtain ⟨hu, hn⟩ := h
  constructor
  · have h3 : stp ≤ us ↔ lN (cN stp) ≤ lN (cN stp - n) := by rw [hu, ← e]
    rw [h3, pk_lLE (by omega) (by omega)]
    omega
  · intro h0
    rw [hu, lN_1]
    congr 1
    omega

def f2_improve_lp (fz : Nat) (tkv : Nat → Int64) (opv : Nat → Int64) (shv : Nat → Int64) (wyv : Nat → Int64) (bdv : Nat → Bool) (rl : Nat) : Nat → Int64 → Nat → Nat → Int64 → (Nat → Nat) → Int64 × Nat × Nat × Int64 × (Nat → Nat)
  | 0, cs, i, j, us, rov => (cs, i, j, us, rov)
  | n + 1, cs, i, j, us, rov => if rl ≤ j then (cs, i, j, us, rov) else f2_improve_lp fz tkv opv shv wyv bdv rl n ((if (f2_swapIfLess tkv opv shv wyv bdv rov i j cs rl) = true then f1_cost tkv opv shv wyv bdv (f2_swapIfLess_rov tkv opv shv wyv bdv rov i j cs rl) rl else cs)) ((if (f2_swapIfLess tkv opv shv wyv bdv rov i j cs rl) = true then fz else (if rl ≤ (j + 1) then i + 1 else i))) ((if (f2_swapIfLess tkv opv shv wyv bdv rov i j cs rl) = true then fz + 1 else (if rl ≤ (j + 1) then (i + 1) + 1 else j + 1))) (us + 1) (f2_swapIfLess_rov tkv opv shv wyv bdv rov i j cs rl)
set_option maxRecDepth 100000 in
set_option maxHeartbeats 4000000 in
theorem lX2_improve_lp {p : Program} {l : Launch} {e : Env} {R : Room} {s : State} {m : MethodId} {args : Array Value} {below : List Frame} {meth : Method} {c : Code} {cells slots : Nat} {Q : State → Prop} {A : Nat → Prop} {D : va_G} (xo : Nat) (nt : Nat) (es : Nat) (ro : Nat) (ad : Nat → Nat) (cI : ClassId) (cJ : ClassId) (cZ : ClassId) (ln : Int32) (fz : Nat) (sx : Bool) (mo : Int32) (sn : Nat) (bw : Int32) (tkv : Nat → Int64) (opv : Nat → Int64) (shv : Nat → Int64) (ldv : Nat → Int32) (wyv : Nat → Int64) (bdv : Nat → Bool) (ct : Nat) (dA : Nat) (sta : Nat) (stc : Int64) (fev : Nat → Nat) (dl : Nat) (dnv : Nat → Int64) (stp : Int64) (rl : Nat) (hln : ln = nI rl) (hr20 : rl ≤ 20) (hfz : fz ≤ 20) (hst1 : ¬ stp < 0) (hst2 : stp ≤ 100000) (hR : 4 ≤ R.frames ∧ 100 ≤ R.locals) (hce : cells ≤ R.cells ∧ slots ≤ R.slots) (C : gz_C p s m args c cX2_improve 9 RX2 D [(cI, .int), (cJ, .long), (cZ, .boolean)] A) : ∀ (n : Nat) (cs : Int64) (i : Nat) (j : Nat) (us : Int64) (rov : Nat → Nat), (us = lN (cN stp - n) ∧ n ≤ cN stp) → (i ≤ 20 ∧ j ≤ 21 ∧ i < j) → (∀ r, r < rl → rov r ≤ 20) → ((((f2_improve_lp fz tkv opv shv wyv bdv rl n cs i j us rov).2.1) ≤ 20 ∧ ((f2_improve_lp fz tkv opv shv wyv bdv rl n cs i j us rov).2.2.1) ≤ 21 ∧ ((f2_improve_lp fz tkv opv shv wyv bdv rl n cs i j us rov).2.1) < ((f2_improve_lp fz tkv opv shv wyv bdv rl n cs i j us rov).2.2.1)) → (∀ r, r < rl → ((f2_improve_lp fz tkv opv shv wyv bdv rl n cs i j us rov).2.2.2.2) r ≤ 20) → GZ p l e R s m args below meth c 9 D A cells slots Q (wC xo nt es ro ad cI cJ cZ ln fz sx mo sn bw tkv opv shv ldv wyv bdv ct dA dA sta stc fev dl dnv ((f2_improve_lp fz tkv opv shv wyv bdv rl n cs i j us rov).2.2.2.2)) [(0, .ref xo), (1, .long stp), (3, .long ((f2_improve_lp fz tkv opv shv wyv bdv rl n cs i j us rov).1)), (5, .int (nI ((f2_improve_lp fz tkv opv shv wyv bdv rl n cs i j us rov).2.1))), (6, .int (nI ((f2_improve_lp fz tkv opv shv wyv bdv rl n cs i j us rov).2.2.1))), (7, .long ((f2_improve_lp fz tkv opv shv wyv bdv rl n cs i j us rov).2.2.2.1))] [] 125) → GZ p l e R s m args below meth c 9 D A cells slots Q (wC xo nt es ro ad cI cJ cZ ln fz sx mo sn bw tkv opv shv ldv wyv bdv ct dA dA sta stc fev dl dnv rov) [(0, .ref xo), (1, .long stp), (3, .long cs), (5, .int (nI i)), (6, .int (nI j)), (7, .long us)] [] 31 := by
  intro n
  induction n with
  | zero =>
    intro cs i j us rov hme hij hro hx
    refine gz_lload C 5 dX2_improve_31 rfl ?_
    refine gz_lload_n C 1 dX2_improve_33 rfl ?_
    refine gz_lcmp_ge C 125 dX2_improve_34 dX2_improve_35 (by decide) (fun h_1 => ?_) (fun h_1 => ?_)
    · skip
      exact gz_lv [0, 1, 2, 3, 4, 5] rfl (hx hij hro)
    · have g_1 : ¬ (stp ≤ us) := h_1
      exact absurd ((q2_us hst1 hst2 hme).1.mpr rfl) g_1
  | succ n ih =>
    intro cs i j us rov hme hij hro hx
    refine gz_lload C 5 dX2_improve_31 rfl ?_
    refine gz_lload_n C 1 dX2_improve_33 rfl ?_
    refine gz_lcmp_ge C 125 dX2_improve_34 dX2_improve_35 (by decide) (fun h_1 => ?_) (fun h_1 => ?_)
    · skip
      exact absurd ((q2_us hst1 hst2 hme).1.mp h_1) (by omega)
    · have g_1 : ¬ (stp ≤ us) := h_1
      refine gz_iload C 4 dX2_improve_38 rfl ?_
      refine gz_aload_n C 0 dX2_improve_40 rfl ?_
      refine gz_get (ci := 3) C iwX2 0 rfl rfl 3 (by decide) wk_82 rfl rfl dX2_improve_41 ?_
      refine gz_sw (v := .int ln) (w := .int (nI rl)) (by rw [hln]) ?_
      refine gz_ncmp_ge C 125 (by omega) (by omega) dX2_improve_44 (by decide) (fun h_2 => ?_) (fun h_2 => ?_)
      · skip
        simp only [f2_improve_lp, if_neg g_1, if_pos h_2] at hx
        exact gz_lv [0, 1, 2, 3, 4, 5] rfl (hx hij hro)
      · have g_2 : ¬ (rl ≤ j) := (Nat.not_le.mpr h_2)
        refine gz_aload_n C 0 dX2_improve_47 rfl ?_
        refine gz_iload C 3 dX2_improve_48 rfl ?_
        refine gz_iload C 4 dX2_improve_50 rfl ?_
        refine gz_lload_n C 2 dX2_improve_52 rfl ?_
        refine gz_callV (wr := []) (n := 3) (ws2 := (wC xo nt es ro ad cI cJ cZ ln fz sx mo sn bw tkv opv shv ldv wyv bdv ct dA dA sta stc fev dl dnv (f2_swapIfLess_rov tkv opv shv wyv bdv rov i j cs rl))) (st2 := [.int (bI (f2_swapIfLess tkv opv shv wyv bdv rov i j cs rl))]) (cells2 := cells) (slots2 := slots) (ci := 3) C (kX2_swapIfLess l D xo nt es ro ad cI cJ cZ ln fz sx mo sn bw tkv opv shv ldv wyv bdv ct dA sta stc fev dl dnv rov i j cs rl (by first | assumption | omega) (by first | assumption | omega) (by first | assumption | omega) (by first | assumption | omega) (by first | assumption | omega)) (WB_V wk_231 wk_233 ws_11 wk_1 wk_234) (by decide +kernel) ⟨⟨rfl, rfl⟩, Nat.le_trans (by decide) hR.1, Nat.le_trans (by decide) hR.2⟩ [0, 1, 2, 3, 4, 5, 6, 7, 8, 9, 10, 11] [] [0, 1, 2] rfl rfl rfl (by decide) rfl 0 rfl rfl rfl rfl (Nat.le_of_ble_eq_true rfl) dX2_improve_53 hce rfl rfl rfl ?_
        refine gz_J (ws2 := (wC xo nt es ro ad cI cJ cZ ln fz sx mo sn bw tkv opv shv ldv wyv bdv ct dA dA sta stc fev dl dnv (f2_swapIfLess_rov tkv opv shv wyv bdv rov i j cs rl))) (lv2 := [(6, .int (nI ((if (f2_swapIfLess tkv opv shv wyv bdv rov i j cs rl) = true then fz + 1 else (if rl ≤ (j + 1) then (i + 1) + 1 else j + 1))))), (5, .int (nI ((if (f2_swapIfLess tkv opv shv wyv bdv rov i j cs rl) = true then fz else (if rl ≤ (j + 1) then i + 1 else i))))), (3, .long ((if (f2_swapIfLess tkv opv shv wyv bdv rov i j cs rl) = true then f1_cost tkv opv shv wyv bdv (f2_swapIfLess_rov tkv opv shv wyv bdv rov i j cs rl) rl else cs))), (0, .ref xo), (1, .long stp), (7, .long us)]) (st2 := []) (pc2 := 116) ?_ (fun J_3 => ?_)
        rotate_left
        · refine gz_bif_eq C 90 dX2_improve_56 (by decide) (fun h_3 => ?_) (fun h_3 => ?_)
          · have g_3 : ¬ ((f2_swapIfLess tkv opv shv wyv bdv rov i j cs rl) = true) := (by rw [h_3]; decide)
            refine gz_iload C 4 dX2_improve_90 rfl ?_
            refine gz_iconst (v := nI 1) C dX2_improve_92 (by decide) ?_
            refine gz_iadd (v := nI (j + 1)) C dX2_improve_93 (nI_add _ _) ?_
            refine gz_aload_n C 0 dX2_improve_94 rfl ?_
            refine gz_get (ci := 3) C iwX2 0 rfl rfl 3 (by decide) wk_82 rfl rfl dX2_improve_95 ?_
            refine gz_sw (v := .int ln) (w := .int (nI rl)) (by rw [hln]) ?_
            refine gz_J (ws2 := (wC xo nt es ro ad cI cJ cZ ln fz sx mo sn bw tkv opv shv ldv wyv bdv ct dA dA sta stc fev dl dnv (f2_swapIfLess_rov tkv opv shv wyv bdv rov i j cs rl))) (lv2 := [(6, .int (nI ((if rl ≤ (j + 1) then (i + 1) + 1 else j + 1)))), (5, .int (nI ((if rl ≤ (j + 1) then i + 1 else i)))), (0, .ref xo), (1, .long stp), (3, .long cs), (7, .long us)]) (st2 := []) (pc2 := 116) ?_ (fun J_4 => ?_)
            rotate_left
            · refine gz_ncmp_ge C 107 (by omega) (by omega) dX2_improve_98 (by decide) (fun h_4 => ?_) (fun h_4 => ?_)
              · skip
                refine gz_iinc (v := nI (i + 1)) (lv2 := [(5, .int (nI (i + 1))), (0, .ref xo), (1, .long stp), (3, .long cs), (6, .int (nI j)), (7, .long us)]) (k := 3) C dX2_improve_107 rfl (nI_add _ 1) (by decide) rfl ?_
                refine gz_iload C 0 dX2_improve_110 rfl ?_
                refine gz_iconst (v := nI 1) C dX2_improve_112 (by decide) ?_
                refine gz_iadd (v := nI ((i + 1) + 1)) C dX2_improve_113 (nI_add _ _) ?_
                refine gz_istore (lv2 := [(6, .int (nI ((i + 1) + 1))), (5, .int (nI (i + 1))), (0, .ref xo), (1, .long stp), (3, .long cs), (7, .long us)]) C dX2_improve_114 (by decide) rfl ?_
                simp only [if_pos h_4] at J_4 ⊢
                exact gz_lv [0, 1, 2, 3, 4, 5] rfl J_4
              · have g_4 : ¬ (rl ≤ (j + 1)) := (Nat.not_le.mpr h_4)
                refine gz_iinc (v := nI (j + 1)) (lv2 := [(6, .int (nI (j + 1))), (0, .ref xo), (1, .long stp), (3, .long cs), (5, .int (nI i)), (7, .long us)]) (k := 4) C dX2_improve_101 rfl (nI_add _ 1) (by decide) rfl ?_
                refine gz_goto C 116 dX2_improve_104 (by decide) ?_
                simp only [if_neg g_4] at J_4 ⊢
                exact gz_lv [0, 4, 1, 2, 3, 5] rfl J_4
            simp only [if_neg g_3] at J_3 ⊢
            exact gz_lv [0, 1, 4, 2, 3, 5] rfl J_3
          · skip
            refine gz_aload_n C 0 dX2_improve_59 rfl ?_
            refine gz_get (ci := 3) C iwX2 0 rfl rfl 0 (by decide) wk_79 rfl rfl dX2_improve_60 ?_
            refine gz_aload_n C 0 dX2_improve_63 rfl ?_
            refine gz_get (ci := 3) C iwX2 0 rfl rfl 2 (by decide) wk_81 rfl rfl dX2_improve_64 ?_
            refine gz_aload_n C 0 dX2_improve_67 rfl ?_
            refine gz_get (ci := 3) C iwX2 0 rfl rfl 3 (by decide) wk_82 rfl rfl dX2_improve_68 ?_
            refine gz_sw (v := .int ln) (w := .int (nI rl)) (by rw [hln]) ?_
            refine gz_callV (wr := []) (n := 2) (ws2 := (wC xo nt es ro ad cI cJ cZ ln fz sx mo sn bw tkv opv shv ldv wyv bdv ct dA dA sta stc fev dl dnv (f2_swapIfLess_rov tkv opv shv wyv bdv rov i j cs rl))) (st2 := [.long (f1_cost tkv opv shv wyv bdv (f2_swapIfLess_rov tkv opv shv wyv bdv rov i j cs rl) rl)]) (cells2 := cells) (slots2 := slots) (ci := 2) C (kX1_cost l D xo nt es ro ad cI cJ cZ ln fz sx mo sn bw tkv opv shv ldv wyv bdv ct dA sta stc fev dl dnv (f2_swapIfLess_rov tkv opv shv wyv bdv rov i j cs rl) rl (by first | assumption | omega) (q2_swl_le hro (by omega) (by omega))) (WB_V wk_218 wk_219 wk_220 wk_2 wk_221) (by decide +kernel) ⟨⟨rfl, rfl⟩, Nat.le_trans (by decide) hR.1, Nat.le_trans (by decide) hR.2⟩ [0, 1, 2, 3, 4, 5, 6, 7, 8, 9, 10, 11] [] [0, 1, 2] rfl rfl rfl (by decide) rfl 1 rfl rfl rfl rfl (Nat.le_of_ble_eq_true rfl) dX2_improve_71 hce rfl rfl rfl ?_
            refine gz_lstore_n (lv2 := [(3, .long (f1_cost tkv opv shv wyv bdv (f2_swapIfLess_rov tkv opv shv wyv bdv rov i j cs rl) rl)), (0, .ref xo), (1, .long stp), (5, .int (nI i)), (6, .int (nI j)), (7, .long us)]) C dX2_improve_74 (by decide) rfl ?_
            refine gz_aload_n C 1 dX2_improve_75 rfl ?_
            refine gz_get (ci := 3) C iwX2 0 rfl rfl 4 (by decide) wk_83 rfl rfl dX2_improve_76 ?_
            refine gz_istore (lv2 := [(5, .int (nI fz)), (3, .long (f1_cost tkv opv shv wyv bdv (f2_swapIfLess_rov tkv opv shv wyv bdv rov i j cs rl) rl)), (0, .ref xo), (1, .long stp), (6, .int (nI j)), (7, .long us)]) C dX2_improve_79 (by decide) rfl ?_
            refine gz_iload C 0 dX2_improve_81 rfl ?_
            refine gz_iconst (v := nI 1) C dX2_improve_83 (by decide) ?_
            refine gz_iadd (v := nI (fz + 1)) C dX2_improve_84 (nI_add _ _) ?_
            refine gz_istore (lv2 := [(6, .int (nI (fz + 1))), (5, .int (nI fz)), (3, .long (f1_cost tkv opv shv wyv bdv (f2_swapIfLess_rov tkv opv shv wyv bdv rov i j cs rl) rl)), (0, .ref xo), (1, .long stp), (7, .long us)]) C dX2_improve_85 (by decide) rfl ?_
            refine gz_goto C 116 dX2_improve_87 (by decide) ?_
            simp only [if_pos h_3] at J_3 ⊢
            exact gz_lv [0, 1, 2, 3, 4, 5] rfl J_3
        refine gz_lload C 5 dX2_improve_116 rfl ?_
        refine gz_lconst (v := 1) C dX2_improve_118 (by decide) ?_
        refine gz_ladd (v := us + 1) C dX2_improve_119 rfl ?_
        refine gz_lstore (lv2 := [(7, .long (us + 1)), (6, .int (nI ((if (f2_swapIfLess tkv opv shv wyv bdv rov i j cs rl) = true then fz + 1 else (if rl ≤ (j + 1) then (i + 1) + 1 else j + 1))))), (5, .int (nI ((if (f2_swapIfLess tkv opv shv wyv bdv rov i j cs rl) = true then fz else (if rl ≤ (j + 1) then i + 1 else i))))), (3, .long ((if (f2_swapIfLess tkv opv shv wyv bdv rov i j cs rl) = true then f1_cost tkv opv shv wyv bdv (f2_swapIfLess_rov tkv opv shv wyv bdv rov i j cs rl) rl else cs))), (0, .ref xo), (1, .long stp)]) C dX2_improve_120 (by decide) rfl ?_
        refine gz_goto C 31 dX2_improve_122 (by decide) ?_
        refine gz_lv [4, 5, 3, 2, 1, 0] rfl ?_
        simp only [f2_improve_lp, if_neg g_1, if_neg g_2] at hx
        exact ih ((if (f2_swapIfLess tkv opv shv wyv bdv rov i j cs rl) = true then f1_cost tkv opv shv wyv bdv (f2_swapIfLess_rov tkv opv shv wyv bdv rov i j cs rl) rl else cs)) ((if (f2_swapIfLess tkv opv shv wyv bdv rov i j cs rl) = true then fz else (if rl ≤ (j + 1) then i + 1 else i))) ((if (f2_swapIfLess tkv opv shv wyv bdv rov i j cs rl) = true then fz + 1 else (if rl ≤ (j + 1) then (i + 1) + 1 else j + 1))) (us + 1) (f2_swapIfLess_rov tkv opv shv wyv bdv rov i j cs rl) ⟨(q2_us hst1 hst2 hme).2 (by omega), by omega⟩ (by first | omega | ((repeat' split) <;> omega)) (q2_swl_le hro (by omega) (by omega)) hx

def f2_improve_rov (fz : Nat) (tkv : Nat → Int64) (opv : Nat → Int64) (shv : Nat → Int64) (wyv : Nat → Int64) (bdv : Nat → Bool) (rov : Nat → Nat) (stp : Int64) (rl : Nat) : Nat → Nat := (f2_improve_lp fz tkv opv shv wyv bdv rl (cN stp) (f1_cost tkv opv shv wyv bdv rov rl) fz (fz + 1) 0 rov).2.2.2.2
set_option maxRecDepth 100000 in
set_option maxHeartbeats 4000000 in
theorem kX2_improve (l : Launch) (D : va_G) (xo : Nat) (nt : Nat) (es : Nat) (ro : Nat) (ad : Nat → Nat) (cI : ClassId) (cJ : ClassId) (cZ : ClassId) (ln : Int32) (fz : Nat) (sx : Bool) (mo : Int32) (sn : Nat) (bw : Int32) (tkv : Nat → Int64) (opv : Nat → Int64) (shv : Nat → Int64) (ldv : Nat → Int32) (wyv : Nat → Int64) (bdv : Nat → Bool) (ct : Nat) (dA : Nat) (sta : Nat) (stc : Int64) (fev : Nat → Nat) (dl : Nat) (dnv : Nat → Int64) (rov : Nat → Nat) (stp : Int64) (rl : Nat) (hln : ln = nI rl) (hr20 : rl ≤ 20) (hro : ∀ k, k < rl → rov k ≤ 20) (hfz : fz ≤ 20) (hst1 : ¬ stp < 0) (hst2 : stp ≤ 100000) : gz_M l yX2_improve cX2_improve 9 none ({ frames := 4, cells := 0, slots := 0, locals := 100 } : Room) D [(cI, .int), (cJ, .long), (cZ, .boolean)] [.ref xo, .long stp] (wC xo nt es ro ad cI cJ cZ ln fz sx mo sn bw tkv opv shv ldv wyv bdv ct dA dA sta stc fev dl dnv rov) (none) (wC xo nt es ro ad cI cJ cZ ln fz sx mo sn bw tkv opv shv ldv wyv bdv ct dA dA sta stc fev dl dnv (f2_improve_rov fz tkv opv shv wyv bdv rov stp rl)) 0 0 := by
  refine gz_met l (by decide) (Nat.le_of_ble_eq_true rfl) [(0, .ref xo), (1, .long stp)] rfl ?_
  intro sz p e s m args below meth c C hr hk hnm
  have C : gz_C p s m args c cX2_improve 9 RX2 D [(cI, .int), (cJ, .long), (cZ, .boolean)] (va_A (wC xo nt es ro ad cI cJ cZ ln fz sx mo sn bw tkv opv shv ldv wyv bdv ct dA dA sta stc fev dl dnv rov) sz) := C
  refine gz_aload_n C 0 dX2_improve_0 rfl ?_
  refine gz_get (ci := 3) C iwX2 0 rfl rfl 0 (by decide) wk_79 rfl rfl dX2_improve_1 ?_
  refine gz_aload_n C 0 dX2_improve_4 rfl ?_
  refine gz_get (ci := 3) C iwX2 0 rfl rfl 2 (by decide) wk_81 rfl rfl dX2_improve_5 ?_
  refine gz_aload_n C 0 dX2_improve_8 rfl ?_
  refine gz_get (ci := 3) C iwX2 0 rfl rfl 3 (by decide) wk_82 rfl rfl dX2_improve_9 ?_
  refine gz_sw (v := .int ln) (w := .int (nI rl)) (by rw [hln]) ?_
  refine gz_callV (wr := []) (n := 2) (ws2 := (wC xo nt es ro ad cI cJ cZ ln fz sx mo sn bw tkv opv shv ldv wyv bdv ct dA dA sta stc fev dl dnv rov)) (st2 := [.long (f1_cost tkv opv shv wyv bdv rov rl)]) (cells2 := 0) (slots2 := 0) (ci := 2) C (kX1_cost l D xo nt es ro ad cI cJ cZ ln fz sx mo sn bw tkv opv shv ldv wyv bdv ct dA sta stc fev dl dnv rov rl (by first | assumption | omega) (by first | assumption | omega)) (WB_V wk_218 wk_219 wk_220 wk_2 wk_221) (by decide +kernel) ⟨⟨rfl, rfl⟩, Nat.le_of_ble_eq_true rfl, Nat.le_of_ble_eq_true rfl⟩ [0, 1, 2, 3, 4, 5, 6, 7, 8, 9, 10, 11] [] [0, 1, 2] rfl rfl rfl (by decide) rfl 1 rfl rfl rfl rfl (Nat.le_of_ble_eq_true rfl) dX2_improve_12 ⟨Nat.zero_le _, Nat.zero_le _⟩ rfl rfl rfl ?_
  refine gz_lstore_n (lv2 := [(3, .long (f1_cost tkv opv shv wyv bdv rov rl)), (0, .ref xo), (1, .long stp)]) C dX2_improve_15 (by decide) rfl ?_
  refine gz_aload_n C 1 dX2_improve_16 rfl ?_
  refine gz_get (ci := 3) C iwX2 0 rfl rfl 4 (by decide) wk_83 rfl rfl dX2_improve_17 ?_
  refine gz_istore (lv2 := [(5, .int (nI fz)), (3, .long (f1_cost tkv opv shv wyv bdv rov rl)), (0, .ref xo), (1, .long stp)]) C dX2_improve_20 (by decide) rfl ?_
  refine gz_iload C 0 dX2_improve_22 rfl ?_
  refine gz_iconst (v := nI 1) C dX2_improve_24 (by decide) ?_
  refine gz_iadd (v := nI (fz + 1)) C dX2_improve_25 (nI_add _ _) ?_
  refine gz_istore (lv2 := [(6, .int (nI (fz + 1))), (5, .int (nI fz)), (3, .long (f1_cost tkv opv shv wyv bdv rov rl)), (0, .ref xo), (1, .long stp)]) C dX2_improve_26 (by decide) rfl ?_
  refine gz_lconst (v := 0) C dX2_improve_28 (by decide) ?_
  refine gz_lstore (lv2 := [(7, .long 0), (6, .int (nI (fz + 1))), (5, .int (nI fz)), (3, .long (f1_cost tkv opv shv wyv bdv rov rl)), (0, .ref xo), (1, .long stp)]) C dX2_improve_29 (by decide) rfl ?_
  refine gz_lv (lv2 := [(0, .ref xo), (1, .long stp), (3, .long (f1_cost tkv opv shv wyv bdv rov rl)), (5, .int (nI fz)), (6, .int (nI (fz + 1))), (7, .long 0)]) [4, 5, 3, 2, 1, 0] rfl ?_
  refine lX2_improve_lp xo nt es ro ad cI cJ cZ ln fz sx mo sn bw tkv opv shv ldv wyv bdv ct dA sta stc fev dl dnv stp rl (by first | assumption | omega) (by first | assumption | omega) (by first | assumption | omega) (by first | assumption | omega) (by first | assumption | omega) ⟨Nat.le_of_ble_eq_true rfl, Nat.le_of_ble_eq_true rfl⟩ ⟨Nat.zero_le _, Nat.zero_le _⟩ C (cN stp) (f1_cost tkv opv shv wyv bdv rov rl) fz (fz + 1) 0 rov ⟨by rw [Nat.sub_self]; rfl, Nat.le_refl _⟩ (by first | assumption | omega) (by first | assumption | omega) ?_
  intro zhij_lp zhro_lp
  exact gz_vret C hr hk (by first | rfl | (simp only [f2_improve_rov]) | (simp only [f2_improve_rov]; rfl)) (by first | rfl | (simp only [f2_improve_rov]) | (simp only [f2_improve_rov]; rfl)) (Nat.le_refl _) (Nat.le_refl _) dX2_improve_125


theorem q2_place_lp {rov : Nat → Nat} {x : Nat} : ∀ n k, f2_placeOf_lp rov x n k = (-1) ∧ (∀ i, k ≤ i → i < k + n → rov i ≠ x) ∨ ∃ p, k ≤ p ∧ p < k + n ∧ rov p = x ∧ f2_placeOf_lp rov x n k = nI p := by
  intro n
  induction n with
  | zero => intro k; exact Or.inl ⟨rfl, fun i h1 h2 => by omega⟩
  | succ n ih =>
    intro k
    unfold f2_placeOf_lp
    by_cases c : rov k = x
    · rw [if_pos c]; exact Or.inr ⟨k, Nat.le_refl _, by omega, c, rfl⟩
    · rw [if_neg c]
      rcases ih (k + 1) with ⟨a, b⟩ | ⟨p, p1, p2, p3, p4⟩
      · refine Or.inl ⟨a, fun i h1 h2 => ?_⟩
        by_cases e : i = k
        · subst e; exact c
        · exact b i (by omega) (by omega)
      · exact Or.inr ⟨p, by omega, by omega, p3, p4⟩
theorem q2_place {rov : Nat → Nat} {x rl fz : Nat} (hr : rl ≤ 20) (hf : fz ≤ 20) (h : nI fz ≤ f2_placeOf rov x rl) : f2_placeOf rov x rl = nI (cl (f2_placeOf rov x rl)) ∧ cl (f2_placeOf rov x rl) < rl ∧ fz ≤ cl (f2_placeOf rov x rl) ∧ rov (cl (f2_placeOf rov x rl)) = x := by
  rcases q2_place_lp (rov := rov) (x := x) rl 0 with ⟨a, _⟩ | ⟨p, p1, p2, p3, p4⟩
  · have e : f2_placeOf rov x rl = (-1) := a
    rw [e] at h
    exfalso
    rw [Int32.le_iff_toInt_le, nI_toInt (by omega)] at h
    have : ((-1 : Int32)).toInt = -1 := by decide
    omega
  · have e : f2_placeOf rov x rl = nI p := p4
    rw [e] at h ⊢
    rw [nI_leI (by omega) (by omega)] at h
    rw [cl_nI (by omega)]
    exact ⟨rfl, by omega, h, p3⟩
theorem q2_isp {ln x : Int32} {rl : Nat} (h : f2_isPlace ln x = true) (hl : ln = nI rl) (hne : ¬ ln = (-1)) (hr : rl ≤ 20) : x = nI (cl x) ∧ cl x < rl := by
  unfold f2_isPlace at h
  by_cases c : x < 0
  · rw [if_pos c] at h; cases h
  · rw [if_neg c, if_neg hne] at h
    by_cases c2 : ln ≤ x
    · rw [if_pos c2] at h; cases h
    · rw [hl] at c2
      exact ⟨cl_of c, cl_ltn c c2 (by omega)⟩
theorem q0_rb_le {tkv opv shv wyv : Nat → Int64} {bdv : Nat → Bool} {ct : Nat} {fev : Nat → Nat} {dnv : Nat → Int64} {B : Nat} (h1 : 1 ≤ ct) (hfe : ∀ k, k < ct → fev k ≤ B) : ∀ (n t b : Nat) (du : Int64) (u : Nat) (rov : Nat → Nat), (∀ k, k < u - n → rov k ≤ B) → n ≤ u → (∀ k, u ≤ k → rov k ≤ B) → ∀ k, (f0_readBack_lp tkv opv shv wyv bdv ct fev dnv n t b du u rov).2.2.2.2 k ≤ B := by
  intro n
  induction n with
  | zero =>
    intro t b du u rov h2 _ h3 k
    rcases Nat.lt_or_ge k u with q | q
    · exact h2 k (by omega)
    · exact h3 k q
  | succ n ih =>
    intro t b du u rov h2 hn h3
    unfold f0_readBack_lp
    refine ih _ _ _ _ _ (fun k hk => ?_) (by omega) (fun k hk => ?_)
    · rw [va_up_ne _ _ (by omega)]; exact h2 k (by omega)
    · by_cases e : k = u - 1
      · subst e; rw [va_up_self]; exact hfe _ (q0_ll h1)
      · rw [va_up_ne _ _ e]; exact h3 k (by omega)

def f2_add_lp  : Nat → Nat → (Nat → Nat) → Nat × (Nat → Nat)
  | 0, k, rov => (k, rov)
  | n + 1, k, rov => f2_add_lp  n (k + 1) (f2_swap_rov rov k (k + 1))
set_option maxRecDepth 100000 in
set_option maxHeartbeats 4000000 in
theorem lX2_add_lp {p : Program} {l : Launch} {e : Env} {R : Room} {s : State} {m : MethodId} {args : Array Value} {below : List Frame} {meth : Method} {c : Code} {cells slots : Nat} {Q : State → Prop} {A : Nat → Prop} {D : va_G} (xo : Nat) (nt : Nat) (es : Nat) (ro : Nat) (ad : Nat → Nat) (cI : ClassId) (cJ : ClassId) (cZ : ClassId) (ln : Int32) (fz : Nat) (sx : Bool) (mo : Int32) (sn : Nat) (bw : Int32) (tkv : Nat → Int64) (opv : Nat → Int64) (shv : Nat → Int64) (ldv : Nat → Int32) (wyv : Nat → Int64) (bdv : Nat → Bool) (ct : Nat) (dA : Nat) (sta : Nat) (stc : Int64) (fev : Nat → Nat) (dl : Nat) (dnv : Nat → Int64) (z : Nat) (pl : Nat) (rl : Nat) (hln : ln = nI rl) (hr20 : rl ≤ 20) (hR : 1 ≤ R.frames ∧ 23 ≤ R.locals) (hce : cells ≤ R.cells ∧ slots ≤ R.slots) (C : gz_C p s m args c cX2_add 4 RX2 D [(cI, .int), (cJ, .long), (cZ, .boolean)] A) : ∀ (n : Nat) (k : Nat) (rov : Nat → Nat), (k + 1 + n = rl) → (∀ r, r < rl → rov r ≤ 20) → ((((f2_add_lp  n k rov).1) + 1 + 0 = rl) → (∀ r, r < rl → ((f2_add_lp  n k rov).2) r ≤ 20) → GZ p l e R s m args below meth c 4 D A cells slots Q (wC xo nt es ro ad cI cJ cZ ln fz sx mo sn bw tkv opv shv ldv wyv bdv ct dA dA sta stc fev dl dnv ((f2_add_lp  n k rov).2)) [(0, .ref xo), (1, .int (nI z)), (2, .int (nI pl)), (3, .int (nI ((f2_add_lp  n k rov).1)))] [] 57) → GZ p l e R s m args below meth c 4 D A cells slots Q (wC xo nt es ro ad cI cJ cZ ln fz sx mo sn bw tkv opv shv ldv wyv bdv ct dA dA sta stc fev dl dnv rov) [(0, .ref xo), (1, .int (nI z)), (2, .int (nI pl)), (3, .int (nI k))] [] 33 := by
  intro n
  induction n with
  | zero =>
    intro k rov hme hro hx
    refine gz_iload_n C 3 dX2_add_33 rfl ?_
    refine gz_iconst (v := nI 1) C dX2_add_34 (by decide) ?_
    refine gz_iadd (v := nI (k + 1)) C dX2_add_35 (nI_add _ _) ?_
    refine gz_aload_n C 0 dX2_add_36 rfl ?_
    refine gz_get (ci := 3) C iwX2 0 rfl rfl 3 (by decide) wk_82 rfl rfl dX2_add_37 ?_
    refine gz_sw (v := .int ln) (w := .int (nI rl)) (by rw [hln]) ?_
    refine gz_ncmp_ge C 57 (by omega) (by omega) dX2_add_40 (by decide) (fun h_1 => ?_) (fun h_1 => ?_)
    · skip
      exact gz_lv [0, 1, 2, 3] rfl (hx hme hro)
    · have g_1 : ¬ (rl ≤ (k + 1)) := (Nat.not_le.mpr h_1)
      exfalso; omega
  | succ n ih =>
    intro k rov hme hro hx
    refine gz_iload_n C 3 dX2_add_33 rfl ?_
    refine gz_iconst (v := nI 1) C dX2_add_34 (by decide) ?_
    refine gz_iadd (v := nI (k + 1)) C dX2_add_35 (nI_add _ _) ?_
    refine gz_aload_n C 0 dX2_add_36 rfl ?_
    refine gz_get (ci := 3) C iwX2 0 rfl rfl 3 (by decide) wk_82 rfl rfl dX2_add_37 ?_
    refine gz_sw (v := .int ln) (w := .int (nI rl)) (by rw [hln]) ?_
    refine gz_ncmp_ge C 57 (by omega) (by omega) dX2_add_40 (by decide) (fun h_1 => ?_) (fun h_1 => ?_)
    · skip
      exfalso; omega
    · have g_1 : ¬ (rl ≤ (k + 1)) := (Nat.not_le.mpr h_1)
      refine gz_aload_n C 0 dX2_add_43 rfl ?_
      refine gz_iload_n C 3 dX2_add_44 rfl ?_
      refine gz_iload_n C 3 dX2_add_45 rfl ?_
      refine gz_iconst (v := nI 1) C dX2_add_46 (by decide) ?_
      refine gz_iadd (v := nI (k + 1)) C dX2_add_47 (nI_add _ _) ?_
      refine gz_callV (wr := []) (n := 2) (ws2 := (wC xo nt es ro ad cI cJ cZ ln fz sx mo sn bw tkv opv shv ldv wyv bdv ct dA dA sta stc fev dl dnv (f2_swap_rov rov k (k + 1)))) (st2 := []) (cells2 := cells) (slots2 := slots) (ci := 3) C (kX2_swap l D xo nt es ro ad cI cJ cZ ln fz sx mo sn bw tkv opv shv ldv wyv bdv ct dA sta stc fev dl dnv rov k (k + 1) (by first | assumption | omega) (by first | assumption | omega)) (WB_V wk_223 wk_225 ws_9 wk_1 wk_226) (by decide +kernel) ⟨⟨rfl, rfl⟩, Nat.le_trans (by decide) hR.1, Nat.le_trans (by decide) hR.2⟩ [0, 1, 2, 3, 4, 5, 6, 7, 8, 9, 10, 11] [] [0, 1, 2] rfl rfl rfl (by decide) rfl 0 rfl rfl rfl rfl (Nat.le_of_ble_eq_true rfl) dX2_add_48 hce rfl rfl rfl ?_
      refine gz_iinc (v := nI (k + 1)) (lv2 := [(3, .int (nI (k + 1))), (0, .ref xo), (1, .int (nI z)), (2, .int (nI pl))]) (k := 3) C dX2_add_51 rfl (nI_add _ 1) (by decide) rfl ?_
      refine gz_goto C 33 dX2_add_54 (by decide) ?_
      refine gz_lv [1, 2, 3, 0] rfl ?_
      simp only [f2_add_lp, if_neg g_1] at hx
      exact ih (k + 1) (f2_swap_rov rov k (k + 1)) (by omega) (q2_swap_le hro (by omega) (by omega)) hx

def f2_add (fz : Nat) (sn : Nat) (tkv : Nat → Int64) (opv : Nat → Int64) (shv : Nat → Int64) (wyv : Nat → Int64) (bdv : Nat → Bool) (rov : Nat → Nat) (x : Int32) (rl : Nat) : Int32 := (if (f1_isStop sn x) = true then (if (nI fz) ≤ ((f2_placeOf rov (cl x) rl)) then nI (f2_insert fz tkv opv shv wyv bdv ((f2_add_lp  (rl - (cl (f2_placeOf rov (cl x) rl)) - 1) (cl (f2_placeOf rov (cl x) rl)) rov).2) (cl x) (rl - 1)) else (-13)) else (-11))
def f2_add_sx (fz : Nat) (sx : Bool) (sn : Nat) (rov : Nat → Nat) (x : Int32) (rl : Nat) : Bool := (if (f1_isStop sn x) = true then (if (nI fz) ≤ ((f2_placeOf rov (cl x) rl)) then false else sx) else sx)
def f2_add_rov (fz : Nat) (sn : Nat) (tkv : Nat → Int64) (opv : Nat → Int64) (shv : Nat → Int64) (wyv : Nat → Int64) (bdv : Nat → Bool) (rov : Nat → Nat) (x : Int32) (rl : Nat) : Nat → Nat := (if (f1_isStop sn x) = true then (if (nI fz) ≤ ((f2_placeOf rov (cl x) rl)) then f2_insert_rov fz tkv opv shv wyv bdv ((f2_add_lp  (rl - (cl (f2_placeOf rov (cl x) rl)) - 1) (cl (f2_placeOf rov (cl x) rl)) rov).2) (cl x) (rl - 1) else rov) else rov)
set_option maxRecDepth 100000 in
set_option maxHeartbeats 4000000 in
theorem kX2_add (l : Launch) (D : va_G) (xo : Nat) (nt : Nat) (es : Nat) (ro : Nat) (ad : Nat → Nat) (cI : ClassId) (cJ : ClassId) (cZ : ClassId) (ln : Int32) (fz : Nat) (sx : Bool) (mo : Int32) (sn : Nat) (bw : Int32) (tkv : Nat → Int64) (opv : Nat → Int64) (shv : Nat → Int64) (ldv : Nat → Int32) (wyv : Nat → Int64) (bdv : Nat → Bool) (ct : Nat) (dA : Nat) (sta : Nat) (stc : Int64) (fev : Nat → Nat) (dl : Nat) (dnv : Nat → Int64) (rov : Nat → Nat) (x : Int32) (rl : Nat) (hsn : sn ≤ 20) (hln : ln = (-1) ∧ rl = 0 ∨ ln = nI rl) (hr20 : rl ≤ 20) (hro : ∀ k, k < rl → rov k ≤ 20) (hfz : fz ≤ 20) : gz_M l yX2_add cX2_add 4 (some .int) ({ frames := 4, cells := 0, slots := 0, locals := 104 } : Room) D [(cI, .int), (cJ, .long), (cZ, .boolean)] [.ref xo, .int x] (wC xo nt es ro ad cI cJ cZ ln fz sx mo sn bw tkv opv shv ldv wyv bdv ct dA dA sta stc fev dl dnv rov) (some (.int (f2_add fz sn tkv opv shv wyv bdv rov x rl))) (wC xo nt es ro ad cI cJ cZ ln fz (f2_add_sx fz sx sn rov x rl) mo sn bw tkv opv shv ldv wyv bdv ct dA dA sta stc fev dl dnv (f2_add_rov fz sn tkv opv shv wyv bdv rov x rl)) 0 0 := by
  refine gz_met l (by decide) (Nat.le_of_ble_eq_true rfl) [(0, .ref xo), (1, .int x)] rfl ?_
  intro sz p e s m args below meth c C hr hk hnm
  have C : gz_C p s m args c cX2_add 4 RX2 D [(cI, .int), (cJ, .long), (cZ, .boolean)] (va_A (wC xo nt es ro ad cI cJ cZ ln fz sx mo sn bw tkv opv shv ldv wyv bdv ct dA dA sta stc fev dl dnv rov) sz) := C
  refine gz_aload_n C 0 dX2_add_0 rfl ?_
  refine gz_get (ci := 3) C iwX2 0 rfl rfl 0 (by decide) wk_79 rfl rfl dX2_add_1 ?_
  refine gz_iload_n C 1 dX2_add_4 rfl ?_
  refine gz_callV (wr := []) (n := 1) (ws2 := (wC xo nt es ro ad cI cJ cZ ln fz sx mo sn bw tkv opv shv ldv wyv bdv ct dA dA sta stc fev dl dnv rov)) (st2 := [.int (bI (f1_isStop sn x))]) (cells2 := 0) (slots2 := 0) (ci := 2) C (kX1_isStop l D xo nt es ro ad cI cJ cZ ln fz sx mo sn bw tkv opv shv ldv wyv bdv ct dA sta stc fev dl dnv rov x (by first | assumption | omega)) (WB_V wk_137 wk_123 wk_124 wk_2 wk_125) (by decide +kernel) ⟨⟨rfl, rfl⟩, Nat.le_of_ble_eq_true rfl, Nat.le_of_ble_eq_true rfl⟩ [0, 1, 2, 3, 4, 5, 6, 7, 8, 9, 10, 11] [] [0, 1, 2] rfl rfl rfl (by decide) rfl 1 rfl rfl rfl rfl (Nat.le_of_ble_eq_true rfl) dX2_add_5 ⟨Nat.zero_le _, Nat.zero_le _⟩ rfl rfl rfl ?_
  refine gz_bif_ne C 14 dX2_add_8 (by decide) (fun h_1 => ?_) (fun h_1 => ?_)
  · skip
    obtain ⟨hx1, hx2, hx3⟩ := q1_stop h_1 hsn
    refine gz_lve (lv2 := [(0, .ref xo), (1, .int (nI (cl x)))]) (by rw [← hx1]) ?_
    refine gz_aload_n C 0 dX2_add_14 rfl ?_
    refine gz_iload_n C 1 dX2_add_15 rfl ?_
    refine gz_callV (wr := []) (n := 1) (ws2 := (wC xo nt es ro ad cI cJ cZ ln fz sx mo sn bw tkv opv shv ldv wyv bdv ct dA dA sta stc fev dl dnv rov)) (st2 := [.int (f2_placeOf rov (cl x) rl)]) (cells2 := 0) (slots2 := 0) (ci := 3) C (kX2_placeOf l D xo nt es ro ad cI cJ cZ ln fz sx mo sn bw tkv opv shv ldv wyv bdv ct dA sta stc fev dl dnv rov (cl x) rl (by first | assumption | omega) (by first | assumption | omega) (by first | assumption | omega) (by first | assumption | omega)) (WB_V wk_260 wk_262 ws_12 wk_1 wk_263) (by decide +kernel) ⟨⟨rfl, rfl⟩, Nat.le_of_ble_eq_true rfl, Nat.le_of_ble_eq_true rfl⟩ [0, 1, 2, 3, 4, 5, 6, 7, 8, 9, 10, 11] [] [0, 1, 2] rfl rfl rfl (by decide) rfl 0 rfl rfl rfl rfl (Nat.le_of_ble_eq_true rfl) dX2_add_16 ⟨Nat.zero_le _, Nat.zero_le _⟩ rfl rfl rfl ?_
    refine gz_istore_n (lv2 := [(2, .int (f2_placeOf rov (cl x) rl)), (0, .ref xo), (1, .int (nI (cl x)))]) C dX2_add_19 (by decide) rfl ?_
    refine gz_iload_n C 0 dX2_add_20 rfl ?_
    refine gz_aload_n C 1 dX2_add_21 rfl ?_
    refine gz_get (ci := 3) C iwX2 0 rfl rfl 4 (by decide) wk_83 rfl rfl dX2_add_22 ?_
    refine gz_icmp_ge C 31 dX2_add_25 (by decide) (fun h_2 => ?_) (fun h_2 => ?_)
    · skip
      obtain ⟨hp1, hp2, hp3, hp4⟩ := q2_place hr20 hfz h_2
      have hln9 : ln = nI rl := by rcases hln with ⟨_, z⟩ | z; (· omega); (· exact z)
      refine gz_lve (lv2 := [(2, .int (nI (cl (f2_placeOf rov (cl x) rl)))), (0, .ref xo), (1, .int (nI (cl x)))]) (by rw [← hp1]) ?_
      refine gz_iload_n C 0 dX2_add_31 rfl ?_
      refine gz_istore_n (lv2 := [(3, .int (nI (cl (f2_placeOf rov (cl x) rl)))), (2, .int (nI (cl (f2_placeOf rov (cl x) rl)))), (0, .ref xo), (1, .int (nI (cl x)))]) C dX2_add_32 (by decide) rfl ?_
      refine gz_lv (lv2 := [(0, .ref xo), (1, .int (nI (cl x))), (2, .int (nI (cl (f2_placeOf rov (cl x) rl)))), (3, .int (nI (cl (f2_placeOf rov (cl x) rl))))]) [2, 3, 1, 0] rfl ?_
      refine lX2_add_lp xo nt es ro ad cI cJ cZ ln fz sx mo sn bw tkv opv shv ldv wyv bdv ct dA sta stc fev dl dnv (cl x) (cl (f2_placeOf rov (cl x) rl)) rl hln9 (by first | assumption | omega) ⟨Nat.le_of_ble_eq_true rfl, Nat.le_of_ble_eq_true rfl⟩ ⟨Nat.zero_le _, Nat.zero_le _⟩ C (rl - (cl (f2_placeOf rov (cl x) rl)) - 1) (cl (f2_placeOf rov (cl x) rl)) rov (by omega) (by first | assumption | omega) ?_
      intro zme_lp zhro_lp
      refine gz_aload_n C 0 dX2_add_57 rfl ?_
      refine gz_iconst (v := nI 0) C dX2_add_58 (by decide) ?_
      refine gz_sw (v := .int (nI 0)) (w := .int (bI false)) (by rw [show nI 0 = bI false from (by first | rfl | decide | ((repeat' split) <;> rfl))]) ?_
      refine gz_put (ci := 3) (ws2 := (wC xo nt es ro ad cI cJ cZ ln fz false mo sn bw tkv opv shv ldv wyv bdv ct dA dA sta stc fev dl dnv ((f2_add_lp  (rl - (cl (f2_placeOf rov (cl x) rl)) - 1) (cl (f2_placeOf rov (cl x) rl)) rov).2))) C iwX2 0 rfl rfl 5 (by decide) wk_84 rfl tyX2 tyX2_ok nmX2 rfl rfl (bI_nar _) (bI_fit _) (Nat.le_of_ble_eq_true rfl) rfl dX2_add_59 ?_
      refine gz_aload_n C 0 dX2_add_62 rfl ?_
      refine gz_iload_n C 1 dX2_add_63 rfl ?_
      refine gz_aload_n C 0 dX2_add_64 rfl ?_
      refine gz_get (ci := 3) C iwX2 0 rfl rfl 3 (by decide) wk_82 rfl rfl dX2_add_65 ?_
      refine gz_sw (v := .int ln) (w := .int (nI rl)) (by rw [hln9]) ?_
      refine gz_iconst (v := nI 1) C dX2_add_68 (by decide) ?_
      refine gz_isub (v := nI (rl - 1)) C dX2_add_69 (pk_sub (by first | omega | exact Nat.one_le_two_pow)) ?_
      refine gz_callV (wr := []) (n := 2) (ws2 := (wC xo nt es ro ad cI cJ cZ ln fz false mo sn bw tkv opv shv ldv wyv bdv ct dA dA sta stc fev dl dnv (f2_insert_rov fz tkv opv shv wyv bdv ((f2_add_lp  (rl - (cl (f2_placeOf rov (cl x) rl)) - 1) (cl (f2_placeOf rov (cl x) rl)) rov).2) (cl x) (rl - 1)))) (st2 := [.int (nI (f2_insert fz tkv opv shv wyv bdv ((f2_add_lp  (rl - (cl (f2_placeOf rov (cl x) rl)) - 1) (cl (f2_placeOf rov (cl x) rl)) rov).2) (cl x) (rl - 1)))]) (cells2 := 0) (slots2 := 0) (ci := 3) C (kX2_insert l D xo nt es ro ad cI cJ cZ ln fz false mo sn bw tkv opv shv ldv wyv bdv ct dA sta stc fev dl dnv ((f2_add_lp  (rl - (cl (f2_placeOf rov (cl x) rl)) - 1) (cl (f2_placeOf rov (cl x) rl)) rov).2) (cl x) (rl - 1) (by first | assumption | omega) (by first | assumption | omega) (by first | assumption | omega) (fun k hk => zhro_lp k (by omega))) (WB_V wk_214 wk_216 ws_8 wk_1 wk_217) (by decide +kernel) ⟨⟨rfl, rfl⟩, Nat.le_of_ble_eq_true rfl, Nat.le_of_ble_eq_true rfl⟩ [0, 1, 2, 3, 4, 5, 6, 7, 8, 9, 10, 11] [] [0, 1, 2] rfl rfl rfl (by decide) rfl 0 rfl rfl rfl rfl (Nat.le_of_ble_eq_true rfl) dX2_add_70 ⟨Nat.zero_le _, Nat.zero_le _⟩ rfl rfl rfl ?_
      exact gz_iret C hr hk (by first | rfl | (simp only [f2_add, f2_add_sx, f2_add_rov, if_pos h_1, if_pos h_2]) | (simp only [f2_add, f2_add_sx, f2_add_rov, if_pos h_1, if_pos h_2]; rfl)) (by first | rfl | (simp only [f2_add, f2_add_sx, f2_add_rov, if_pos h_1, if_pos h_2]) | (simp only [f2_add, f2_add_sx, f2_add_rov, if_pos h_1, if_pos h_2]; rfl)) (Nat.le_refl _) (Nat.le_refl _) dX2_add_73
    · have g_2 : ¬ ((nI fz) ≤ ((f2_placeOf rov (cl x) rl))) := h_2
      refine gz_bipush (v := ((-13))) C dX2_add_28 (by decide) ?_
      exact gz_iret C hr hk (by first | rfl | (simp only [f2_add, f2_add_sx, f2_add_rov, if_pos h_1, if_neg g_2]) | (simp only [f2_add, f2_add_sx, f2_add_rov, if_pos h_1, if_neg g_2]; rfl)) (by first | rfl | (simp only [f2_add, f2_add_sx, f2_add_rov, if_pos h_1, if_neg g_2]) | (simp only [f2_add, f2_add_sx, f2_add_rov, if_pos h_1, if_neg g_2]; rfl)) (Nat.le_refl _) (Nat.le_refl _) dX2_add_30
  · have g_1 : ¬ ((f1_isStop sn x) = true) := (by rw [h_1]; decide)
    refine gz_bipush (v := ((-11))) C dX2_add_11 (by decide) ?_
    exact gz_iret C hr hk (by first | rfl | (simp only [f2_add, f2_add_sx, f2_add_rov, if_neg g_1]) | (simp only [f2_add, f2_add_sx, f2_add_rov, if_neg g_1]; rfl)) (by first | rfl | (simp only [f2_add, f2_add_sx, f2_add_rov, if_neg g_1]) | (simp only [f2_add, f2_add_sx, f2_add_rov, if_neg g_1]; rfl)) (Nat.le_refl _) (Nat.le_refl _) dX2_add_13

def f2_exchange (ln : Int32) (fz : Nat) (tkv : Nat → Int64) (opv : Nat → Int64) (shv : Nat → Int64) (wyv : Nat → Int64) (bdv : Nat → Bool) (rov : Nat → Nat) (x : Int32) (y : Int32) (rl : Nat) : Int32 := (if (f2_isPlace ln x) = true then (if (f2_isPlace ln y) = true then (if ln = (((-1))) then (-13) else (if (cl x) < fz then (-13) else (if (cl y) < fz then (-13) else (if (cl x) = (cl y) then (-13) else (if (f2_swapIfLess tkv opv shv wyv bdv rov (cl x) (cl y) (f1_cost tkv opv shv wyv bdv rov rl) rl) = true then nI 1 else nI 0))))) else (-11)) else (-11))
def f2_exchange_sx (ln : Int32) (fz : Nat) (sx : Bool) (tkv : Nat → Int64) (opv : Nat → Int64) (shv : Nat → Int64) (wyv : Nat → Int64) (bdv : Nat → Bool) (rov : Nat → Nat) (x : Int32) (y : Int32) (rl : Nat) : Bool := (if (f2_isPlace ln x) = true then (if (f2_isPlace ln y) = true then (if ln = (((-1))) then sx else (if (cl x) < fz then sx else (if (cl y) < fz then sx else (if (cl x) = (cl y) then sx else (if (f2_swapIfLess tkv opv shv wyv bdv rov (cl x) (cl y) (f1_cost tkv opv shv wyv bdv rov rl) rl) = true then false else sx))))) else sx) else sx)
def f2_exchange_rov (ln : Int32) (fz : Nat) (tkv : Nat → Int64) (opv : Nat → Int64) (shv : Nat → Int64) (wyv : Nat → Int64) (bdv : Nat → Bool) (rov : Nat → Nat) (x : Int32) (y : Int32) (rl : Nat) : Nat → Nat := (if (f2_isPlace ln x) = true then (if (f2_isPlace ln y) = true then (if ln = (((-1))) then rov else (if (cl x) < fz then rov else (if (cl y) < fz then rov else (if (cl x) = (cl y) then rov else (if (f2_swapIfLess tkv opv shv wyv bdv rov (cl x) (cl y) (f1_cost tkv opv shv wyv bdv rov rl) rl) = true then f2_swapIfLess_rov tkv opv shv wyv bdv rov (cl x) (cl y) (f1_cost tkv opv shv wyv bdv rov rl) rl else f2_swapIfLess_rov tkv opv shv wyv bdv rov (cl x) (cl y) (f1_cost tkv opv shv wyv bdv rov rl) rl))))) else rov) else rov)
set_option maxRecDepth 100000 in
set_option maxHeartbeats 4000000 in
theorem kX2_exchange (l : Launch) (D : va_G) (xo : Nat) (nt : Nat) (es : Nat) (ro : Nat) (ad : Nat → Nat) (cI : ClassId) (cJ : ClassId) (cZ : ClassId) (ln : Int32) (fz : Nat) (sx : Bool) (mo : Int32) (sn : Nat) (bw : Int32) (tkv : Nat → Int64) (opv : Nat → Int64) (shv : Nat → Int64) (ldv : Nat → Int32) (wyv : Nat → Int64) (bdv : Nat → Bool) (ct : Nat) (dA : Nat) (sta : Nat) (stc : Int64) (fev : Nat → Nat) (dl : Nat) (dnv : Nat → Int64) (rov : Nat → Nat) (x : Int32) (y : Int32) (rl : Nat) (hln : ln = (-1) ∧ rl = 0 ∨ ln = nI rl) (hr20 : rl ≤ 20) (hro : ∀ k, k < rl → rov k ≤ 20) (hfz : fz ≤ 20) : gz_M l yX2_exchange cX2_exchange 3 (some .int) ({ frames := 4, cells := 0, slots := 0, locals := 100 } : Room) D [(cI, .int), (cJ, .long), (cZ, .boolean)] [.ref xo, .int x, .int y] (wC xo nt es ro ad cI cJ cZ ln fz sx mo sn bw tkv opv shv ldv wyv bdv ct dA dA sta stc fev dl dnv rov) (some (.int (f2_exchange ln fz tkv opv shv wyv bdv rov x y rl))) (wC xo nt es ro ad cI cJ cZ ln fz (f2_exchange_sx ln fz sx tkv opv shv wyv bdv rov x y rl) mo sn bw tkv opv shv ldv wyv bdv ct dA dA sta stc fev dl dnv (f2_exchange_rov ln fz tkv opv shv wyv bdv rov x y rl)) 0 0 := by
  refine gz_met l (by decide) (Nat.le_of_ble_eq_true rfl) [(0, .ref xo), (1, .int x), (2, .int y)] rfl ?_
  intro sz p e s m args below meth c C hr hk hnm
  have C : gz_C p s m args c cX2_exchange 3 RX2 D [(cI, .int), (cJ, .long), (cZ, .boolean)] (va_A (wC xo nt es ro ad cI cJ cZ ln fz sx mo sn bw tkv opv shv ldv wyv bdv ct dA dA sta stc fev dl dnv rov) sz) := C
  refine gz_aload_n C 0 dX2_exchange_0 rfl ?_
  refine gz_iload_n C 1 dX2_exchange_1 rfl ?_
  refine gz_callV (wr := []) (n := 1) (ws2 := (wC xo nt es ro ad cI cJ cZ ln fz sx mo sn bw tkv opv shv ldv wyv bdv ct dA dA sta stc fev dl dnv rov)) (st2 := [.int (bI (f2_isPlace ln x))]) (cells2 := 0) (slots2 := 0) (ci := 3) C (kX2_isPlace l D xo nt es ro ad cI cJ cZ ln fz sx mo sn bw tkv opv shv ldv wyv bdv ct dA sta stc fev dl dnv rov x ) (WB_V wk_276 wk_278 ws_13 wk_1 wk_279) (by decide +kernel) ⟨⟨rfl, rfl⟩, Nat.le_of_ble_eq_true rfl, Nat.le_of_ble_eq_true rfl⟩ [0, 1, 2, 3, 4, 5, 6, 7, 8, 9, 10, 11] [] [0, 1, 2] rfl rfl rfl (by decide) rfl 0 rfl rfl rfl rfl (Nat.le_of_ble_eq_true rfl) dX2_exchange_2 ⟨Nat.zero_le _, Nat.zero_le _⟩ rfl rfl rfl ?_
  refine gz_bif_eq C 16 dX2_exchange_5 (by decide) (fun h_1 => ?_) (fun h_1 => ?_)
  · have g_1 : ¬ ((f2_isPlace ln x) = true) := (by rw [h_1]; decide)
    refine gz_bipush (v := ((-11))) C dX2_exchange_16 (by decide) ?_
    exact gz_iret C hr hk (by first | rfl | (simp only [f2_exchange, f2_exchange_sx, f2_exchange_rov, if_neg g_1]) | (simp only [f2_exchange, f2_exchange_sx, f2_exchange_rov, if_neg g_1]; rfl)) (by first | rfl | (simp only [f2_exchange, f2_exchange_sx, f2_exchange_rov, if_neg g_1]) | (simp only [f2_exchange, f2_exchange_sx, f2_exchange_rov, if_neg g_1]; rfl)) (Nat.le_refl _) (Nat.le_refl _) dX2_exchange_18
  · skip
    refine gz_aload_n C 0 dX2_exchange_8 rfl ?_
    refine gz_iload_n C 2 dX2_exchange_9 rfl ?_
    refine gz_callV (wr := []) (n := 1) (ws2 := (wC xo nt es ro ad cI cJ cZ ln fz sx mo sn bw tkv opv shv ldv wyv bdv ct dA dA sta stc fev dl dnv rov)) (st2 := [.int (bI (f2_isPlace ln y))]) (cells2 := 0) (slots2 := 0) (ci := 3) C (kX2_isPlace l D xo nt es ro ad cI cJ cZ ln fz sx mo sn bw tkv opv shv ldv wyv bdv ct dA sta stc fev dl dnv rov y ) (WB_V wk_276 wk_278 ws_13 wk_1 wk_279) (by decide +kernel) ⟨⟨rfl, rfl⟩, Nat.le_of_ble_eq_true rfl, Nat.le_of_ble_eq_true rfl⟩ [0, 1, 2, 3, 4, 5, 6, 7, 8, 9, 10, 11] [] [0, 1, 2] rfl rfl rfl (by decide) rfl 0 rfl rfl rfl rfl (Nat.le_of_ble_eq_true rfl) dX2_exchange_10 ⟨Nat.zero_le _, Nat.zero_le _⟩ rfl rfl rfl ?_
    refine gz_bif_ne C 19 dX2_exchange_13 (by decide) (fun h_2 => ?_) (fun h_2 => ?_)
    · skip
      refine gz_aload_n C 0 dX2_exchange_19 rfl ?_
      refine gz_get (ci := 3) C iwX2 0 rfl rfl 3 (by decide) wk_82 rfl rfl dX2_exchange_20 ?_
      refine gz_iconst (v := ((-1))) C dX2_exchange_23 (by decide) ?_
      refine gz_icmp_eq C 48 dX2_exchange_24 (by decide) (fun h_3 => ?_) (fun h_3 => ?_)
      · skip
        refine gz_bipush (v := ((-13))) C dX2_exchange_48 (by decide) ?_
        exact gz_iret C hr hk (by first | rfl | (simp only [f2_exchange, f2_exchange_sx, f2_exchange_rov, if_pos h_1, if_pos h_2, if_pos h_3]) | (simp only [f2_exchange, f2_exchange_sx, f2_exchange_rov, if_pos h_1, if_pos h_2, if_pos h_3]; rfl)) (by first | rfl | (simp only [f2_exchange, f2_exchange_sx, f2_exchange_rov, if_pos h_1, if_pos h_2, if_pos h_3]) | (simp only [f2_exchange, f2_exchange_sx, f2_exchange_rov, if_pos h_1, if_pos h_2, if_pos h_3]; rfl)) (Nat.le_refl _) (Nat.le_refl _) dX2_exchange_50
      · have g_3 : ¬ (ln = (((-1)))) := h_3
        have hln9 := q2_ln hln hr20 g_3
        obtain ⟨hx1, hx2⟩ := q2_isp h_1 hln9 g_3 hr20
        obtain ⟨hy1, hy2⟩ := q2_isp h_2 hln9 g_3 hr20
        refine gz_lve (lv2 := [(0, .ref xo), (1, .int (nI (cl x))), (2, .int y)]) (by rw [← hx1]) ?_
        refine gz_lve (lv2 := [(0, .ref xo), (1, .int (nI (cl x))), (2, .int (nI (cl y)))]) (by rw [← hy1]) ?_
        refine gz_iload_n C 1 dX2_exchange_27 rfl ?_
        refine gz_aload_n C 0 dX2_exchange_28 rfl ?_
        refine gz_get (ci := 3) C iwX2 0 rfl rfl 4 (by decide) wk_83 rfl rfl dX2_exchange_29 ?_
        refine gz_ncmp_lt C 48 (by omega) (by omega) dX2_exchange_32 (by decide) (fun h_4 => ?_) (fun h_4 => ?_)
        · skip
          refine gz_bipush (v := ((-13))) C dX2_exchange_48 (by decide) ?_
          exact gz_iret C hr hk (by first | rfl | (simp only [f2_exchange, f2_exchange_sx, f2_exchange_rov, if_pos h_1, if_pos h_2, if_neg g_3, if_pos h_4]) | (simp only [f2_exchange, f2_exchange_sx, f2_exchange_rov, if_pos h_1, if_pos h_2, if_neg g_3, if_pos h_4]; rfl)) (by first | rfl | (simp only [f2_exchange, f2_exchange_sx, f2_exchange_rov, if_pos h_1, if_pos h_2, if_neg g_3, if_pos h_4]) | (simp only [f2_exchange, f2_exchange_sx, f2_exchange_rov, if_pos h_1, if_pos h_2, if_neg g_3, if_pos h_4]; rfl)) (Nat.le_refl _) (Nat.le_refl _) dX2_exchange_50
        · have g_4 : ¬ ((cl x) < fz) := (Nat.not_lt.mpr h_4)
          refine gz_iload_n C 2 dX2_exchange_35 rfl ?_
          refine gz_aload_n C 0 dX2_exchange_36 rfl ?_
          refine gz_get (ci := 3) C iwX2 0 rfl rfl 4 (by decide) wk_83 rfl rfl dX2_exchange_37 ?_
          refine gz_ncmp_lt C 48 (by omega) (by omega) dX2_exchange_40 (by decide) (fun h_5 => ?_) (fun h_5 => ?_)
          · skip
            refine gz_bipush (v := ((-13))) C dX2_exchange_48 (by decide) ?_
            exact gz_iret C hr hk (by first | rfl | (simp only [f2_exchange, f2_exchange_sx, f2_exchange_rov, if_pos h_1, if_pos h_2, if_neg g_3, if_neg g_4, if_pos h_5]) | (simp only [f2_exchange, f2_exchange_sx, f2_exchange_rov, if_pos h_1, if_pos h_2, if_neg g_3, if_neg g_4, if_pos h_5]; rfl)) (by first | rfl | (simp only [f2_exchange, f2_exchange_sx, f2_exchange_rov, if_pos h_1, if_pos h_2, if_neg g_3, if_neg g_4, if_pos h_5]) | (simp only [f2_exchange, f2_exchange_sx, f2_exchange_rov, if_pos h_1, if_pos h_2, if_neg g_3, if_neg g_4, if_pos h_5]; rfl)) (Nat.le_refl _) (Nat.le_refl _) dX2_exchange_50
          · have g_5 : ¬ ((cl y) < fz) := (Nat.not_lt.mpr h_5)
            refine gz_iload_n C 1 dX2_exchange_43 rfl ?_
            refine gz_iload_n C 2 dX2_exchange_44 rfl ?_
            refine gz_ncmp_ne C 51 (by omega) (by omega) dX2_exchange_45 (by decide) (fun h_6 => ?_) (fun h_6 => ?_)
            · have g_6 : ¬ ((cl x) = (cl y)) := h_6
              refine gz_aload_n C 0 dX2_exchange_51 rfl ?_
              refine gz_iload_n C 1 dX2_exchange_52 rfl ?_
              refine gz_iload_n C 2 dX2_exchange_53 rfl ?_
              refine gz_aload_n C 0 dX2_exchange_54 rfl ?_
              refine gz_get (ci := 3) C iwX2 0 rfl rfl 0 (by decide) wk_79 rfl rfl dX2_exchange_55 ?_
              refine gz_aload_n C 0 dX2_exchange_58 rfl ?_
              refine gz_get (ci := 3) C iwX2 0 rfl rfl 2 (by decide) wk_81 rfl rfl dX2_exchange_59 ?_
              refine gz_aload_n C 0 dX2_exchange_62 rfl ?_
              refine gz_get (ci := 3) C iwX2 0 rfl rfl 3 (by decide) wk_82 rfl rfl dX2_exchange_63 ?_
              refine gz_sw (v := .int ln) (w := .int (nI rl)) (by rw [hln9]) ?_
              refine gz_callV (wr := []) (n := 2) (ws2 := (wC xo nt es ro ad cI cJ cZ ln fz sx mo sn bw tkv opv shv ldv wyv bdv ct dA dA sta stc fev dl dnv rov)) (st2 := [.long (f1_cost tkv opv shv wyv bdv rov rl), .int (nI (cl y)), .int (nI (cl x)), .ref xo]) (cells2 := 0) (slots2 := 0) (ci := 2) C (kX1_cost l D xo nt es ro ad cI cJ cZ ln fz sx mo sn bw tkv opv shv ldv wyv bdv ct dA sta stc fev dl dnv rov rl (by first | assumption | omega) (by first | assumption | omega)) (WB_V wk_218 wk_219 wk_220 wk_2 wk_221) (by decide +kernel) ⟨⟨rfl, rfl⟩, Nat.le_of_ble_eq_true rfl, Nat.le_of_ble_eq_true rfl⟩ [0, 1, 2, 3, 4, 5, 6, 7, 8, 9, 10, 11] [] [0, 1, 2] rfl rfl rfl (by decide) rfl 1 rfl rfl rfl rfl (Nat.le_of_ble_eq_true rfl) dX2_exchange_66 ⟨Nat.zero_le _, Nat.zero_le _⟩ rfl rfl rfl ?_
              refine gz_callV (wr := []) (n := 3) (ws2 := (wC xo nt es ro ad cI cJ cZ ln fz sx mo sn bw tkv opv shv ldv wyv bdv ct dA dA sta stc fev dl dnv (f2_swapIfLess_rov tkv opv shv wyv bdv rov (cl x) (cl y) (f1_cost tkv opv shv wyv bdv rov rl) rl))) (st2 := [.int (bI (f2_swapIfLess tkv opv shv wyv bdv rov (cl x) (cl y) (f1_cost tkv opv shv wyv bdv rov rl) rl))]) (cells2 := 0) (slots2 := 0) (ci := 3) C (kX2_swapIfLess l D xo nt es ro ad cI cJ cZ ln fz sx mo sn bw tkv opv shv ldv wyv bdv ct dA sta stc fev dl dnv rov (cl x) (cl y) (f1_cost tkv opv shv wyv bdv rov rl) rl hln9 (by first | assumption | omega) (by first | assumption | omega) (by first | assumption | omega) (by first | assumption | omega)) (WB_V wk_231 wk_233 ws_11 wk_1 wk_234) (by decide +kernel) ⟨⟨rfl, rfl⟩, Nat.le_of_ble_eq_true rfl, Nat.le_of_ble_eq_true rfl⟩ [0, 1, 2, 3, 4, 5, 6, 7, 8, 9, 10, 11] [] [0, 1, 2] rfl rfl rfl (by decide) rfl 0 rfl rfl rfl rfl (Nat.le_of_ble_eq_true rfl) dX2_exchange_69 ⟨Nat.zero_le _, Nat.zero_le _⟩ rfl rfl rfl ?_
              refine gz_bif_ne C 77 dX2_exchange_72 (by decide) (fun h_7 => ?_) (fun h_7 => ?_)
              · skip
                refine gz_aload_n C 0 dX2_exchange_77 rfl ?_
                refine gz_iconst (v := nI 0) C dX2_exchange_78 (by decide) ?_
                refine gz_sw (v := .int (nI 0)) (w := .int (bI false)) (by rw [show nI 0 = bI false from (by first | rfl | decide | ((repeat' split) <;> rfl))]) ?_
                refine gz_put (ci := 3) (ws2 := (wC xo nt es ro ad cI cJ cZ ln fz false mo sn bw tkv opv shv ldv wyv bdv ct dA dA sta stc fev dl dnv (f2_swapIfLess_rov tkv opv shv wyv bdv rov (cl x) (cl y) (f1_cost tkv opv shv wyv bdv rov rl) rl))) C iwX2 0 rfl rfl 5 (by decide) wk_84 rfl tyX2 tyX2_ok nmX2 rfl rfl (bI_nar _) (bI_fit _) (Nat.le_of_ble_eq_true rfl) rfl dX2_exchange_79 ?_
                refine gz_iconst (v := nI 1) C dX2_exchange_82 (by decide) ?_
                exact gz_iret C hr hk (by first | rfl | (simp only [f2_exchange, f2_exchange_sx, f2_exchange_rov, if_pos h_1, if_pos h_2, if_neg g_3, if_neg g_4, if_neg g_5, if_neg g_6, if_pos h_7]) | (simp only [f2_exchange, f2_exchange_sx, f2_exchange_rov, if_pos h_1, if_pos h_2, if_neg g_3, if_neg g_4, if_neg g_5, if_neg g_6, if_pos h_7]; rfl)) (by first | rfl | (simp only [f2_exchange, f2_exchange_sx, f2_exchange_rov, if_pos h_1, if_pos h_2, if_neg g_3, if_neg g_4, if_neg g_5, if_neg g_6, if_pos h_7]) | (simp only [f2_exchange, f2_exchange_sx, f2_exchange_rov, if_pos h_1, if_pos h_2, if_neg g_3, if_neg g_4, if_neg g_5, if_neg g_6, if_pos h_7]; rfl)) (Nat.le_refl _) (Nat.le_refl _) dX2_exchange_83
              · have g_7 : ¬ ((f2_swapIfLess tkv opv shv wyv bdv rov (cl x) (cl y) (f1_cost tkv opv shv wyv bdv rov rl) rl) = true) := (by rw [h_7]; decide)
                refine gz_iconst (v := nI 0) C dX2_exchange_75 (by decide) ?_
                exact gz_iret C hr hk (by first | rfl | (simp only [f2_exchange, f2_exchange_sx, f2_exchange_rov, if_pos h_1, if_pos h_2, if_neg g_3, if_neg g_4, if_neg g_5, if_neg g_6, if_neg g_7]) | (simp only [f2_exchange, f2_exchange_sx, f2_exchange_rov, if_pos h_1, if_pos h_2, if_neg g_3, if_neg g_4, if_neg g_5, if_neg g_6, if_neg g_7]; rfl)) (by first | rfl | (simp only [f2_exchange, f2_exchange_sx, f2_exchange_rov, if_pos h_1, if_pos h_2, if_neg g_3, if_neg g_4, if_neg g_5, if_neg g_6, if_neg g_7]) | (simp only [f2_exchange, f2_exchange_sx, f2_exchange_rov, if_pos h_1, if_pos h_2, if_neg g_3, if_neg g_4, if_neg g_5, if_neg g_6, if_neg g_7]; rfl)) (Nat.le_refl _) (Nat.le_refl _) dX2_exchange_76
            · skip
              refine gz_bipush (v := ((-13))) C dX2_exchange_48 (by decide) ?_
              exact gz_iret C hr hk (by first | rfl | (simp only [f2_exchange, f2_exchange_sx, f2_exchange_rov, if_pos h_1, if_pos h_2, if_neg g_3, if_neg g_4, if_neg g_5, if_pos h_6]) | (simp only [f2_exchange, f2_exchange_sx, f2_exchange_rov, if_pos h_1, if_pos h_2, if_neg g_3, if_neg g_4, if_neg g_5, if_pos h_6]; rfl)) (by first | rfl | (simp only [f2_exchange, f2_exchange_sx, f2_exchange_rov, if_pos h_1, if_pos h_2, if_neg g_3, if_neg g_4, if_neg g_5, if_pos h_6]) | (simp only [f2_exchange, f2_exchange_sx, f2_exchange_rov, if_pos h_1, if_pos h_2, if_neg g_3, if_neg g_4, if_neg g_5, if_pos h_6]; rfl)) (Nat.le_refl _) (Nat.le_refl _) dX2_exchange_50
    · have g_2 : ¬ ((f2_isPlace ln y) = true) := (by rw [h_2]; decide)
      refine gz_bipush (v := ((-11))) C dX2_exchange_16 (by decide) ?_
      exact gz_iret C hr hk (by first | rfl | (simp only [f2_exchange, f2_exchange_sx, f2_exchange_rov, if_pos h_1, if_neg g_2]) | (simp only [f2_exchange, f2_exchange_sx, f2_exchange_rov, if_pos h_1, if_neg g_2]; rfl)) (by first | rfl | (simp only [f2_exchange, f2_exchange_sx, f2_exchange_rov, if_pos h_1, if_neg g_2]) | (simp only [f2_exchange, f2_exchange_sx, f2_exchange_rov, if_pos h_1, if_neg g_2]; rfl)) (Nat.le_refl _) (Nat.le_refl _) dX2_exchange_18


theorem q0_fill_f {sn : Nat} {tkv opv shv wyv : Nat → Int64} {bdv : Nat → Bool} {fev : Nat → Nat} {dl : Nat} {dnv : Nat → Int64} {rov : Nat → Nat} {z : Nat} (h : ¬ f0_fill sn tkv opv shv wyv bdv fev dl dnv rov z = true) : f0_fill_rov sn tkv opv shv wyv bdv fev dl dnv rov z = rov := by
  unfold f0_fill at h
  unfold f0_fill_rov
  split
  · rename_i c1
    rw [if_pos c1] at h
    split
    · rfl
    · rename_i c2
      rw [if_neg c2] at h
      split
      · rfl
      · rename_i c3
        rw [if_neg c3] at h
        exact absurd rfl h
  · rfl
theorem q0_fill_le {sn : Nat} {tkv opv shv wyv : Nat → Int64} {bdv : Nat → Bool} {fev : Nat → Nat} {dl : Nat} {dnv : Nat → Int64} {rov : Nat → Nat} {z : Nat} (hsn : sn ≤ 20) (hz : z ≤ sn) (hri : q_row z sn rov) (h : f0_fill sn tkv opv shv wyv bdv fev dl dnv rov z = true) : ∀ k, k < sn → f0_fill_rov sn tkv opv shv wyv bdv fev dl dnv rov z k ≤ 20 := by
  unfold f0_fill at h
  unfold f0_fill_rov
  by_cases c1 : sn - z ≤ 11
  · rw [if_pos c1] at h ⊢
    obtain ⟨hA, hB, hC⟩ := q3_free (fev := fev) hri
    obtain ⟨e1, e2⟩ := q0_free (fev := fev) hri (by omega)
    have hA9 : f0_collectFree_ct sn fev rov z + z = sn := by rw [e1]; exact hA
    have hB9 : ∀ j, j < f0_collectFree_ct sn fev rov z → f0_collectFree_fev sn fev rov z j ≤ 20 := fun j hj => by rw [e2]; rw [e1] at hj; have := (hB j hj).2.1; omega
    generalize f0_collectFree_ct sn fev rov z = CT at h hA9 hB9 ⊢
    generalize f0_collectFree_fev sn fev rov z = FE at h hB9 ⊢
    generalize f0_followFrozen_stc tkv opv shv wyv bdv rov z = SC at h ⊢
    generalize f0_reckonSets_dnv tkv opv shv wyv bdv CT (f0_followFrozen_sta tkv opv shv wyv bdv rov z) SC FE dl dnv = DN at h ⊢
    generalize f0_earliest tkv opv shv wyv bdv CT (f0_followFrozen_sta tkv opv shv wyv bdv rov z) SC FE DN (2 ^ CT - 1) 0 = HM at h ⊢
    by_cases c2 : SC = 1000000000000000
    · rw [if_pos c2] at h; cases h
    · rw [if_neg c2] at h ⊢
      by_cases c3 : HM = 1000000000000000
      · rw [if_pos c3] at h; cases h
      · rw [if_neg c3]
        intro k hk
        unfold f0_readBack_rov
        by_cases c4 : CT = 0
        · have e : z + CT - z = 0 := by omega
          rw [e]
          have := (hri.1 k (by omega)).2
          show rov k ≤ 20
          omega
        · have key : ∀ (n t b : Nat) (du : Int64) (u : Nat) (r : Nat → Nat), u = z + n → u ≤ sn → (∀ i, i < z → r i ≤ 20) → (∀ i, u ≤ i → i < sn → r i ≤ 20) → ∀ i, i < sn → (f0_readBack_lp tkv opv shv wyv bdv CT FE DN n t b du u r).2.2.2.2 i ≤ 20 := by
            intro n
            induction n with
            | zero =>
              intro t b du u r h1 h2 h3 h4 i hi
              rcases Nat.lt_or_ge i u with q | q
              · exact h3 i (by omega)
              · exact h4 i q hi
            | succ n ih =>
              intro t b du u r h1 h2 h3 h4
              unfold f0_readBack_lp
              refine ih _ _ _ _ _ (by omega) (by omega) (fun i hi => ?_) (fun i h5 h6 => ?_)
              · rw [va_up_ne _ _ (by omega)]; exact h3 i hi
              · by_cases e : i = u - 1
                · subst e; rw [va_up_self]; exact hB9 _ (q0_ll (by omega))
                · rw [va_up_ne _ _ e]; exact h4 i (by omega) h6
          exact key _ _ _ _ _ _ (by omega) (by omega) (fun i hi => by have := (hri.1 i hi).2; omega) (fun i h5 h6 => by omega) k hk
  · rw [if_neg c1] at h; cases h
theorem q2_ifs_lp {tkv opv shv wyv : Nat → Int64} {bdv : Nat → Bool} {fz sn : Nat} {r0 : Nat → Nat} (hsn : sn ≤ 20) : ∀ (n cn k : Nat) (rov : Nat → Nat), k + n = sn + 1 → (fz ≤ cn ∧ cn ≤ 20) → (∃ fe, (f3_solve_s1 fz r0 (sn + 1 - k) k (cn - fz) fe).2.1 + fz = sn) → (∀ i, i < fz → rov i = r0 i) → (∀ i, i < cn → rov i ≤ 20) →
    (f2_insertFreeStops_lp fz tkv opv shv wyv bdv n cn k rov).1 = sn ∧ ∀ i, i < sn → (f2_insertFreeStops_lp fz tkv opv shv wyv bdv n cn k rov).2.2 i ≤ 20 := by
  intro n
  induction n with
  | zero =>
    intro cn k rov h1 h2 h3 h4 h5
    obtain ⟨fe, h3⟩ := h3
    have e : sn + 1 - k = 0 := by omega
    rw [e] at h3
    have h6 : cn - fz + fz = sn := h3
    have h7 : cn = sn := by omega
    subst h7
    exact ⟨rfl, h5⟩
  | succ n ih =>
    intro cn k rov h1 h2 h3 h4 h5
    obtain ⟨a, b, c, d⟩ := q2_if_step (tkv := tkv) (opv := opv) (shv := shv) (wyv := wyv) (bdv := bdv) hsn (show k ≤ sn by omega) h2 h3 h4 h5
    exact ih _ _ _ (by omega) a b c d
theorem q2_ifs_le {tkv opv shv wyv : Nat → Int64} {bdv : Nat → Bool} {fz sn : Nat} {rov : Nat → Nat} (hsn : sn ≤ 20) (hf : fz ≤ sn) (hri : q_row fz sn rov) : ∀ i, i < sn → f2_insertFreeStops_rov fz sn tkv opv shv wyv bdv rov i ≤ 20 := by
  unfold f2_insertFreeStops_rov
  have h9 := (q3_free (fev := fun _ => 0) hri).1
  have e9 : sn + 1 - 1 = sn := by omega
  have e8 : fz - fz = 0 := by omega
  exact (q2_ifs_lp hsn sn fz 1 rov (by omega) ⟨Nat.le_refl _, by omega⟩ ⟨fun _ => 0, by rw [e9, e8]; exact h9⟩ (fun _ _ => rfl) (fun i hi => by have := (hri.1 i hi).2; omega)).2


section CIM
variable {tkv opv shv wyv : Nat → Int64} {bdv : Nat → Bool}
theorem ce_swl {rl i j : Nat} {rov : Nat → Nat} {cs : Int64} (hc : cs = f3_measure tkv opv shv wyv bdv rl rov) : f2_swapIfLess tkv opv shv wyv bdv rov i j cs rl = f3_better tkv opv shv wyv bdv rl rov i j ∧ f2_swapIfLess_rov tkv opv shv wyv bdv rov i j cs rl = f3_better_rov tkv opv shv wyv bdv rl rov i j := by
  have e1 : f2_swapIfLess tkv opv shv wyv bdv rov i j cs rl = f3_better tkv opv shv wyv bdv rl rov i j := by
    unfold f2_swapIfLess f3_better
    rw [ce_cost, q2_swap, hc]
  refine ⟨e1, ?_⟩
  rw [q3_better_r, ← e1]
  unfold f2_swapIfLess_rov f2_swapIfLess
  rw [q2_swap, q2_swap, q3_turn2]
  by_cases c : cs ≤ f1_cost tkv opv shv wyv bdv (f3_turn_rov rov i j) rl
  · simp [c]
  · simp [c]
theorem ce_impr_lp {fz rl : Nat} : ∀ (n : Nat) (cs : Int64) (i j : Nat) (us lf : Int64) (rov : Nat → Nat), cs = f3_measure tkv opv shv wyv bdv rl rov → i < j → (i + 1 < rl → j < rl) → (f2_improve_lp fz tkv opv shv wyv bdv rl n cs i j us rov).2.2.2.2 = (f3_improve_lp tkv opv shv wyv bdv fz rl n lf i j rov).2.2.2 := by
  intro n
  induction n with
  | zero => intro cs i j us lf rov _ _ _; rfl
  | succ n ih =>
    intro cs i j us lf rov hc h1 h2
    unfold f2_improve_lp f3_improve_lp
    by_cases c1 : rl ≤ j
    · rw [if_pos c1, if_pos (show rl ≤ i + 1 by omega)]
    · rw [if_neg c1, if_neg (show ¬ rl ≤ i + 1 by omega)]
      obtain ⟨e1, e2⟩ := ce_swl (i := i) (j := j) hc
      rw [e1, e2]
      by_cases c2 : f3_better tkv opv shv wyv bdv rl rov i j = true
      · simp only [if_pos c2]
        exact ih _ _ _ _ _ _ ce_cost (by omega) (by omega)
      · simp only [if_neg c2]
        have hr : f3_better_rov tkv opv shv wyv bdv rl rov i j = rov := by rw [q3_better_r, if_neg c2]
        rw [hr]
        by_cases c3 : rl ≤ j + 1
        · have c4 : j + 1 = rl := by omega
          simp only [if_pos c3, if_pos c4]
          exact ih _ _ _ _ _ _ hc (by omega) (by omega)
        · have c4 : ¬ j + 1 = rl := by omega
          simp only [if_neg c3, if_neg c4]
          exact ih _ _ _ _ _ _ hc (by omega) (by omega)
/-- exchanging: the same row -/
theorem ce_impr {fz rl : Nat} {rov : Nat → Nat} {stp : Int64} : f2_improve_rov fz tkv opv shv wyv bdv rov stp rl = f3_improve_rov tkv opv shv wyv bdv fz rl rov stp := by
  unfold f2_improve_rov f3_improve_rov
  exact ce_impr_lp _ _ _ _ _ _ _ ce_cost (by omega) (by omega)
theorem ce_s3_c {fz : Nat} {fev : Nat → Nat} : ∀ (n k rs : Nat) (r r2 : Nat → Nat), rs + n ≤ 20 → fz ≤ rs → (∀ j, j < rs → r j = r2 j) → (f3_solve_s3 tkv opv shv wyv bdv fz fev n k rs r).2.1 = rs + n ∧ (f3_solve_s3 tkv opv shv wyv bdv fz fev n k rs r2).2.1 = rs + n ∧ ∀ j, j < rs + n → (f3_solve_s3 tkv opv shv wyv bdv fz fev n k rs r).2.2 j = (f3_solve_s3 tkv opv shv wyv bdv fz fev n k rs r2).2.2 j := by
  intro n
  induction n with
  | zero => intro k rs r r2 h1 h2 h3; exact ⟨rfl, rfl, h3⟩
  | succ n ih =>
    intro k rs r r2 h1 h2 h3
    unfold f3_solve_s3
    have e : rs + (n + 1) = rs + 1 + n := by omega
    rw [e]
    exact ih (k + 1) (rs + 1) _ _ (by omega) (by omega) (ce_ins_r (by omega) h2 h3).2
/-- inserting all that are free: the same row -/
theorem ce_ifs_lp {fz sn : Nat} {r0 : Nat → Nat} (hsn : sn ≤ 20) : ∀ (n k fr : Nat) (fev rov r : Nat → Nat), k + n = sn + 1 → (f3_solve_s1 fz r0 n k fr fev).2.1 + fz = sn → (∀ i, i < fz → rov i = r0 i) → (∀ j, j < fz + fr → rov j = r j) →
    ∀ j, j < sn → (f2_insertFreeStops_lp fz tkv opv shv wyv bdv n (fz + fr) k rov).2.2 j = (f3_solve_s3 tkv opv shv wyv bdv fz (f3_solve_s1 fz r0 n k fr fev).2.2 ((f3_solve_s1 fz r0 n k fr fev).2.1 - fr) fr (fz + fr) r).2.2 j := by
  intro n
  induction n with
  | zero =>
    intro k fr fev rov r h1 h2 h3 h4 j hj
    have h5 : fr + fz = sn := h2
    have e : (f3_solve_s1 fz r0 0 k fr fev).2.1 - fr = 0 := by show fr - fr = 0; omega
    rw [e]
    exact h4 j (by omega)
  | succ n ih =>
    intro k fr fev rov r h1 h2 h3 h4
    have hh := q2_holds_c (x := k) h3
    unfold f2_insertFreeStops_lp
    rw [hh]
    by_cases c : f3_isFrozen fz r0 k = true
    · have e : f3_solve_s1 fz r0 (n + 1) k fr fev = f3_solve_s1 fz r0 n (k + 1) fr fev := by
        conv => lhs; unfold f3_solve_s1
        simp only [if_pos c]
      rw [e] at h2 ⊢
      simp only [if_pos c]
      exact ih (k + 1) fr fev rov r (by omega) h2 h3 h4
    · have e : f3_solve_s1 fz r0 (n + 1) k fr fev = f3_solve_s1 fz r0 n (k + 1) (fr + 1) (va_up fev fr k) := by
        conv => lhs; unfold f3_solve_s1
        simp only [if_neg c]
      rw [e] at h2 ⊢
      simp only [if_neg c]
      have hm := (q3_s1_mono (z := fz) (rov := r0) n (k + 1) (fr + 1) (va_up fev fr k)).1
      have hk : (f3_solve_s1 fz r0 n (k + 1) (fr + 1) (va_up fev fr k)).2.2 fr = k := by
        rw [q3_s1_keep _ _ _ _ fr (by omega), va_up_self]
      have e2 : (f3_solve_s1 fz r0 n (k + 1) (fr + 1) (va_up fev fr k)).2.1 - fr = ((f3_solve_s1 fz r0 n (k + 1) (fr + 1) (va_up fev fr k)).2.1 - (fr + 1)) + 1 := by omega
      rw [e2]
      obtain ⟨_, _, _, a4⟩ := ce_insert (tkv := tkv) (opv := opv) (shv := shv) (wyv := wyv) (bdv := bdv) (co := fz + fr) (x := k) (fz := fz) (r := rov) (by omega) (by omega)
      have a5 := (ce_ins_r (tkv := tkv) (opv := opv) (shv := shv) (wyv := wyv) (bdv := bdv) (co := fz + fr) (x := k) (fz := fz) (by omega) (by omega) h4).2
      have h6 := ih (k + 1) (fr + 1) (va_up fev fr k) (f2_insert_rov fz tkv opv shv wyv bdv rov k (fz + fr)) (f3_insert_rov tkv opv shv wyv bdv fz (fz + fr) r k) (by omega) h2 (fun i hi => ?_) (fun j hj => by rw [a4 j (by omega)]; exact a5 j (by omega))
      · intro j hj
        have h7 := h6 j hj
        rw [show fz + (fr + 1) = fz + fr + 1 by omega] at h7
        rw [h7]
        show _ = (f3_solve_s3 tkv opv shv wyv bdv fz _ _ (fr + 1) (fz + fr + 1) (f3_insert_rov tkv opv shv wyv bdv fz (fz + fr) r ((f3_solve_s1 fz r0 n (k + 1) (fr + 1) (va_up fev fr k)).2.2 fr))).2.2 j
        rw [hk]
      · rw [a4 i (by omega)]
        obtain ⟨r1, pl, p1, p2, e1, _, e3⟩ := q3_insert (tkv := tkv) (opv := opv) (shv := shv) (wyv := wyv) (bdv := bdv) (x := k) (rs := fz + fr) (fz := fz) (by omega) (by omega) rov
        rw [e3, q3_putIn p2, if_neg (by omega), if_neg (by omega), e1 i (by omega)]
        exact h3 i hi
theorem ce_ifs {fz sn : Nat} {rov r : Nat → Nat} {fev : Nat → Nat} (hsn : sn ≤ 20) (hri : q_row fz sn rov) (hr : ∀ j, j < fz → r j = rov j) : ∀ j, j < sn → f2_insertFreeStops_rov fz sn tkv opv shv wyv bdv rov j = (f3_solve_s3 tkv opv shv wyv bdv fz (f3_solve_s1 fz rov sn 1 0 fev).2.2 (f3_solve_s1 fz rov sn 1 0 fev).2.1 0 fz r).2.2 j := by
  have h := ce_ifs_lp (tkv := tkv) (opv := opv) (shv := shv) (wyv := wyv) (bdv := bdv) (r0 := rov) hsn sn 1 0 fev rov r (by omega) (q3_free (fev := fev) hri).1 (fun _ _ => rfl) (fun j hj => (hr j (by omega)).symm)
  exact h
/-- so the row is one without doubles -/
theorem qr_ifs {fz sn : Nat} {rov : Nat → Nat} (hsn : sn ≤ 20) (hri : q_row fz sn rov) : q_row sn sn (f2_insertFreeStops_rov fz sn tkv opv shv wyv bdv rov) ∧ ∀ i, i < fz → f2_insertFreeStops_rov fz sn tkv opv shv wyv bdv rov i = rov i := by
  obtain ⟨a, b, c⟩ := q3_ins_row (tkv := tkv) (opv := opv) (shv := shv) (wyv := wyv) (bdv := bdv) (rov := rov) (fev0 := fun _ => 0) hsn hri
  have hf := (q3_free (fev := fun _ => 0) hri).1
  have h := ce_ifs (tkv := tkv) (opv := opv) (shv := shv) (wyv := wyv) (bdv := bdv) (fev := fun _ => 0) (r := (f3_solve_s2 rov fz 0 rov).2) hsn hri (fun j hj => by rw [q3_s2, if_pos (by omega)])
  exact ⟨qr_ext h b, fun i hi => by rw [h i (by omega)]; exact c i hi⟩
end CIM

