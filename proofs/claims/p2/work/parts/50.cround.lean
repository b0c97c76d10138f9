theorem q1_stop {sn : Nat} {x : Int32} (h : f1_isStop sn x = true) (hs : sn ≤ 20) : x = nI (cl x) ∧ 1 ≤ cl x ∧ cl x ≤ sn := q3_stop (sn := sn) (x := x) h hs
theorem q1_point {sn : Nat} {x : Int32} (h : f1_isPoint sn x = true) (hs : sn ≤ 20) : x = nI (cl x) ∧ cl x ≤ sn := by
  unfold f1_isPoint at h
  by_cases c : x = 0
  · subst c; exact ⟨rfl, Nat.zero_le _⟩
  · rw [if_neg c] at h
    by_cases c2 : f1_isStop sn x = true
    · have := q1_stop c2 hs
      exact ⟨this.1, this.2.2⟩
    · simp [c2] at h

def f2_isSeconds (t : Int64) : Bool := (if t < 0 then false else (if 100000 < t then false else true))
set_option maxRecDepth 100000 in
set_option maxHeartbeats 4000000 in
theorem kX2_isSeconds (l : Launch) (D : va_G) (xo : Nat) (nt : Nat) (es : Nat) (ro : Nat) (ad : Nat → Nat) (cI : ClassId) (cJ : ClassId) (cZ : ClassId) (ln : Int32) (fz : Nat) (sx : Bool) (mo : Int32) (sn : Nat) (bw : Int32) (tkv : Nat → Int64) (opv : Nat → Int64) (shv : Nat → Int64) (ldv : Nat → Int32) (wyv : Nat → Int64) (bdv : Nat → Bool) (ct : Nat) (dA : Nat) (sta : Nat) (stc : Int64) (fev : Nat → Nat) (dl : Nat) (dnv : Nat → Int64) (rov : Nat → Nat) (t : Int64)  : gz_M l yX2_isSeconds cX2_isSeconds 2 (some .boolean) ({ frames := 0, cells := 0, slots := 0, locals := 0 } : Room) D [(cI, .int), (cJ, .long), (cZ, .boolean)] [.long t] (wC xo nt es ro ad cI cJ cZ ln fz sx mo sn bw tkv opv shv ldv wyv bdv ct dA dA sta stc fev dl dnv rov) (some (.int (bI (f2_isSeconds t)))) (wC xo nt es ro ad cI cJ cZ ln fz sx mo sn bw tkv opv shv ldv wyv bdv ct dA dA sta stc fev dl dnv rov) 0 0 := by
  refine gz_met l (by decide) (Nat.le_of_ble_eq_true rfl) [(0, .long t)] rfl ?_
  intro sz p e s m args below meth c C hr hk hnm
  have C : gz_C p s m args c cX2_isSeconds 2 RX2 D [(cI, .int), (cJ, .long), (cZ, .boolean)] (va_A (wC xo nt es ro ad cI cJ cZ ln fz sx mo sn bw tkv opv shv ldv wyv bdv ct dA dA sta stc fev dl dnv rov) sz) := C
  refine gz_lload_n C 0 dX2_isSeconds_0 rfl ?_
  refine gz_lconst (v := 0) C dX2_isSeconds_1 (by decide) ?_
  refine gz_J (ws2 := (wC xo nt es ro ad cI cJ cZ ln fz sx mo sn bw tkv opv shv ldv wyv bdv ct dA dA sta stc fev dl dnv rov)) (lv2 := [(0, .long t)]) (st2 := [.int (nI ((if t < 0 then 0 else (if 100000 < t then 0 else 1))))]) (pc2 := 19) ?_ (fun J_1 => ?_)
  rotate_left
  · refine gz_lcmp_lt C 18 dX2_isSeconds_2 dX2_isSeconds_3 (by decide) (fun h_1 => ?_) (fun h_1 => ?_)
    · skip
      refine gz_iconst (v := nI 0) C dX2_isSeconds_18 (by decide) ?_
      simp only [if_pos h_1] at J_1 ⊢
      exact gz_lv [0] rfl J_1
    · have g_1 : ¬ (t < 0) := h_1
      refine gz_lload_n C 0 dX2_isSeconds_6 rfl ?_
      refine gz_ldc2 (v := 100000) C wk_108 dX2_isSeconds_7 ?_
      refine gz_J (ws2 := (wC xo nt es ro ad cI cJ cZ ln fz sx mo sn bw tkv opv shv ldv wyv bdv ct dA dA sta stc fev dl dnv rov)) (lv2 := [(0, .long t)]) (st2 := [.int (nI ((if 100000 < t then 0 else 1)))]) (pc2 := 19) ?_ (fun J_2 => ?_)
      rotate_left
      · refine gz_lcmp_gt C 18 dX2_isSeconds_10 dX2_isSeconds_11 (by decide) (fun h_2 => ?_) (fun h_2 => ?_)
        · skip
          refine gz_iconst (v := nI 0) C dX2_isSeconds_18 (by decide) ?_
          simp only [if_pos h_2] at J_2 ⊢
          exact gz_lv [0] rfl J_2
        · have g_2 : ¬ (100000 < t) := h_2
          refine gz_iconst (v := nI 1) C dX2_isSeconds_14 (by decide) ?_
          refine gz_goto C 19 dX2_isSeconds_15 (by decide) ?_
          simp only [if_neg g_2] at J_2 ⊢
          exact gz_lv [0] rfl J_2
      simp only [if_neg g_1] at J_1 ⊢
      exact gz_lv [0] rfl J_1
  refine gz_sw (v := .int (nI ((if t < 0 then 0 else (if 100000 < t then 0 else 1))))) (w := .int (bI ((if t < 0 then false else (if 100000 < t then false else true))))) (by rw [show nI ((if t < 0 then 0 else (if 100000 < t then 0 else 1))) = bI ((if t < 0 then false else (if 100000 < t then false else true))) from (by first | rfl | decide | ((repeat' split) <;> rfl))]) ?_
  exact gz_zret C hr hk (bI_nar _) (by first | rfl | (simp only [f2_isSeconds]) | (simp only [f2_isSeconds]; rfl)) rfl (Nat.le_refl _) (Nat.le_refl _) dX2_isSeconds_19

def f2_isPlace (ln : Int32) (x : Int32) : Bool := (if x < 0 then false else (if ln = (((-1))) then true else (if ln ≤ x then false else true)))
set_option maxRecDepth 100000 in
set_option maxHeartbeats 4000000 in
theorem kX2_isPlace (l : Launch) (D : va_G) (xo : Nat) (nt : Nat) (es : Nat) (ro : Nat) (ad : Nat → Nat) (cI : ClassId) (cJ : ClassId) (cZ : ClassId) (ln : Int32) (fz : Nat) (sx : Bool) (mo : Int32) (sn : Nat) (bw : Int32) (tkv : Nat → Int64) (opv : Nat → Int64) (shv : Nat → Int64) (ldv : Nat → Int32) (wyv : Nat → Int64) (bdv : Nat → Bool) (ct : Nat) (dA : Nat) (sta : Nat) (stc : Int64) (fev : Nat → Nat) (dl : Nat) (dnv : Nat → Int64) (rov : Nat → Nat) (x : Int32)  : gz_M l yX2_isPlace cX2_isPlace 2 (some .boolean) ({ frames := 0, cells := 0, slots := 0, locals := 0 } : Room) D [(cI, .int), (cJ, .long), (cZ, .boolean)] [.ref xo, .int x] (wC xo nt es ro ad cI cJ cZ ln fz sx mo sn bw tkv opv shv ldv wyv bdv ct dA dA sta stc fev dl dnv rov) (some (.int (bI (f2_isPlace ln x)))) (wC xo nt es ro ad cI cJ cZ ln fz sx mo sn bw tkv opv shv ldv wyv bdv ct dA dA sta stc fev dl dnv rov) 0 0 := by
  refine gz_met l (by decide) (Nat.le_of_ble_eq_true rfl) [(0, .ref xo), (1, .int x)] rfl ?_
  intro sz p e s m args below meth c C hr hk hnm
  have C : gz_C p s m args c cX2_isPlace 2 RX2 D [(cI, .int), (cJ, .long), (cZ, .boolean)] (va_A (wC xo nt es ro ad cI cJ cZ ln fz sx mo sn bw tkv opv shv ldv wyv bdv ct dA dA sta stc fev dl dnv rov) sz) := C
  refine gz_iload_n C 1 dX2_isPlace_0 rfl ?_
  refine gz_J (ws2 := (wC xo nt es ro ad cI cJ cZ ln fz sx mo sn bw tkv opv shv ldv wyv bdv ct dA dA sta stc fev dl dnv rov)) (lv2 := [(0, .ref xo), (1, .int x)]) (st2 := [.int (nI ((if x < 0 then 0 else (if ln = (((-1))) then 1 else (if ln ≤ x then 0 else 1)))))]) (pc2 := 25) ?_ (fun J_1 => ?_)
  rotate_left
  · refine gz_if_lt C 24 dX2_isPlace_1 (by decide) (fun h_1 => ?_) (fun h_1 => ?_)
    · skip
      refine gz_iconst (v := nI 0) C dX2_isPlace_24 (by decide) ?_
      simp only [if_pos h_1] at J_1 ⊢
      exact gz_lv [0, 1] rfl J_1
    · have g_1 : ¬ (x < 0) := h_1
      refine gz_aload_n C 0 dX2_isPlace_4 rfl ?_
      refine gz_get (ci := 3) C iwX2 0 rfl rfl 3 (by decide) wk_82 rfl rfl dX2_isPlace_5 ?_
      refine gz_iconst (v := ((-1))) C dX2_isPlace_8 (by decide) ?_
      refine gz_J (ws2 := (wC xo nt es ro ad cI cJ cZ ln fz sx mo sn bw tkv opv shv ldv wyv bdv ct dA dA sta stc fev dl dnv rov)) (lv2 := [(0, .ref xo), (1, .int x)]) (st2 := [.int (nI ((if ln = (((-1))) then 1 else (if ln ≤ x then 0 else 1))))]) (pc2 := 25) ?_ (fun J_2 => ?_)
      rotate_left
      · refine gz_icmp_eq C 20 dX2_isPlace_9 (by decide) (fun h_2 => ?_) (fun h_2 => ?_)
        · skip
          refine gz_iconst (v := nI 1) C dX2_isPlace_20 (by decide) ?_
          refine gz_goto C 25 dX2_isPlace_21 (by decide) ?_
          simp only [if_pos h_2] at J_2 ⊢
          exact gz_lv [0, 1] rfl J_2
        · have g_2 : ¬ (ln = (((-1)))) := h_2
          refine gz_iload_n C 1 dX2_isPlace_12 rfl ?_
          refine gz_aload_n C 0 dX2_isPlace_13 rfl ?_
          refine gz_get (ci := 3) C iwX2 0 rfl rfl 3 (by decide) wk_82 rfl rfl dX2_isPlace_14 ?_
          refine gz_J (ws2 := (wC xo nt es ro ad cI cJ cZ ln fz sx mo sn bw tkv opv shv ldv wyv bdv ct dA dA sta stc fev dl dnv rov)) (lv2 := [(0, .ref xo), (1, .int x)]) (st2 := [.int (nI ((if ln ≤ x then 0 else 1)))]) (pc2 := 25) ?_ (fun J_3 => ?_)
          rotate_left
          · refine gz_icmp_ge C 24 dX2_isPlace_17 (by decide) (fun h_3 => ?_) (fun h_3 => ?_)
            · skip
              refine gz_iconst (v := nI 0) C dX2_isPlace_24 (by decide) ?_
              simp only [if_pos h_3] at J_3 ⊢
              exact gz_lv [0, 1] rfl J_3
            · have g_3 : ¬ (ln ≤ x) := h_3
              refine gz_iconst (v := nI 1) C dX2_isPlace_20 (by decide) ?_
              refine gz_goto C 25 dX2_isPlace_21 (by decide) ?_
              simp only [if_neg g_3] at J_3 ⊢
              exact gz_lv [0, 1] rfl J_3
          simp only [if_neg g_2] at J_2 ⊢
          exact gz_lv [0, 1] rfl J_2
      simp only [if_neg g_1] at J_1 ⊢
      exact gz_lv [0, 1] rfl J_1
  refine gz_sw (v := .int (nI ((if x < 0 then 0 else (if ln = (((-1))) then 1 else (if ln ≤ x then 0 else 1)))))) (w := .int (bI ((if x < 0 then false else (if ln = (((-1))) then true else (if ln ≤ x then false else true)))))) (by rw [show nI ((if x < 0 then 0 else (if ln = (((-1))) then 1 else (if ln ≤ x then 0 else 1)))) = bI ((if x < 0 then false else (if ln = (((-1))) then true else (if ln ≤ x then false else true)))) from (by first | rfl | decide | ((repeat' split) <;> rfl))]) ?_
  exact gz_zret C hr hk (bI_nar _) (by first | rfl | (simp only [f2_isPlace]) | (simp only [f2_isPlace]; rfl)) rfl (Nat.le_refl _) (Nat.le_refl _) dX2_isPlace_25

def f2_swap_rov (rov : Nat → Nat) (i : Nat) (j : Nat) : Nat → Nat := va_up (va_up rov i (rov j)) j (rov i)
set_option maxRecDepth 100000 in
set_option maxHeartbeats 4000000 in
theorem kX2_swap (l : Launch) (D : va_G) (xo : Nat) (nt : Nat) (es : Nat) (ro : Nat) (ad : Nat → Nat) (cI : ClassId) (cJ : ClassId) (cZ : ClassId) (ln : Int32) (fz : Nat) (sx : Bool) (mo : Int32) (sn : Nat) (bw : Int32) (tkv : Nat → Int64) (opv : Nat → Int64) (shv : Nat → Int64) (ldv : Nat → Int32) (wyv : Nat → Int64) (bdv : Nat → Bool) (ct : Nat) (dA : Nat) (sta : Nat) (stc : Int64) (fev : Nat → Nat) (dl : Nat) (dnv : Nat → Int64) (rov : Nat → Nat) (i : Nat) (j : Nat) (hi : i < 20) (hj : j < 20) : gz_M l yX2_swap cX2_swap 4 none ({ frames := 0, cells := 0, slots := 0, locals := 0 } : Room) D [(cI, .int), (cJ, .long), (cZ, .boolean)] [.ref xo, .int (nI i), .int (nI j)] (wC xo nt es ro ad cI cJ cZ ln fz sx mo sn bw tkv opv shv ldv wyv bdv ct dA dA sta stc fev dl dnv rov) (none) (wC xo nt es ro ad cI cJ cZ ln fz sx mo sn bw tkv opv shv ldv wyv bdv ct dA dA sta stc fev dl dnv (f2_swap_rov rov i j)) 0 0 := by
  refine gz_met l (by decide) (Nat.le_of_ble_eq_true rfl) [(0, .ref xo), (1, .int (nI i)), (2, .int (nI j))] rfl ?_
  intro sz p e s m args below meth c C hr hk hnm
  have C : gz_C p s m args c cX2_swap 4 RX2 D [(cI, .int), (cJ, .long), (cZ, .boolean)] (va_A (wC xo nt es ro ad cI cJ cZ ln fz sx mo sn bw tkv opv shv ldv wyv bdv ct dA dA sta stc fev dl dnv rov) sz) := C
  refine gz_aload_n C 0 dX2_swap_0 rfl ?_
  refine gz_get (ci := 3) C iwX2 0 rfl rfl 2 (by decide) wk_81 rfl rfl dX2_swap_1 ?_
  refine gz_iload_n C 1 dX2_swap_4 rfl ?_
  refine gz_iald C 11 0 rfl rfl (by omega) (by decide) dX2_swap_5 ?_
  refine gz_istore_n (lv2 := [(3, .int (nI (rov i))), (0, .ref xo), (1, .int (nI i)), (2, .int (nI j))]) C dX2_swap_6 (by decide) rfl ?_
  refine gz_aload_n C 1 dX2_swap_7 rfl ?_
  refine gz_get (ci := 3) C iwX2 0 rfl rfl 2 (by decide) wk_81 rfl rfl dX2_swap_8 ?_
  refine gz_iload_n C 2 dX2_swap_11 rfl ?_
  refine gz_aload_n C 1 dX2_swap_12 rfl ?_
  refine gz_get (ci := 3) C iwX2 0 rfl rfl 2 (by decide) wk_81 rfl rfl dX2_swap_13 ?_
  refine gz_iload_n C 3 dX2_swap_16 rfl ?_
  refine gz_iald C 11 0 rfl rfl (by omega) (by decide) dX2_swap_17 ?_
  refine gz_iast (ws2 := (wC xo nt es ro ad cI cJ cZ ln fz sx mo sn bw tkv opv shv ldv wyv bdv ct dA dA sta stc fev dl dnv (va_up rov i (rov j)))) C 11 0 rfl rfl (by omega) (by decide) rfl dX2_swap_18 ?_
  refine gz_aload_n C 1 dX2_swap_19 rfl ?_
  refine gz_get (ci := 3) C iwX2 0 rfl rfl 2 (by decide) wk_81 rfl rfl dX2_swap_20 ?_
  refine gz_iload_n C 3 dX2_swap_23 rfl ?_
  refine gz_iload_n C 0 dX2_swap_24 rfl ?_
  refine gz_iast (ws2 := (wC xo nt es ro ad cI cJ cZ ln fz sx mo sn bw tkv opv shv ldv wyv bdv ct dA dA sta stc fev dl dnv (va_up (va_up rov i (rov j)) j (rov i)))) C 11 0 rfl rfl (by omega) (by decide) rfl dX2_swap_25 ?_
  exact gz_vret C hr hk (by first | rfl | (simp only [f2_swap_rov]) | (simp only [f2_swap_rov]; rfl)) (by first | rfl | (simp only [f2_swap_rov]) | (simp only [f2_swap_rov]; rfl)) (Nat.le_refl _) (Nat.le_refl _) dX2_swap_26

def f2_stop (sn : Nat) (ta : Int64) (tb : Int64) (tc : Int64) : Int32 := (if (f2_isSeconds ta) = true then (if tb < 0 then (-12) else (if tc < tb then (-12) else (if tc ≤ 1000000 then (if sn < 20 then f1_append sn else (-14)) else (-12)))) else (-12))
def f2_stop_ln (ln : Int32) (sn : Nat) (ta : Int64) (tb : Int64) (tc : Int64) : Int32 := (if (f2_isSeconds ta) = true then (if tb < 0 then ln else (if tc < tb then ln else (if tc ≤ 1000000 then (if sn < 20 then (-1) else ln) else ln))) else ln)
def f2_stop_sx (sx : Bool) (sn : Nat) (ta : Int64) (tb : Int64) (tc : Int64) : Bool := (if (f2_isSeconds ta) = true then (if tb < 0 then sx else (if tc < tb then sx else (if tc ≤ 1000000 then (if sn < 20 then false else sx) else sx))) else sx)
def f2_stop_sn (sn : Nat) (ta : Int64) (tb : Int64) (tc : Int64) : Nat := (if (f2_isSeconds ta) = true then (if tb < 0 then sn else (if tc < tb then sn else (if tc ≤ 1000000 then (if sn < 20 then f1_append_sn sn else sn) else sn))) else sn)
def f2_stop_tkv (sn : Nat) (tkv : Nat → Int64) (ta : Int64) (tb : Int64) (tc : Int64) : Nat → Int64 := (if (f2_isSeconds ta) = true then (if tb < 0 then tkv else (if tc < tb then tkv else (if tc ≤ 1000000 then (if sn < 20 then f1_append_tkv sn tkv ta else tkv) else tkv))) else tkv)
def f2_stop_opv (sn : Nat) (opv : Nat → Int64) (ta : Int64) (tb : Int64) (tc : Int64) : Nat → Int64 := (if (f2_isSeconds ta) = true then (if tb < 0 then opv else (if tc < tb then opv else (if tc ≤ 1000000 then (if sn < 20 then f1_append_opv sn opv tb else opv) else opv))) else opv)
def f2_stop_shv (sn : Nat) (shv : Nat → Int64) (ta : Int64) (tb : Int64) (tc : Int64) : Nat → Int64 := (if (f2_isSeconds ta) = true then (if tb < 0 then shv else (if tc < tb then shv else (if tc ≤ 1000000 then (if sn < 20 then f1_append_shv sn shv tc else shv) else shv))) else shv)
set_option maxRecDepth 100000 in
set_option maxHeartbeats 4000000 in
theorem kX2_stop (l : Launch) (D : va_G) (xo : Nat) (nt : Nat) (es : Nat) (ro : Nat) (ad : Nat → Nat) (cI : ClassId) (cJ : ClassId) (cZ : ClassId) (ln : Int32) (fz : Nat) (sx : Bool) (mo : Int32) (sn : Nat) (bw : Int32) (tkv : Nat → Int64) (opv : Nat → Int64) (shv : Nat → Int64) (ldv : Nat → Int32) (wyv : Nat → Int64) (bdv : Nat → Bool) (ct : Nat) (dA : Nat) (sta : Nat) (stc : Int64) (fev : Nat → Nat) (dl : Nat) (dnv : Nat → Int64) (rov : Nat → Nat) (ta : Int64) (tb : Int64) (tc : Int64) (hsn : sn ≤ 20) : gz_M l yX2_stop cX2_stop 7 (some .int) ({ frames := 1, cells := 0, slots := 0, locals := 26 } : Room) D [(cI, .int), (cJ, .long), (cZ, .boolean)] [.ref xo, .long ta, .long tb, .long tc] (wC xo nt es ro ad cI cJ cZ ln fz sx mo sn bw tkv opv shv ldv wyv bdv ct dA dA sta stc fev dl dnv rov) (some (.int (f2_stop sn ta tb tc))) (wC xo nt es ro ad cI cJ cZ (f2_stop_ln ln sn ta tb tc) fz (f2_stop_sx sx sn ta tb tc) mo (f2_stop_sn sn ta tb tc) bw (f2_stop_tkv sn tkv ta tb tc) (f2_stop_opv sn opv ta tb tc) (f2_stop_shv sn shv ta tb tc) ldv wyv bdv ct dA dA sta stc fev dl dnv rov) 0 0 := by
  refine gz_met l (by decide) (Nat.le_of_ble_eq_true rfl) [(0, .ref xo), (1, .long ta), (3, .long tb), (5, .long tc)] rfl ?_
  intro sz p e s m args below meth c C hr hk hnm
  have C : gz_C p s m args c cX2_stop 7 RX2 D [(cI, .int), (cJ, .long), (cZ, .boolean)] (va_A (wC xo nt es ro ad cI cJ cZ ln fz sx mo sn bw tkv opv shv ldv wyv bdv ct dA dA sta stc fev dl dnv rov) sz) := C
  refine gz_lload_n C 1 dX2_stop_0 rfl ?_
  refine gz_callS (wr := []) (n := 1) (ws2 := (wC xo nt es ro ad cI cJ cZ ln fz sx mo sn bw tkv opv shv ldv wyv bdv ct dA dA sta stc fev dl dnv rov)) (st2 := [.int (bI (f2_isSeconds ta))]) (cells2 := 0) (slots2 := 0) C (kX2_isSeconds l D xo nt es ro ad cI cJ cZ ln fz sx mo sn bw tkv opv shv ldv wyv bdv ct dA sta stc fev dl dnv rov ta ) (WB_S wk_105 wk_106 wk_1 wk_107) (by decide +kernel) ⟨⟨rfl, rfl⟩, Nat.le_of_ble_eq_true rfl, Nat.le_of_ble_eq_true rfl⟩ [0, 1, 2, 3, 4, 5, 6, 7, 8, 9, 10, 11] [] [0, 1, 2] rfl rfl rfl (by decide) rfl rfl rfl (Nat.le_of_ble_eq_true rfl) dX2_stop_1 ⟨Nat.zero_le _, Nat.zero_le _⟩ rfl rfl rfl ?_
  refine gz_bif_eq C 29 dX2_stop_4 (by decide) (fun h_1 => ?_) (fun h_1 => ?_)
  · have g_1 : ¬ ((f2_isSeconds ta) = true) := (by rw [h_1]; decide)
    refine gz_bipush (v := ((-12))) C dX2_stop_29 (by decide) ?_
    exact gz_iret C hr hk (by first | rfl | (simp only [f2_stop, f2_stop_ln, f2_stop_sx, f2_stop_sn, f2_stop_tkv, f2_stop_opv, f2_stop_shv, if_neg g_1]) | (simp only [f2_stop, f2_stop_ln, f2_stop_sx, f2_stop_sn, f2_stop_tkv, f2_stop_opv, f2_stop_shv, if_neg g_1]; rfl)) (by first | rfl | (simp only [f2_stop, f2_stop_ln, f2_stop_sx, f2_stop_sn, f2_stop_tkv, f2_stop_opv, f2_stop_shv, if_neg g_1]) | (simp only [f2_stop, f2_stop_ln, f2_stop_sx, f2_stop_sn, f2_stop_tkv, f2_stop_opv, f2_stop_shv, if_neg g_1]; rfl)) (Nat.le_refl _) (Nat.le_refl _) dX2_stop_31
  · skip
    refine gz_lload_n C 2 dX2_stop_7 rfl ?_
    refine gz_lconst (v := 0) C dX2_stop_8 (by decide) ?_
    refine gz_lcmp_lt C 29 dX2_stop_9 dX2_stop_10 (by decide) (fun h_2 => ?_) (fun h_2 => ?_)
    · skip
      refine gz_bipush (v := ((-12))) C dX2_stop_29 (by decide) ?_
      exact gz_iret C hr hk (by first | rfl | (simp only [f2_stop, f2_stop_ln, f2_stop_sx, f2_stop_sn, f2_stop_tkv, f2_stop_opv, f2_stop_shv, if_pos h_1, if_pos h_2]) | (simp only [f2_stop, f2_stop_ln, f2_stop_sx, f2_stop_sn, f2_stop_tkv, f2_stop_opv, f2_stop_shv, if_pos h_1, if_pos h_2]; rfl)) (by first | rfl | (simp only [f2_stop, f2_stop_ln, f2_stop_sx, f2_stop_sn, f2_stop_tkv, f2_stop_opv, f2_stop_shv, if_pos h_1, if_pos h_2]) | (simp only [f2_stop, f2_stop_ln, f2_stop_sx, f2_stop_sn, f2_stop_tkv, f2_stop_opv, f2_stop_shv, if_pos h_1, if_pos h_2]; rfl)) (Nat.le_refl _) (Nat.le_refl _) dX2_stop_31
    · have g_2 : ¬ (tb < 0) := h_2
      refine gz_lload_n C 2 dX2_stop_13 rfl ?_
      refine gz_lload C 3 dX2_stop_14 rfl ?_
      refine gz_lcmp_gt C 29 dX2_stop_16 dX2_stop_17 (by decide) (fun h_3 => ?_) (fun h_3 => ?_)
      · skip
        refine gz_bipush (v := ((-12))) C dX2_stop_29 (by decide) ?_
        exact gz_iret C hr hk (by first | rfl | (simp only [f2_stop, f2_stop_ln, f2_stop_sx, f2_stop_sn, f2_stop_tkv, f2_stop_opv, f2_stop_shv, if_pos h_1, if_neg g_2, if_pos h_3]) | (simp only [f2_stop, f2_stop_ln, f2_stop_sx, f2_stop_sn, f2_stop_tkv, f2_stop_opv, f2_stop_shv, if_pos h_1, if_neg g_2, if_pos h_3]; rfl)) (by first | rfl | (simp only [f2_stop, f2_stop_ln, f2_stop_sx, f2_stop_sn, f2_stop_tkv, f2_stop_opv, f2_stop_shv, if_pos h_1, if_neg g_2, if_pos h_3]) | (simp only [f2_stop, f2_stop_ln, f2_stop_sx, f2_stop_sn, f2_stop_tkv, f2_stop_opv, f2_stop_shv, if_pos h_1, if_neg g_2, if_pos h_3]; rfl)) (Nat.le_refl _) (Nat.le_refl _) dX2_stop_31
      · have g_3 : ¬ (tc < tb) := h_3
        refine gz_lload C 3 dX2_stop_20 rfl ?_
        refine gz_ldc2 (v := 1000000) C wk_109 dX2_stop_22 ?_
        refine gz_lcmp_le C 32 dX2_stop_25 dX2_stop_26 (by decide) (fun h_4 => ?_) (fun h_4 => ?_)
        · skip
          refine gz_aload_n C 0 dX2_stop_32 rfl ?_
          refine gz_get (ci := 3) C iwX2 0 rfl rfl 0 (by decide) wk_79 rfl rfl dX2_stop_33 ?_
          refine gz_getN (ci := 2) C iwX1 1 rfl rfl 0 (by decide) (nw_1 C.2.2.2.2.2.2.2) rfl rfl dX2_stop_36 ?_
          refine gz_bipush (v := nI 20) C dX2_stop_39 (by decide) ?_
          refine gz_ncmp_lt C 47 (by omega) (by omega) dX2_stop_41 (by decide) (fun h_5 => ?_) (fun h_5 => ?_)
          · skip
            refine gz_aload_n C 0 dX2_stop_47 rfl ?_
            refine gz_iconst (v := ((-1))) C dX2_stop_48 (by decide) ?_
            refine gz_put (ci := 3) (ws2 := (wC xo nt es ro ad cI cJ cZ ((-1)) fz sx mo sn bw tkv opv shv ldv wyv bdv ct dA dA sta stc fev dl dnv rov)) C iwX2 0 rfl rfl 3 (by decide) wk_82 rfl tyX2 tyX2_ok nmX2 rfl rfl rfl rfl (Nat.le_of_ble_eq_true rfl) rfl dX2_stop_49 ?_
            refine gz_aload_n C 0 dX2_stop_52 rfl ?_
            refine gz_iconst (v := nI 0) C dX2_stop_53 (by decide) ?_
            refine gz_sw (v := .int (nI 0)) (w := .int (bI false)) (by rw [show nI 0 = bI false from (by first | rfl | decide | ((repeat' split) <;> rfl))]) ?_
            refine gz_put (ci := 3) (ws2 := (wC xo nt es ro ad cI cJ cZ ((-1)) fz false mo sn bw tkv opv shv ldv wyv bdv ct dA dA sta stc fev dl dnv rov)) C iwX2 0 rfl rfl 5 (by decide) wk_84 rfl tyX2 tyX2_ok nmX2 rfl rfl (bI_nar _) (bI_fit _) (Nat.le_of_ble_eq_true rfl) rfl dX2_stop_54 ?_
            refine gz_aload_n C 0 dX2_stop_57 rfl ?_
            refine gz_get (ci := 3) C iwX2 0 rfl rfl 0 (by decide) wk_79 rfl rfl dX2_stop_58 ?_
            refine gz_lload_n C 1 dX2_stop_61 rfl ?_
            refine gz_lload_n C 2 dX2_stop_62 rfl ?_
            refine gz_lload C 3 dX2_stop_63 rfl ?_
            refine gz_callV (wr := []) (n := 3) (ws2 := (wC xo nt es ro ad cI cJ cZ ((-1)) fz false mo (f1_append_sn sn) bw (f1_append_tkv sn tkv ta) (f1_append_opv sn opv tb) (f1_append_shv sn shv tc) ldv wyv bdv ct dA dA sta stc fev dl dnv rov)) (st2 := [.int (f1_append sn)]) (cells2 := 0) (slots2 := 0) (ci := 2) C (kX1_append l D xo nt es ro ad cI cJ cZ ((-1)) fz false mo sn bw tkv opv shv ldv wyv bdv ct dA sta stc fev dl dnv rov ta tb tc (by first | assumption | omega)) (WB_V wk_110 wk_111 wk_112 wk_2 wk_113) (by decide +kernel) ⟨⟨rfl, rfl⟩, Nat.le_of_ble_eq_true rfl, Nat.le_of_ble_eq_true rfl⟩ [0, 1, 2, 3, 4, 5, 6, 7, 8, 9, 10, 11] [] [0, 1, 2] rfl rfl rfl (by decide) rfl 1 rfl rfl rfl rfl (Nat.le_of_ble_eq_true rfl) dX2_stop_65 ⟨Nat.zero_le _, Nat.zero_le _⟩ rfl rfl rfl ?_
            exact gz_iret C hr hk (by first | rfl | (simp only [f2_stop, f2_stop_ln, f2_stop_sx, f2_stop_sn, f2_stop_tkv, f2_stop_opv, f2_stop_shv, if_pos h_1, if_neg g_2, if_neg g_3, if_pos h_4, if_pos h_5]) | (simp only [f2_stop, f2_stop_ln, f2_stop_sx, f2_stop_sn, f2_stop_tkv, f2_stop_opv, f2_stop_shv, if_pos h_1, if_neg g_2, if_neg g_3, if_pos h_4, if_pos h_5]; rfl)) (by first | rfl | (simp only [f2_stop, f2_stop_ln, f2_stop_sx, f2_stop_sn, f2_stop_tkv, f2_stop_opv, f2_stop_shv, if_pos h_1, if_neg g_2, if_neg g_3, if_pos h_4, if_pos h_5]) | (simp only [f2_stop, f2_stop_ln, f2_stop_sx, f2_stop_sn, f2_stop_tkv, f2_stop_opv, f2_stop_shv, if_pos h_1, if_neg g_2, if_neg g_3, if_pos h_4, if_pos h_5]; rfl)) (Nat.le_refl _) (Nat.le_refl _) dX2_stop_68
          · have g_5 : ¬ (sn < 20) := (Nat.not_lt.mpr h_5)
            refine gz_bipush (v := ((-14))) C dX2_stop_44 (by decide) ?_
            exact gz_iret C hr hk (by first | rfl | (simp only [f2_stop, f2_stop_ln, f2_stop_sx, f2_stop_sn, f2_stop_tkv, f2_stop_opv, f2_stop_shv, if_pos h_1, if_neg g_2, if_neg g_3, if_pos h_4, if_neg g_5]) | (simp only [f2_stop, f2_stop_ln, f2_stop_sx, f2_stop_sn, f2_stop_tkv, f2_stop_opv, f2_stop_shv, if_pos h_1, if_neg g_2, if_neg g_3, if_pos h_4, if_neg g_5]; rfl)) (by first | rfl | (simp only [f2_stop, f2_stop_ln, f2_stop_sx, f2_stop_sn, f2_stop_tkv, f2_stop_opv, f2_stop_shv, if_pos h_1, if_neg g_2, if_neg g_3, if_pos h_4, if_neg g_5]) | (simp only [f2_stop, f2_stop_ln, f2_stop_sx, f2_stop_sn, f2_stop_tkv, f2_stop_opv, f2_stop_shv, if_pos h_1, if_neg g_2, if_neg g_3, if_pos h_4, if_neg g_5]; rfl)) (Nat.le_refl _) (Nat.le_refl _) dX2_stop_46
        · have g_4 : ¬ (tc ≤ 1000000) := h_4
          refine gz_bipush (v := ((-12))) C dX2_stop_29 (by decide) ?_
          exact gz_iret C hr hk (by first | rfl | (simp only [f2_stop, f2_stop_ln, f2_stop_sx, f2_stop_sn, f2_stop_tkv, f2_stop_opv, f2_stop_shv, if_pos h_1, if_neg g_2, if_neg g_3, if_neg g_4]) | (simp only [f2_stop, f2_stop_ln, f2_stop_sx, f2_stop_sn, f2_stop_tkv, f2_stop_opv, f2_stop_shv, if_pos h_1, if_neg g_2, if_neg g_3, if_neg g_4]; rfl)) (by first | rfl | (simp only [f2_stop, f2_stop_ln, f2_stop_sx, f2_stop_sn, f2_stop_tkv, f2_stop_opv, f2_stop_shv, if_pos h_1, if_neg g_2, if_neg g_3, if_neg g_4]) | (simp only [f2_stop, f2_stop_ln, f2_stop_sx, f2_stop_sn, f2_stop_tkv, f2_stop_opv, f2_stop_shv, if_pos h_1, if_neg g_2, if_neg g_3, if_neg g_4]; rfl)) (Nat.le_refl _) (Nat.le_refl _) dX2_stop_31

def f2_way_sx (sx : Bool) (sn : Nat) (a : Int32) (b : Int32) (t : Int64) : Bool := (if (f1_isPoint sn a) = true then (if (f1_isPoint sn b) = true then (if (cl a) = (cl b) then sx else (if (f2_isSeconds t) = true then false else sx)) else sx) else sx)
def f2_way_wyv (sn : Nat) (wyv : Nat → Int64) (a : Int32) (b : Int32) (t : Int64) : Nat → Int64 := (if (f1_isPoint sn a) = true then (if (f1_isPoint sn b) = true then (if (cl a) = (cl b) then wyv else (if (f2_isSeconds t) = true then f1_tellWay_wyv wyv (cl a) (cl b) t else wyv)) else wyv) else wyv)
set_option maxRecDepth 100000 in
set_option maxHeartbeats 4000000 in
theorem kX2_way (l : Launch) (D : va_G) (xo : Nat) (nt : Nat) (es : Nat) (ro : Nat) (ad : Nat → Nat) (cI : ClassId) (cJ : ClassId) (cZ : ClassId) (ln : Int32) (fz : Nat) (sx : Bool) (mo : Int32) (sn : Nat) (bw : Int32) (tkv : Nat → Int64) (opv : Nat → Int64) (shv : Nat → Int64) (ldv : Nat → Int32) (wyv : Nat → Int64) (bdv : Nat → Bool) (ct : Nat) (dA : Nat) (sta : Nat) (stc : Int64) (fev : Nat → Nat) (dl : Nat) (dnv : Nat → Int64) (rov : Nat → Nat) (a : Int32) (b : Int32) (t : Int64) (hsn : sn ≤ 20) : gz_M l yX2_way cX2_way 5 none ({ frames := 2, cells := 0, slots := 0, locals := 45 } : Room) D [(cI, .int), (cJ, .long), (cZ, .boolean)] [.ref xo, .int a, .int b, .long t] (wC xo nt es ro ad cI cJ cZ ln fz sx mo sn bw tkv opv shv ldv wyv bdv ct dA dA sta stc fev dl dnv rov) (none) (wC xo nt es ro ad cI cJ cZ ln fz (f2_way_sx sx sn a b t) mo sn bw tkv opv shv ldv (f2_way_wyv sn wyv a b t) bdv ct dA dA sta stc fev dl dnv rov) 0 0 := by
  refine gz_met l (by decide) (Nat.le_of_ble_eq_true rfl) [(0, .ref xo), (1, .int a), (2, .int b), (3, .long t)] rfl ?_
  intro sz p e s m args below meth c C hr hk hnm
  have C : gz_C p s m args c cX2_way 5 RX2 D [(cI, .int), (cJ, .long), (cZ, .boolean)] (va_A (wC xo nt es ro ad cI cJ cZ ln fz sx mo sn bw tkv opv shv ldv wyv bdv ct dA dA sta stc fev dl dnv rov) sz) := C
  refine gz_aload_n C 0 dX2_way_0 rfl ?_
  refine gz_get (ci := 3) C iwX2 0 rfl rfl 0 (by decide) wk_79 rfl rfl dX2_way_1 ?_
  refine gz_iload_n C 1 dX2_way_4 rfl ?_
  refine gz_callV (wr := []) (n := 1) (ws2 := (wC xo nt es ro ad cI cJ cZ ln fz sx mo sn bw tkv opv shv ldv wyv bdv ct dA dA sta stc fev dl dnv rov)) (st2 := [.int (bI (f1_isPoint sn a))]) (cells2 := 0) (slots2 := 0) (ci := 2) C (kX1_isPoint l D xo nt es ro ad cI cJ cZ ln fz sx mo sn bw tkv opv shv ldv wyv bdv ct dA sta stc fev dl dnv rov a (by first | assumption | omega)) (WB_V wk_118 wk_119 wk_120 wk_2 wk_121) (by decide +kernel) ⟨⟨rfl, rfl⟩, Nat.le_of_ble_eq_true rfl, Nat.le_of_ble_eq_true rfl⟩ [0, 1, 2, 3, 4, 5, 6, 7, 8, 9, 10, 11] [] [0, 1, 2] rfl rfl rfl (by decide) rfl 1 rfl rfl rfl rfl (Nat.le_of_ble_eq_true rfl) dX2_way_5 ⟨Nat.zero_le _, Nat.zero_le _⟩ rfl rfl rfl ?_
  refine gz_bif_eq C 34 dX2_way_8 (by decide) (fun h_1 => ?_) (fun h_1 => ?_)
  · have g_1 : ¬ ((f1_isPoint sn a) = true) := (by rw [h_1]; decide)
    exact gz_vret C hr hk (by first | rfl | (simp only [f2_way_sx, f2_way_wyv, if_neg g_1]) | (simp only [f2_way_sx, f2_way_wyv, if_neg g_1]; rfl)) (by first | rfl | (simp only [f2_way_sx, f2_way_wyv, if_neg g_1]) | (simp only [f2_way_sx, f2_way_wyv, if_neg g_1]; rfl)) (Nat.le_refl _) (Nat.le_refl _) dX2_way_34
  · skip
    obtain ⟨ha1, ha2⟩ := q1_point h_1 hsn
    refine gz_lve (lv2 := [(0, .ref xo), (1, .int (nI (cl a))), (2, .int b), (3, .long t)]) (by rw [← ha1]) ?_
    refine gz_aload_n C 0 dX2_way_11 rfl ?_
    refine gz_get (ci := 3) C iwX2 0 rfl rfl 0 (by decide) wk_79 rfl rfl dX2_way_12 ?_
    refine gz_iload_n C 2 dX2_way_15 rfl ?_
    refine gz_callV (wr := []) (n := 1) (ws2 := (wC xo nt es ro ad cI cJ cZ ln fz sx mo sn bw tkv opv shv ldv wyv bdv ct dA dA sta stc fev dl dnv rov)) (st2 := [.int (bI (f1_isPoint sn b))]) (cells2 := 0) (slots2 := 0) (ci := 2) C (kX1_isPoint l D xo nt es ro ad cI cJ cZ ln fz sx mo sn bw tkv opv shv ldv wyv bdv ct dA sta stc fev dl dnv rov b (by first | assumption | omega)) (WB_V wk_118 wk_119 wk_120 wk_2 wk_121) (by decide +kernel) ⟨⟨rfl, rfl⟩, Nat.le_of_ble_eq_true rfl, Nat.le_of_ble_eq_true rfl⟩ [0, 1, 2, 3, 4, 5, 6, 7, 8, 9, 10, 11] [] [0, 1, 2] rfl rfl rfl (by decide) rfl 1 rfl rfl rfl rfl (Nat.le_of_ble_eq_true rfl) dX2_way_16 ⟨Nat.zero_le _, Nat.zero_le _⟩ rfl rfl rfl ?_
    refine gz_bif_eq C 34 dX2_way_19 (by decide) (fun h_2 => ?_) (fun h_2 => ?_)
    · have g_2 : ¬ ((f1_isPoint sn b) = true) := (by rw [h_2]; decide)
      exact gz_vret C hr hk (by first | rfl | (simp only [f2_way_sx, f2_way_wyv, if_pos h_1, if_neg g_2]) | (simp only [f2_way_sx, f2_way_wyv, if_pos h_1, if_neg g_2]; rfl)) (by first | rfl | (simp only [f2_way_sx, f2_way_wyv, if_pos h_1, if_neg g_2]) | (simp only [f2_way_sx, f2_way_wyv, if_pos h_1, if_neg g_2]; rfl)) (Nat.le_refl _) (Nat.le_refl _) dX2_way_34
    · skip
      obtain ⟨hb1, hb2⟩ := q1_point h_2 hsn
      refine gz_lve (lv2 := [(0, .ref xo), (1, .int (nI (cl a))), (2, .int (nI (cl b))), (3, .long t)]) (by rw [← hb1]) ?_
      refine gz_iload_n C 1 dX2_way_22 rfl ?_
      refine gz_iload_n C 2 dX2_way_23 rfl ?_
      refine gz_ncmp_eq C 34 (by omega) (by omega) dX2_way_24 (by decide) (fun h_3 => ?_) (fun h_3 => ?_)
      · skip
        exact gz_vret C hr hk (by first | rfl | (simp only [f2_way_sx, f2_way_wyv, if_pos h_1, if_pos h_2, if_pos h_3]) | (simp only [f2_way_sx, f2_way_wyv, if_pos h_1, if_pos h_2, if_pos h_3]; rfl)) (by first | rfl | (simp only [f2_way_sx, f2_way_wyv, if_pos h_1, if_pos h_2, if_pos h_3]) | (simp only [f2_way_sx, f2_way_wyv, if_pos h_1, if_pos h_2, if_pos h_3]; rfl)) (Nat.le_refl _) (Nat.le_refl _) dX2_way_34
      · have g_3 : ¬ ((cl a) = (cl b)) := h_3
        refine gz_lload_n C 3 dX2_way_27 rfl ?_
        refine gz_callS (wr := []) (n := 1) (ws2 := (wC xo nt es ro ad cI cJ cZ ln fz sx mo sn bw tkv opv shv ldv wyv bdv ct dA dA sta stc fev dl dnv rov)) (st2 := [.int (bI (f2_isSeconds t))]) (cells2 := 0) (slots2 := 0) C (kX2_isSeconds l D xo nt es ro ad cI cJ cZ ln fz sx mo sn bw tkv opv shv ldv wyv bdv ct dA sta stc fev dl dnv rov t ) (WB_S wk_105 wk_106 wk_1 wk_107) (by decide +kernel) ⟨⟨rfl, rfl⟩, Nat.le_of_ble_eq_true rfl, Nat.le_of_ble_eq_true rfl⟩ [0, 1, 2, 3, 4, 5, 6, 7, 8, 9, 10, 11] [] [0, 1, 2] rfl rfl rfl (by decide) rfl rfl rfl (Nat.le_of_ble_eq_true rfl) dX2_way_28 ⟨Nat.zero_le _, Nat.zero_le _⟩ rfl rfl rfl ?_
        refine gz_bif_ne C 35 dX2_way_31 (by decide) (fun h_4 => ?_) (fun h_4 => ?_)
        · skip
          refine gz_aload_n C 0 dX2_way_35 rfl ?_
          refine gz_get (ci := 3) C iwX2 0 rfl rfl 0 (by decide) wk_79 rfl rfl dX2_way_36 ?_
          refine gz_iload_n C 1 dX2_way_39 rfl ?_
          refine gz_iload_n C 2 dX2_way_40 rfl ?_
          refine gz_lload_n C 3 dX2_way_41 rfl ?_
          refine gz_callV (wr := []) (n := 3) (ws2 := (wC xo nt es ro ad cI cJ cZ ln fz sx mo sn bw tkv opv shv ldv (f1_tellWay_wyv wyv (cl a) (cl b) t) bdv ct dA dA sta stc fev dl dnv rov)) (st2 := []) (cells2 := 0) (slots2 := 0) (ci := 2) C (kX1_tellWay l D xo nt es ro ad cI cJ cZ ln fz sx mo sn bw tkv opv shv ldv wyv bdv ct dA sta stc fev dl dnv rov (cl a) (cl b) t (by first | assumption | omega) (by first | assumption | omega)) (WB_V wk_126 wk_127 wk_128 wk_2 wk_129) (by decide +kernel) ⟨⟨rfl, rfl⟩, Nat.le_of_ble_eq_true rfl, Nat.le_of_ble_eq_true rfl⟩ [0, 1, 2, 3, 4, 5, 6, 7, 8, 9, 10, 11] [] [0, 1, 2] rfl rfl rfl (by decide) rfl 1 rfl rfl rfl rfl (Nat.le_of_ble_eq_true rfl) dX2_way_42 ⟨Nat.zero_le _, Nat.zero_le _⟩ rfl rfl rfl ?_
          refine gz_aload_n C 0 dX2_way_45 rfl ?_
          refine gz_iconst (v := nI 0) C dX2_way_46 (by decide) ?_
          refine gz_sw (v := .int (nI 0)) (w := .int (bI false)) (by rw [show nI 0 = bI false from (by first | rfl | decide | ((repeat' split) <;> rfl))]) ?_
          refine gz_put (ci := 3) (ws2 := (wC xo nt es ro ad cI cJ cZ ln fz false mo sn bw tkv opv shv ldv (f1_tellWay_wyv wyv (cl a) (cl b) t) bdv ct dA dA sta stc fev dl dnv rov)) C iwX2 0 rfl rfl 5 (by decide) wk_84 rfl tyX2 tyX2_ok nmX2 rfl rfl (bI_nar _) (bI_fit _) (Nat.le_of_ble_eq_true rfl) rfl dX2_way_47 ?_
          exact gz_vret C hr hk (by first | rfl | (simp only [f2_way_sx, f2_way_wyv, if_pos h_1, if_pos h_2, if_neg g_3, if_pos h_4]) | (simp only [f2_way_sx, f2_way_wyv, if_pos h_1, if_pos h_2, if_neg g_3, if_pos h_4]; rfl)) (by first | rfl | (simp only [f2_way_sx, f2_way_wyv, if_pos h_1, if_pos h_2, if_neg g_3, if_pos h_4]) | (simp only [f2_way_sx, f2_way_wyv, if_pos h_1, if_pos h_2, if_neg g_3, if_pos h_4]; rfl)) (Nat.le_refl _) (Nat.le_refl _) dX2_way_50
        · have g_4 : ¬ ((f2_isSeconds t) = true) := (by rw [h_4]; decide)
          exact gz_vret C hr hk (by first | rfl | (simp only [f2_way_sx, f2_way_wyv, if_pos h_1, if_pos h_2, if_neg g_3, if_neg g_4]) | (simp only [f2_way_sx, f2_way_wyv, if_pos h_1, if_pos h_2, if_neg g_3, if_neg g_4]; rfl)) (by first | rfl | (simp only [f2_way_sx, f2_way_wyv, if_pos h_1, if_pos h_2, if_neg g_3, if_neg g_4]) | (simp only [f2_way_sx, f2_way_wyv, if_pos h_1, if_pos h_2, if_neg g_3, if_neg g_4]; rfl)) (Nat.le_refl _) (Nat.le_refl _) dX2_way_34

def f2_load (sn : Nat) (ldv : Nat → Int32) (x : Int32) (y : Int32) : Int32 := (if (f1_isStop sn x) = true then (if y < 0 then (-12) else (if y ≤ (nI 1000) then f1_loads sn (f1_tellLoad_ldv ldv (cl x) y) else (-12))) else (-11))
def f2_load_ldv (sn : Nat) (ldv : Nat → Int32) (x : Int32) (y : Int32) : Nat → Int32 := (if (f1_isStop sn x) = true then (if y < 0 then ldv else (if y ≤ (nI 1000) then f1_tellLoad_ldv ldv (cl x) y else ldv)) else ldv)
set_option maxRecDepth 100000 in
set_option maxHeartbeats 4000000 in
theorem kX2_load (l : Launch) (D : va_G) (xo : Nat) (nt : Nat) (es : Nat) (ro : Nat) (ad : Nat → Nat) (cI : ClassId) (cJ : ClassId) (cZ : ClassId) (ln : Int32) (fz : Nat) (sx : Bool) (mo : Int32) (sn : Nat) (bw : Int32) (tkv : Nat → Int64) (opv : Nat → Int64) (shv : Nat → Int64) (ldv : Nat → Int32) (wyv : Nat → Int64) (bdv : Nat → Bool) (ct : Nat) (dA : Nat) (sta : Nat) (stc : Int64) (fev : Nat → Nat) (dl : Nat) (dnv : Nat → Int64) (rov : Nat → Nat) (x : Int32) (y : Int32) (hsn : sn ≤ 20) : gz_M l yX2_load cX2_load 3 (some .int) ({ frames := 1, cells := 0, slots := 0, locals := 22 } : Room) D [(cI, .int), (cJ, .long), (cZ, .boolean)] [.ref xo, .int x, .int y] (wC xo nt es ro ad cI cJ cZ ln fz sx mo sn bw tkv opv shv ldv wyv bdv ct dA dA sta stc fev dl dnv rov) (some (.int (f2_load sn ldv x y))) (wC xo nt es ro ad cI cJ cZ ln fz sx mo sn bw tkv opv shv (f2_load_ldv sn ldv x y) wyv bdv ct dA dA sta stc fev dl dnv rov) 0 0 := by
  refine gz_met l (by decide) (Nat.le_of_ble_eq_true rfl) [(0, .ref xo), (1, .int x), (2, .int y)] rfl ?_
  intro sz p e s m args below meth c C hr hk hnm
  have C : gz_C p s m args c cX2_load 3 RX2 D [(cI, .int), (cJ, .long), (cZ, .boolean)] (va_A (wC xo nt es ro ad cI cJ cZ ln fz sx mo sn bw tkv opv shv ldv wyv bdv ct dA dA sta stc fev dl dnv rov) sz) := C
  refine gz_aload_n C 0 dX2_load_0 rfl ?_
  refine gz_get (ci := 3) C iwX2 0 rfl rfl 0 (by decide) wk_79 rfl rfl dX2_load_1 ?_
  refine gz_iload_n C 1 dX2_load_4 rfl ?_
  refine gz_callV (wr := []) (n := 1) (ws2 := (wC xo nt es ro ad cI cJ cZ ln fz sx mo sn bw tkv opv shv ldv wyv bdv ct dA dA sta stc fev dl dnv rov)) (st2 := [.int (bI (f1_isStop sn x))]) (cells2 := 0) (slots2 := 0) (ci := 2) C (kX1_isStop l D xo nt es ro ad cI cJ cZ ln fz sx mo sn bw tkv opv shv ldv wyv bdv ct dA sta stc fev dl dnv rov x (by first | assumption | omega)) (WB_V wk_137 wk_123 wk_124 wk_2 wk_125) (by decide +kernel) ⟨⟨rfl, rfl⟩, Nat.le_of_ble_eq_true rfl, Nat.le_of_ble_eq_true rfl⟩ [0, 1, 2, 3, 4, 5, 6, 7, 8, 9, 10, 11] [] [0, 1, 2] rfl rfl rfl (by decide) rfl 1 rfl rfl rfl rfl (Nat.le_of_ble_eq_true rfl) dX2_load_5 ⟨Nat.zero_le _, Nat.zero_le _⟩ rfl rfl rfl ?_
  refine gz_bif_ne C 14 dX2_load_8 (by decide) (fun h_1 => ?_) (fun h_1 => ?_)
  · skip
    obtain ⟨hx1, hx2, hx3⟩ := q1_stop h_1 hsn
    refine gz_lve (lv2 := [(0, .ref xo), (1, .int (nI (cl x))), (2, .int y)]) (by rw [← hx1]) ?_
    refine gz_iload_n C 2 dX2_load_14 rfl ?_
    refine gz_if_lt C 25 dX2_load_15 (by decide) (fun h_2 => ?_) (fun h_2 => ?_)
    · skip
      refine gz_bipush (v := ((-12))) C dX2_load_25 (by decide) ?_
      exact gz_iret C hr hk (by first | rfl | (simp only [f2_load, f2_load_ldv, if_pos h_1, if_pos h_2]) | (simp only [f2_load, f2_load_ldv, if_pos h_1, if_pos h_2]; rfl)) (by first | rfl | (simp only [f2_load, f2_load_ldv, if_pos h_1, if_pos h_2]) | (simp only [f2_load, f2_load_ldv, if_pos h_1, if_pos h_2]; rfl)) (Nat.le_refl _) (Nat.le_refl _) dX2_load_27
    · have g_2 : ¬ (y < 0) := h_2
      refine gz_iload_n C 2 dX2_load_18 rfl ?_
      refine gz_sipush (v := nI 1000) C dX2_load_19 (by decide) ?_
      refine gz_icmp_le C 28 dX2_load_22 (by decide) (fun h_3 => ?_) (fun h_3 => ?_)
      · skip
        refine gz_aload_n C 0 dX2_load_28 rfl ?_
        refine gz_get (ci := 3) C iwX2 0 rfl rfl 0 (by decide) wk_79 rfl rfl dX2_load_29 ?_
        refine gz_iload_n C 1 dX2_load_32 rfl ?_
        refine gz_iload_n C 2 dX2_load_33 rfl ?_
        refine gz_callV (wr := []) (n := 2) (ws2 := (wC xo nt es ro ad cI cJ cZ ln fz sx mo sn bw tkv opv shv (f1_tellLoad_ldv ldv (cl x) y) wyv bdv ct dA dA sta stc fev dl dnv rov)) (st2 := []) (cells2 := 0) (slots2 := 0) (ci := 2) C (kX1_tellLoad l D xo nt es ro ad cI cJ cZ ln fz sx mo sn bw tkv opv shv ldv wyv bdv ct dA sta stc fev dl dnv rov (cl x) y (by first | assumption | omega)) (WB_V wk_138 wk_139 wk_140 wk_2 wk_141) (by decide +kernel) ⟨⟨rfl, rfl⟩, Nat.le_of_ble_eq_true rfl, Nat.le_of_ble_eq_true rfl⟩ [0, 1, 2, 3, 4, 5, 6, 7, 8, 9, 10, 11] [] [0, 1, 2] rfl rfl rfl (by decide) rfl 1 rfl rfl rfl rfl (Nat.le_of_ble_eq_true rfl) dX2_load_34 ⟨Nat.zero_le _, Nat.zero_le _⟩ rfl rfl rfl ?_
        refine gz_aload_n C 0 dX2_load_37 rfl ?_
        refine gz_get (ci := 3) C iwX2 0 rfl rfl 0 (by decide) wk_79 rfl rfl dX2_load_38 ?_
        refine gz_callV (wr := []) (n := 0) (ws2 := (wC xo nt es ro ad cI cJ cZ ln fz sx mo sn bw tkv opv shv (f1_tellLoad_ldv ldv (cl x) y) wyv bdv ct dA dA sta stc fev dl dnv rov)) (st2 := [.int (f1_loads sn (f1_tellLoad_ldv ldv (cl x) y))]) (cells2 := 0) (slots2 := 0) (ci := 2) C (kX1_loads l D xo nt es ro ad cI cJ cZ ln fz sx mo sn bw tkv opv shv (f1_tellLoad_ldv ldv (cl x) y) wyv bdv ct dA sta stc fev dl dnv rov (by first | assumption | omega)) (WB_V wk_142 wk_143 wk_144 wk_2 wk_145) (by decide +kernel) ⟨⟨rfl, rfl⟩, Nat.le_of_ble_eq_true rfl, Nat.le_of_ble_eq_true rfl⟩ [0, 1, 2, 3, 4, 5, 6, 7, 8, 9, 10, 11] [] [0, 1, 2] rfl rfl rfl (by decide) rfl 1 rfl rfl rfl rfl (Nat.le_of_ble_eq_true rfl) dX2_load_41 ⟨Nat.zero_le _, Nat.zero_le _⟩ rfl rfl rfl ?_
        exact gz_iret C hr hk (by first | rfl | (simp only [f2_load, f2_load_ldv, if_pos h_1, if_neg g_2, if_pos h_3]) | (simp only [f2_load, f2_load_ldv, if_pos h_1, if_neg g_2, if_pos h_3]; rfl)) (by first | rfl | (simp only [f2_load, f2_load_ldv, if_pos h_1, if_neg g_2, if_pos h_3]) | (simp only [f2_load, f2_load_ldv, if_pos h_1, if_neg g_2, if_pos h_3]; rfl)) (Nat.le_refl _) (Nat.le_refl _) dX2_load_44
      · have g_3 : ¬ (y ≤ (nI 1000)) := h_3
        refine gz_bipush (v := ((-12))) C dX2_load_25 (by decide) ?_
        exact gz_iret C hr hk (by first | rfl | (simp only [f2_load, f2_load_ldv, if_pos h_1, if_neg g_2, if_neg g_3]) | (simp only [f2_load, f2_load_ldv, if_pos h_1, if_neg g_2, if_neg g_3]; rfl)) (by first | rfl | (simp only [f2_load, f2_load_ldv, if_pos h_1, if_neg g_2, if_neg g_3]) | (simp only [f2_load, f2_load_ldv, if_pos h_1, if_neg g_2, if_neg g_3]; rfl)) (Nat.le_refl _) (Nat.le_refl _) dX2_load_27
  · have g_1 : ¬ ((f1_isStop sn x) = true) := (by rw [h_1]; decide)
    refine gz_bipush (v := ((-11))) C dX2_load_11 (by decide) ?_
    exact gz_iret C hr hk (by first | rfl | (simp only [f2_load, f2_load_ldv, if_neg g_1]) | (simp only [f2_load, f2_load_ldv, if_neg g_1]; rfl)) (by first | rfl | (simp only [f2_load, f2_load_ldv, if_neg g_1]) | (simp only [f2_load, f2_load_ldv, if_neg g_1]; rfl)) (Nat.le_refl _) (Nat.le_refl _) dX2_load_13

def f2_limit (n : Int32) : Int32 := (if (((-1))) ≤ n then nI ((if n = (((-1))) then 0 else 1)) else (-12))
def f2_limit_mo (mo : Int32) (n : Int32) : Int32 := (if (((-1))) ≤ n then n else mo)
set_option maxRecDepth 100000 in
set_option maxHeartbeats 4000000 in
theorem kX2_limit (l : Launch) (D : va_G) (xo : Nat) (nt : Nat) (es : Nat) (ro : Nat) (ad : Nat → Nat) (cI : ClassId) (cJ : ClassId) (cZ : ClassId) (ln : Int32) (fz : Nat) (sx : Bool) (mo : Int32) (sn : Nat) (bw : Int32) (tkv : Nat → Int64) (opv : Nat → Int64) (shv : Nat → Int64) (ldv : Nat → Int32) (wyv : Nat → Int64) (bdv : Nat → Bool) (ct : Nat) (dA : Nat) (sta : Nat) (stc : Int64) (fev : Nat → Nat) (dl : Nat) (dnv : Nat → Int64) (rov : Nat → Nat) (n : Int32)  : gz_M l yX2_limit cX2_limit 2 (some .int) ({ frames := 0, cells := 0, slots := 0, locals := 0 } : Room) D [(cI, .int), (cJ, .long), (cZ, .boolean)] [.ref xo, .int n] (wC xo nt es ro ad cI cJ cZ ln fz sx mo sn bw tkv opv shv ldv wyv bdv ct dA dA sta stc fev dl dnv rov) (some (.int (f2_limit n))) (wC xo nt es ro ad cI cJ cZ ln fz sx (f2_limit_mo mo n) sn bw tkv opv shv ldv wyv bdv ct dA dA sta stc fev dl dnv rov) 0 0 := by
  refine gz_met l (by decide) (Nat.le_of_ble_eq_true rfl) [(0, .ref xo), (1, .int n)] rfl ?_
  intro sz p e s m args below meth c C hr hk hnm
  have C : gz_C p s m args c cX2_limit 2 RX2 D [(cI, .int), (cJ, .long), (cZ, .boolean)] (va_A (wC xo nt es ro ad cI cJ cZ ln fz sx mo sn bw tkv opv shv ldv wyv bdv ct dA dA sta stc fev dl dnv rov) sz) := C
  refine gz_iload_n C 1 dX2_limit_0 rfl ?_
  refine gz_iconst (v := ((-1))) C dX2_limit_1 (by decide) ?_
  refine gz_icmp_ge C 8 dX2_limit_2 (by decide) (fun h_1 => ?_) (fun h_1 => ?_)
  · skip
    refine gz_aload_n C 0 dX2_limit_8 rfl ?_
    refine gz_iload_n C 1 dX2_limit_9 rfl ?_
    refine gz_put (ci := 3) (ws2 := (wC xo nt es ro ad cI cJ cZ ln fz sx n sn bw tkv opv shv ldv wyv bdv ct dA dA sta stc fev dl dnv rov)) C iwX2 0 rfl rfl 6 (by decide) wk_85 rfl tyX2 tyX2_ok nmX2 rfl rfl rfl rfl (Nat.le_of_ble_eq_true rfl) rfl dX2_limit_10 ?_
    refine gz_iload_n C 1 dX2_limit_13 rfl ?_
    refine gz_iconst (v := ((-1))) C dX2_limit_14 (by decide) ?_
    refine gz_J (ws2 := (wC xo nt es ro ad cI cJ cZ ln fz sx n sn bw tkv opv shv ldv wyv bdv ct dA dA sta stc fev dl dnv rov)) (lv2 := [(0, .ref xo), (1, .int n)]) (st2 := [.int (nI ((if n = (((-1))) then 0 else 1)))]) (pc2 := 23) ?_ (fun J_2 => ?_)
    rotate_left
    · refine gz_icmp_ne C 22 dX2_limit_15 (by decide) (fun h_2 => ?_) (fun h_2 => ?_)
      · have g_2 : ¬ (n = (((-1)))) := h_2
        refine gz_iconst (v := nI 1) C dX2_limit_22 (by decide) ?_
        simp only [if_neg g_2] at J_2 ⊢
        exact gz_lv [0, 1] rfl J_2
      · skip
        refine gz_iconst (v := nI 0) C dX2_limit_18 (by decide) ?_
        refine gz_goto C 23 dX2_limit_19 (by decide) ?_
        simp only [if_pos h_2] at J_2 ⊢
        exact gz_lv [0, 1] rfl J_2
    exact gz_iret C hr hk (by first | rfl | (simp only [f2_limit, f2_limit_mo, if_pos h_1]) | (simp only [f2_limit, f2_limit_mo, if_pos h_1]; rfl)) (by first | rfl | (simp only [f2_limit, f2_limit_mo, if_pos h_1]) | (simp only [f2_limit, f2_limit_mo, if_pos h_1]; rfl)) (Nat.le_refl _) (Nat.le_refl _) dX2_limit_23
  · have g_1 : ¬ ((((-1))) ≤ n) := h_1
    refine gz_bipush (v := ((-12))) C dX2_limit_5 (by decide) ?_
    exact gz_iret C hr hk (by first | rfl | (simp only [f2_limit, f2_limit_mo, if_neg g_1]) | (simp only [f2_limit, f2_limit_mo, if_neg g_1]; rfl)) (by first | rfl | (simp only [f2_limit, f2_limit_mo, if_neg g_1]) | (simp only [f2_limit, f2_limit_mo, if_neg g_1]; rfl)) (Nat.le_refl _) (Nat.le_refl _) dX2_limit_7

def f2_exact (sx : Bool) : Bool := sx
set_option maxRecDepth 100000 in
set_option maxHeartbeats 4000000 in
theorem kX2_exact (l : Launch) (D : va_G) (xo : Nat) (nt : Nat) (es : Nat) (ro : Nat) (ad : Nat → Nat) (cI : ClassId) (cJ : ClassId) (cZ : ClassId) (ln : Int32) (fz : Nat) (sx : Bool) (mo : Int32) (sn : Nat) (bw : Int32) (tkv : Nat → Int64) (opv : Nat → Int64) (shv : Nat → Int64) (ldv : Nat → Int32) (wyv : Nat → Int64) (bdv : Nat → Bool) (ct : Nat) (dA : Nat) (sta : Nat) (stc : Int64) (fev : Nat → Nat) (dl : Nat) (dnv : Nat → Int64) (rov : Nat → Nat)  : gz_M l yX2_exact cX2_exact 1 (some .boolean) ({ frames := 0, cells := 0, slots := 0, locals := 0 } : Room) D [(cI, .int), (cJ, .long), (cZ, .boolean)] [.ref xo] (wC xo nt es ro ad cI cJ cZ ln fz sx mo sn bw tkv opv shv ldv wyv bdv ct dA dA sta stc fev dl dnv rov) (some (.int (bI (f2_exact sx)))) (wC xo nt es ro ad cI cJ cZ ln fz sx mo sn bw tkv opv shv ldv wyv bdv ct dA dA sta stc fev dl dnv rov) 0 0 := by
  refine gz_met l (by decide) (Nat.le_of_ble_eq_true rfl) [(0, .ref xo)] rfl ?_
  intro sz p e s m args below meth c C hr hk hnm
  have C : gz_C p s m args c cX2_exact 1 RX2 D [(cI, .int), (cJ, .long), (cZ, .boolean)] (va_A (wC xo nt es ro ad cI cJ cZ ln fz sx mo sn bw tkv opv shv ldv wyv bdv ct dA dA sta stc fev dl dnv rov) sz) := C
  refine gz_aload_n C 0 dX2_exact_0 rfl ?_
  refine gz_get (ci := 3) C iwX2 0 rfl rfl 5 (by decide) wk_84 rfl rfl dX2_exact_1 ?_
  exact gz_zret C hr hk (bI_nar _) (by first | rfl | (simp only [f2_exact]) | (simp only [f2_exact]; rfl)) rfl (Nat.le_refl _) (Nat.le_refl _) dX2_exact_4

def f2_bound (sn : Nat) (tkv : Nat → Int64) (wyv : Nat → Int64) (bdv : Nat → Bool) : Int64 := f1_leastTime sn tkv wyv bdv
set_option maxRecDepth 100000 in
set_option maxHeartbeats 4000000 in
theorem kX2_bound (l : Launch) (D : va_G) (xo : Nat) (nt : Nat) (es : Nat) (ro : Nat) (ad : Nat → Nat) (cI : ClassId) (cJ : ClassId) (cZ : ClassId) (ln : Int32) (fz : Nat) (sx : Bool) (mo : Int32) (sn : Nat) (bw : Int32) (tkv : Nat → Int64) (opv : Nat → Int64) (shv : Nat → Int64) (ldv : Nat → Int32) (wyv : Nat → Int64) (bdv : Nat → Bool) (ct : Nat) (dA : Nat) (sta : Nat) (stc : Int64) (fev : Nat → Nat) (dl : Nat) (dnv : Nat → Int64) (rov : Nat → Nat) (hsn : sn ≤ 20) : gz_M l yX2_bound cX2_bound 1 (some .long) ({ frames := 3, cells := 0, slots := 0, locals := 73 } : Room) D [(cI, .int), (cJ, .long), (cZ, .boolean)] [.ref xo] (wC xo nt es ro ad cI cJ cZ ln fz sx mo sn bw tkv opv shv ldv wyv bdv ct dA dA sta stc fev dl dnv rov) (some (.long (f2_bound sn tkv wyv bdv))) (wC xo nt es ro ad cI cJ cZ ln fz sx mo sn bw tkv opv shv ldv wyv bdv ct dA dA sta stc fev dl dnv rov) 0 0 := by
  refine gz_met l (by decide) (Nat.le_of_ble_eq_true rfl) [(0, .ref xo)] rfl ?_
  intro sz p e s m args below meth c C hr hk hnm
  have C : gz_C p s m args c cX2_bound 1 RX2 D [(cI, .int), (cJ, .long), (cZ, .boolean)] (va_A (wC xo nt es ro ad cI cJ cZ ln fz sx mo sn bw tkv opv shv ldv wyv bdv ct dA dA sta stc fev dl dnv rov) sz) := C
  refine gz_aload_n C 0 dX2_bound_0 rfl ?_
  refine gz_get (ci := 3) C iwX2 0 rfl rfl 0 (by decide) wk_79 rfl rfl dX2_bound_1 ?_
  refine gz_callV (wr := []) (n := 0) (ws2 := (wC xo nt es ro ad cI cJ cZ ln fz sx mo sn bw tkv opv shv ldv wyv bdv ct dA dA sta stc fev dl dnv rov)) (st2 := [.long (f1_leastTime sn tkv wyv bdv)]) (cells2 := 0) (slots2 := 0) (ci := 2) C (kX1_leastTime l D xo nt es ro ad cI cJ cZ ln fz sx mo sn bw tkv opv shv ldv wyv bdv ct dA sta stc fev dl dnv rov (by first | assumption | omega)) (WB_V wk_284 wk_285 wk_286 wk_2 wk_287) (by decide +kernel) ⟨⟨rfl, rfl⟩, Nat.le_of_ble_eq_true rfl, Nat.le_of_ble_eq_true rfl⟩ [0, 1, 2, 3, 4, 5, 6, 7, 8, 9, 10, 11] [] [0, 1, 2] rfl rfl rfl (by decide) rfl 1 rfl rfl rfl rfl (Nat.le_of_ble_eq_true rfl) dX2_bound_4 ⟨Nat.zero_le _, Nat.zero_le _⟩ rfl rfl rfl ?_
  exact gz_lret C hr hk (by first | rfl | (simp only [f2_bound]) | (simp only [f2_bound]; rfl)) rfl (Nat.le_refl _) (Nat.le_refl _) dX2_bound_7

def f2_arc (sn : Nat) (bw : Int32) (bdv : Nat → Bool) (a : Int32) (b : Int32) (y : Int32) : Int32 := (if (f1_isPoint sn a) = true then (if (f1_isPoint sn b) = true then (if y < 0 then (-12) else (if (nI 1) < y then (-12) else (if (cl a) = (cl b) then (-12) else f1_bar bw bdv (cl a) (cl b) ((if y = 0 then true else false))))) else (-11)) else (-11))
def f2_arc_sx (sx : Bool) (sn : Nat) (a : Int32) (b : Int32) (y : Int32) : Bool := (if (f1_isPoint sn a) = true then (if (f1_isPoint sn b) = true then (if y < 0 then sx else (if (nI 1) < y then sx else (if (cl a) = (cl b) then sx else false))) else sx) else sx)
def f2_arc_bw (sn : Nat) (bw : Int32) (bdv : Nat → Bool) (a : Int32) (b : Int32) (y : Int32) : Int32 := (if (f1_isPoint sn a) = true then (if (f1_isPoint sn b) = true then (if y < 0 then bw else (if (nI 1) < y then bw else (if (cl a) = (cl b) then bw else f1_bar_bw bw bdv (cl a) (cl b) ((if y = 0 then true else false))))) else bw) else bw)
def f2_arc_bdv (sn : Nat) (bdv : Nat → Bool) (a : Int32) (b : Int32) (y : Int32) : Nat → Bool := (if (f1_isPoint sn a) = true then (if (f1_isPoint sn b) = true then (if y < 0 then bdv else (if (nI 1) < y then bdv else (if (cl a) = (cl b) then bdv else f1_bar_bdv bdv (cl a) (cl b) ((if y = 0 then true else false))))) else bdv) else bdv)
set_option maxRecDepth 100000 in
set_option maxHeartbeats 4000000 in
theorem kX2_arc (l : Launch) (D : va_G) (xo : Nat) (nt : Nat) (es : Nat) (ro : Nat) (ad : Nat → Nat) (cI : ClassId) (cJ : ClassId) (cZ : ClassId) (ln : Int32) (fz : Nat) (sx : Bool) (mo : Int32) (sn : Nat) (bw : Int32) (tkv : Nat → Int64) (opv : Nat → Int64) (shv : Nat → Int64) (ldv : Nat → Int32) (wyv : Nat → Int64) (bdv : Nat → Bool) (ct : Nat) (dA : Nat) (sta : Nat) (stc : Int64) (fev : Nat → Nat) (dl : Nat) (dnv : Nat → Int64) (rov : Nat → Nat) (a : Int32) (b : Int32) (y : Int32) (hsn : sn ≤ 20) : gz_M l yX2_arc cX2_arc 4 (some .int) ({ frames := 2, cells := 0, slots := 0, locals := 45 } : Room) D [(cI, .int), (cJ, .long), (cZ, .boolean)] [.ref xo, .int a, .int b, .int y] (wC xo nt es ro ad cI cJ cZ ln fz sx mo sn bw tkv opv shv ldv wyv bdv ct dA dA sta stc fev dl dnv rov) (some (.int (f2_arc sn bw bdv a b y))) (wC xo nt es ro ad cI cJ cZ ln fz (f2_arc_sx sx sn a b y) mo sn (f2_arc_bw sn bw bdv a b y) tkv opv shv ldv wyv (f2_arc_bdv sn bdv a b y) ct dA dA sta stc fev dl dnv rov) 0 0 := by
  refine gz_met l (by decide) (Nat.le_of_ble_eq_true rfl) [(0, .ref xo), (1, .int a), (2, .int b), (3, .int y)] rfl ?_
  intro sz p e s m args below meth c C hr hk hnm
  have C : gz_C p s m args c cX2_arc 4 RX2 D [(cI, .int), (cJ, .long), (cZ, .boolean)] (va_A (wC xo nt es ro ad cI cJ cZ ln fz sx mo sn bw tkv opv shv ldv wyv bdv ct dA dA sta stc fev dl dnv rov) sz) := C
  refine gz_aload_n C 0 dX2_arc_0 rfl ?_
  refine gz_get (ci := 3) C iwX2 0 rfl rfl 0 (by decide) wk_79 rfl rfl dX2_arc_1 ?_
  refine gz_iload_n C 1 dX2_arc_4 rfl ?_
  refine gz_callV (wr := []) (n := 1) (ws2 := (wC xo nt es ro ad cI cJ cZ ln fz sx mo sn bw tkv opv shv ldv wyv bdv ct dA dA sta stc fev dl dnv rov)) (st2 := [.int (bI (f1_isPoint sn a))]) (cells2 := 0) (slots2 := 0) (ci := 2) C (kX1_isPoint l D xo nt es ro ad cI cJ cZ ln fz sx mo sn bw tkv opv shv ldv wyv bdv ct dA sta stc fev dl dnv rov a (by first | assumption | omega)) (WB_V wk_118 wk_119 wk_120 wk_2 wk_121) (by decide +kernel) ⟨⟨rfl, rfl⟩, Nat.le_of_ble_eq_true rfl, Nat.le_of_ble_eq_true rfl⟩ [0, 1, 2, 3, 4, 5, 6, 7, 8, 9, 10, 11] [] [0, 1, 2] rfl rfl rfl (by decide) rfl 1 rfl rfl rfl rfl (Nat.le_of_ble_eq_true rfl) dX2_arc_5 ⟨Nat.zero_le _, Nat.zero_le _⟩ rfl rfl rfl ?_
  refine gz_bif_eq C 22 dX2_arc_8 (by decide) (fun h_1 => ?_) (fun h_1 => ?_)
  · have g_1 : ¬ ((f1_isPoint sn a) = true) := (by rw [h_1]; decide)
    refine gz_bipush (v := ((-11))) C dX2_arc_22 (by decide) ?_
    exact gz_iret C hr hk (by first | rfl | (simp only [f2_arc, f2_arc_sx, f2_arc_bw, f2_arc_bdv, if_neg g_1]) | (simp only [f2_arc, f2_arc_sx, f2_arc_bw, f2_arc_bdv, if_neg g_1]; rfl)) (by first | rfl | (simp only [f2_arc, f2_arc_sx, f2_arc_bw, f2_arc_bdv, if_neg g_1]) | (simp only [f2_arc, f2_arc_sx, f2_arc_bw, f2_arc_bdv, if_neg g_1]; rfl)) (Nat.le_refl _) (Nat.le_refl _) dX2_arc_24
  · skip
    obtain ⟨ha1, ha2⟩ := q1_point h_1 hsn
    refine gz_lve (lv2 := [(0, .ref xo), (1, .int (nI (cl a))), (2, .int b), (3, .int y)]) (by rw [← ha1]) ?_
    refine gz_aload_n C 0 dX2_arc_11 rfl ?_
    refine gz_get (ci := 3) C iwX2 0 rfl rfl 0 (by decide) wk_79 rfl rfl dX2_arc_12 ?_
    refine gz_iload_n C 2 dX2_arc_15 rfl ?_
    refine gz_callV (wr := []) (n := 1) (ws2 := (wC xo nt es ro ad cI cJ cZ ln fz sx mo sn bw tkv opv shv ldv wyv bdv ct dA dA sta stc fev dl dnv rov)) (st2 := [.int (bI (f1_isPoint sn b))]) (cells2 := 0) (slots2 := 0) (ci := 2) C (kX1_isPoint l D xo nt es ro ad cI cJ cZ ln fz sx mo sn bw tkv opv shv ldv wyv bdv ct dA sta stc fev dl dnv rov b (by first | assumption | omega)) (WB_V wk_118 wk_119 wk_120 wk_2 wk_121) (by decide +kernel) ⟨⟨rfl, rfl⟩, Nat.le_of_ble_eq_true rfl, Nat.le_of_ble_eq_true rfl⟩ [0, 1, 2, 3, 4, 5, 6, 7, 8, 9, 10, 11] [] [0, 1, 2] rfl rfl rfl (by decide) rfl 1 rfl rfl rfl rfl (Nat.le_of_ble_eq_true rfl) dX2_arc_16 ⟨Nat.zero_le _, Nat.zero_le _⟩ rfl rfl rfl ?_
    refine gz_bif_ne C 25 dX2_arc_19 (by decide) (fun h_2 => ?_) (fun h_2 => ?_)
    · skip
      obtain ⟨hb1, hb2⟩ := q1_point h_2 hsn
      refine gz_lve (lv2 := [(0, .ref xo), (1, .int (nI (cl a))), (2, .int (nI (cl b))), (3, .int y)]) (by rw [← hb1]) ?_
      refine gz_iload_n C 3 dX2_arc_25 rfl ?_
      refine gz_if_lt C 39 dX2_arc_26 (by decide) (fun h_3 => ?_) (fun h_3 => ?_)
      · skip
        refine gz_bipush (v := ((-12))) C dX2_arc_39 (by decide) ?_
        exact gz_iret C hr hk (by first | rfl | (simp only [f2_arc, f2_arc_sx, f2_arc_bw, f2_arc_bdv, if_pos h_1, if_pos h_2, if_pos h_3]) | (simp only [f2_arc, f2_arc_sx, f2_arc_bw, f2_arc_bdv, if_pos h_1, if_pos h_2, if_pos h_3]; rfl)) (by first | rfl | (simp only [f2_arc, f2_arc_sx, f2_arc_bw, f2_arc_bdv, if_pos h_1, if_pos h_2, if_pos h_3]) | (simp only [f2_arc, f2_arc_sx, f2_arc_bw, f2_arc_bdv, if_pos h_1, if_pos h_2, if_pos h_3]; rfl)) (Nat.le_refl _) (Nat.le_refl _) dX2_arc_41
      · have g_3 : ¬ (y < 0) := h_3
        refine gz_iload_n C 3 dX2_arc_29 rfl ?_
        refine gz_iconst (v := nI 1) C dX2_arc_30 (by decide) ?_
        refine gz_icmp_gt C 39 dX2_arc_31 (by decide) (fun h_4 => ?_) (fun h_4 => ?_)
        · skip
          refine gz_bipush (v := ((-12))) C dX2_arc_39 (by decide) ?_
          exact gz_iret C hr hk (by first | rfl | (simp only [f2_arc, f2_arc_sx, f2_arc_bw, f2_arc_bdv, if_pos h_1, if_pos h_2, if_neg g_3, if_pos h_4]) | (simp only [f2_arc, f2_arc_sx, f2_arc_bw, f2_arc_bdv, if_pos h_1, if_pos h_2, if_neg g_3, if_pos h_4]; rfl)) (by first | rfl | (simp only [f2_arc, f2_arc_sx, f2_arc_bw, f2_arc_bdv, if_pos h_1, if_pos h_2, if_neg g_3, if_pos h_4]) | (simp only [f2_arc, f2_arc_sx, f2_arc_bw, f2_arc_bdv, if_pos h_1, if_pos h_2, if_neg g_3, if_pos h_4]; rfl)) (Nat.le_refl _) (Nat.le_refl _) dX2_arc_41
        · have g_4 : ¬ ((nI 1) < y) := h_4
          refine gz_iload_n C 1 dX2_arc_34 rfl ?_
          refine gz_iload_n C 2 dX2_arc_35 rfl ?_
          refine gz_ncmp_ne C 42 (by omega) (by omega) dX2_arc_36 (by decide) (fun h_5 => ?_) (fun h_5 => ?_)
          · have g_5 : ¬ ((cl a) = (cl b)) := h_5
            refine gz_aload_n C 0 dX2_arc_42 rfl ?_
            refine gz_iconst (v := nI 0) C dX2_arc_43 (by decide) ?_
            refine gz_sw (v := .int (nI 0)) (w := .int (bI false)) (by rw [show nI 0 = bI false from (by first | rfl | decide | ((repeat' split) <;> rfl))]) ?_
            refine gz_put (ci := 3) (ws2 := (wC xo nt es ro ad cI cJ cZ ln fz false mo sn bw tkv opv shv ldv wyv bdv ct dA dA sta stc fev dl dnv rov)) C iwX2 0 rfl rfl 5 (by decide) wk_84 rfl tyX2 tyX2_ok nmX2 rfl rfl (bI_nar _) (bI_fit _) (Nat.le_of_ble_eq_true rfl) rfl dX2_arc_44 ?_
            refine gz_aload_n C 0 dX2_arc_47 rfl ?_
            refine gz_get (ci := 3) C iwX2 0 rfl rfl 0 (by decide) wk_79 rfl rfl dX2_arc_48 ?_
            refine gz_iload_n C 1 dX2_arc_51 rfl ?_
            refine gz_iload_n C 2 dX2_arc_52 rfl ?_
            refine gz_iload_n C 3 dX2_arc_53 rfl ?_
            refine gz_J (ws2 := (wC xo nt es ro ad cI cJ cZ ln fz false mo sn bw tkv opv shv ldv wyv bdv ct dA dA sta stc fev dl dnv rov)) (lv2 := [(0, .ref xo), (1, .int (nI (cl a))), (2, .int (nI (cl b))), (3, .int y)]) (st2 := [.int (nI ((if y = 0 then 1 else 0))), .int (nI (cl b)), .int (nI (cl a)), .ref nt]) (pc2 := 62) ?_ (fun J_6 => ?_)
            rotate_left
            · refine gz_if_ne C 61 dX2_arc_54 (by decide) (fun h_6 => ?_) (fun h_6 => ?_)
              · have g_6 : ¬ (y = 0) := h_6
                refine gz_iconst (v := nI 0) C dX2_arc_61 (by decide) ?_
                simp only [if_neg g_6] at J_6 ⊢
                exact gz_lv [0, 1, 2, 3] rfl J_6
              · skip
                refine gz_iconst (v := nI 1) C dX2_arc_57 (by decide) ?_
                refine gz_goto C 62 dX2_arc_58 (by decide) ?_
                simp only [if_pos h_6] at J_6 ⊢
                exact gz_lv [0, 1, 2, 3] rfl J_6
            refine gz_sw (v := .int (nI ((if y = 0 then 1 else 0)))) (w := .int (bI ((if y = 0 then true else false)))) (by rw [show nI ((if y = 0 then 1 else 0)) = bI ((if y = 0 then true else false)) from (by first | rfl | decide | ((repeat' split) <;> rfl))]) ?_
            refine gz_callV (wr := []) (n := 3) (ws2 := (wC xo nt es ro ad cI cJ cZ ln fz false mo sn (f1_bar_bw bw bdv (cl a) (cl b) ((if y = 0 then true else false))) tkv opv shv ldv wyv (f1_bar_bdv bdv (cl a) (cl b) ((if y = 0 then true else false))) ct dA dA sta stc fev dl dnv rov)) (st2 := [.int (f1_bar bw bdv (cl a) (cl b) ((if y = 0 then true else false)))]) (cells2 := 0) (slots2 := 0) (ci := 2) C (kX1_bar l D xo nt es ro ad cI cJ cZ ln fz false mo sn bw tkv opv shv ldv wyv bdv ct dA sta stc fev dl dnv rov (cl a) (cl b) ((if y = 0 then true else false)) (by first | assumption | omega) (by first | assumption | omega)) (WB_V wk_268 wk_269 wk_270 wk_2 wk_271) (by decide +kernel) ⟨⟨rfl, rfl⟩, Nat.le_of_ble_eq_true rfl, Nat.le_of_ble_eq_true rfl⟩ [0, 1, 2, 3, 4, 5, 6, 7, 8, 9, 10, 11] [] [0, 1, 2] rfl rfl rfl (by decide) rfl 1 rfl rfl rfl rfl (Nat.le_of_ble_eq_true rfl) dX2_arc_62 ⟨Nat.zero_le _, Nat.zero_le _⟩ rfl rfl rfl ?_
            exact gz_iret C hr hk (by first | rfl | (simp only [f2_arc, f2_arc_sx, f2_arc_bw, f2_arc_bdv, if_pos h_1, if_pos h_2, if_neg g_3, if_neg g_4, if_neg g_5]) | (simp only [f2_arc, f2_arc_sx, f2_arc_bw, f2_arc_bdv, if_pos h_1, if_pos h_2, if_neg g_3, if_neg g_4, if_neg g_5]; rfl)) (by first | rfl | (simp only [f2_arc, f2_arc_sx, f2_arc_bw, f2_arc_bdv, if_pos h_1, if_pos h_2, if_neg g_3, if_neg g_4, if_neg g_5]) | (simp only [f2_arc, f2_arc_sx, f2_arc_bw, f2_arc_bdv, if_pos h_1, if_pos h_2, if_neg g_3, if_neg g_4, if_neg g_5]; rfl)) (Nat.le_refl _) (Nat.le_refl _) dX2_arc_65
          · skip
            refine gz_bipush (v := ((-12))) C dX2_arc_39 (by decide) ?_
            exact gz_iret C hr hk (by first | rfl | (simp only [f2_arc, f2_arc_sx, f2_arc_bw, f2_arc_bdv, if_pos h_1, if_pos h_2, if_neg g_3, if_neg g_4, if_pos h_5]) | (simp only [f2_arc, f2_arc_sx, f2_arc_bw, f2_arc_bdv, if_pos h_1, if_pos h_2, if_neg g_3, if_neg g_4, if_pos h_5]; rfl)) (by first | rfl | (simp only [f2_arc, f2_arc_sx, f2_arc_bw, f2_arc_bdv, if_pos h_1, if_pos h_2, if_neg g_3, if_neg g_4, if_pos h_5]) | (simp only [f2_arc, f2_arc_sx, f2_arc_bw, f2_arc_bdv, if_pos h_1, if_pos h_2, if_neg g_3, if_neg g_4, if_pos h_5]; rfl)) (Nat.le_refl _) (Nat.le_refl _) dX2_arc_41
    · have g_2 : ¬ ((f1_isPoint sn b) = true) := (by rw [h_2]; decide)
      refine gz_bipush (v := ((-11))) C dX2_arc_22 (by decide) ?_
      exact gz_iret C hr hk (by first | rfl | (simp only [f2_arc, f2_arc_sx, f2_arc_bw, f2_arc_bdv, if_pos h_1, if_neg g_2]) | (simp only [f2_arc, f2_arc_sx, f2_arc_bw, f2_arc_bdv, if_pos h_1, if_neg g_2]; rfl)) (by first | rfl | (simp only [f2_arc, f2_arc_sx, f2_arc_bw, f2_arc_bdv, if_pos h_1, if_neg g_2]) | (simp only [f2_arc, f2_arc_sx, f2_arc_bw, f2_arc_bdv, if_pos h_1, if_neg g_2]; rfl)) (Nat.le_refl _) (Nat.le_refl _) dX2_arc_24

