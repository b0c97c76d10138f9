def f3_isStop (sn : Nat) (x : Int32) : Bool := (if x ≤ 0 then false else (if (nI sn) < x then false else true))
set_option maxRecDepth 100000 in
set_option maxHeartbeats 4000000 in
theorem kX3_isStop (l : Launch) (D : va_G) (h : Nat) (ad : Nat → Nat) (cI : ClassId) (cJ : ClassId) (cZ : ClassId) (thr : Int32) (sn : Nat) (tkv : Nat → Int64) (opv : Nat → Int64) (shv : Nat → Int64) (ldv : Nat → Int32) (lim : Int32) (wyv : Nat → Int64) (bdv : Nat → Bool) (isr : Bool) (rn : Nat) (rdv : Nat → Nat) (fz : Nat) (icv : Nat → Nat) (exa : Bool) (fr : Nat) (fev : Nat → Nat) (eav : Nat → Int64) (rs : Nat) (rov : Nat → Nat) (x : Int32) (hsn : sn ≤ 20) : gz_M l yX3_isStop cX3_isStop 2 (some .boolean) ({ frames := 0, cells := 0, slots := 0, locals := 0 } : Room) D [(cI, .int), (cJ, .long), (cZ, .boolean)] [.ref h, .int x] (wM h ad cI cJ cZ thr sn tkv opv shv ldv lim wyv bdv isr rn rdv fz icv exa fr fev eav rs rov) (some (.int (bI (f3_isStop sn x)))) (wM h ad cI cJ cZ thr sn tkv opv shv ldv lim wyv bdv isr rn rdv fz icv exa fr fev eav rs rov) 0 0 := by
  refine gz_met l (by decide) (Nat.le_of_ble_eq_true rfl) [(0, .ref h), (1, .int x)] rfl ?_
  intro sz p e s m args below meth c C hr hk hnm
  have C : gz_C p s m args c cX3_isStop 2 RX3 D [(cI, .int), (cJ, .long), (cZ, .boolean)] (va_A (wM h ad cI cJ cZ thr sn tkv opv shv ldv lim wyv bdv isr rn rdv fz icv exa fr fev eav rs rov) sz) := C
  refine gz_iload_n C 1 dX3_isStop_0 rfl ?_
  refine gz_J (ws2 := (wM h ad cI cJ cZ thr sn tkv opv shv ldv lim wyv bdv isr rn rdv fz icv exa fr fev eav rs rov)) (lv2 := [(0, .ref h), (1, .int x)]) (st2 := [.int (nI ((if x ≤ 0 then 0 else (if (nI sn) < x then 0 else 1))))]) (pc2 := 17) ?_ (fun J_1 => ?_)
  rotate_left
  · refine gz_if_le C 16 dX3_isStop_1 (by decide) (fun h_1 => ?_) (fun h_1 => ?_)
    · skip
      refine gz_iconst (v := nI 0) C dX3_isStop_16 (by decide) ?_
      simp only [if_pos h_1] at J_1 ⊢
      exact gz_lv [0, 1] rfl J_1
    · have g_1 : ¬ (x ≤ 0) := h_1
      refine gz_iload_n C 1 dX3_isStop_4 rfl ?_
      refine gz_aload_n C 0 dX3_isStop_5 rfl ?_
      refine gz_get (ci := 4) C iwX3 0 rfl rfl 1 (by decide) wk_381 rfl rfl dX3_isStop_6 ?_
      refine gz_J (ws2 := (wM h ad cI cJ cZ thr sn tkv opv shv ldv lim wyv bdv isr rn rdv fz icv exa fr fev eav rs rov)) (lv2 := [(0, .ref h), (1, .int x)]) (st2 := [.int (nI ((if (nI sn) < x then 0 else 1)))]) (pc2 := 17) ?_ (fun J_2 => ?_)
      rotate_left
      · refine gz_icmp_gt C 16 dX3_isStop_9 (by decide) (fun h_2 => ?_) (fun h_2 => ?_)
        · skip
          refine gz_iconst (v := nI 0) C dX3_isStop_16 (by decide) ?_
          simp only [if_pos h_2] at J_2 ⊢
          exact gz_lv [0, 1] rfl J_2
        · have g_2 : ¬ ((nI sn) < x) := h_2
          refine gz_iconst (v := nI 1) C dX3_isStop_12 (by decide) ?_
          refine gz_goto C 17 dX3_isStop_13 (by decide) ?_
          simp only [if_neg g_2] at J_2 ⊢
          exact gz_lv [0, 1] rfl J_2
      simp only [if_neg g_1] at J_1 ⊢
      exact gz_lv [0, 1] rfl J_1
  refine gz_sw (v := .int (nI ((if x ≤ 0 then 0 else (if (nI sn) < x then 0 else 1))))) (w := .int (bI ((if x ≤ 0 then false else (if (nI sn) < x then false else true))))) (by rw [show nI ((if x ≤ 0 then 0 else (if (nI sn) < x then 0 else 1))) = bI ((if x ≤ 0 then false else (if (nI sn) < x then false else true))) from (by first | rfl | decide | ((repeat' split) <;> rfl))]) ?_
  exact gz_zret C hr hk (bI_nar _) (by first | rfl | (simp only [f3_isStop]) | (simp only [f3_isStop]; rfl)) rfl (Nat.le_refl _) (Nat.le_refl _) dX3_isStop_17

def f3_isPlace (sn : Nat) (x : Int32) : Bool := (if x < 0 then false else (if (nI sn) < x then false else true))
set_option maxRecDepth 100000 in
set_option maxHeartbeats 4000000 in
theorem kX3_isPlace (l : Launch) (D : va_G) (h : Nat) (ad : Nat → Nat) (cI : ClassId) (cJ : ClassId) (cZ : ClassId) (thr : Int32) (sn : Nat) (tkv : Nat → Int64) (opv : Nat → Int64) (shv : Nat → Int64) (ldv : Nat → Int32) (lim : Int32) (wyv : Nat → Int64) (bdv : Nat → Bool) (isr : Bool) (rn : Nat) (rdv : Nat → Nat) (fz : Nat) (icv : Nat → Nat) (exa : Bool) (fr : Nat) (fev : Nat → Nat) (eav : Nat → Int64) (rs : Nat) (rov : Nat → Nat) (x : Int32) (hsn : sn ≤ 20) : gz_M l yX3_isPlace cX3_isPlace 2 (some .boolean) ({ frames := 0, cells := 0, slots := 0, locals := 0 } : Room) D [(cI, .int), (cJ, .long), (cZ, .boolean)] [.ref h, .int x] (wM h ad cI cJ cZ thr sn tkv opv shv ldv lim wyv bdv isr rn rdv fz icv exa fr fev eav rs rov) (some (.int (bI (f3_isPlace sn x)))) (wM h ad cI cJ cZ thr sn tkv opv shv ldv lim wyv bdv isr rn rdv fz icv exa fr fev eav rs rov) 0 0 := by
  refine gz_met l (by decide) (Nat.le_of_ble_eq_true rfl) [(0, .ref h), (1, .int x)] rfl ?_
  intro sz p e s m args below meth c C hr hk hnm
  have C : gz_C p s m args c cX3_isPlace 2 RX3 D [(cI, .int), (cJ, .long), (cZ, .boolean)] (va_A (wM h ad cI cJ cZ thr sn tkv opv shv ldv lim wyv bdv isr rn rdv fz icv exa fr fev eav rs rov) sz) := C
  refine gz_iload_n C 1 dX3_isPlace_0 rfl ?_
  refine gz_J (ws2 := (wM h ad cI cJ cZ thr sn tkv opv shv ldv lim wyv bdv isr rn rdv fz icv exa fr fev eav rs rov)) (lv2 := [(0, .ref h), (1, .int x)]) (st2 := [.int (nI ((if x < 0 then 0 else (if (nI sn) < x then 0 else 1))))]) (pc2 := 17) ?_ (fun J_1 => ?_)
  rotate_left
  · refine gz_if_lt C 16 dX3_isPlace_1 (by decide) (fun h_1 => ?_) (fun h_1 => ?_)
    · skip
      refine gz_iconst (v := nI 0) C dX3_isPlace_16 (by decide) ?_
      simp only [if_pos h_1] at J_1 ⊢
      exact gz_lv [0, 1] rfl J_1
    · have g_1 : ¬ (x < 0) := h_1
      refine gz_iload_n C 1 dX3_isPlace_4 rfl ?_
      refine gz_aload_n C 0 dX3_isPlace_5 rfl ?_
      refine gz_get (ci := 4) C iwX3 0 rfl rfl 1 (by decide) wk_381 rfl rfl dX3_isPlace_6 ?_
      refine gz_J (ws2 := (wM h ad cI cJ cZ thr sn tkv opv shv ldv lim wyv bdv isr rn rdv fz icv exa fr fev eav rs rov)) (lv2 := [(0, .ref h), (1, .int x)]) (st2 := [.int (nI ((if (nI sn) < x then 0 else 1)))]) (pc2 := 17) ?_ (fun J_2 => ?_)
      rotate_left
      · refine gz_icmp_gt C 16 dX3_isPlace_9 (by decide) (fun h_2 => ?_) (fun h_2 => ?_)
        · skip
          refine gz_iconst (v := nI 0) C dX3_isPlace_16 (by decide) ?_
          simp only [if_pos h_2] at J_2 ⊢
          exact gz_lv [0, 1] rfl J_2
        · have g_2 : ¬ ((nI sn) < x) := h_2
          refine gz_iconst (v := nI 1) C dX3_isPlace_12 (by decide) ?_
          refine gz_goto C 17 dX3_isPlace_13 (by decide) ?_
          simp only [if_neg g_2] at J_2 ⊢
          exact gz_lv [0, 1] rfl J_2
      simp only [if_neg g_1] at J_1 ⊢
      exact gz_lv [0, 1] rfl J_1
  refine gz_sw (v := .int (nI ((if x < 0 then 0 else (if (nI sn) < x then 0 else 1))))) (w := .int (bI ((if x < 0 then false else (if (nI sn) < x then false else true))))) (by rw [show nI ((if x < 0 then 0 else (if (nI sn) < x then 0 else 1))) = bI ((if x < 0 then false else (if (nI sn) < x then false else true))) from (by first | rfl | decide | ((repeat' split) <;> rfl))]) ?_
  exact gz_zret C hr hk (bI_nar _) (by first | rfl | (simp only [f3_isPlace]) | (simp only [f3_isPlace]; rfl)) rfl (Nat.le_refl _) (Nat.le_refl _) dX3_isPlace_17

def f3_exact (exa : Bool) : Bool := exa
def f3_exact_thr  : Int32 := nI 0
set_option maxRecDepth 100000 in
set_option maxHeartbeats 4000000 in
theorem kX3_exact (l : Launch) (D : va_G) (h : Nat) (ad : Nat → Nat) (cI : ClassId) (cJ : ClassId) (cZ : ClassId) (thr : Int32) (sn : Nat) (tkv : Nat → Int64) (opv : Nat → Int64) (shv : Nat → Int64) (ldv : Nat → Int32) (lim : Int32) (wyv : Nat → Int64) (bdv : Nat → Bool) (isr : Bool) (rn : Nat) (rdv : Nat → Nat) (fz : Nat) (icv : Nat → Nat) (exa : Bool) (fr : Nat) (fev : Nat → Nat) (eav : Nat → Int64) (rs : Nat) (rov : Nat → Nat)  : gz_M l yX3_exact cX3_exact 1 (some .boolean) ({ frames := 0, cells := 0, slots := 0, locals := 0 } : Room) D [(cI, .int), (cJ, .long), (cZ, .boolean)] [.ref h] (wM h ad cI cJ cZ thr sn tkv opv shv ldv lim wyv bdv isr rn rdv fz icv exa fr fev eav rs rov) (some (.int (bI (f3_exact exa)))) (wM h ad cI cJ cZ f3_exact_thr sn tkv opv shv ldv lim wyv bdv isr rn rdv fz icv exa fr fev eav rs rov) 0 0 := by
  refine gz_met l (by decide) (Nat.le_of_ble_eq_true rfl) [(0, .ref h)] rfl ?_
  intro sz p e s m args below meth c C hr hk hnm
  have C : gz_C p s m args c cX3_exact 1 RX3 D [(cI, .int), (cJ, .long), (cZ, .boolean)] (va_A (wM h ad cI cJ cZ thr sn tkv opv shv ldv lim wyv bdv isr rn rdv fz icv exa fr fev eav rs rov) sz) := C
  refine gz_aload_n C 0 dX3_exact_0 rfl ?_
  refine gz_iconst (v := nI 0) C dX3_exact_1 (by decide) ?_
  refine gz_put (ci := 4) (ws2 := (wM h ad cI cJ cZ (nI 0) sn tkv opv shv ldv lim wyv bdv isr rn rdv fz icv exa fr fev eav rs rov)) C iwX3 0 rfl rfl 0 (by decide) wk_380 rfl tyX3 tyX3_ok nmX3 rfl rfl rfl rfl (Nat.le_of_ble_eq_true rfl) rfl dX3_exact_2 ?_
  refine gz_aload_n C 0 dX3_exact_5 rfl ?_
  refine gz_get (ci := 4) C iwX3 0 rfl rfl 14 (by decide) wk_394 rfl rfl dX3_exact_6 ?_
  exact gz_zret C hr hk (bI_nar _) (by first | rfl | (simp only [f3_exact, f3_exact_thr]) | (simp only [f3_exact, f3_exact_thr]; rfl)) (by first | rfl | (simp only [f3_exact, f3_exact_thr]) | (simp only [f3_exact, f3_exact_thr]; rfl)) (Nat.le_refl _) (Nat.le_refl _) dX3_exact_9

