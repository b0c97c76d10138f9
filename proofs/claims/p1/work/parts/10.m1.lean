def wM (h : Nat) (ad : Nat → Nat) (cI : ClassId) (cJ : ClassId) (cZ : ClassId) (thr : Int32) (sn : Nat) (tkv : Nat → Int64) (opv : Nat → Int64) (shv : Nat → Int64) (ldv : Nat → Int32) (lim : Int32) (wyv : Nat → Int64) (bdv : Nat → Bool) (isr : Bool) (rn : Nat) (rdv : Nat → Nat) (fz : Nat) (icv : Nat → Nat) (exa : Bool) (fr : Nat) (fev : Nat → Nat) (eav : Nat → Int64) (rs : Nat) (rov : Nat → Nat) : va_W := [(h, .inr (4, [.int thr, .int (nI sn), .ref ((ad 2)), .ref ((ad 3)), .ref ((ad 4)), .ref ((ad 5)), .int lim, .ref ((ad 7)), .ref ((ad 8)), .int (bI isr), .int (nI rn), .ref ((ad 11)), .int (nI fz), .ref ((ad 13)), .int (bI exa), .int (nI fr), .ref ((ad 16)), .ref ((ad 17)), .int (nI rs), .ref ((ad 19))])), (ad 2, .inl (cJ, 21, .inr (.inl tkv))), (ad 3, .inl (cJ, 21, .inr (.inl opv))), (ad 4, .inl (cJ, 21, .inr (.inl shv))), (ad 5, .inl (cI, 21, .inl ldv)), (ad 7, .inl (cJ, 441, .inr (.inl wyv))), (ad 8, .inl (cZ, 441, .inl (bF bdv))), (ad 11, .inl (cI, 20, .inl (nF rdv))), (ad 13, .inl (cI, 20, .inl (nF icv))), (ad 16, .inl (cI, 20, .inl (nF fev))), (ad 17, .inl (cJ, 22528, .inr (.inl eav))), (ad 19, .inl (cI, 21, .inl (nF rov)))]

def f3_isStop (sn : Nat) (x : Int32) : Bool := (if x ≤ 0 then false else (if (nI sn) < x then false else true))
set_option maxRecDepth 100000 in
set_option maxHeartbeats 4000000 in
theorem kX3_isStop (l : Launch) (D : va_G) (h : Nat) (ad : Nat → Nat) (cI : ClassId) (cJ : ClassId) (cZ : ClassId) (thr : Int32) (sn : Nat) (tkv : Nat → Int64) (opv : Nat → Int64) (shv : Nat → Int64) (ldv : Nat → Int32) (lim : Int32) (wyv : Nat → Int64) (bdv : Nat → Bool) (isr : Bool) (rn : Nat) (rdv : Nat → Nat) (fz : Nat) (icv : Nat → Nat) (exa : Bool) (fr : Nat) (fev : Nat → Nat) (eav : Nat → Int64) (rs : Nat) (rov : Nat → Nat) (x : Int32) (hsn : sn ≤ 20) : gz_M l yX3_isStop cX3_isStop 2 (some .boolean) ({ frames := 0, cells := 0, slots := 0, locals := 0 } : Room) D [(cI, .int), (cJ, .long), (cZ, .boolean)] [.ref h, .int x] (wM h ad cI cJ cZ thr sn tkv opv shv ldv lim wyv bdv isr rn rdv fz icv exa fr fev eav rs rov) (some (.int (bI (f3_isStop sn x)))) (wM h ad cI cJ cZ thr sn tkv opv shv ldv lim wyv bdv isr rn rdv fz icv exa fr fev eav rs rov) 0 0 := by
  refine gz_met l (by decide) (Nat.le_of_ble_eq_true rfl) [(0, .ref h), (1, .int x)] rfl ?_
  intro sz p e s m args below meth c C hr hk hnm
  have C : gz_C p s m args c cX3_isStop 2 RX3 D [(cI, .int), (cJ, .long), (cZ, .boolean)] (va_A (wM h ad cI cJ cZ thr sn tkv opv shv ldv lim wyv bdv isr rn rdv fz icv exa fr fev eav rs rov) sz) := C
  refine gz_iload_n C 1 dX3_isStop_0 rfl ?_
  refine gz_J (ws2 := (wM h ad cI cJ cZ thr sn tkv opv shv ldv lim wyv bdv isr rn rdv fz icv exa fr fev eav rs rov)) (lv2 := [(0, .ref h), (1, .int x)]) (st2 := [.int (nI ((if x ≤ 0 then 0 else (if (nI sn) < x then 0 else 1))))]) (pc2 := 17) ?_ (fun J_1 => ?_)
  rotate_left
  · refine gz_if_le C 16 dX3_isStop_1 (by decide) (fun h_1 => ?_) (fun h_1 => ?_)
    · skip
      refine gz_iconst (v := nI 0) C dX3_isStop_16 (by decide) ?_
      simp only [if_pos h_1] at J_1 ⊢
      exact gz_lv [0, 1] rfl J_1
    · have g_1 : ¬ (x ≤ 0) := h_1
      refine gz_iload_n C 1 dX3_isStop_4 rfl ?_
      refine gz_aload_n C 0 dX3_isStop_5 rfl ?_
      refine gz_get (ci := 4) C iwX3 0 rfl rfl 1 (by decide) wk_381 rfl rfl dX3_isStop_6 ?_
      refine gz_J (ws2 := (wM h ad cI cJ cZ thr sn tkv opv shv ldv lim wyv bdv isr rn rdv fz icv exa fr fev eav rs rov)) (lv2 := [(0, .ref h), (1, .int x)]) (st2 := [.int (nI ((if (nI sn) < x then 0 else 1)))]) (pc2 := 17) ?_ (fun J_2 => ?_)
      rotate_left
      · refine gz_icmp_gt C 16 dX3_isStop_9 (by decide) (fun h_2 => ?_) (fun h_2 => ?_)
        · skip
          refine gz_iconst (v := nI 0) C dX3_isStop_16 (by decide) ?_
          simp only [if_pos h_2] at J_2 ⊢
          exact gz_lv [0, 1] rfl J_2
        · have g_2 : ¬ ((nI sn) < x) := h_2
          refine gz_iconst (v := nI 1) C dX3_isStop_12 (by decide) ?_
          refine gz_goto C 17 dX3_isStop_13 (by decide) ?_
          simp only [if_neg g_2] at J_2 ⊢
          exact gz_lv [0, 1] rfl J_2
      simp only [if_neg g_1] at J_1 ⊢
      exact gz_lv [0, 1] rfl J_1
  refine gz_sw (v := .int (nI ((if x ≤ 0 then 0 else (if (nI sn) < x then 0 else 1))))) (w := .int (bI ((if x ≤ 0 then false else (if (nI sn) < x then false else true))))) (by rw [show nI ((if x ≤ 0 then 0 else (if (nI sn) < x then 0 else 1))) = bI ((if x ≤ 0 then false else (if (nI sn) < x then false else true))) from (by first | rfl | decide | ((repeat' split) <;> rfl))]) ?_
  exact gz_zret C hr hk (bI_nar _) (by first | rfl | (simp only [f3_isStop]) | (simp only [f3_isStop]; rfl)) rfl (Nat.le_refl _) (Nat.le_refl _) dX3_isStop_17

def f3_isPlace (sn : Nat) (x : Int32) : Bool := (if x < 0 then false else (if (nI sn) < x then false else true))
set_option maxRecDepth 100000 in
set_option maxHeartbeats 4000000 in
theorem kX3_isPlace (l : Launch) (D : va_G) (h : Nat) (ad : Nat → Nat) (cI : ClassId) (cJ : ClassId) (cZ : ClassId) (thr : Int32) (sn : Nat) (tkv : Nat → Int64) (opv : Nat → Int64) (shv : Nat → Int64) (ldv : Nat → Int32) (lim : Int32) (wyv : Nat → Int64) (bdv : Nat → Bool) (isr : Bool) (rn : Nat) (rdv : Nat → Nat) (fz : Nat) (icv : Nat → Nat) (exa : Bool) (fr : Nat) (fev : Nat → Nat) (eav : Nat → Int64) (rs : Nat) (rov : Nat → Nat) (x : Int32) (hsn : sn ≤ 20) : gz_M l yX3_isPlace cX3_isPlace 2 (some .boolean) ({ frames := 0, cells := 0, slots := 0, locals := 0 } : Room) D [(cI, .int), (cJ, .long), (cZ, .boolean)] [.ref h, .int x] (wM h ad cI cJ cZ thr sn tkv opv shv ldv lim wyv bdv isr rn rdv fz icv exa fr fev eav rs rov) (some (.int (bI (f3_isPlace sn x)))) (wM h ad cI cJ cZ thr sn tkv opv shv ldv lim wyv bdv isr rn rdv fz icv exa fr fev eav rs rov) 0 0 := by
  refine gz_met l (by decide) (Nat.le_of_ble_eq_true rfl) [(0, .ref h), (1, .int x)] rfl ?_
  intro sz p e s m args below meth c C hr hk hnm
  have C : gz_C p s m args c cX3_isPlace 2 RX3 D [(cI, .int), (cJ, .long), (cZ, .boolean)] (va_A (wM h ad cI cJ cZ thr sn tkv opv shv ldv lim wyv bdv isr rn rdv fz icv exa fr fev eav rs rov) sz) := C
  refine gz_iload_n C 1 dX3_isPlace_0 rfl ?_
  refine gz_J (ws2 := (wM h ad cI cJ cZ thr sn tkv opv shv ldv lim wyv bdv isr rn rdv fz icv exa fr fev eav rs rov)) (lv2 := [(0, .ref h), (1, .int x)]) (st2 := [.int (nI ((if x < 0 then 0 else (if (nI sn) < x then 0 else 1))))]) (pc2 := 17) ?_ (fun J_1 => ?_)
  rotate_left
  · refine gz_if_lt C 16 dX3_isPlace_1 (by decide) (fun h_1 => ?_) (fun h_1 => ?_)
    · skip
      refine gz_iconst (v := nI 0) C dX3_isPlace_16 (by decide) ?_
      simp only [if_pos h_1] at J_1 ⊢
      exact gz_lv [0, 1] rfl J_1
    · have g_1 : ¬ (x < 0) := h_1
      refine gz_iload_n C 1 dX3_isPlace_4 rfl ?_
      refine gz_aload_n C 0 dX3_isPlace_5 rfl ?_
      refine gz_get (ci := 4) C iwX3 0 rfl rfl 1 (by decide) wk_381 rfl rfl dX3_isPlace_6 ?_
      refine gz_J (ws2 := (wM h ad cI cJ cZ thr sn tkv opv shv ldv lim wyv bdv isr rn rdv fz icv exa fr fev eav rs rov)) (lv2 := [(0, .ref h), (1, .int x)]) (st2 := [.int (nI ((if (nI sn) < x then 0 else 1)))]) (pc2 := 17) ?_ (fun J_2 => ?_)
      rotate_left
      · refine gz_icmp_gt C 16 dX3_isPlace_9 (by decide) (fun h_2 => ?_) (fun h_2 => ?_)
        · skip
          refine gz_iconst (v := nI 0) C dX3_isPlace_16 (by decide) ?_
          simp only [if_pos h_2] at J_2 ⊢
          exact gz_lv [0, 1] rfl J_2
        · have g_2 : ¬ ((nI sn) < x) := h_2
          refine gz_iconst (v := nI 1) C dX3_isPlace_12 (by decide) ?_
          refine gz_goto C 17 dX3_isPlace_13 (by decide) ?_
          simp only [if_neg g_2] at J_2 ⊢
          exact gz_lv [0, 1] rfl J_2
      simp only [if_neg g_1] at J_1 ⊢
      exact gz_lv [0, 1] rfl J_1
  refine gz_sw (v := .int (nI ((if x < 0 then 0 else (if (nI sn) < x then 0 else 1))))) (w := .int (bI ((if x < 0 then false else (if (nI sn) < x then false else true))))) (by rw [show nI ((if x < 0 then 0 else (if (nI sn) < x then 0 else 1))) = bI ((if x < 0 then false else (if (nI sn) < x then false else true))) from (by first | rfl | decide | ((repeat' split) <;> rfl))]) ?_
  exact gz_zret C hr hk (bI_nar _) (by first | rfl | (simp only [f3_isPlace]) | (simp only [f3_isPlace]; rfl)) rfl (Nat.le_refl _) (Nat.le_refl _) dX3_isPlace_17

def f3_exact (exa : Bool) : Bool := exa
def f3_exact_thr  : Int32 := nI 0
set_option maxRecDepth 100000 in
set_option maxHeartbeats 4000000 in
theorem kX3_exact (l : Launch) (D : va_G) (h : Nat) (ad : Nat → Nat) (cI : ClassId) (cJ : ClassId) (cZ : ClassId) (thr : Int32) (sn : Nat) (tkv : Nat → Int64) (opv : Nat → Int64) (shv : Nat → Int64) (ldv : Nat → Int32) (lim : Int32) (wyv : Nat → Int64) (bdv : Nat → Bool) (isr : Bool) (rn : Nat) (rdv : Nat → Nat) (fz : Nat) (icv : Nat → Nat) (exa : Bool) (fr : Nat) (fev : Nat → Nat) (eav : Nat → Int64) (rs : Nat) (rov : Nat → Nat)  : gz_M l yX3_exact cX3_exact 1 (some .boolean) ({ frames := 0, cells := 0, slots := 0, locals := 0 } : Room) D [(cI, .int), (cJ, .long), (cZ, .boolean)] [.ref h] (wM h ad cI cJ cZ thr sn tkv opv shv ldv lim wyv bdv isr rn rdv fz icv exa fr fev eav rs rov) (some (.int (bI (f3_exact exa)))) (wM h ad cI cJ cZ f3_exact_thr sn tkv opv shv ldv lim wyv bdv isr rn rdv fz icv exa fr fev eav rs rov) 0 0 := by
  refine gz_met l (by decide) (Nat.le_of_ble_eq_true rfl) [(0, .ref h)] rfl ?_
  intro sz p e s m args below meth c C hr hk hnm
  have C : gz_C p s m args c cX3_exact 1 RX3 D [(cI, .int), (cJ, .long), (cZ, .boolean)] (va_A (wM h ad cI cJ cZ thr sn tkv opv shv ldv lim wyv bdv isr rn rdv fz icv exa fr fev eav rs rov) sz) := C
  refine gz_aload_n C 0 dX3_exact_0 rfl ?_
  refine gz_iconst (v := nI 0) C dX3_exact_1 (by decide) ?_
  refine gz_put (ci := 4) (ws2 := (wM h ad cI cJ cZ (nI 0) sn tkv opv shv ldv lim wyv bdv isr rn rdv fz icv exa fr fev eav rs rov)) C iwX3 0 rfl rfl 0 (by decide) wk_380 rfl tyX3 tyX3_ok nmX3 rfl rfl rfl rfl (Nat.le_of_ble_eq_true rfl) rfl dX3_exact_2 ?_
  refine gz_aload_n C 0 dX3_exact_5 rfl ?_
  refine gz_get (ci := 4) C iwX3 0 rfl rfl 14 (by decide) wk_394 rfl rfl dX3_exact_6 ?_
  exact gz_zret C hr hk (bI_nar _) (by first | rfl | (simp only [f3_exact, f3_exact_thr]) | (simp only [f3_exact, f3_exact_thr]; rfl)) (by first | rfl | (simp only [f3_exact, f3_exact_thr]) | (simp only [f3_exact, f3_exact_thr]; rfl)) (Nat.le_refl _) (Nat.le_refl _) dX3_exact_9


theorem q3_place {sn : Nat} {x : Int32} (h : f3_isPlace sn x = true) (hs : sn ≤ 20) : x = nI (cl x) ∧ cl x ≤ sn := by
  unfold f3_isPlace at h
  by_cases h0 : x < 0
  · rw [if_pos h0] at h; cases h
  · rw [if_neg h0] at h
    by_cases h1 : nI sn < x
    · rw [if_pos h1] at h; cases h
    · refine ⟨cl_of h0, ?_⟩
      have h2 := cl_of h0
      have h3 := cl_lt x h0
      rw [h2] at h1
      rw [nI_ltI (by omega) h3] at h1
      omega
theorem q3_stop {sn : Nat} {x : Int32} (h : f3_isStop sn x = true) (hs : sn ≤ 20) : x = nI (cl x) ∧ 1 ≤ cl x ∧ cl x ≤ sn := by
  unfold f3_isStop at h
  by_cases h0 : x ≤ 0
  · rw [if_pos h0] at h; cases h
  · rw [if_neg h0] at h
    by_cases h1 : nI sn < x
    · rw [if_pos h1] at h; cases h
    · have h4 : ¬ x < 0 := fun z => h0 (Int32.le_of_lt z)
      have h2 := cl_of h4
      have h3 := cl_lt x h4
      refine ⟨h2, ?_, ?_⟩
      · rw [h2, nI_le0 h3] at h0; omega
      · rw [h2] at h1
        rw [nI_ltI (by omega) h3] at h1
        omega

def f3_limit (n : Int32) : Int32 := (if (((-1))) ≤ n then nI ((if n = (((-1))) then 0 else 1)) else (-12))
def f3_limit_thr (n : Int32) : Int32 := (if (((-1))) ≤ n then nI 0 else nI 0)
def f3_limit_lim (lim : Int32) (n : Int32) : Int32 := (if (((-1))) ≤ n then n else lim)
set_option maxRecDepth 100000 in
set_option maxHeartbeats 4000000 in
theorem kX3_limit (l : Launch) (D : va_G) (h : Nat) (ad : Nat → Nat) (cI : ClassId) (cJ : ClassId) (cZ : ClassId) (thr : Int32) (sn : Nat) (tkv : Nat → Int64) (opv : Nat → Int64) (shv : Nat → Int64) (ldv : Nat → Int32) (lim : Int32) (wyv : Nat → Int64) (bdv : Nat → Bool) (isr : Bool) (rn : Nat) (rdv : Nat → Nat) (fz : Nat) (icv : Nat → Nat) (exa : Bool) (fr : Nat) (fev : Nat → Nat) (eav : Nat → Int64) (rs : Nat) (rov : Nat → Nat) (n : Int32)  : gz_M l yX3_limit cX3_limit 2 (some .int) ({ frames := 0, cells := 0, slots := 0, locals := 0 } : Room) D [(cI, .int), (cJ, .long), (cZ, .boolean)] [.ref h, .int n] (wM h ad cI cJ cZ thr sn tkv opv shv ldv lim wyv bdv isr rn rdv fz icv exa fr fev eav rs rov) (some (.int (f3_limit n))) (wM h ad cI cJ cZ (f3_limit_thr n) sn tkv opv shv ldv (f3_limit_lim lim n) wyv bdv isr rn rdv fz icv exa fr fev eav rs rov) 0 0 := by
  refine gz_met l (by decide) (Nat.le_of_ble_eq_true rfl) [(0, .ref h), (1, .int n)] rfl ?_
  intro sz p e s m args below meth c C hr hk hnm
  have C : gz_C p s m args c cX3_limit 2 RX3 D [(cI, .int), (cJ, .long), (cZ, .boolean)] (va_A (wM h ad cI cJ cZ thr sn tkv opv shv ldv lim wyv bdv isr rn rdv fz icv exa fr fev eav rs rov) sz) := C
  refine gz_aload_n C 0 dX3_limit_0 rfl ?_
  refine gz_iconst (v := nI 0) C dX3_limit_1 (by decide) ?_
  refine gz_put (ci := 4) (ws2 := (wM h ad cI cJ cZ (nI 0) sn tkv opv shv ldv lim wyv bdv isr rn rdv fz icv exa fr fev eav rs rov)) C iwX3 0 rfl rfl 0 (by decide) wk_380 rfl tyX3 tyX3_ok nmX3 rfl rfl rfl rfl (Nat.le_of_ble_eq_true rfl) rfl dX3_limit_2 ?_
  refine gz_iload_n C 1 dX3_limit_5 rfl ?_
  refine gz_iconst (v := ((-1))) C dX3_limit_6 (by decide) ?_
  refine gz_icmp_ge C 13 dX3_limit_7 (by decide) (fun h_1 => ?_) (fun h_1 => ?_)
  · skip
    refine gz_aload_n C 0 dX3_limit_13 rfl ?_
    refine gz_iload_n C 1 dX3_limit_14 rfl ?_
    refine gz_put (ci := 4) (ws2 := (wM h ad cI cJ cZ (nI 0) sn tkv opv shv ldv n wyv bdv isr rn rdv fz icv exa fr fev eav rs rov)) C iwX3 0 rfl rfl 6 (by decide) wk_386 rfl tyX3 tyX3_ok nmX3 rfl rfl rfl rfl (Nat.le_of_ble_eq_true rfl) rfl dX3_limit_15 ?_
    refine gz_iload_n C 1 dX3_limit_18 rfl ?_
    refine gz_iconst (v := ((-1))) C dX3_limit_19 (by decide) ?_
    refine gz_J (ws2 := (wM h ad cI cJ cZ (nI 0) sn tkv opv shv ldv n wyv bdv isr rn rdv fz icv exa fr fev eav rs rov)) (lv2 := [(0, .ref h), (1, .int n)]) (st2 := [.int (nI ((if n = (((-1))) then 0 else 1)))]) (pc2 := 28) ?_ (fun J_2 => ?_)
    rotate_left
    · refine gz_icmp_ne C 27 dX3_limit_20 (by decide) (fun h_2 => ?_) (fun h_2 => ?_)
      · have g_2 : ¬ (n = (((-1)))) := h_2
        refine gz_iconst (v := nI 1) C dX3_limit_27 (by decide) ?_
        simp only [if_neg g_2] at J_2 ⊢
        exact gz_lv [0, 1] rfl J_2
      · skip
        refine gz_iconst (v := nI 0) C dX3_limit_23 (by decide) ?_
        refine gz_goto C 28 dX3_limit_24 (by decide) ?_
        simp only [if_pos h_2] at J_2 ⊢
        exact gz_lv [0, 1] rfl J_2
    exact gz_iret C hr hk (by first | rfl | (simp only [f3_limit, f3_limit_thr, f3_limit_lim, if_pos h_1]) | (simp only [f3_limit, f3_limit_thr, f3_limit_lim, if_pos h_1]; rfl)) (by first | rfl | (simp only [f3_limit, f3_limit_thr, f3_limit_lim, if_pos h_1]) | (simp only [f3_limit, f3_limit_thr, f3_limit_lim, if_pos h_1]; rfl)) (Nat.le_refl _) (Nat.le_refl _) dX3_limit_28
  · have g_1 : ¬ ((((-1))) ≤ n) := h_1
    refine gz_bipush (v := ((-12))) C dX3_limit_10 (by decide) ?_
    exact gz_iret C hr hk (by first | rfl | (simp only [f3_limit, f3_limit_thr, f3_limit_lim, if_neg g_1]) | (simp only [f3_limit, f3_limit_thr, f3_limit_lim, if_neg g_1]; rfl)) (by first | rfl | (simp only [f3_limit, f3_limit_thr, f3_limit_lim, if_neg g_1]) | (simp only [f3_limit, f3_limit_thr, f3_limit_lim, if_neg g_1]; rfl)) (Nat.le_refl _) (Nat.le_refl _) dX3_limit_12

def f3_stop (sn : Nat) (ta : Int64) (tb : Int64) (tc : Int64) : Int32 := (if ta < 0 then (-12) else (if 100000 < ta then (-12) else (if tb < 0 then (-12) else (if tc < tb then (-12) else (if tc ≤ 1000000 then (if sn = 20 then (-14) else nI (sn + 1)) else (-12))))))
def f3_stop_thr (sn : Nat) (ta : Int64) (tb : Int64) (tc : Int64) : Int32 := (if ta < 0 then nI 0 else (if 100000 < ta then nI 0 else (if tb < 0 then nI 0 else (if tc < tb then nI 0 else (if tc ≤ 1000000 then (if sn = 20 then nI 0 else nI 0) else nI 0)))))
def f3_stop_sn (sn : Nat) (ta : Int64) (tb : Int64) (tc : Int64) : Nat := (if ta < 0 then sn else (if 100000 < ta then sn else (if tb < 0 then sn else (if tc < tb then sn else (if tc ≤ 1000000 then (if sn = 20 then sn else sn + 1) else sn)))))
def f3_stop_tkv (sn : Nat) (tkv : Nat → Int64) (ta : Int64) (tb : Int64) (tc : Int64) : Nat → Int64 := (if ta < 0 then tkv else (if 100000 < ta then tkv else (if tb < 0 then tkv else (if tc < tb then tkv else (if tc ≤ 1000000 then (if sn = 20 then tkv else va_up tkv (sn + 1) ta) else tkv)))))
def f3_stop_opv (sn : Nat) (opv : Nat → Int64) (ta : Int64) (tb : Int64) (tc : Int64) : Nat → Int64 := (if ta < 0 then opv else (if 100000 < ta then opv else (if tb < 0 then opv else (if tc < tb then opv else (if tc ≤ 1000000 then (if sn = 20 then opv else va_up opv (sn + 1) tb) else opv)))))
def f3_stop_shv (sn : Nat) (shv : Nat → Int64) (ta : Int64) (tb : Int64) (tc : Int64) : Nat → Int64 := (if ta < 0 then shv else (if 100000 < ta then shv else (if tb < 0 then shv else (if tc < tb then shv else (if tc ≤ 1000000 then (if sn = 20 then shv else va_up shv (sn + 1) tc) else shv)))))
def f3_stop_isr (sn : Nat) (isr : Bool) (ta : Int64) (tb : Int64) (tc : Int64) : Bool := (if ta < 0 then isr else (if 100000 < ta then isr else (if tb < 0 then isr else (if tc < tb then isr else (if tc ≤ 1000000 then (if sn = 20 then isr else false) else isr)))))
def f3_stop_exa (sn : Nat) (exa : Bool) (ta : Int64) (tb : Int64) (tc : Int64) : Bool := (if ta < 0 then exa else (if 100000 < ta then exa else (if tb < 0 then exa else (if tc < tb then exa else (if tc ≤ 1000000 then (if sn = 20 then exa else false) else exa)))))
set_option maxRecDepth 100000 in
set_option maxHeartbeats 4000000 in
theorem kX3_stop (l : Launch) (D : va_G) (h : Nat) (ad : Nat → Nat) (cI : ClassId) (cJ : ClassId) (cZ : ClassId) (thr : Int32) (sn : Nat) (tkv : Nat → Int64) (opv : Nat → Int64) (shv : Nat → Int64) (ldv : Nat → Int32) (lim : Int32) (wyv : Nat → Int64) (bdv : Nat → Bool) (isr : Bool) (rn : Nat) (rdv : Nat → Nat) (fz : Nat) (icv : Nat → Nat) (exa : Bool) (fr : Nat) (fev : Nat → Nat) (eav : Nat → Int64) (rs : Nat) (rov : Nat → Nat) (ta : Int64) (tb : Int64) (tc : Int64) (hsn : sn ≤ 20) : gz_M l yX3_stop cX3_stop 7 (some .int) ({ frames := 0, cells := 0, slots := 0, locals := 0 } : Room) D [(cI, .int), (cJ, .long), (cZ, .boolean)] [.ref h, .long ta, .long tb, .long tc] (wM h ad cI cJ cZ thr sn tkv opv shv ldv lim wyv bdv isr rn rdv fz icv exa fr fev eav rs rov) (some (.int (f3_stop sn ta tb tc))) (wM h ad cI cJ cZ (f3_stop_thr sn ta tb tc) (f3_stop_sn sn ta tb tc) (f3_stop_tkv sn tkv ta tb tc) (f3_stop_opv sn opv ta tb tc) (f3_stop_shv sn shv ta tb tc) ldv lim wyv bdv (f3_stop_isr sn isr ta tb tc) rn rdv fz icv (f3_stop_exa sn exa ta tb tc) fr fev eav rs rov) 0 0 := by
  refine gz_met l (by decide) (Nat.le_of_ble_eq_true rfl) [(0, .ref h), (1, .long ta), (3, .long tb), (5, .long tc)] rfl ?_
  intro sz p e s m args below meth c C hr hk hnm
  have C : gz_C p s m args c cX3_stop 7 RX3 D [(cI, .int), (cJ, .long), (cZ, .boolean)] (va_A (wM h ad cI cJ cZ thr sn tkv opv shv ldv lim wyv bdv isr rn rdv fz icv exa fr fev eav rs rov) sz) := C
  refine gz_aload_n C 0 dX3_stop_0 rfl ?_
  refine gz_iconst (v := nI 0) C dX3_stop_1 (by decide) ?_
  refine gz_put (ci := 4) (ws2 := (wM h ad cI cJ cZ (nI 0) sn tkv opv shv ldv lim wyv bdv isr rn rdv fz icv exa fr fev eav rs rov)) C iwX3 0 rfl rfl 0 (by decide) wk_380 rfl tyX3 tyX3_ok nmX3 rfl rfl rfl rfl (Nat.le_of_ble_eq_true rfl) rfl dX3_stop_2 ?_
  refine gz_lload_n C 1 dX3_stop_5 rfl ?_
  refine gz_lconst (v := 0) C dX3_stop_6 (by decide) ?_
  refine gz_lcmp_lt C 41 dX3_stop_7 dX3_stop_8 (by decide) (fun h_1 => ?_) (fun h_1 => ?_)
  · skip
    refine gz_bipush (v := ((-12))) C dX3_stop_41 (by decide) ?_
    exact gz_iret C hr hk (by first | rfl | (simp only [f3_stop, f3_stop_thr, f3_stop_sn, f3_stop_tkv, f3_stop_opv, f3_stop_shv, f3_stop_isr, f3_stop_exa, if_pos h_1]) | (simp only [f3_stop, f3_stop_thr, f3_stop_sn, f3_stop_tkv, f3_stop_opv, f3_stop_shv, f3_stop_isr, f3_stop_exa, if_pos h_1]; rfl)) (by first | rfl | (simp only [f3_stop, f3_stop_thr, f3_stop_sn, f3_stop_tkv, f3_stop_opv, f3_stop_shv, f3_stop_isr, f3_stop_exa, if_pos h_1]) | (simp only [f3_stop, f3_stop_thr, f3_stop_sn, f3_stop_tkv, f3_stop_opv, f3_stop_shv, f3_stop_isr, f3_stop_exa, if_pos h_1]; rfl)) (Nat.le_refl _) (Nat.le_refl _) dX3_stop_43
  · have g_1 : ¬ (ta < 0) := h_1
    refine gz_lload_n C 1 dX3_stop_11 rfl ?_
    refine gz_ldc2 (v := 100000) C wk_449 dX3_stop_12 ?_
    refine gz_lcmp_gt C 41 dX3_stop_15 dX3_stop_16 (by decide) (fun h_2 => ?_) (fun h_2 => ?_)
    · skip
      refine gz_bipush (v := ((-12))) C dX3_stop_41 (by decide) ?_
      exact gz_iret C hr hk (by first | rfl | (simp only [f3_stop, f3_stop_thr, f3_stop_sn, f3_stop_tkv, f3_stop_opv, f3_stop_shv, f3_stop_isr, f3_stop_exa, if_neg g_1, if_pos h_2]) | (simp only [f3_stop, f3_stop_thr, f3_stop_sn, f3_stop_tkv, f3_stop_opv, f3_stop_shv, f3_stop_isr, f3_stop_exa, if_neg g_1, if_pos h_2]; rfl)) (by first | rfl | (simp only [f3_stop, f3_stop_thr, f3_stop_sn, f3_stop_tkv, f3_stop_opv, f3_stop_shv, f3_stop_isr, f3_stop_exa, if_neg g_1, if_pos h_2]) | (simp only [f3_stop, f3_stop_thr, f3_stop_sn, f3_stop_tkv, f3_stop_opv, f3_stop_shv, f3_stop_isr, f3_stop_exa, if_neg g_1, if_pos h_2]; rfl)) (Nat.le_refl _) (Nat.le_refl _) dX3_stop_43
    · have g_2 : ¬ (100000 < ta) := h_2
      refine gz_lload_n C 2 dX3_stop_19 rfl ?_
      refine gz_lconst (v := 0) C dX3_stop_20 (by decide) ?_
      refine gz_lcmp_lt C 41 dX3_stop_21 dX3_stop_22 (by decide) (fun h_3 => ?_) (fun h_3 => ?_)
      · skip
        refine gz_bipush (v := ((-12))) C dX3_stop_41 (by decide) ?_
        exact gz_iret C hr hk (by first | rfl | (simp only [f3_stop, f3_stop_thr, f3_stop_sn, f3_stop_tkv, f3_stop_opv, f3_stop_shv, f3_stop_isr, f3_stop_exa, if_neg g_1, if_neg g_2, if_pos h_3]) | (simp only [f3_stop, f3_stop_thr, f3_stop_sn, f3_stop_tkv, f3_stop_opv, f3_stop_shv, f3_stop_isr, f3_stop_exa, if_neg g_1, if_neg g_2, if_pos h_3]; rfl)) (by first | rfl | (simp only [f3_stop, f3_stop_thr, f3_stop_sn, f3_stop_tkv, f3_stop_opv, f3_stop_shv, f3_stop_isr, f3_stop_exa, if_neg g_1, if_neg g_2, if_pos h_3]) | (simp only [f3_stop, f3_stop_thr, f3_stop_sn, f3_stop_tkv, f3_stop_opv, f3_stop_shv, f3_stop_isr, f3_stop_exa, if_neg g_1, if_neg g_2, if_pos h_3]; rfl)) (Nat.le_refl _) (Nat.le_refl _) dX3_stop_43
      · have g_3 : ¬ (tb < 0) := h_3
        refine gz_lload_n C 2 dX3_stop_25 rfl ?_
        refine gz_lload C 3 dX3_stop_26 rfl ?_
        refine gz_lcmp_gt C 41 dX3_stop_28 dX3_stop_29 (by decide) (fun h_4 => ?_) (fun h_4 => ?_)
        · skip
          refine gz_bipush (v := ((-12))) C dX3_stop_41 (by decide) ?_
          exact gz_iret C hr hk (by first | rfl | (simp only [f3_stop, f3_stop_thr, f3_stop_sn, f3_stop_tkv, f3_stop_opv, f3_stop_shv, f3_stop_isr, f3_stop_exa, if_neg g_1, if_neg g_2, if_neg g_3, if_pos h_4]) | (simp only [f3_stop, f3_stop_thr, f3_stop_sn, f3_stop_tkv, f3_stop_opv, f3_stop_shv, f3_stop_isr, f3_stop_exa, if_neg g_1, if_neg g_2, if_neg g_3, if_pos h_4]; rfl)) (by first | rfl | (simp only [f3_stop, f3_stop_thr, f3_stop_sn, f3_stop_tkv, f3_stop_opv, f3_stop_shv, f3_stop_isr, f3_stop_exa, if_neg g_1, if_neg g_2, if_neg g_3, if_pos h_4]) | (simp only [f3_stop, f3_stop_thr, f3_stop_sn, f3_stop_tkv, f3_stop_opv, f3_stop_shv, f3_stop_isr, f3_stop_exa, if_neg g_1, if_neg g_2, if_neg g_3, if_pos h_4]; rfl)) (Nat.le_refl _) (Nat.le_refl _) dX3_stop_43
        · have g_4 : ¬ (tc < tb) := h_4
          refine gz_lload C 3 dX3_stop_32 rfl ?_
          refine gz_ldc2 (v := 1000000) C wk_450 dX3_stop_34 ?_
          refine gz_lcmp_le C 44 dX3_stop_37 dX3_stop_38 (by decide) (fun h_5 => ?_) (fun h_5 => ?_)
          · skip
            refine gz_aload_n C 0 dX3_stop_44 rfl ?_
            refine gz_get (ci := 4) C iwX3 0 rfl rfl 1 (by decide) wk_381 rfl rfl dX3_stop_45 ?_
            refine gz_bipush (v := nI 20) C dX3_stop_48 (by decide) ?_
            refine gz_ncmp_ne C 56 (by omega) (by omega) dX3_stop_50 (by decide) (fun h_6 => ?_) (fun h_6 => ?_)
            · have g_6 : ¬ (sn = 20) := h_6
              refine gz_aload_n C 0 dX3_stop_56 rfl ?_
              refine gz_dup C dX3_stop_57 rfl ?_
              refine gz_get (ci := 4) C iwX3 0 rfl rfl 1 (by decide) wk_381 rfl rfl dX3_stop_58 ?_
              refine gz_iconst (v := nI 1) C dX3_stop_61 (by decide) ?_
              refine gz_iadd (v := nI (sn + 1)) C dX3_stop_62 (nI_add _ _) ?_
              refine gz_put (ci := 4) (ws2 := (wM h ad cI cJ cZ (nI 0) (sn + 1) tkv opv shv ldv lim wyv bdv isr rn rdv fz icv exa fr fev eav rs rov)) C iwX3 0 rfl rfl 1 (by decide) wk_381 rfl tyX3 tyX3_ok nmX3 rfl rfl rfl rfl (Nat.le_of_ble_eq_true rfl) rfl dX3_stop_63 ?_
              refine gz_aload_n C 0 dX3_stop_66 rfl ?_
              refine gz_get (ci := 4) C iwX3 0 rfl rfl 2 (by decide) wk_382 rfl rfl dX3_stop_67 ?_
              refine gz_aload_n C 0 dX3_stop_70 rfl ?_
              refine gz_get (ci := 4) C iwX3 0 rfl rfl 1 (by decide) wk_381 rfl rfl dX3_stop_71 ?_
              refine gz_lload_n C 1 dX3_stop_74 rfl ?_
              refine gz_last (ws2 := (wM h ad cI cJ cZ (nI 0) (sn + 1) (va_up tkv (sn + 1) ta) opv shv ldv lim wyv bdv isr rn rdv fz icv exa fr fev eav rs rov)) C 1 1 rfl rfl (by omega) (by decide) rfl dX3_stop_75 ?_
              refine gz_aload_n C 0 dX3_stop_76 rfl ?_
              refine gz_get (ci := 4) C iwX3 0 rfl rfl 3 (by decide) wk_383 rfl rfl dX3_stop_77 ?_
              refine gz_aload_n C 0 dX3_stop_80 rfl ?_
              refine gz_get (ci := 4) C iwX3 0 rfl rfl 1 (by decide) wk_381 rfl rfl dX3_stop_81 ?_
              refine gz_lload_n C 2 dX3_stop_84 rfl ?_
              refine gz_last (ws2 := (wM h ad cI cJ cZ (nI 0) (sn + 1) (va_up tkv (sn + 1) ta) (va_up opv (sn + 1) tb) shv ldv lim wyv bdv isr rn rdv fz icv exa fr fev eav rs rov)) C 2 1 rfl rfl (by omega) (by decide) rfl dX3_stop_85 ?_
              refine gz_aload_n C 0 dX3_stop_86 rfl ?_
              refine gz_get (ci := 4) C iwX3 0 rfl rfl 4 (by decide) wk_384 rfl rfl dX3_stop_87 ?_
              refine gz_aload_n C 0 dX3_stop_90 rfl ?_
              refine gz_get (ci := 4) C iwX3 0 rfl rfl 1 (by decide) wk_381 rfl rfl dX3_stop_91 ?_
              refine gz_lload C 3 dX3_stop_94 rfl ?_
              refine gz_last (ws2 := (wM h ad cI cJ cZ (nI 0) (sn + 1) (va_up tkv (sn + 1) ta) (va_up opv (sn + 1) tb) (va_up shv (sn + 1) tc) ldv lim wyv bdv isr rn rdv fz icv exa fr fev eav rs rov)) C 3 1 rfl rfl (by omega) (by decide) rfl dX3_stop_96 ?_
              refine gz_aload_n C 0 dX3_stop_97 rfl ?_
              refine gz_iconst (v := nI 0) C dX3_stop_98 (by decide) ?_
              refine gz_sw (v := .int (nI 0)) (w := .int (bI false)) (by rw [show nI 0 = bI false from (by first | rfl | decide | ((repeat' split) <;> rfl))]) ?_
              refine gz_put (ci := 4) (ws2 := (wM h ad cI cJ cZ (nI 0) (sn + 1) (va_up tkv (sn + 1) ta) (va_up opv (sn + 1) tb) (va_up shv (sn + 1) tc) ldv lim wyv bdv false rn rdv fz icv exa fr fev eav rs rov)) C iwX3 0 rfl rfl 9 (by decide) wk_389 rfl tyX3 tyX3_ok nmX3 rfl rfl (bI_nar _) (bI_fit _) (Nat.le_of_ble_eq_true rfl) rfl dX3_stop_99 ?_
              refine gz_aload_n C 0 dX3_stop_102 rfl ?_
              refine gz_iconst (v := nI 0) C dX3_stop_103 (by decide) ?_
              refine gz_sw (v := .int (nI 0)) (w := .int (bI false)) (by rw [show nI 0 = bI false from (by first | rfl | decide | ((repeat' split) <;> rfl))]) ?_
              refine gz_put (ci := 4) (ws2 := (wM h ad cI cJ cZ (nI 0) (sn + 1) (va_up tkv (sn + 1) ta) (va_up opv (sn + 1) tb) (va_up shv (sn + 1) tc) ldv lim wyv bdv false rn rdv fz icv false fr fev eav rs rov)) C iwX3 0 rfl rfl 14 (by decide) wk_394 rfl tyX3 tyX3_ok nmX3 rfl rfl (bI_nar _) (bI_fit _) (Nat.le_of_ble_eq_true rfl) rfl dX3_stop_104 ?_
              refine gz_aload_n C 0 dX3_stop_107 rfl ?_
              refine gz_get (ci := 4) C iwX3 0 rfl rfl 1 (by decide) wk_381 rfl rfl dX3_stop_108 ?_
              exact gz_iret C hr hk (by first | rfl | (simp only [f3_stop, f3_stop_thr, f3_stop_sn, f3_stop_tkv, f3_stop_opv, f3_stop_shv, f3_stop_isr, f3_stop_exa, if_neg g_1, if_neg g_2, if_neg g_3, if_neg g_4, if_pos h_5, if_neg g_6]) | (simp only [f3_stop, f3_stop_thr, f3_stop_sn, f3_stop_tkv, f3_stop_opv, f3_stop_shv, f3_stop_isr, f3_stop_exa, if_neg g_1, if_neg g_2, if_neg g_3, if_neg g_4, if_pos h_5, if_neg g_6]; rfl)) (by first | rfl | (simp only [f3_stop, f3_stop_thr, f3_stop_sn, f3_stop_tkv, f3_stop_opv, f3_stop_shv, f3_stop_isr, f3_stop_exa, if_neg g_1, if_neg g_2, if_neg g_3, if_neg g_4, if_pos h_5, if_neg g_6]) | (simp only [f3_stop, f3_stop_thr, f3_stop_sn, f3_stop_tkv, f3_stop_opv, f3_stop_shv, f3_stop_isr, f3_stop_exa, if_neg g_1, if_neg g_2, if_neg g_3, if_neg g_4, if_pos h_5, if_neg g_6]; rfl)) (Nat.le_refl _) (Nat.le_refl _) dX3_stop_111
            · skip
              refine gz_bipush (v := ((-14))) C dX3_stop_53 (by decide) ?_
              exact gz_iret C hr hk (by first | rfl | (simp only [f3_stop, f3_stop_thr, f3_stop_sn, f3_stop_tkv, f3_stop_opv, f3_stop_shv, f3_stop_isr, f3_stop_exa, if_neg g_1, if_neg g_2, if_neg g_3, if_neg g_4, if_pos h_5, if_pos h_6]) | (simp only [f3_stop, f3_stop_thr, f3_stop_sn, f3_stop_tkv, f3_stop_opv, f3_stop_shv, f3_stop_isr, f3_stop_exa, if_neg g_1, if_neg g_2, if_neg g_3, if_neg g_4, if_pos h_5, if_pos h_6]; rfl)) (by first | rfl | (simp only [f3_stop, f3_stop_thr, f3_stop_sn, f3_stop_tkv, f3_stop_opv, f3_stop_shv, f3_stop_isr, f3_stop_exa, if_neg g_1, if_neg g_2, if_neg g_3, if_neg g_4, if_pos h_5, if_pos h_6]) | (simp only [f3_stop, f3_stop_thr, f3_stop_sn, f3_stop_tkv, f3_stop_opv, f3_stop_shv, f3_stop_isr, f3_stop_exa, if_neg g_1, if_neg g_2, if_neg g_3, if_neg g_4, if_pos h_5, if_pos h_6]; rfl)) (Nat.le_refl _) (Nat.le_refl _) dX3_stop_55
          · have g_5 : ¬ (tc ≤ 1000000) := h_5
            refine gz_bipush (v := ((-12))) C dX3_stop_41 (by decide) ?_
            exact gz_iret C hr hk (by first | rfl | (simp only [f3_stop, f3_stop_thr, f3_stop_sn, f3_stop_tkv, f3_stop_opv, f3_stop_shv, f3_stop_isr, f3_stop_exa, if_neg g_1, if_neg g_2, if_neg g_3, if_neg g_4, if_neg g_5]) | (simp only [f3_stop, f3_stop_thr, f3_stop_sn, f3_stop_tkv, f3_stop_opv, f3_stop_shv, f3_stop_isr, f3_stop_exa, if_neg g_1, if_neg g_2, if_neg g_3, if_neg g_4, if_neg g_5]; rfl)) (by first | rfl | (simp only [f3_stop, f3_stop_thr, f3_stop_sn, f3_stop_tkv, f3_stop_opv, f3_stop_shv, f3_stop_isr, f3_stop_exa, if_neg g_1, if_neg g_2, if_neg g_3, if_neg g_4, if_neg g_5]) | (simp only [f3_stop, f3_stop_thr, f3_stop_sn, f3_stop_tkv, f3_stop_opv, f3_stop_shv, f3_stop_isr, f3_stop_exa, if_neg g_1, if_neg g_2, if_neg g_3, if_neg g_4, if_neg g_5]; rfl)) (Nat.le_refl _) (Nat.le_refl _) dX3_stop_43

def f3_way_thr (sn : Nat) (a : Int32) (b : Int32) (t : Int64) : Int32 := (if (f3_isPlace sn a) = true then (if (f3_isPlace sn b) = true then (if (cl a) = (cl b) then nI 0 else (if t < 0 then nI 0 else (if t ≤ 100000 then nI 0 else nI 0))) else nI 0) else nI 0)
def f3_way_wyv (sn : Nat) (wyv : Nat → Int64) (a : Int32) (b : Int32) (t : Int64) : Nat → Int64 := (if (f3_isPlace sn a) = true then (if (f3_isPlace sn b) = true then (if (cl a) = (cl b) then wyv else (if t < 0 then wyv else (if t ≤ 100000 then va_up wyv ((21 * (cl a)) + (cl b)) t else wyv))) else wyv) else wyv)
def f3_way_exa (sn : Nat) (exa : Bool) (a : Int32) (b : Int32) (t : Int64) : Bool := (if (f3_isPlace sn a) = true then (if (f3_isPlace sn b) = true then (if (cl a) = (cl b) then exa else (if t < 0 then exa else (if t ≤ 100000 then false else exa))) else exa) else exa)
set_option maxRecDepth 100000 in
set_option maxHeartbeats 4000000 in
theorem kX3_way (l : Launch) (D : va_G) (h : Nat) (ad : Nat → Nat) (cI : ClassId) (cJ : ClassId) (cZ : ClassId) (thr : Int32) (sn : Nat) (tkv : Nat → Int64) (opv : Nat → Int64) (shv : Nat → Int64) (ldv : Nat → Int32) (lim : Int32) (wyv : Nat → Int64) (bdv : Nat → Bool) (isr : Bool) (rn : Nat) (rdv : Nat → Nat) (fz : Nat) (icv : Nat → Nat) (exa : Bool) (fr : Nat) (fev : Nat → Nat) (eav : Nat → Int64) (rs : Nat) (rov : Nat → Nat) (a : Int32) (b : Int32) (t : Int64) (hsn : sn ≤ 20) : gz_M l yX3_way cX3_way 5 none ({ frames := 1, cells := 0, slots := 0, locals := 21 } : Room) D [(cI, .int), (cJ, .long), (cZ, .boolean)] [.ref h, .int a, .int b, .long t] (wM h ad cI cJ cZ thr sn tkv opv shv ldv lim wyv bdv isr rn rdv fz icv exa fr fev eav rs rov) (none) (wM h ad cI cJ cZ (f3_way_thr sn a b t) sn tkv opv shv ldv lim (f3_way_wyv sn wyv a b t) bdv isr rn rdv fz icv (f3_way_exa sn exa a b t) fr fev eav rs rov) 0 0 := by
  refine gz_met l (by decide) (Nat.le_of_ble_eq_true rfl) [(0, .ref h), (1, .int a), (2, .int b), (3, .long t)] rfl ?_
  intro sz p e s m args below meth c C hr hk hnm
  have C : gz_C p s m args c cX3_way 5 RX3 D [(cI, .int), (cJ, .long), (cZ, .boolean)] (va_A (wM h ad cI cJ cZ thr sn tkv opv shv ldv lim wyv bdv isr rn rdv fz icv exa fr fev eav rs rov) sz) := C
  refine gz_aload_n C 0 dX3_way_0 rfl ?_
  refine gz_iconst (v := nI 0) C dX3_way_1 (by decide) ?_
  refine gz_put (ci := 4) (ws2 := (wM h ad cI cJ cZ (nI 0) sn tkv opv shv ldv lim wyv bdv isr rn rdv fz icv exa fr fev eav rs rov)) C iwX3 0 rfl rfl 0 (by decide) wk_380 rfl tyX3 tyX3_ok nmX3 rfl rfl rfl rfl (Nat.le_of_ble_eq_true rfl) rfl dX3_way_2 ?_
  refine gz_aload_n C 0 dX3_way_5 rfl ?_
  refine gz_iload_n C 1 dX3_way_6 rfl ?_
  refine gz_callV (wr := []) (n := 1) (ws2 := (wM h ad cI cJ cZ (nI 0) sn tkv opv shv ldv lim wyv bdv isr rn rdv fz icv exa fr fev eav rs rov)) (st2 := [.int (bI (f3_isPlace sn a))]) (cells2 := 0) (slots2 := 0) (ci := 4) C (kX3_isPlace l D h ad cI cJ cZ (nI 0) sn tkv opv shv ldv lim wyv bdv isr rn rdv fz icv exa fr fev eav rs rov a (by first | assumption | omega)) (WB_V wk_455 wk_457 ws_16 wk_4 wk_458) (by decide +kernel) ⟨⟨rfl, rfl⟩, Nat.le_of_ble_eq_true rfl, Nat.le_of_ble_eq_true rfl⟩ [0, 1, 2, 3, 4, 5, 6, 7, 8, 9, 10, 11] [] [0, 1, 2] rfl rfl rfl (by decide) rfl 0 rfl rfl rfl rfl (Nat.le_of_ble_eq_true rfl) dX3_way_7 ⟨Nat.zero_le _, Nat.zero_le _⟩ rfl rfl rfl ?_
  refine gz_bif_eq C 40 dX3_way_10 (by decide) (fun h_1 => ?_) (fun h_1 => ?_)
  · have g_1 : ¬ ((f3_isPlace sn a) = true) := (by rw [h_1]; decide)
    exact gz_vret C hr hk (by first | rfl | (simp only [f3_way_thr, f3_way_wyv, f3_way_exa, if_neg g_1]) | (simp only [f3_way_thr, f3_way_wyv, f3_way_exa, if_neg g_1]; rfl)) (by first | rfl | (simp only [f3_way_thr, f3_way_wyv, f3_way_exa, if_neg g_1]) | (simp only [f3_way_thr, f3_way_wyv, f3_way_exa, if_neg g_1]; rfl)) (Nat.le_refl _) (Nat.le_refl _) dX3_way_40
  · skip
    obtain ⟨ha1, ha2⟩ := q3_place h_1 hsn
    refine gz_lve (lv2 := [(0, .ref h), (1, .int (nI (cl a))), (2, .int b), (3, .long t)]) (by rw [← ha1]) ?_
    refine gz_aload_n C 0 dX3_way_13 rfl ?_
    refine gz_iload_n C 2 dX3_way_14 rfl ?_
    refine gz_callV (wr := []) (n := 1) (ws2 := (wM h ad cI cJ cZ (nI 0) sn tkv opv shv ldv lim wyv bdv isr rn rdv fz icv exa fr fev eav rs rov)) (st2 := [.int (bI (f3_isPlace sn b))]) (cells2 := 0) (slots2 := 0) (ci := 4) C (kX3_isPlace l D h ad cI cJ cZ (nI 0) sn tkv opv shv ldv lim wyv bdv isr rn rdv fz icv exa fr fev eav rs rov b (by first | assumption | omega)) (WB_V wk_455 wk_457 ws_16 wk_4 wk_458) (by decide +kernel) ⟨⟨rfl, rfl⟩, Nat.le_of_ble_eq_true rfl, Nat.le_of_ble_eq_true rfl⟩ [0, 1, 2, 3, 4, 5, 6, 7, 8, 9, 10, 11] [] [0, 1, 2] rfl rfl rfl (by decide) rfl 0 rfl rfl rfl rfl (Nat.le_of_ble_eq_true rfl) dX3_way_15 ⟨Nat.zero_le _, Nat.zero_le _⟩ rfl rfl rfl ?_
    refine gz_bif_eq C 40 dX3_way_18 (by decide) (fun h_2 => ?_) (fun h_2 => ?_)
    · have g_2 : ¬ ((f3_isPlace sn b) = true) := (by rw [h_2]; decide)
      exact gz_vret C hr hk (by first | rfl | (simp only [f3_way_thr, f3_way_wyv, f3_way_exa, if_pos h_1, if_neg g_2]) | (simp only [f3_way_thr, f3_way_wyv, f3_way_exa, if_pos h_1, if_neg g_2]; rfl)) (by first | rfl | (simp only [f3_way_thr, f3_way_wyv, f3_way_exa, if_pos h_1, if_neg g_2]) | (simp only [f3_way_thr, f3_way_wyv, f3_way_exa, if_pos h_1, if_neg g_2]; rfl)) (Nat.le_refl _) (Nat.le_refl _) dX3_way_40
    · skip
      obtain ⟨hb1, hb2⟩ := q3_place h_2 hsn
      refine gz_lve (lv2 := [(0, .ref h), (1, .int (nI (cl a))), (2, .int (nI (cl b))), (3, .long t)]) (by rw [← hb1]) ?_
      refine gz_iload_n C 1 dX3_way_21 rfl ?_
      refine gz_iload_n C 2 dX3_way_22 rfl ?_
      refine gz_ncmp_eq C 40 (by omega) (by omega) dX3_way_23 (by decide) (fun h_3 => ?_) (fun h_3 => ?_)
      · skip
        exact gz_vret C hr hk (by first | rfl | (simp only [f3_way_thr, f3_way_wyv, f3_way_exa, if_pos h_1, if_pos h_2, if_pos h_3]) | (simp only [f3_way_thr, f3_way_wyv, f3_way_exa, if_pos h_1, if_pos h_2, if_pos h_3]; rfl)) (by first | rfl | (simp only [f3_way_thr, f3_way_wyv, f3_way_exa, if_pos h_1, if_pos h_2, if_pos h_3]) | (simp only [f3_way_thr, f3_way_wyv, f3_way_exa, if_pos h_1, if_pos h_2, if_pos h_3]; rfl)) (Nat.le_refl _) (Nat.le_refl _) dX3_way_40
      · have g_3 : ¬ ((cl a) = (cl b)) := h_3
        refine gz_lload_n C 3 dX3_way_26 rfl ?_
        refine gz_lconst (v := 0) C dX3_way_27 (by decide) ?_
        refine gz_lcmp_lt C 40 dX3_way_28 dX3_way_29 (by decide) (fun h_4 => ?_) (fun h_4 => ?_)
        · skip
          exact gz_vret C hr hk (by first | rfl | (simp only [f3_way_thr, f3_way_wyv, f3_way_exa, if_pos h_1, if_pos h_2, if_neg g_3, if_pos h_4]) | (simp only [f3_way_thr, f3_way_wyv, f3_way_exa, if_pos h_1, if_pos h_2, if_neg g_3, if_pos h_4]; rfl)) (by first | rfl | (simp only [f3_way_thr, f3_way_wyv, f3_way_exa, if_pos h_1, if_pos h_2, if_neg g_3, if_pos h_4]) | (simp only [f3_way_thr, f3_way_wyv, f3_way_exa, if_pos h_1, if_pos h_2, if_neg g_3, if_pos h_4]; rfl)) (Nat.le_refl _) (Nat.le_refl _) dX3_way_40
        · have g_4 : ¬ (t < 0) := h_4
          refine gz_lload_n C 3 dX3_way_32 rfl ?_
          refine gz_ldc2 (v := 100000) C wk_449 dX3_way_33 ?_
          refine gz_lcmp_le C 41 dX3_way_36 dX3_way_37 (by decide) (fun h_5 => ?_) (fun h_5 => ?_)
          · skip
            refine gz_aload_n C 0 dX3_way_41 rfl ?_
            refine gz_get (ci := 4) C iwX3 0 rfl rfl 7 (by decide) wk_387 rfl rfl dX3_way_42 ?_
            refine gz_bipush (v := nI 21) C dX3_way_45 (by decide) ?_
            refine gz_iload_n C 1 dX3_way_47 rfl ?_
            refine gz_imul (v := nI (21 * (cl a))) C dX3_way_48 (pk_mul _ _) ?_
            refine gz_iload_n C 2 dX3_way_49 rfl ?_
            refine gz_iadd (v := nI ((21 * (cl a)) + (cl b))) C dX3_way_50 (nI_add _ _) ?_
            refine gz_lload_n C 3 dX3_way_51 rfl ?_
            refine gz_last (ws2 := (wM h ad cI cJ cZ (nI 0) sn tkv opv shv ldv lim (va_up wyv ((21 * (cl a)) + (cl b)) t) bdv isr rn rdv fz icv exa fr fev eav rs rov)) C 5 1 rfl rfl (by omega) (by decide) rfl dX3_way_52 ?_
            refine gz_aload_n C 0 dX3_way_53 rfl ?_
            refine gz_iconst (v := nI 0) C dX3_way_54 (by decide) ?_
            refine gz_sw (v := .int (nI 0)) (w := .int (bI false)) (by rw [show nI 0 = bI false from (by first | rfl | decide | ((repeat' split) <;> rfl))]) ?_
            refine gz_put (ci := 4) (ws2 := (wM h ad cI cJ cZ (nI 0) sn tkv opv shv ldv lim (va_up wyv ((21 * (cl a)) + (cl b)) t) bdv isr rn rdv fz icv false fr fev eav rs rov)) C iwX3 0 rfl rfl 14 (by decide) wk_394 rfl tyX3 tyX3_ok nmX3 rfl rfl (bI_nar _) (bI_fit _) (Nat.le_of_ble_eq_true rfl) rfl dX3_way_55 ?_
            exact gz_vret C hr hk (by first | rfl | (simp only [f3_way_thr, f3_way_wyv, f3_way_exa, if_pos h_1, if_pos h_2, if_neg g_3, if_neg g_4, if_pos h_5]) | (simp only [f3_way_thr, f3_way_wyv, f3_way_exa, if_pos h_1, if_pos h_2, if_neg g_3, if_neg g_4, if_pos h_5]; rfl)) (by first | rfl | (simp only [f3_way_thr, f3_way_wyv, f3_way_exa, if_pos h_1, if_pos h_2, if_neg g_3, if_neg g_4, if_pos h_5]) | (simp only [f3_way_thr, f3_way_wyv, f3_way_exa, if_pos h_1, if_pos h_2, if_neg g_3, if_neg g_4, if_pos h_5]; rfl)) (Nat.le_refl _) (Nat.le_refl _) dX3_way_58
          · have g_5 : ¬ (t ≤ 100000) := h_5
            exact gz_vret C hr hk (by first | rfl | (simp only [f3_way_thr, f3_way_wyv, f3_way_exa, if_pos h_1, if_pos h_2, if_neg g_3, if_neg g_4, if_neg g_5]) | (simp only [f3_way_thr, f3_way_wyv, f3_way_exa, if_pos h_1, if_pos h_2, if_neg g_3, if_neg g_4, if_neg g_5]; rfl)) (by first | rfl | (simp only [f3_way_thr, f3_way_wyv, f3_way_exa, if_pos h_1, if_pos h_2, if_neg g_3, if_neg g_4, if_neg g_5]) | (simp only [f3_way_thr, f3_way_wyv, f3_way_exa, if_pos h_1, if_pos h_2, if_neg g_3, if_neg g_4, if_neg g_5]; rfl)) (Nat.le_refl _) (Nat.le_refl _) dX3_way_40


def f3_allLoads_lp (ldv : Nat → Int32) : Nat → Int32 → Nat → Int32 × Nat
  | 0, u, k => (u, k)
  | n + 1, u, k => f3_allLoads_lp ldv n (u + ((ldv k))) (k + 1)
set_option maxRecDepth 100000 in
set_option maxHeartbeats 4000000 in
theorem lX3_allLoads_lp {p : Program} {l : Launch} {e : Env} {R : Room} {s : State} {m : MethodId} {args : Array Value} {below : List Frame} {meth : Method} {c : Code} {cells slots : Nat} {Q : State → Prop} {A : Nat → Prop} {D : va_G} (h : Nat) (ad : Nat → Nat) (cI : ClassId) (cJ : ClassId) (cZ : ClassId) (thr : Int32) (sn : Nat) (tkv : Nat → Int64) (opv : Nat → Int64) (shv : Nat → Int64) (ldv : Nat → Int32) (lim : Int32) (wyv : Nat → Int64) (bdv : Nat → Bool) (isr : Bool) (rn : Nat) (rdv : Nat → Nat) (fz : Nat) (icv : Nat → Nat) (exa : Bool) (fr : Nat) (fev : Nat → Nat) (eav : Nat → Int64) (rs : Nat) (rov : Nat → Nat)  (C : gz_C p s m args c cX3_allLoads 3 RX3 D [(cI, .int), (cJ, .long), (cZ, .boolean)] A) : ∀ (n : Nat) (u : Int32) (k : Nat), (k + n = 21) → ((((f3_allLoads_lp ldv n u k).2) + 0 = 21) → GZ p l e R s m args below meth c 3 D A cells slots Q (wM h ad cI cJ cZ thr sn tkv opv shv ldv lim wyv bdv isr rn rdv fz icv exa fr fev eav rs rov) [(0, .ref h), (1, .int ((f3_allLoads_lp ldv n u k).1)), (2, .int (nI ((f3_allLoads_lp ldv n u k).2)))] [] 25) → GZ p l e R s m args below meth c 3 D A cells slots Q (wM h ad cI cJ cZ thr sn tkv opv shv ldv lim wyv bdv isr rn rdv fz icv exa fr fev eav rs rov) [(0, .ref h), (1, .int u), (2, .int (nI k))] [] 4 := by
  intro n
  induction n with
  | zero =>
    intro u k hme  hx
    refine gz_iload_n C 2 dX3_allLoads_4 rfl ?_
    refine gz_bipush (v := nI 21) C dX3_allLoads_5 (by decide) ?_
    refine gz_ncmp_ge C 25 (by omega) (by omega) dX3_allLoads_7 (by decide) (fun h_1 => ?_) (fun h_1 => ?_)
    · skip
      exact gz_lv [0, 1, 2] rfl (hx hme )
    · have g_1 : ¬ (21 ≤ k) := (Nat.not_le.mpr h_1)
      exfalso; omega
  | succ n ih =>
    intro u k hme  hx
    refine gz_iload_n C 2 dX3_allLoads_4 rfl ?_
    refine gz_bipush (v := nI 21) C dX3_allLoads_5 (by decide) ?_
    refine gz_ncmp_ge C 25 (by omega) (by omega) dX3_allLoads_7 (by decide) (fun h_1 => ?_) (fun h_1 => ?_)
    · skip
      exfalso; omega
    · have g_1 : ¬ (21 ≤ k) := (Nat.not_le.mpr h_1)
      refine gz_iload_n C 1 dX3_allLoads_10 rfl ?_
      refine gz_aload_n C 0 dX3_allLoads_11 rfl ?_
      refine gz_get (ci := 4) C iwX3 0 rfl rfl 5 (by decide) wk_385 rfl rfl dX3_allLoads_12 ?_
      refine gz_iload_n C 2 dX3_allLoads_15 rfl ?_
      refine gz_ialdr C 4 0 rfl rfl (by omega) (by decide) dX3_allLoads_16 ?_
      refine gz_iadd (v := (u + ((ldv k)))) C dX3_allLoads_17 rfl ?_
      refine gz_istore_n (lv2 := [(1, .int (u + ((ldv k)))), (0, .ref h), (2, .int (nI k))]) C dX3_allLoads_18 (by decide) rfl ?_
      refine gz_iinc (v := nI (k + 1)) (lv2 := [(2, .int (nI (k + 1))), (1, .int (u + ((ldv k)))), (0, .ref h)]) (k := 2) C dX3_allLoads_19 rfl (nI_add _ 1) (by decide) rfl ?_
      refine gz_goto C 4 dX3_allLoads_22 (by decide) ?_
      refine gz_lv [2, 1, 0] rfl ?_
      simp only [f3_allLoads_lp, if_neg g_1] at hx
      exact ih (u + ((ldv k))) (k + 1) (by omega)  hx

def f3_allLoads (ldv : Nat → Int32) : Int32 := (f3_allLoads_lp ldv 20 (nI 0) 1).1
set_option maxRecDepth 100000 in
set_option maxHeartbeats 4000000 in
theorem kX3_allLoads (l : Launch) (D : va_G) (h : Nat) (ad : Nat → Nat) (cI : ClassId) (cJ : ClassId) (cZ : ClassId) (thr : Int32) (sn : Nat) (tkv : Nat → Int64) (opv : Nat → Int64) (shv : Nat → Int64) (ldv : Nat → Int32) (lim : Int32) (wyv : Nat → Int64) (bdv : Nat → Bool) (isr : Bool) (rn : Nat) (rdv : Nat → Nat) (fz : Nat) (icv : Nat → Nat) (exa : Bool) (fr : Nat) (fev : Nat → Nat) (eav : Nat → Int64) (rs : Nat) (rov : Nat → Nat)  : gz_M l yX3_allLoads cX3_allLoads 3 (some .int) ({ frames := 0, cells := 0, slots := 0, locals := 0 } : Room) D [(cI, .int), (cJ, .long), (cZ, .boolean)] [.ref h] (wM h ad cI cJ cZ thr sn tkv opv shv ldv lim wyv bdv isr rn rdv fz icv exa fr fev eav rs rov) (some (.int (f3_allLoads ldv))) (wM h ad cI cJ cZ thr sn tkv opv shv ldv lim wyv bdv isr rn rdv fz icv exa fr fev eav rs rov) 0 0 := by
  refine gz_met l (by decide) (Nat.le_of_ble_eq_true rfl) [(0, .ref h)] rfl ?_
  intro sz p e s m args below meth c C hr hk hnm
  have C : gz_C p s m args c cX3_allLoads 3 RX3 D [(cI, .int), (cJ, .long), (cZ, .boolean)] (va_A (wM h ad cI cJ cZ thr sn tkv opv shv ldv lim wyv bdv isr rn rdv fz icv exa fr fev eav rs rov) sz) := C
  refine gz_iconst (v := nI 0) C dX3_allLoads_0 (by decide) ?_
  refine gz_istore_n (lv2 := [(1, .int (nI 0)), (0, .ref h)]) C dX3_allLoads_1 (by decide) rfl ?_
  refine gz_iconst (v := nI 1) C dX3_allLoads_2 (by decide) ?_
  refine gz_istore_n (lv2 := [(2, .int (nI 1)), (1, .int (nI 0)), (0, .ref h)]) C dX3_allLoads_3 (by decide) rfl ?_
  refine gz_lv (lv2 := [(0, .ref h), (1, .int (nI 0)), (2, .int (nI 1))]) [2, 1, 0] rfl ?_
  refine lX3_allLoads_lp h ad cI cJ cZ thr sn tkv opv shv ldv lim wyv bdv isr rn rdv fz icv exa fr fev eav rs rov  C 20 (nI 0) 1 (by omega)  ?_
  intro zme_lp
  refine gz_iload_n C 1 dX3_allLoads_25 rfl ?_
  exact gz_iret C hr hk (by first | rfl | (simp only [f3_allLoads]) | (simp only [f3_allLoads]; rfl)) rfl (Nat.le_refl _) (Nat.le_refl _) dX3_allLoads_26

def f3_load (sn : Nat) (ldv : Nat → Int32) (x : Int32) (y : Int32) : Int32 := (if (f3_isStop sn x) = true then (if y < 0 then (-12) else (if y ≤ (nI 1000) then f3_allLoads (va_up ldv (cl x) y) else (-12))) else (-11))
def f3_load_thr (sn : Nat) (x : Int32) (y : Int32) : Int32 := (if (f3_isStop sn x) = true then (if y < 0 then nI 0 else (if y ≤ (nI 1000) then nI 0 else nI 0)) else nI 0)
def f3_load_ldv (sn : Nat) (ldv : Nat → Int32) (x : Int32) (y : Int32) : Nat → Int32 := (if (f3_isStop sn x) = true then (if y < 0 then ldv else (if y ≤ (nI 1000) then va_up ldv (cl x) y else ldv)) else ldv)
set_option maxRecDepth 100000 in
set_option maxHeartbeats 4000000 in
theorem kX3_load (l : Launch) (D : va_G) (h : Nat) (ad : Nat → Nat) (cI : ClassId) (cJ : ClassId) (cZ : ClassId) (thr : Int32) (sn : Nat) (tkv : Nat → Int64) (opv : Nat → Int64) (shv : Nat → Int64) (ldv : Nat → Int32) (lim : Int32) (wyv : Nat → Int64) (bdv : Nat → Bool) (isr : Bool) (rn : Nat) (rdv : Nat → Nat) (fz : Nat) (icv : Nat → Nat) (exa : Bool) (fr : Nat) (fev : Nat → Nat) (eav : Nat → Int64) (rs : Nat) (rov : Nat → Nat) (x : Int32) (y : Int32) (hsn : sn ≤ 20) : gz_M l yX3_load cX3_load 3 (some .int) ({ frames := 1, cells := 0, slots := 0, locals := 22 } : Room) D [(cI, .int), (cJ, .long), (cZ, .boolean)] [.ref h, .int x, .int y] (wM h ad cI cJ cZ thr sn tkv opv shv ldv lim wyv bdv isr rn rdv fz icv exa fr fev eav rs rov) (some (.int (f3_load sn ldv x y))) (wM h ad cI cJ cZ (f3_load_thr sn x y) sn tkv opv shv (f3_load_ldv sn ldv x y) lim wyv bdv isr rn rdv fz icv exa fr fev eav rs rov) 0 0 := by
  refine gz_met l (by decide) (Nat.le_of_ble_eq_true rfl) [(0, .ref h), (1, .int x), (2, .int y)] rfl ?_
  intro sz p e s m args below meth c C hr hk hnm
  have C : gz_C p s m args c cX3_load 3 RX3 D [(cI, .int), (cJ, .long), (cZ, .boolean)] (va_A (wM h ad cI cJ cZ thr sn tkv opv shv ldv lim wyv bdv isr rn rdv fz icv exa fr fev eav rs rov) sz) := C
  refine gz_aload_n C 0 dX3_load_0 rfl ?_
  refine gz_iconst (v := nI 0) C dX3_load_1 (by decide) ?_
  refine gz_put (ci := 4) (ws2 := (wM h ad cI cJ cZ (nI 0) sn tkv opv shv ldv lim wyv bdv isr rn rdv fz icv exa fr fev eav rs rov)) C iwX3 0 rfl rfl 0 (by decide) wk_380 rfl tyX3 tyX3_ok nmX3 rfl rfl rfl rfl (Nat.le_of_ble_eq_true rfl) rfl dX3_load_2 ?_
  refine gz_aload_n C 0 dX3_load_5 rfl ?_
  refine gz_iload_n C 1 dX3_load_6 rfl ?_
  refine gz_callV (wr := []) (n := 1) (ws2 := (wM h ad cI cJ cZ (nI 0) sn tkv opv shv ldv lim wyv bdv isr rn rdv fz icv exa fr fev eav rs rov)) (st2 := [.int (bI (f3_isStop sn x))]) (cells2 := 0) (slots2 := 0) (ci := 4) C (kX3_isStop l D h ad cI cJ cZ (nI 0) sn tkv opv shv ldv lim wyv bdv isr rn rdv fz icv exa fr fev eav rs rov x (by first | assumption | omega)) (WB_V wk_463 wk_465 ws_17 wk_4 wk_466) (by decide +kernel) ⟨⟨rfl, rfl⟩, Nat.le_of_ble_eq_true rfl, Nat.le_of_ble_eq_true rfl⟩ [0, 1, 2, 3, 4, 5, 6, 7, 8, 9, 10, 11] [] [0, 1, 2] rfl rfl rfl (by decide) rfl 0 rfl rfl rfl rfl (Nat.le_of_ble_eq_true rfl) dX3_load_7 ⟨Nat.zero_le _, Nat.zero_le _⟩ rfl rfl rfl ?_
  refine gz_bif_ne C 16 dX3_load_10 (by decide) (fun h_1 => ?_) (fun h_1 => ?_)
  · skip
    obtain ⟨hx1, hx2, hx3⟩ := q3_stop h_1 hsn
    refine gz_lve (lv2 := [(0, .ref h), (1, .int (nI (cl x))), (2, .int y)]) (by rw [← hx1]) ?_
    refine gz_iload_n C 2 dX3_load_16 rfl ?_
    refine gz_if_lt C 27 dX3_load_17 (by decide) (fun h_2 => ?_) (fun h_2 => ?_)
    · skip
      refine gz_bipush (v := ((-12))) C dX3_load_27 (by decide) ?_
      exact gz_iret C hr hk (by first | rfl | (simp only [f3_load, f3_load_thr, f3_load_ldv, if_pos h_1, if_pos h_2]) | (simp only [f3_load, f3_load_thr, f3_load_ldv, if_pos h_1, if_pos h_2]; rfl)) (by first | rfl | (simp only [f3_load, f3_load_thr, f3_load_ldv, if_pos h_1, if_pos h_2]) | (simp only [f3_load, f3_load_thr, f3_load_ldv, if_pos h_1, if_pos h_2]; rfl)) (Nat.le_refl _) (Nat.le_refl _) dX3_load_29
    · have g_2 : ¬ (y < 0) := h_2
      refine gz_iload_n C 2 dX3_load_20 rfl ?_
      refine gz_sipush (v := nI 1000) C dX3_load_21 (by decide) ?_
      refine gz_icmp_le C 30 dX3_load_24 (by decide) (fun h_3 => ?_) (fun h_3 => ?_)
      · skip
        refine gz_aload_n C 0 dX3_load_30 rfl ?_
        refine gz_get (ci := 4) C iwX3 0 rfl rfl 5 (by decide) wk_385 rfl rfl dX3_load_31 ?_
        refine gz_iload_n C 1 dX3_load_34 rfl ?_
        refine gz_iload_n C 2 dX3_load_35 rfl ?_
        refine gz_iastr (ws2 := (wM h ad cI cJ cZ (nI 0) sn tkv opv shv (va_up ldv (cl x) y) lim wyv bdv isr rn rdv fz icv exa fr fev eav rs rov)) C 4 0 rfl rfl (by omega) (by decide) rfl dX3_load_36 ?_
        refine gz_aload_n C 0 dX3_load_37 rfl ?_
        refine gz_callV (wr := []) (n := 0) (ws2 := (wM h ad cI cJ cZ (nI 0) sn tkv opv shv (va_up ldv (cl x) y) lim wyv bdv isr rn rdv fz icv exa fr fev eav rs rov)) (st2 := [.int (f3_allLoads (va_up ldv (cl x) y))]) (cells2 := 0) (slots2 := 0) (ci := 4) C (kX3_allLoads l D h ad cI cJ cZ (nI 0) sn tkv opv shv (va_up ldv (cl x) y) lim wyv bdv isr rn rdv fz icv exa fr fev eav rs rov ) (WB_V wk_467 wk_469 ws_18 wk_4 wk_470) (by decide +kernel) ⟨⟨rfl, rfl⟩, Nat.le_of_ble_eq_true rfl, Nat.le_of_ble_eq_true rfl⟩ [0, 1, 2, 3, 4, 5, 6, 7, 8, 9, 10, 11] [] [0, 1, 2] rfl rfl rfl (by decide) rfl 0 rfl rfl rfl rfl (Nat.le_of_ble_eq_true rfl) dX3_load_38 ⟨Nat.zero_le _, Nat.zero_le _⟩ rfl rfl rfl ?_
        exact gz_iret C hr hk (by first | rfl | (simp only [f3_load, f3_load_thr, f3_load_ldv, if_pos h_1, if_neg g_2, if_pos h_3]) | (simp only [f3_load, f3_load_thr, f3_load_ldv, if_pos h_1, if_neg g_2, if_pos h_3]; rfl)) (by first | rfl | (simp only [f3_load, f3_load_thr, f3_load_ldv, if_pos h_1, if_neg g_2, if_pos h_3]) | (simp only [f3_load, f3_load_thr, f3_load_ldv, if_pos h_1, if_neg g_2, if_pos h_3]; rfl)) (Nat.le_refl _) (Nat.le_refl _) dX3_load_41
      · have g_3 : ¬ (y ≤ (nI 1000)) := h_3
        refine gz_bipush (v := ((-12))) C dX3_load_27 (by decide) ?_
        exact gz_iret C hr hk (by first | rfl | (simp only [f3_load, f3_load_thr, f3_load_ldv, if_pos h_1, if_neg g_2, if_neg g_3]) | (simp only [f3_load, f3_load_thr, f3_load_ldv, if_pos h_1, if_neg g_2, if_neg g_3]; rfl)) (by first | rfl | (simp only [f3_load, f3_load_thr, f3_load_ldv, if_pos h_1, if_neg g_2, if_neg g_3]) | (simp only [f3_load, f3_load_thr, f3_load_ldv, if_pos h_1, if_neg g_2, if_neg g_3]; rfl)) (Nat.le_refl _) (Nat.le_refl _) dX3_load_29
  · have g_1 : ¬ ((f3_isStop sn x) = true) := (by rw [h_1]; decide)
    refine gz_bipush (v := ((-11))) C dX3_load_13 (by decide) ?_
    exact gz_iret C hr hk (by first | rfl | (simp only [f3_load, f3_load_thr, f3_load_ldv, if_neg g_1]) | (simp only [f3_load, f3_load_thr, f3_load_ldv, if_neg g_1]; rfl)) (by first | rfl | (simp only [f3_load, f3_load_thr, f3_load_ldv, if_neg g_1]) | (simp only [f3_load, f3_load_thr, f3_load_ldv, if_neg g_1]; rfl)) (Nat.le_refl _) (Nat.le_refl _) dX3_load_15


def f3_wellDone (tkv : Nat → Int64) (opv : Nat → Int64) (shv : Nat → Int64) (wyv : Nat → Int64) (bdv : Nat → Bool) (a : Nat) (b : Nat) (t : Int64) : Int64 := (if t = 4000000000000000000 then 4000000000000000000 else (if (bdv ((21 * a) + b)) = true then 4000000000000000000 else (if (t + (wyv ((21 * a) + b))) ≤ (shv b) then ((if (opv b) ≤ (t + (wyv ((21 * a) + b))) then t + (wyv ((21 * a) + b)) else opv b)) + (tkv b) else 4000000000000000000)))
set_option maxRecDepth 100000 in
set_option maxHeartbeats 4000000 in
theorem kX3_wellDone (l : Launch) (D : va_G) (h : Nat) (ad : Nat → Nat) (cI : ClassId) (cJ : ClassId) (cZ : ClassId) (thr : Int32) (sn : Nat) (tkv : Nat → Int64) (opv : Nat → Int64) (shv : Nat → Int64) (ldv : Nat → Int32) (lim : Int32) (wyv : Nat → Int64) (bdv : Nat → Bool) (isr : Bool) (rn : Nat) (rdv : Nat → Nat) (fz : Nat) (icv : Nat → Nat) (exa : Bool) (fr : Nat) (fev : Nat → Nat) (eav : Nat → Int64) (rs : Nat) (rov : Nat → Nat) (a : Nat) (b : Nat) (t : Int64) (ha : a ≤ 20) (hb : b ≤ 20) : gz_M l yX3_wellDone cX3_wellDone 7 (some .long) ({ frames := 0, cells := 0, slots := 0, locals := 0 } : Room) D [(cI, .int), (cJ, .long), (cZ, .boolean)] [.ref h, .int (nI a), .int (nI b), .long t] (wM h ad cI cJ cZ thr sn tkv opv shv ldv lim wyv bdv isr rn rdv fz icv exa fr fev eav rs rov) (some (.long (f3_wellDone tkv opv shv wyv bdv a b t))) (wM h ad cI cJ cZ thr sn tkv opv shv ldv lim wyv bdv isr rn rdv fz icv exa fr fev eav rs rov) 0 0 := by
  refine gz_met l (by decide) (Nat.le_of_ble_eq_true rfl) [(0, .ref h), (1, .int (nI a)), (2, .int (nI b)), (3, .long t)] rfl ?_
  intro sz p e s m args below meth c C hr hk hnm
  have C : gz_C p s m args c cX3_wellDone 7 RX3 D [(cI, .int), (cJ, .long), (cZ, .boolean)] (va_A (wM h ad cI cJ cZ thr sn tkv opv shv ldv lim wyv bdv isr rn rdv fz icv exa fr fev eav rs rov) sz) := C
  refine gz_lload_n C 3 dX3_wellDone_0 rfl ?_
  refine gz_ldc2 (v := 4000000000000000000) C wk_493 dX3_wellDone_1 ?_
  refine gz_lcmp_eq C 22 dX3_wellDone_4 dX3_wellDone_5 (by decide) (fun h_1 => ?_) (fun h_1 => ?_)
  · skip
    refine gz_ldc2 (v := 4000000000000000000) C wk_493 dX3_wellDone_22 ?_
    exact gz_lret C hr hk (by first | rfl | (simp only [f3_wellDone, if_pos h_1]) | (simp only [f3_wellDone, if_pos h_1]; rfl)) rfl (Nat.le_refl _) (Nat.le_refl _) dX3_wellDone_25
  · have g_1 : ¬ (t = 4000000000000000000) := h_1
    refine gz_aload_n C 0 dX3_wellDone_8 rfl ?_
    refine gz_get (ci := 4) C iwX3 0 rfl rfl 8 (by decide) wk_388 rfl rfl dX3_wellDone_9 ?_
    refine gz_bipush (v := nI 21) C dX3_wellDone_12 (by decide) ?_
    refine gz_iload_n C 1 dX3_wellDone_14 rfl ?_
    refine gz_imul (v := nI (21 * a)) C dX3_wellDone_15 (pk_mul _ _) ?_
    refine gz_iload_n C 2 dX3_wellDone_16 rfl ?_
    refine gz_iadd (v := nI ((21 * a) + b)) C dX3_wellDone_17 (nI_add _ _) ?_
    refine gz_zald C 6 2 rfl rfl (by omega) (by decide) dX3_wellDone_18 ?_
    refine gz_bif_eq C 26 dX3_wellDone_19 (by decide) (fun h_2 => ?_) (fun h_2 => ?_)
    · have g_2 : ¬ ((bdv ((21 * a) + b)) = true) := (by rw [h_2]; decide)
      refine gz_lload_n C 3 dX3_wellDone_26 rfl ?_
      refine gz_aload_n C 0 dX3_wellDone_27 rfl ?_
      refine gz_get (ci := 4) C iwX3 0 rfl rfl 7 (by decide) wk_387 rfl rfl dX3_wellDone_28 ?_
      refine gz_bipush (v := nI 21) C dX3_wellDone_31 (by decide) ?_
      refine gz_iload_n C 1 dX3_wellDone_33 rfl ?_
      refine gz_imul (v := nI (21 * a)) C dX3_wellDone_34 (pk_mul _ _) ?_
      refine gz_iload_n C 2 dX3_wellDone_35 rfl ?_
      refine gz_iadd (v := nI ((21 * a) + b)) C dX3_wellDone_36 (nI_add _ _) ?_
      refine gz_lald C 5 1 rfl rfl (by omega) (by decide) dX3_wellDone_37 ?_
      refine gz_ladd (v := t + (wyv ((21 * a) + b))) C dX3_wellDone_38 rfl ?_
      refine gz_lstore (lv2 := [(5, .long (t + (wyv ((21 * a) + b)))), (0, .ref h), (1, .int (nI a)), (2, .int (nI b)), (3, .long t)]) C dX3_wellDone_39 (by decide) rfl ?_
      refine gz_lload C 0 dX3_wellDone_41 rfl ?_
      refine gz_aload_n C 1 dX3_wellDone_43 rfl ?_
      refine gz_get (ci := 4) C iwX3 0 rfl rfl 4 (by decide) wk_384 rfl rfl dX3_wellDone_44 ?_
      refine gz_iload_n C 3 dX3_wellDone_47 rfl ?_
      refine gz_lald C 3 1 rfl rfl (by omega) (by decide) dX3_wellDone_48 ?_
      refine gz_lcmp_le C 57 dX3_wellDone_49 dX3_wellDone_50 (by decide) (fun h_3 => ?_) (fun h_3 => ?_)
      · skip
        refine gz_lload C 0 dX3_wellDone_57 rfl ?_
        refine gz_aload_n C 1 dX3_wellDone_59 rfl ?_
        refine gz_get (ci := 4) C iwX3 0 rfl rfl 3 (by decide) wk_383 rfl rfl dX3_wellDone_60 ?_
        refine gz_iload_n C 3 dX3_wellDone_63 rfl ?_
        refine gz_lald C 2 1 rfl rfl (by omega) (by decide) dX3_wellDone_64 ?_
        refine gz_J (ws2 := (wM h ad cI cJ cZ thr sn tkv opv shv ldv lim wyv bdv isr rn rdv fz icv exa fr fev eav rs rov)) (lv2 := [(5, .long (t + (wyv ((21 * a) + b)))), (0, .ref h), (1, .int (nI a)), (2, .int (nI b)), (3, .long t)]) (st2 := [.long ((if (opv b) ≤ (t + (wyv ((21 * a) + b))) then t + (wyv ((21 * a) + b)) else opv b))]) (pc2 := 80) ?_ (fun J_4 => ?_)
        rotate_left
        · refine gz_lcmp_ge C 78 dX3_wellDone_65 dX3_wellDone_66 (by decide) (fun h_4 => ?_) (fun h_4 => ?_)
          · skip
            refine gz_lload C 0 dX3_wellDone_78 rfl ?_
            simp only [if_pos h_4] at J_4 ⊢
            exact gz_lv [0, 1, 2, 3, 4] rfl J_4
          · have g_4 : ¬ ((opv b) ≤ (t + (wyv ((21 * a) + b)))) := h_4
            refine gz_aload_n C 1 dX3_wellDone_69 rfl ?_
            refine gz_get (ci := 4) C iwX3 0 rfl rfl 3 (by decide) wk_383 rfl rfl dX3_wellDone_70 ?_
            refine gz_iload_n C 3 dX3_wellDone_73 rfl ?_
            refine gz_lald C 2 1 rfl rfl (by omega) (by decide) dX3_wellDone_74 ?_
            refine gz_goto C 80 dX3_wellDone_75 (by decide) ?_
            simp only [if_neg g_4] at J_4 ⊢
            exact gz_lv [0, 1, 2, 3, 4] rfl J_4
        refine gz_aload_n C 1 dX3_wellDone_80 rfl ?_
        refine gz_get (ci := 4) C iwX3 0 rfl rfl 2 (by decide) wk_382 rfl rfl dX3_wellDone_81 ?_
        refine gz_iload_n C 3 dX3_wellDone_84 rfl ?_
        refine gz_lald C 1 1 rfl rfl (by omega) (by decide) dX3_wellDone_85 ?_
        refine gz_ladd (v := ((if (opv b) ≤ (t + (wyv ((21 * a) + b))) then t + (wyv ((21 * a) + b)) else opv b)) + (tkv b)) C dX3_wellDone_86 rfl ?_
        exact gz_lret C hr hk (by first | rfl | (simp only [f3_wellDone, if_neg g_1, if_neg g_2, if_pos h_3]) | (simp only [f3_wellDone, if_neg g_1, if_neg g_2, if_pos h_3]; rfl)) rfl (Nat.le_refl _) (Nat.le_refl _) dX3_wellDone_87
      · have g_3 : ¬ ((t + (wyv ((21 * a) + b))) ≤ (shv b)) := h_3
        refine gz_ldc2 (v := 4000000000000000000) C wk_493 dX3_wellDone_53 ?_
        exact gz_lret C hr hk (by first | rfl | (simp only [f3_wellDone, if_neg g_1, if_neg g_2, if_neg g_3]) | (simp only [f3_wellDone, if_neg g_1, if_neg g_2, if_neg g_3]; rfl)) rfl (Nat.le_refl _) (Nat.le_refl _) dX3_wellDone_56
    · skip
      refine gz_ldc2 (v := 4000000000000000000) C wk_493 dX3_wellDone_22 ?_
      exact gz_lret C hr hk (by first | rfl | (simp only [f3_wellDone, if_neg g_1, if_pos h_2]) | (simp only [f3_wellDone, if_neg g_1, if_pos h_2]; rfl)) rfl (Nat.le_refl _) (Nat.le_refl _) dX3_wellDone_25

def f3_wellHome (wyv : Nat → Int64) (bdv : Nat → Bool) (a : Nat) (t : Int64) : Int64 := (if t = 4000000000000000000 then 4000000000000000000 else (if (bdv (21 * a)) = true then 4000000000000000000 else t + (wyv (21 * a))))
set_option maxRecDepth 100000 in
set_option maxHeartbeats 4000000 in
theorem kX3_wellHome (l : Launch) (D : va_G) (h : Nat) (ad : Nat → Nat) (cI : ClassId) (cJ : ClassId) (cZ : ClassId) (thr : Int32) (sn : Nat) (tkv : Nat → Int64) (opv : Nat → Int64) (shv : Nat → Int64) (ldv : Nat → Int32) (lim : Int32) (wyv : Nat → Int64) (bdv : Nat → Bool) (isr : Bool) (rn : Nat) (rdv : Nat → Nat) (fz : Nat) (icv : Nat → Nat) (exa : Bool) (fr : Nat) (fev : Nat → Nat) (eav : Nat → Int64) (rs : Nat) (rov : Nat → Nat) (a : Nat) (t : Int64) (ha : a ≤ 20) : gz_M l yX3_wellHome cX3_wellHome 4 (some .long) ({ frames := 0, cells := 0, slots := 0, locals := 0 } : Room) D [(cI, .int), (cJ, .long), (cZ, .boolean)] [.ref h, .int (nI a), .long t] (wM h ad cI cJ cZ thr sn tkv opv shv ldv lim wyv bdv isr rn rdv fz icv exa fr fev eav rs rov) (some (.long (f3_wellHome wyv bdv a t))) (wM h ad cI cJ cZ thr sn tkv opv shv ldv lim wyv bdv isr rn rdv fz icv exa fr fev eav rs rov) 0 0 := by
  refine gz_met l (by decide) (Nat.le_of_ble_eq_true rfl) [(0, .ref h), (1, .int (nI a)), (2, .long t)] rfl ?_
  intro sz p e s m args below meth c C hr hk hnm
  have C : gz_C p s m args c cX3_wellHome 4 RX3 D [(cI, .int), (cJ, .long), (cZ, .boolean)] (va_A (wM h ad cI cJ cZ thr sn tkv opv shv ldv lim wyv bdv isr rn rdv fz icv exa fr fev eav rs rov) sz) := C
  refine gz_lload_n C 2 dX3_wellHome_0 rfl ?_
  refine gz_ldc2 (v := 4000000000000000000) C wk_493 dX3_wellHome_1 ?_
  refine gz_J (ws2 := (wM h ad cI cJ cZ thr sn tkv opv shv ldv lim wyv bdv isr rn rdv fz icv exa fr fev eav rs rov)) (lv2 := [(0, .ref h), (1, .int (nI a)), (2, .long t)]) (st2 := [.long ((if t = 4000000000000000000 then 4000000000000000000 else (if (bdv (21 * a)) = true then 4000000000000000000 else t + (wyv (21 * a)))))]) (pc2 := 37) ?_ (fun J_1 => ?_)
  rotate_left
  · refine gz_lcmp_eq C 20 dX3_wellHome_4 dX3_wellHome_5 (by decide) (fun h_1 => ?_) (fun h_1 => ?_)
    · skip
      refine gz_ldc2 (v := 4000000000000000000) C wk_493 dX3_wellHome_20 ?_
      refine gz_goto C 37 dX3_wellHome_23 (by decide) ?_
      simp only [if_pos h_1] at J_1 ⊢
      exact gz_lv [0, 1, 2] rfl J_1
    · have g_1 : ¬ (t = 4000000000000000000) := h_1
      refine gz_aload_n C 0 dX3_wellHome_8 rfl ?_
      refine gz_get (ci := 4) C iwX3 0 rfl rfl 8 (by decide) wk_388 rfl rfl dX3_wellHome_9 ?_
      refine gz_bipush (v := nI 21) C dX3_wellHome_12 (by decide) ?_
      refine gz_iload_n C 1 dX3_wellHome_14 rfl ?_
      refine gz_imul (v := nI (21 * a)) C dX3_wellHome_15 (pk_mul _ _) ?_
      refine gz_zald C 6 2 rfl rfl (by omega) (by decide) dX3_wellHome_16 ?_
      refine gz_J (ws2 := (wM h ad cI cJ cZ thr sn tkv opv shv ldv lim wyv bdv isr rn rdv fz icv exa fr fev eav rs rov)) (lv2 := [(0, .ref h), (1, .int (nI a)), (2, .long t)]) (st2 := [.long ((if (bdv (21 * a)) = true then 4000000000000000000 else t + (wyv (21 * a))))]) (pc2 := 37) ?_ (fun J_2 => ?_)
      rotate_left
      · refine gz_bif_eq C 26 dX3_wellHome_17 (by decide) (fun h_2 => ?_) (fun h_2 => ?_)
        · have g_2 : ¬ ((bdv (21 * a)) = true) := (by rw [h_2]; decide)
          refine gz_lload_n C 2 dX3_wellHome_26 rfl ?_
          refine gz_aload_n C 0 dX3_wellHome_27 rfl ?_
          refine gz_get (ci := 4) C iwX3 0 rfl rfl 7 (by decide) wk_387 rfl rfl dX3_wellHome_28 ?_
          refine gz_bipush (v := nI 21) C dX3_wellHome_31 (by decide) ?_
          refine gz_iload_n C 1 dX3_wellHome_33 rfl ?_
          refine gz_imul (v := nI (21 * a)) C dX3_wellHome_34 (pk_mul _ _) ?_
          refine gz_lald C 5 1 rfl rfl (by omega) (by decide) dX3_wellHome_35 ?_
          refine gz_ladd (v := t + (wyv (21 * a))) C dX3_wellHome_36 rfl ?_
          simp only [if_neg g_2] at J_2 ⊢
          exact gz_lv [0, 1, 2] rfl J_2
        · skip
          refine gz_ldc2 (v := 4000000000000000000) C wk_493 dX3_wellHome_20 ?_
          refine gz_goto C 37 dX3_wellHome_23 (by decide) ?_
          simp only [if_pos h_2] at J_2 ⊢
          exact gz_lv [0, 1, 2] rfl J_2
      simp only [if_neg g_1] at J_1 ⊢
      exact gz_lv [0, 1, 2] rfl J_1
  exact gz_lret C hr hk (by first | rfl | (simp only [f3_wellHome]) | (simp only [f3_wellHome]; rfl)) rfl (Nat.le_refl _) (Nat.le_refl _) dX3_wellHome_37

def f3_isFrozen_lp (icv : Nat → Nat) (x : Nat) : Nat → Bool → Nat → Bool × Nat
  | 0, is, k => (is, k)
  | n + 1, is, k => f3_isFrozen_lp icv x n ((if is = true then true else (if (icv k) = x then true else false))) (k + 1)
set_option maxRecDepth 100000 in
set_option maxHeartbeats 4000000 in
theorem lX3_isFrozen_lp {p : Program} {l : Launch} {e : Env} {R : Room} {s : State} {m : MethodId} {args : Array Value} {below : List Frame} {meth : Method} {c : Code} {cells slots : Nat} {Q : State → Prop} {A : Nat → Prop} {D : va_G} (h : Nat) (ad : Nat → Nat) (cI : ClassId) (cJ : ClassId) (cZ : ClassId) (thr : Int32) (sn : Nat) (tkv : Nat → Int64) (opv : Nat → Int64) (shv : Nat → Int64) (ldv : Nat → Int32) (lim : Int32) (wyv : Nat → Int64) (bdv : Nat → Bool) (isr : Bool) (rn : Nat) (rdv : Nat → Nat) (fz : Nat) (icv : Nat → Nat) (exa : Bool) (fr : Nat) (fev : Nat → Nat) (eav : Nat → Int64) (rs : Nat) (rov : Nat → Nat) (x : Nat) (hxx : x ≤ 20) (hfz : fz ≤ 20) (hic : ∀ k, k < fz → icv k ≤ 20) (C : gz_C p s m args c cX3_isFrozen 4 RX3 D [(cI, .int), (cJ, .long), (cZ, .boolean)] A) : ∀ (n : Nat) (is : Bool) (k : Nat), (k + n = fz) → ((((f3_isFrozen_lp icv x n is k).2) + 0 = fz) → GZ p l e R s m args below meth c 4 D A cells slots Q (wM h ad cI cJ cZ thr sn tkv opv shv ldv lim wyv bdv isr rn rdv fz icv exa fr fev eav rs rov) [(0, .ref h), (1, .int (nI x)), (2, .int (bI ((f3_isFrozen_lp icv x n is k).1))), (3, .int (nI ((f3_isFrozen_lp icv x n is k).2)))] [] 38) → GZ p l e R s m args below meth c 4 D A cells slots Q (wM h ad cI cJ cZ thr sn tkv opv shv ldv lim wyv bdv isr rn rdv fz icv exa fr fev eav rs rov) [(0, .ref h), (1, .int (nI x)), (2, .int (bI is)), (3, .int (nI k))] [] 4 := by
  intro n
  induction n with
  | zero =>
    intro is k hme  hx
    refine gz_iload_n C 3 dX3_isFrozen_4 rfl ?_
    refine gz_aload_n C 0 dX3_isFrozen_5 rfl ?_
    refine gz_get (ci := 4) C iwX3 0 rfl rfl 12 (by decide) wk_392 rfl rfl dX3_isFrozen_6 ?_
    refine gz_ncmp_ge C 38 (by omega) (by omega) dX3_isFrozen_9 (by decide) (fun h_1 => ?_) (fun h_1 => ?_)
    · skip
      exact gz_lv [0, 1, 2, 3] rfl (hx hme )
    · have g_1 : ¬ (fz ≤ k) := (Nat.not_le.mpr h_1)
      exfalso; omega
  | succ n ih =>
    intro is k hme  hx
    refine gz_iload_n C 3 dX3_isFrozen_4 rfl ?_
    refine gz_aload_n C 0 dX3_isFrozen_5 rfl ?_
    refine gz_get (ci := 4) C iwX3 0 rfl rfl 12 (by decide) wk_392 rfl rfl dX3_isFrozen_6 ?_
    refine gz_ncmp_ge C 38 (by omega) (by omega) dX3_isFrozen_9 (by decide) (fun h_1 => ?_) (fun h_1 => ?_)
    · skip
      exfalso; omega
    · have g_1 : ¬ (fz ≤ k) := (Nat.not_le.mpr h_1)
      refine gz_iload_n C 2 dX3_isFrozen_12 rfl ?_
      refine gz_J (ws2 := (wM h ad cI cJ cZ thr sn tkv opv shv ldv lim wyv bdv isr rn rdv fz icv exa fr fev eav rs rov)) (lv2 := [(0, .ref h), (1, .int (nI x)), (2, .int (bI is)), (3, .int (nI k))]) (st2 := [.int (nI ((if is = true then 1 else (if (icv k) = x then 1 else 0))))]) (pc2 := 31) ?_ (fun J_2 => ?_)
      rotate_left
      · refine gz_bif_ne C 26 dX3_isFrozen_13 (by decide) (fun h_2 => ?_) (fun h_2 => ?_)
        · skip
          refine gz_iconst (v := nI 1) C dX3_isFrozen_26 (by decide) ?_
          refine gz_goto C 31 dX3_isFrozen_27 (by decide) ?_
          simp only [if_pos h_2] at J_2 ⊢
          exact gz_lv [0, 1, 2, 3] rfl J_2
        · have g_2 : ¬ (is = true) := (by rw [h_2]; decide)
          have hq := hic k (by omega)
          refine gz_aload_n C 0 dX3_isFrozen_16 rfl ?_
          refine gz_get (ci := 4) C iwX3 0 rfl rfl 13 (by decide) wk_393 rfl rfl dX3_isFrozen_17 ?_
          refine gz_iload_n C 3 dX3_isFrozen_20 rfl ?_
          refine gz_iald C 8 0 rfl rfl (by omega) (by decide) dX3_isFrozen_21 ?_
          refine gz_iload_n C 1 dX3_isFrozen_22 rfl ?_
          refine gz_J (ws2 := (wM h ad cI cJ cZ thr sn tkv opv shv ldv lim wyv bdv isr rn rdv fz icv exa fr fev eav rs rov)) (lv2 := [(0, .ref h), (1, .int (nI x)), (2, .int (bI is)), (3, .int (nI k))]) (st2 := [.int (nI ((if (icv k) = x then 1 else 0)))]) (pc2 := 31) ?_ (fun J_3 => ?_)
          rotate_left
          · refine gz_ncmp_ne C 30 (by omega) (by omega) dX3_isFrozen_23 (by decide) (fun h_3 => ?_) (fun h_3 => ?_)
            · have g_3 : ¬ ((icv k) = x) := h_3
              refine gz_iconst (v := nI 0) C dX3_isFrozen_30 (by decide) ?_
              simp only [if_neg g_3] at J_3 ⊢
              exact gz_lv [0, 1, 2, 3] rfl J_3
            · skip
              refine gz_iconst (v := nI 1) C dX3_isFrozen_26 (by decide) ?_
              refine gz_goto C 31 dX3_isFrozen_27 (by decide) ?_
              simp only [if_pos h_3] at J_3 ⊢
              exact gz_lv [0, 1, 2, 3] rfl J_3
          simp only [if_neg g_2] at J_2 ⊢
          exact gz_lv [0, 1, 2, 3] rfl J_2
      refine gz_istore_n (lv2 := [(2, .int (nI ((if is = true then 1 else (if (icv k) = x then 1 else 0))))), (0, .ref h), (1, .int (nI x)), (3, .int (nI k))]) C dX3_isFrozen_31 (by decide) rfl ?_
      refine gz_iinc (v := nI (k + 1)) (lv2 := [(3, .int (nI (k + 1))), (2, .int (nI ((if is = true then 1 else (if (icv k) = x then 1 else 0))))), (0, .ref h), (1, .int (nI x))]) (k := 3) C dX3_isFrozen_32 rfl (nI_add _ 1) (by decide) rfl ?_
      refine gz_goto C 4 dX3_isFrozen_35 (by decide) ?_
      refine gz_lve (lv2 := [(3, .int (nI (k + 1))), (2, .int (bI ((if is = true then true else (if (icv k) = x then true else false))))), (0, .ref h), (1, .int (nI x))]) (by rw [show nI ((if is = true then 1 else (if (icv k) = x then 1 else 0))) = bI ((if is = true then true else (if (icv k) = x then true else false))) from (by first | rfl | decide | ((repeat' split) <;> rfl))]) ?_
      refine gz_lv [2, 3, 1, 0] rfl ?_
      simp only [f3_isFrozen_lp, if_neg g_1] at hx
      exact ih ((if is = true then true else (if (icv k) = x then true else false))) (k + 1) (by omega)  hx

def f3_isFrozen (fz : Nat) (icv : Nat → Nat) (x : Nat) : Bool := (f3_isFrozen_lp icv x fz false 0).1
set_option maxRecDepth 100000 in
set_option maxHeartbeats 4000000 in
theorem kX3_isFrozen (l : Launch) (D : va_G) (h : Nat) (ad : Nat → Nat) (cI : ClassId) (cJ : ClassId) (cZ : ClassId) (thr : Int32) (sn : Nat) (tkv : Nat → Int64) (opv : Nat → Int64) (shv : Nat → Int64) (ldv : Nat → Int32) (lim : Int32) (wyv : Nat → Int64) (bdv : Nat → Bool) (isr : Bool) (rn : Nat) (rdv : Nat → Nat) (fz : Nat) (icv : Nat → Nat) (exa : Bool) (fr : Nat) (fev : Nat → Nat) (eav : Nat → Int64) (rs : Nat) (rov : Nat → Nat) (x : Nat) (hxx : x ≤ 20) (hfz : fz ≤ 20) (hic : ∀ k, k < fz → icv k ≤ 20) : gz_M l yX3_isFrozen cX3_isFrozen 4 (some .boolean) ({ frames := 0, cells := 0, slots := 0, locals := 0 } : Room) D [(cI, .int), (cJ, .long), (cZ, .boolean)] [.ref h, .int (nI x)] (wM h ad cI cJ cZ thr sn tkv opv shv ldv lim wyv bdv isr rn rdv fz icv exa fr fev eav rs rov) (some (.int (bI (f3_isFrozen fz icv x)))) (wM h ad cI cJ cZ thr sn tkv opv shv ldv lim wyv bdv isr rn rdv fz icv exa fr fev eav rs rov) 0 0 := by
  refine gz_met l (by decide) (Nat.le_of_ble_eq_true rfl) [(0, .ref h), (1, .int (nI x))] rfl ?_
  intro sz p e s m args below meth c C hr hk hnm
  have C : gz_C p s m args c cX3_isFrozen 4 RX3 D [(cI, .int), (cJ, .long), (cZ, .boolean)] (va_A (wM h ad cI cJ cZ thr sn tkv opv shv ldv lim wyv bdv isr rn rdv fz icv exa fr fev eav rs rov) sz) := C
  refine gz_iconst (v := nI 0) C dX3_isFrozen_0 (by decide) ?_
  refine gz_istore_n (lv2 := [(2, .int (nI 0)), (0, .ref h), (1, .int (nI x))]) C dX3_isFrozen_1 (by decide) rfl ?_
  refine gz_iconst (v := nI 0) C dX3_isFrozen_2 (by decide) ?_
  refine gz_istore_n (lv2 := [(3, .int (nI 0)), (2, .int (nI 0)), (0, .ref h), (1, .int (nI x))]) C dX3_isFrozen_3 (by decide) rfl ?_
  refine gz_lv (lv2 := [(0, .ref h), (1, .int (nI x)), (2, .int (bI false)), (3, .int (nI 0))]) [2, 3, 1, 0] rfl ?_
  refine lX3_isFrozen_lp h ad cI cJ cZ thr sn tkv opv shv ldv lim wyv bdv isr rn rdv fz icv exa fr fev eav rs rov x (by first | assumption | omega) (by first | assumption | omega) (by first | assumption | omega) C fz false 0 (by omega)  ?_
  intro zme_lp
  refine gz_iload_n C 2 dX3_isFrozen_38 rfl ?_
  exact gz_zret C hr hk (bI_nar _) (by first | rfl | (simp only [f3_isFrozen]) | (simp only [f3_isFrozen]; rfl)) rfl (Nat.le_refl _) (Nat.le_refl _) dX3_isFrozen_39


def f3_measure_lp (tkv : Nat → Int64) (opv : Nat → Int64) (shv : Nat → Int64) (wyv : Nat → Int64) (bdv : Nat → Bool) (rov : Nat → Nat) : Nat → Int64 → Int64 → Nat → Nat → Int64 × Int64 × Nat × Nat
  | 0, ck, fa, he, k => (ck, fa, he, k)
  | n + 1, ck, fa, he, k => f3_measure_lp tkv opv shv wyv bdv rov n (((if (opv (rov k)) ≤ (ck + (wyv ((21 * he) + (rov k)))) then ck + (wyv ((21 * he) + (rov k))) else opv (rov k))) + (tkv (rov k))) ((if (bdv ((21 * he) + (rov k))) = true then ((if (ck + (wyv ((21 * he) + (rov k)))) ≤ (shv (rov k)) then fa else fa + 1)) + 1 else (if (ck + (wyv ((21 * he) + (rov k)))) ≤ (shv (rov k)) then fa else fa + 1))) (rov k) (k + 1)
set_option maxRecDepth 100000 in
set_option maxHeartbeats 4000000 in
theorem lX3_measure_lp {p : Program} {l : Launch} {e : Env} {R : Room} {s : State} {m : MethodId} {args : Array Value} {below : List Frame} {meth : Method} {c : Code} {cells slots : Nat} {Q : State → Prop} {A : Nat → Prop} {D : va_G} (h : Nat) (ad : Nat → Nat) (cI : ClassId) (cJ : ClassId) (cZ : ClassId) (thr : Int32) (sn : Nat) (tkv : Nat → Int64) (opv : Nat → Int64) (shv : Nat → Int64) (ldv : Nat → Int32) (lim : Int32) (wyv : Nat → Int64) (bdv : Nat → Bool) (isr : Bool) (rn : Nat) (rdv : Nat → Nat) (fz : Nat) (icv : Nat → Nat) (exa : Bool) (fr : Nat) (fev : Nat → Nat) (eav : Nat → Int64) (rs : Nat) (rov : Nat → Nat) (hrs : rs ≤ 20) (hro : ∀ k, k < rs → rov k ≤ 20) (C : gz_C p s m args c cX3_measure 10 RX3 D [(cI, .int), (cJ, .long), (cZ, .boolean)] A) : ∀ (n : Nat) (ck : Int64) (fa : Int64) (he : Nat) (k : Nat), (k + n = rs) → (he ≤ 20) → ((((f3_measure_lp tkv opv shv wyv bdv rov n ck fa he k).2.2.2) + 0 = rs) → (((f3_measure_lp tkv opv shv wyv bdv rov n ck fa he k).2.2.1) ≤ 20) → GZ p l e R s m args below meth c 10 D A cells slots Q (wM h ad cI cJ cZ thr sn tkv opv shv ldv lim wyv bdv isr rn rdv fz icv exa fr fev eav rs rov) [(0, .ref h), (1, .long ((f3_measure_lp tkv opv shv wyv bdv rov n ck fa he k).1)), (3, .long ((f3_measure_lp tkv opv shv wyv bdv rov n ck fa he k).2.1)), (5, .int (nI ((f3_measure_lp tkv opv shv wyv bdv rov n ck fa he k).2.2.1))), (6, .int (nI ((f3_measure_lp tkv opv shv wyv bdv rov n ck fa he k).2.2.2)))] [] 134) → GZ p l e R s m args below meth c 10 D A cells slots Q (wM h ad cI cJ cZ thr sn tkv opv shv ldv lim wyv bdv isr rn rdv fz icv exa fr fev eav rs rov) [(0, .ref h), (1, .long ck), (3, .long fa), (5, .int (nI he)), (6, .int (nI k))] [] 10 := by
  intro n
  induction n with
  | zero =>
    intro ck fa he k hme hhe hx
    refine gz_iload C 4 dX3_measure_10 rfl ?_
    refine gz_aload_n C 0 dX3_measure_12 rfl ?_
    refine gz_get (ci := 4) C iwX3 0 rfl rfl 18 (by decide) wk_398 rfl rfl dX3_measure_13 ?_
    refine gz_ncmp_ge C 134 (by omega) (by omega) dX3_measure_16 (by decide) (fun h_1 => ?_) (fun h_1 => ?_)
    · skip
      exact gz_lv [0, 1, 2, 3, 4] rfl (hx hme hhe)
    · have g_1 : ¬ (rs ≤ k) := (Nat.not_le.mpr h_1)
      exfalso; omega
  | succ n ih =>
    intro ck fa he k hme hhe hx
    refine gz_iload C 4 dX3_measure_10 rfl ?_
    refine gz_aload_n C 0 dX3_measure_12 rfl ?_
    refine gz_get (ci := 4) C iwX3 0 rfl rfl 18 (by decide) wk_398 rfl rfl dX3_measure_13 ?_
    refine gz_ncmp_ge C 134 (by omega) (by omega) dX3_measure_16 (by decide) (fun h_1 => ?_) (fun h_1 => ?_)
    · skip
      exfalso; omega
    · have g_1 : ¬ (rs ≤ k) := (Nat.not_le.mpr h_1)
      have hq := hro k (by omega)
      refine gz_aload_n C 0 dX3_measure_19 rfl ?_
      refine gz_get (ci := 4) C iwX3 0 rfl rfl 19 (by decide) wk_399 rfl rfl dX3_measure_20 ?_
      refine gz_iload C 4 dX3_measure_23 rfl ?_
      refine gz_iald C 11 0 rfl rfl (by omega) (by decide) dX3_measure_25 ?_
      refine gz_istore (lv2 := [(7, .int (nI (rov k))), (0, .ref h), (1, .long ck), (3, .long fa), (5, .int (nI he)), (6, .int (nI k))]) C dX3_measure_26 (by decide) rfl ?_
      refine gz_lload_n C 2 dX3_measure_28 rfl ?_
      refine gz_aload_n C 1 dX3_measure_29 rfl ?_
      refine gz_get (ci := 4) C iwX3 0 rfl rfl 7 (by decide) wk_387 rfl rfl dX3_measure_30 ?_
      refine gz_bipush (v := nI 21) C dX3_measure_33 (by decide) ?_
      refine gz_iload C 4 dX3_measure_35 rfl ?_
      refine gz_imul (v := nI (21 * he)) C dX3_measure_37 (pk_mul _ _) ?_
      refine gz_iload C 0 dX3_measure_38 rfl ?_
      refine gz_iadd (v := nI ((21 * he) + (rov k))) C dX3_measure_40 (nI_add _ _) ?_
      refine gz_lald C 5 1 rfl rfl (by omega) (by decide) dX3_measure_41 ?_
      refine gz_ladd (v := ck + (wyv ((21 * he) + (rov k)))) C dX3_measure_42 rfl ?_
      refine gz_lstore (lv2 := [(8, .long (ck + (wyv ((21 * he) + (rov k))))), (7, .int (nI (rov k))), (0, .ref h), (1, .long ck), (3, .long fa), (5, .int (nI he)), (6, .int (nI k))]) C dX3_measure_43 (by decide) rfl ?_
      refine gz_lload C 0 dX3_measure_45 rfl ?_
      refine gz_aload_n C 2 dX3_measure_47 rfl ?_
      refine gz_get (ci := 4) C iwX3 0 rfl rfl 4 (by decide) wk_384 rfl rfl dX3_measure_48 ?_
      refine gz_iload C 1 dX3_measure_51 rfl ?_
      refine gz_lald C 3 1 rfl rfl (by omega) (by decide) dX3_measure_53 ?_
      refine gz_J (ws2 := (wM h ad cI cJ cZ thr sn tkv opv shv ldv lim wyv bdv isr rn rdv fz icv exa fr fev eav rs rov)) (lv2 := [(8, .long (ck + (wyv ((21 * he) + (rov k))))), (7, .int (nI (rov k))), (0, .ref h), (1, .long ck), (3, .long fa), (5, .int (nI he)), (6, .int (nI k))]) (st2 := [.long ((if (ck + (wyv ((21 * he) + (rov k)))) ≤ (shv (rov k)) then fa else fa + 1))]) (pc2 := 65) ?_ (fun J_2 => ?_)
      rotate_left
      · refine gz_lcmp_le C 64 dX3_measure_54 dX3_measure_55 (by decide) (fun h_2 => ?_) (fun h_2 => ?_)
        · skip
          refine gz_lload_n C 4 dX3_measure_64 rfl ?_
          simp only [if_pos h_2] at J_2 ⊢
          exact gz_lv [0, 1, 2, 3, 4, 5, 6] rfl J_2
        · have g_2 : ¬ ((ck + (wyv ((21 * he) + (rov k)))) ≤ (shv (rov k))) := h_2
          refine gz_lload_n C 4 dX3_measure_58 rfl ?_
          refine gz_lconst (v := 1) C dX3_measure_59 (by decide) ?_
          refine gz_ladd (v := fa + 1) C dX3_measure_60 rfl ?_
          refine gz_goto C 65 dX3_measure_61 (by decide) ?_
          simp only [if_neg g_2] at J_2 ⊢
          exact gz_lv [0, 1, 2, 3, 4, 5, 6] rfl J_2
      refine gz_lstore_n (lv2 := [(3, .long ((if (ck + (wyv ((21 * he) + (rov k)))) ≤ (shv (rov k)) then fa else fa + 1))), (8, .long (ck + (wyv ((21 * he) + (rov k))))), (7, .int (nI (rov k))), (0, .ref h), (1, .long ck), (5, .int (nI he)), (6, .int (nI k))]) C dX3_measure_65 (by decide) rfl ?_
      refine gz_aload_n C 3 dX3_measure_66 rfl ?_
      refine gz_get (ci := 4) C iwX3 0 rfl rfl 8 (by decide) wk_388 rfl rfl dX3_measure_67 ?_
      refine gz_bipush (v := nI 21) C dX3_measure_70 (by decide) ?_
      refine gz_iload C 5 dX3_measure_72 rfl ?_
      refine gz_imul (v := nI (21 * he)) C dX3_measure_74 (pk_mul _ _) ?_
      refine gz_iload C 2 dX3_measure_75 rfl ?_
      refine gz_iadd (v := nI ((21 * he) + (rov k))) C dX3_measure_77 (nI_add _ _) ?_
      refine gz_zald C 6 2 rfl rfl (by omega) (by decide) dX3_measure_78 ?_
      refine gz_J (ws2 := (wM h ad cI cJ cZ thr sn tkv opv shv ldv lim wyv bdv isr rn rdv fz icv exa fr fev eav rs rov)) (lv2 := [(3, .long ((if (ck + (wyv ((21 * he) + (rov k)))) ≤ (shv (rov k)) then fa else fa + 1))), (8, .long (ck + (wyv ((21 * he) + (rov k))))), (7, .int (nI (rov k))), (0, .ref h), (1, .long ck), (5, .int (nI he)), (6, .int (nI k))]) (st2 := [.long ((if (bdv ((21 * he) + (rov k))) = true then ((if (ck + (wyv ((21 * he) + (rov k)))) ≤ (shv (rov k)) then fa else fa + 1)) + 1 else (if (ck + (wyv ((21 * he) + (rov k)))) ≤ (shv (rov k)) then fa else fa + 1)))]) (pc2 := 89) ?_ (fun J_3 => ?_)
      rotate_left
      · refine gz_bif_eq C 88 dX3_measure_79 (by decide) (fun h_3 => ?_) (fun h_3 => ?_)
        · have g_3 : ¬ ((bdv ((21 * he) + (rov k))) = true) := (by rw [h_3]; decide)
          refine gz_lload_n C 0 dX3_measure_88 rfl ?_
          simp only [if_neg g_3] at J_3 ⊢
          exact gz_lv [0, 1, 2, 3, 4, 5, 6] rfl J_3
        · skip
          refine gz_lload_n C 0 dX3_measure_82 rfl ?_
          refine gz_lconst (v := 1) C dX3_measure_83 (by decide) ?_
          refine gz_ladd (v := ((if (ck + (wyv ((21 * he) + (rov k)))) ≤ (shv (rov k)) then fa else fa + 1)) + 1) C dX3_measure_84 rfl ?_
          refine gz_goto C 89 dX3_measure_85 (by decide) ?_
          simp only [if_pos h_3] at J_3 ⊢
          exact gz_lv [0, 1, 2, 3, 4, 5, 6] rfl J_3
      refine gz_lstore_n (lv2 := [(3, .long ((if (bdv ((21 * he) + (rov k))) = true then ((if (ck + (wyv ((21 * he) + (rov k)))) ≤ (shv (rov k)) then fa else fa + 1)) + 1 else (if (ck + (wyv ((21 * he) + (rov k)))) ≤ (shv (rov k)) then fa else fa + 1)))), (8, .long (ck + (wyv ((21 * he) + (rov k))))), (7, .int (nI (rov k))), (0, .ref h), (1, .long ck), (5, .int (nI he)), (6, .int (nI k))]) C dX3_measure_89 (by decide) rfl ?_
      refine gz_lload C 1 dX3_measure_90 rfl ?_
      refine gz_aload_n C 3 dX3_measure_92 rfl ?_
      refine gz_get (ci := 4) C iwX3 0 rfl rfl 3 (by decide) wk_383 rfl rfl dX3_measure_93 ?_
      refine gz_iload C 2 dX3_measure_96 rfl ?_
      refine gz_lald C 2 1 rfl rfl (by omega) (by decide) dX3_measure_98 ?_
      refine gz_J (ws2 := (wM h ad cI cJ cZ thr sn tkv opv shv ldv lim wyv bdv isr rn rdv fz icv exa fr fev eav rs rov)) (lv2 := [(3, .long ((if (bdv ((21 * he) + (rov k))) = true then ((if (ck + (wyv ((21 * he) + (rov k)))) ≤ (shv (rov k)) then fa else fa + 1)) + 1 else (if (ck + (wyv ((21 * he) + (rov k)))) ≤ (shv (rov k)) then fa else fa + 1)))), (8, .long (ck + (wyv ((21 * he) + (rov k))))), (7, .int (nI (rov k))), (0, .ref h), (1, .long ck), (5, .int (nI he)), (6, .int (nI k))]) (st2 := [.long ((if (opv (rov k)) ≤ (ck + (wyv ((21 * he) + (rov k)))) then ck + (wyv ((21 * he) + (rov k))) else opv (rov k)))]) (pc2 := 115) ?_ (fun J_4 => ?_)
      rotate_left
      · refine gz_lcmp_ge C 113 dX3_measure_99 dX3_measure_100 (by decide) (fun h_4 => ?_) (fun h_4 => ?_)
        · skip
          refine gz_lload C 1 dX3_measure_113 rfl ?_
          simp only [if_pos h_4] at J_4 ⊢
          exact gz_lv [0, 1, 2, 3, 4, 5, 6] rfl J_4
        · have g_4 : ¬ ((opv (rov k)) ≤ (ck + (wyv ((21 * he) + (rov k))))) := h_4
          refine gz_aload_n C 3 dX3_measure_103 rfl ?_
          refine gz_get (ci := 4) C iwX3 0 rfl rfl 3 (by decide) wk_383 rfl rfl dX3_measure_104 ?_
          refine gz_iload C 2 dX3_measure_107 rfl ?_
          refine gz_lald C 2 1 rfl rfl (by omega) (by decide) dX3_measure_109 ?_
          refine gz_goto C 115 dX3_measure_110 (by decide) ?_
          simp only [if_neg g_4] at J_4 ⊢
          exact gz_lv [0, 1, 2, 3, 4, 5, 6] rfl J_4
      refine gz_aload_n C 3 dX3_measure_115 rfl ?_
      refine gz_get (ci := 4) C iwX3 0 rfl rfl 2 (by decide) wk_382 rfl rfl dX3_measure_116 ?_
      refine gz_iload C 2 dX3_measure_119 rfl ?_
      refine gz_lald C 1 1 rfl rfl (by omega) (by decide) dX3_measure_121 ?_
      refine gz_ladd (v := ((if (opv (rov k)) ≤ (ck + (wyv ((21 * he) + (rov k)))) then ck + (wyv ((21 * he) + (rov k))) else opv (rov k))) + (tkv (rov k))) C dX3_measure_122 rfl ?_
      refine gz_lstore_n (lv2 := [(1, .long (((if (opv (rov k)) ≤ (ck + (wyv ((21 * he) + (rov k)))) then ck + (wyv ((21 * he) + (rov k))) else opv (rov k))) + (tkv (rov k)))), (3, .long ((if (bdv ((21 * he) + (rov k))) = true then ((if (ck + (wyv ((21 * he) + (rov k)))) ≤ (shv (rov k)) then fa else fa + 1)) + 1 else (if (ck + (wyv ((21 * he) + (rov k)))) ≤ (shv (rov k)) then fa else fa + 1)))), (8, .long (ck + (wyv ((21 * he) + (rov k))))), (7, .int (nI (rov k))), (0, .ref h), (5, .int (nI he)), (6, .int (nI k))]) C dX3_measure_123 (by decide) rfl ?_
      refine gz_iload C 3 dX3_measure_124 rfl ?_
      refine gz_istore (lv2 := [(5, .int (nI (rov k))), (1, .long (((if (opv (rov k)) ≤ (ck + (wyv ((21 * he) + (rov k)))) then ck + (wyv ((21 * he) + (rov k))) else opv (rov k))) + (tkv (rov k)))), (3, .long ((if (bdv ((21 * he) + (rov k))) = true then ((if (ck + (wyv ((21 * he) + (rov k)))) ≤ (shv (rov k)) then fa else fa + 1)) + 1 else (if (ck + (wyv ((21 * he) + (rov k)))) ≤ (shv (rov k)) then fa else fa + 1)))), (8, .long (ck + (wyv ((21 * he) + (rov k))))), (7, .int (nI (rov k))), (0, .ref h), (6, .int (nI k))]) C dX3_measure_126 (by decide) rfl ?_
      refine gz_iinc (v := nI (k + 1)) (lv2 := [(6, .int (nI (k + 1))), (5, .int (nI (rov k))), (1, .long (((if (opv (rov k)) ≤ (ck + (wyv ((21 * he) + (rov k)))) then ck + (wyv ((21 * he) + (rov k))) else opv (rov k))) + (tkv (rov k)))), (3, .long ((if (bdv ((21 * he) + (rov k))) = true then ((if (ck + (wyv ((21 * he) + (rov k)))) ≤ (shv (rov k)) then fa else fa + 1)) + 1 else (if (ck + (wyv ((21 * he) + (rov k)))) ≤ (shv (rov k)) then fa else fa + 1)))), (8, .long (ck + (wyv ((21 * he) + (rov k))))), (7, .int (nI (rov k))), (0, .ref h)]) (k := 6) C dX3_measure_128 rfl (nI_add _ 1) (by decide) rfl ?_
      refine gz_goto C 10 dX3_measure_131 (by decide) ?_
      refine gz_lv [6, 2, 3, 1, 0] rfl ?_
      simp only [f3_measure_lp, if_neg g_1] at hx
      exact ih (((if (opv (rov k)) ≤ (ck + (wyv ((21 * he) + (rov k)))) then ck + (wyv ((21 * he) + (rov k))) else opv (rov k))) + (tkv (rov k))) ((if (bdv ((21 * he) + (rov k))) = true then ((if (ck + (wyv ((21 * he) + (rov k)))) ≤ (shv (rov k)) then fa else fa + 1)) + 1 else (if (ck + (wyv ((21 * he) + (rov k)))) ≤ (shv (rov k)) then fa else fa + 1))) (rov k) (k + 1) (by omega) (by omega) hx

def f3_measure (tkv : Nat → Int64) (opv : Nat → Int64) (shv : Nat → Int64) (wyv : Nat → Int64) (bdv : Nat → Bool) (rs : Nat) (rov : Nat → Nat) : Int64 := (if rs = 0 then 0 else ((((if (bdv (21 * ((f3_measure_lp tkv opv shv wyv bdv rov rs 0 0 0 0).2.2.1))) = true then ((f3_measure_lp tkv opv shv wyv bdv rov rs 0 0 0 0).2.1) + 1 else (f3_measure_lp tkv opv shv wyv bdv rov rs 0 0 0 0).2.1)) * 1000000000) + ((f3_measure_lp tkv opv shv wyv bdv rov rs 0 0 0 0).1)) + (wyv (21 * ((f3_measure_lp tkv opv shv wyv bdv rov rs 0 0 0 0).2.2.1))))
set_option maxRecDepth 100000 in
set_option maxHeartbeats 4000000 in
theorem kX3_measure (l : Launch) (D : va_G) (h : Nat) (ad : Nat → Nat) (cI : ClassId) (cJ : ClassId) (cZ : ClassId) (thr : Int32) (sn : Nat) (tkv : Nat → Int64) (opv : Nat → Int64) (shv : Nat → Int64) (ldv : Nat → Int32) (lim : Int32) (wyv : Nat → Int64) (bdv : Nat → Bool) (isr : Bool) (rn : Nat) (rdv : Nat → Nat) (fz : Nat) (icv : Nat → Nat) (exa : Bool) (fr : Nat) (fev : Nat → Nat) (eav : Nat → Int64) (rs : Nat) (rov : Nat → Nat) (hrs : rs ≤ 20) (hro : ∀ k, k < rs → rov k ≤ 20) : gz_M l yX3_measure cX3_measure 10 (some .long) ({ frames := 0, cells := 0, slots := 0, locals := 0 } : Room) D [(cI, .int), (cJ, .long), (cZ, .boolean)] [.ref h] (wM h ad cI cJ cZ thr sn tkv opv shv ldv lim wyv bdv isr rn rdv fz icv exa fr fev eav rs rov) (some (.long (f3_measure tkv opv shv wyv bdv rs rov))) (wM h ad cI cJ cZ thr sn tkv opv shv ldv lim wyv bdv isr rn rdv fz icv exa fr fev eav rs rov) 0 0 := by
  refine gz_met l (by decide) (Nat.le_of_ble_eq_true rfl) [(0, .ref h)] rfl ?_
  intro sz p e s m args below meth c C hr hk hnm
  have C : gz_C p s m args c cX3_measure 10 RX3 D [(cI, .int), (cJ, .long), (cZ, .boolean)] (va_A (wM h ad cI cJ cZ thr sn tkv opv shv ldv lim wyv bdv isr rn rdv fz icv exa fr fev eav rs rov) sz) := C
  refine gz_lconst (v := 0) C dX3_measure_0 (by decide) ?_
  refine gz_lstore_n (lv2 := [(1, .long 0), (0, .ref h)]) C dX3_measure_1 (by decide) rfl ?_
  refine gz_lconst (v := 0) C dX3_measure_2 (by decide) ?_
  refine gz_lstore_n (lv2 := [(3, .long 0), (1, .long 0), (0, .ref h)]) C dX3_measure_3 (by decide) rfl ?_
  refine gz_iconst (v := nI 0) C dX3_measure_4 (by decide) ?_
  refine gz_istore (lv2 := [(5, .int (nI 0)), (3, .long 0), (1, .long 0), (0, .ref h)]) C dX3_measure_5 (by decide) rfl ?_
  refine gz_iconst (v := nI 0) C dX3_measure_7 (by decide) ?_
  refine gz_istore (lv2 := [(6, .int (nI 0)), (5, .int (nI 0)), (3, .long 0), (1, .long 0), (0, .ref h)]) C dX3_measure_8 (by decide) rfl ?_
  refine gz_lv (lv2 := [(0, .ref h), (1, .long 0), (3, .long 0), (5, .int (nI 0)), (6, .int (nI 0))]) [4, 3, 2, 1, 0] rfl ?_
  refine lX3_measure_lp h ad cI cJ cZ thr sn tkv opv shv ldv lim wyv bdv isr rn rdv fz icv exa fr fev eav rs rov (by first | assumption | omega) (by first | assumption | omega) C rs 0 0 0 0 (by omega) (by first | assumption | omega) ?_
  intro zme_lp zhhe_lp
  refine gz_aload_n C 0 dX3_measure_134 rfl ?_
  refine gz_get (ci := 4) C iwX3 0 rfl rfl 18 (by decide) wk_398 rfl rfl dX3_measure_135 ?_
  refine gz_nif_ne C 143 (by omega) dX3_measure_138 (by decide) (fun h_1 => ?_) (fun h_1 => ?_)
  · have g_1 : ¬ (rs = 0) := h_1
    refine gz_aload_n C 0 dX3_measure_143 rfl ?_
    refine gz_get (ci := 4) C iwX3 0 rfl rfl 8 (by decide) wk_388 rfl rfl dX3_measure_144 ?_
    refine gz_bipush (v := nI 21) C dX3_measure_147 (by decide) ?_
    refine gz_iload C 3 dX3_measure_149 rfl ?_
    refine gz_imul (v := nI (21 * ((f3_measure_lp tkv opv shv wyv bdv rov rs 0 0 0 0).2.2.1))) C dX3_measure_151 (pk_mul _ _) ?_
    refine gz_zald C 6 2 rfl rfl (by omega) (by decide) dX3_measure_152 ?_
    refine gz_J (ws2 := (wM h ad cI cJ cZ thr sn tkv opv shv ldv lim wyv bdv isr rn rdv fz icv exa fr fev eav rs rov)) (lv2 := [(0, .ref h), (1, .long ((f3_measure_lp tkv opv shv wyv bdv rov rs 0 0 0 0).1)), (3, .long ((f3_measure_lp tkv opv shv wyv bdv rov rs 0 0 0 0).2.1)), (5, .int (nI ((f3_measure_lp tkv opv shv wyv bdv rov rs 0 0 0 0).2.2.1))), (6, .int (nI ((f3_measure_lp tkv opv shv wyv bdv rov rs 0 0 0 0).2.2.2)))]) (st2 := [.long ((if (bdv (21 * ((f3_measure_lp tkv opv shv wyv bdv rov rs 0 0 0 0).2.2.1))) = true then ((f3_measure_lp tkv opv shv wyv bdv rov rs 0 0 0 0).2.1) + 1 else (f3_measure_lp tkv opv shv wyv bdv rov rs 0 0 0 0).2.1))]) (pc2 := 163) ?_ (fun J_2 => ?_)
    rotate_left
    · refine gz_bif_eq C 162 dX3_measure_153 (by decide) (fun h_2 => ?_) (fun h_2 => ?_)
      · have g_2 : ¬ ((bdv (21 * ((f3_measure_lp tkv opv shv wyv bdv rov rs 0 0 0 0).2.2.1))) = true) := (by rw [h_2]; decide)
        refine gz_lload_n C 2 dX3_measure_162 rfl ?_
        simp only [if_neg g_2] at J_2 ⊢
        exact gz_lv [0, 1, 2, 3, 4] rfl J_2
      · skip
        refine gz_lload_n C 2 dX3_measure_156 rfl ?_
        refine gz_lconst (v := 1) C dX3_measure_157 (by decide) ?_
        refine gz_ladd (v := ((f3_measure_lp tkv opv shv wyv bdv rov rs 0 0 0 0).2.1) + 1) C dX3_measure_158 rfl ?_
        refine gz_goto C 163 dX3_measure_159 (by decide) ?_
        simp only [if_pos h_2] at J_2 ⊢
        exact gz_lv [0, 1, 2, 3, 4] rfl J_2
    refine gz_lstore_n (lv2 := [(3, .long ((if (bdv (21 * ((f3_measure_lp tkv opv shv wyv bdv rov rs 0 0 0 0).2.2.1))) = true then ((f3_measure_lp tkv opv shv wyv bdv rov rs 0 0 0 0).2.1) + 1 else (f3_measure_lp tkv opv shv wyv bdv rov rs 0 0 0 0).2.1))), (0, .ref h), (1, .long ((f3_measure_lp tkv opv shv wyv bdv rov rs 0 0 0 0).1)), (5, .int (nI ((f3_measure_lp tkv opv shv wyv bdv rov rs 0 0 0 0).2.2.1))), (6, .int (nI ((f3_measure_lp tkv opv shv wyv bdv rov rs 0 0 0 0).2.2.2)))]) C dX3_measure_163 (by decide) rfl ?_
    refine gz_lload_n C 0 dX3_measure_164 rfl ?_
    refine gz_ldc2 (v := 1000000000) C wk_514 dX3_measure_165 ?_
    refine gz_lmul (v := ((if (bdv (21 * ((f3_measure_lp tkv opv shv wyv bdv rov rs 0 0 0 0).2.2.1))) = true then ((f3_measure_lp tkv opv shv wyv bdv rov rs 0 0 0 0).2.1) + 1 else (f3_measure_lp tkv opv shv wyv bdv rov rs 0 0 0 0).2.1)) * 1000000000) C dX3_measure_168 rfl ?_
    refine gz_lload_n C 2 dX3_measure_169 rfl ?_
    refine gz_ladd (v := (((if (bdv (21 * ((f3_measure_lp tkv opv shv wyv bdv rov rs 0 0 0 0).2.2.1))) = true then ((f3_measure_lp tkv opv shv wyv bdv rov rs 0 0 0 0).2.1) + 1 else (f3_measure_lp tkv opv shv wyv bdv rov rs 0 0 0 0).2.1)) * 1000000000) + ((f3_measure_lp tkv opv shv wyv bdv rov rs 0 0 0 0).1)) C dX3_measure_170 rfl ?_
    refine gz_aload_n C 1 dX3_measure_171 rfl ?_
    refine gz_get (ci := 4) C iwX3 0 rfl rfl 7 (by decide) wk_387 rfl rfl dX3_measure_172 ?_
    refine gz_bipush (v := nI 21) C dX3_measure_175 (by decide) ?_
    refine gz_iload C 3 dX3_measure_177 rfl ?_
    refine gz_imul (v := nI (21 * ((f3_measure_lp tkv opv shv wyv bdv rov rs 0 0 0 0).2.2.1))) C dX3_measure_179 (pk_mul _ _) ?_
    refine gz_lald C 5 1 rfl rfl (by omega) (by decide) dX3_measure_180 ?_
    refine gz_ladd (v := ((((if (bdv (21 * ((f3_measure_lp tkv opv shv wyv bdv rov rs 0 0 0 0).2.2.1))) = true then ((f3_measure_lp tkv opv shv wyv bdv rov rs 0 0 0 0).2.1) + 1 else (f3_measure_lp tkv opv shv wyv bdv rov rs 0 0 0 0).2.1)) * 1000000000) + ((f3_measure_lp tkv opv shv wyv bdv rov rs 0 0 0 0).1)) + (wyv (21 * ((f3_measure_lp tkv opv shv wyv bdv rov rs 0 0 0 0).2.2.1)))) C dX3_measure_181 rfl ?_
    exact gz_lret C hr hk (by first | rfl | (simp only [f3_measure, if_neg g_1]) | (simp only [f3_measure, if_neg g_1]; rfl)) rfl (Nat.le_refl _) (Nat.le_refl _) dX3_measure_182
  · skip
    refine gz_lconst (v := 0) C dX3_measure_141 (by decide) ?_
    exact gz_lret C hr hk (by first | rfl | (simp only [f3_measure, if_pos h_1]) | (simp only [f3_measure, if_pos h_1]; rfl)) rfl (Nat.le_refl _) (Nat.le_refl _) dX3_measure_142


def f3_putIn_lp  : Nat → Nat → (Nat → Nat) → Nat × (Nat → Nat)
  | 0, k, rov => (k, rov)
  | n + 1, k, rov => f3_putIn_lp  n (k - 1) (va_up rov k (rov (k - 1)))
set_option maxRecDepth 100000 in
set_option maxHeartbeats 4000000 in
theorem lX3_putIn_lp {p : Program} {l : Launch} {e : Env} {R : Room} {s : State} {m : MethodId} {args : Array Value} {below : List Frame} {meth : Method} {c : Code} {cells slots : Nat} {Q : State → Prop} {A : Nat → Prop} {D : va_G} (h : Nat) (ad : Nat → Nat) (cI : ClassId) (cJ : ClassId) (cZ : ClassId) (thr : Int32) (sn : Nat) (tkv : Nat → Int64) (opv : Nat → Int64) (shv : Nat → Int64) (ldv : Nat → Int32) (lim : Int32) (wyv : Nat → Int64) (bdv : Nat → Bool) (isr : Bool) (rn : Nat) (rdv : Nat → Nat) (fz : Nat) (icv : Nat → Nat) (exa : Bool) (fr : Nat) (fev : Nat → Nat) (eav : Nat → Int64) (rs : Nat) (pl : Nat) (x : Nat)  (C : gz_C p s m args c cX3_putIn 4 RX3 D [(cI, .int), (cJ, .long), (cZ, .boolean)] A) : ∀ (n : Nat) (k : Nat) (rov : Nat → Nat), (k = pl + n ∧ k ≤ 20) → ((((f3_putIn_lp  n k rov).1) = pl + 0 ∧ ((f3_putIn_lp  n k rov).1) ≤ 20) → GZ p l e R s m args below meth c 4 D A cells slots Q (wM h ad cI cJ cZ thr sn tkv opv shv ldv lim wyv bdv isr rn rdv fz icv exa fr fev eav rs ((f3_putIn_lp  n k rov).2)) [(0, .ref h), (1, .int (nI pl)), (2, .int (nI x)), (3, .int (nI ((f3_putIn_lp  n k rov).1)))] [] 30) → GZ p l e R s m args below meth c 4 D A cells slots Q (wM h ad cI cJ cZ thr sn tkv opv shv ldv lim wyv bdv isr rn rdv fz icv exa fr fev eav rs rov) [(0, .ref h), (1, .int (nI pl)), (2, .int (nI x)), (3, .int (nI k))] [] 5 := by
  intro n
  induction n with
  | zero =>
    intro k rov hme  hx
    refine gz_iload_n C 3 dX3_putIn_5 rfl ?_
    refine gz_iload_n C 1 dX3_putIn_6 rfl ?_
    refine gz_ncmp_le C 30 (by omega) (by omega) dX3_putIn_7 (by decide) (fun h_1 => ?_) (fun h_1 => ?_)
    · skip
      exact gz_lv [0, 1, 2, 3] rfl (hx hme )
    · have g_1 : ¬ (k ≤ pl) := (Nat.not_le.mpr h_1)
      exfalso; omega
  | succ n ih =>
    intro k rov hme  hx
    refine gz_iload_n C 3 dX3_putIn_5 rfl ?_
    refine gz_iload_n C 1 dX3_putIn_6 rfl ?_
    refine gz_ncmp_le C 30 (by omega) (by omega) dX3_putIn_7 (by decide) (fun h_1 => ?_) (fun h_1 => ?_)
    · skip
      exfalso; omega
    · have g_1 : ¬ (k ≤ pl) := (Nat.not_le.mpr h_1)
      refine gz_aload_n C 0 dX3_putIn_10 rfl ?_
      refine gz_get (ci := 4) C iwX3 0 rfl rfl 19 (by decide) wk_399 rfl rfl dX3_putIn_11 ?_
      refine gz_iload_n C 3 dX3_putIn_14 rfl ?_
      refine gz_aload_n C 0 dX3_putIn_15 rfl ?_
      refine gz_get (ci := 4) C iwX3 0 rfl rfl 19 (by decide) wk_399 rfl rfl dX3_putIn_16 ?_
      refine gz_iload_n C 3 dX3_putIn_19 rfl ?_
      refine gz_iconst (v := nI 1) C dX3_putIn_20 (by decide) ?_
      refine gz_isub (v := nI (k - 1)) C dX3_putIn_21 (pk_sub (by first | omega | exact Nat.one_le_two_pow)) ?_
      refine gz_iald C 11 0 rfl rfl (by omega) (by decide) dX3_putIn_22 ?_
      refine gz_iast (ws2 := (wM h ad cI cJ cZ thr sn tkv opv shv ldv lim wyv bdv isr rn rdv fz icv exa fr fev eav rs (va_up rov k (rov (k - 1))))) C 11 0 rfl rfl (by omega) (by decide) rfl dX3_putIn_23 ?_
      refine gz_iinc (v := nI (k - 1)) (lv2 := [(3, .int (nI (k - 1))), (0, .ref h), (1, .int (nI pl)), (2, .int (nI x))]) (k := 3) C dX3_putIn_24 rfl (sb_m1 (by omega)) (by decide) rfl ?_
      refine gz_goto C 5 dX3_putIn_27 (by decide) ?_
      refine gz_lv [1, 2, 3, 0] rfl ?_
      simp only [f3_putIn_lp, if_neg g_1] at hx
      exact ih (k - 1) (va_up rov k (rov (k - 1))) (by omega)  hx

def f3_putIn_rs (rs : Nat) : Nat := rs + 1
def f3_putIn_rov (rs : Nat) (rov : Nat → Nat) (pl : Nat) (x : Nat) : Nat → Nat := va_up ((f3_putIn_lp  (rs - pl) rs rov).2) pl x
set_option maxRecDepth 100000 in
set_option maxHeartbeats 4000000 in
theorem kX3_putIn (l : Launch) (D : va_G) (h : Nat) (ad : Nat → Nat) (cI : ClassId) (cJ : ClassId) (cZ : ClassId) (thr : Int32) (sn : Nat) (tkv : Nat → Int64) (opv : Nat → Int64) (shv : Nat → Int64) (ldv : Nat → Int32) (lim : Int32) (wyv : Nat → Int64) (bdv : Nat → Bool) (isr : Bool) (rn : Nat) (rdv : Nat → Nat) (fz : Nat) (icv : Nat → Nat) (exa : Bool) (fr : Nat) (fev : Nat → Nat) (eav : Nat → Int64) (rs : Nat) (rov : Nat → Nat) (pl : Nat) (x : Nat) (hrs : rs ≤ 20) (hpl : pl ≤ rs) : gz_M l yX3_putIn cX3_putIn 4 none ({ frames := 0, cells := 0, slots := 0, locals := 0 } : Room) D [(cI, .int), (cJ, .long), (cZ, .boolean)] [.ref h, .int (nI pl), .int (nI x)] (wM h ad cI cJ cZ thr sn tkv opv shv ldv lim wyv bdv isr rn rdv fz icv exa fr fev eav rs rov) (none) (wM h ad cI cJ cZ thr sn tkv opv shv ldv lim wyv bdv isr rn rdv fz icv exa fr fev eav (f3_putIn_rs rs) (f3_putIn_rov rs rov pl x)) 0 0 := by
  refine gz_met l (by decide) (Nat.le_of_ble_eq_true rfl) [(0, .ref h), (1, .int (nI pl)), (2, .int (nI x))] rfl ?_
  intro sz p e s m args below meth c C hr hk hnm
  have C : gz_C p s m args c cX3_putIn 4 RX3 D [(cI, .int), (cJ, .long), (cZ, .boolean)] (va_A (wM h ad cI cJ cZ thr sn tkv opv shv ldv lim wyv bdv isr rn rdv fz icv exa fr fev eav rs rov) sz) := C
  refine gz_aload_n C 0 dX3_putIn_0 rfl ?_
  refine gz_get (ci := 4) C iwX3 0 rfl rfl 18 (by decide) wk_398 rfl rfl dX3_putIn_1 ?_
  refine gz_istore_n (lv2 := [(3, .int (nI rs)), (0, .ref h), (1, .int (nI pl)), (2, .int (nI x))]) C dX3_putIn_4 (by decide) rfl ?_
  refine gz_lv (lv2 := [(0, .ref h), (1, .int (nI pl)), (2, .int (nI x)), (3, .int (nI rs))]) [1, 2, 3, 0] rfl ?_
  refine lX3_putIn_lp h ad cI cJ cZ thr sn tkv opv shv ldv lim wyv bdv isr rn rdv fz icv exa fr fev eav rs pl x  C (rs - pl) rs rov (by omega)  ?_
  intro zme_lp
  refine gz_aload_n C 0 dX3_putIn_30 rfl ?_
  refine gz_get (ci := 4) C iwX3 0 rfl rfl 19 (by decide) wk_399 rfl rfl dX3_putIn_31 ?_
  refine gz_iload_n C 1 dX3_putIn_34 rfl ?_
  refine gz_iload_n C 2 dX3_putIn_35 rfl ?_
  refine gz_iast (ws2 := (wM h ad cI cJ cZ thr sn tkv opv shv ldv lim wyv bdv isr rn rdv fz icv exa fr fev eav rs (va_up ((f3_putIn_lp  (rs - pl) rs rov).2) pl x))) C 11 0 rfl rfl (by omega) (by decide) rfl dX3_putIn_36 ?_
  refine gz_aload_n C 0 dX3_putIn_37 rfl ?_
  refine gz_dup C dX3_putIn_38 rfl ?_
  refine gz_get (ci := 4) C iwX3 0 rfl rfl 18 (by decide) wk_398 rfl rfl dX3_putIn_39 ?_
  refine gz_iconst (v := nI 1) C dX3_putIn_42 (by decide) ?_
  refine gz_iadd (v := nI (rs + 1)) C dX3_putIn_43 (nI_add _ _) ?_
  refine gz_put (ci := 4) (ws2 := (wM h ad cI cJ cZ thr sn tkv opv shv ldv lim wyv bdv isr rn rdv fz icv exa fr fev eav (rs + 1) (va_up ((f3_putIn_lp  (rs - pl) rs rov).2) pl x))) C iwX3 0 rfl rfl 18 (by decide) wk_398 rfl tyX3 tyX3_ok nmX3 rfl rfl rfl rfl (Nat.le_of_ble_eq_true rfl) rfl dX3_putIn_44 ?_
  exact gz_vret C hr hk (by first | rfl | (simp only [f3_putIn_rs, f3_putIn_rov]) | (simp only [f3_putIn_rs, f3_putIn_rov]; rfl)) (by first | rfl | (simp only [f3_putIn_rs, f3_putIn_rov]) | (simp only [f3_putIn_rs, f3_putIn_rov]; rfl)) (Nat.le_refl _) (Nat.le_refl _) dX3_putIn_47

def f3_takeOut_lp  : Nat → Nat → (Nat → Nat) → Nat × (Nat → Nat)
  | 0, k, rov => (k, rov)
  | n + 1, k, rov => f3_takeOut_lp  n (k + 1) (va_up rov k (rov (k + 1)))
set_option maxRecDepth 100000 in
set_option maxHeartbeats 4000000 in
theorem lX3_takeOut_lp {p : Program} {l : Launch} {e : Env} {R : Room} {s : State} {m : MethodId} {args : Array Value} {below : List Frame} {meth : Method} {c : Code} {cells slots : Nat} {Q : State → Prop} {A : Nat → Prop} {D : va_G} (h : Nat) (ad : Nat → Nat) (cI : ClassId) (cJ : ClassId) (cZ : ClassId) (thr : Int32) (sn : Nat) (tkv : Nat → Int64) (opv : Nat → Int64) (shv : Nat → Int64) (ldv : Nat → Int32) (lim : Int32) (wyv : Nat → Int64) (bdv : Nat → Bool) (isr : Bool) (rn : Nat) (rdv : Nat → Nat) (fz : Nat) (icv : Nat → Nat) (exa : Bool) (fr : Nat) (fev : Nat → Nat) (eav : Nat → Int64) (rs : Nat)  (C : gz_C p s m args c cX3_takeOut 3 RX3 D [(cI, .int), (cJ, .long), (cZ, .boolean)] A) : ∀ (n : Nat) (k : Nat) (rov : Nat → Nat), (k + n = rs ∧ rs ≤ 20) → ((((f3_takeOut_lp  n k rov).1) + 0 = rs ∧ rs ≤ 20) → GZ p l e R s m args below meth c 3 D A cells slots Q (wM h ad cI cJ cZ thr sn tkv opv shv ldv lim wyv bdv isr rn rdv fz icv exa fr fev eav rs ((f3_takeOut_lp  n k rov).2)) [(0, .ref h), (2, .int (nI ((f3_takeOut_lp  n k rov).1)))] [] 40) → GZ p l e R s m args below meth c 3 D A cells slots Q (wM h ad cI cJ cZ thr sn tkv opv shv ldv lim wyv bdv isr rn rdv fz icv exa fr fev eav rs rov) [(0, .ref h), (2, .int (nI k))] [] 12 := by
  intro n
  induction n with
  | zero =>
    intro k rov hme  hx
    refine gz_iload_n C 1 dX3_takeOut_12 rfl ?_
    refine gz_aload_n C 0 dX3_takeOut_13 rfl ?_
    refine gz_get (ci := 4) C iwX3 0 rfl rfl 18 (by decide) wk_398 rfl rfl dX3_takeOut_14 ?_
    refine gz_ncmp_ge C 40 (by omega) (by omega) dX3_takeOut_17 (by decide) (fun h_1 => ?_) (fun h_1 => ?_)
    · skip
      exact gz_lv [0, 1] rfl (hx hme )
    · have g_1 : ¬ (rs ≤ k) := (Nat.not_le.mpr h_1)
      exfalso; omega
  | succ n ih =>
    intro k rov hme  hx
    refine gz_iload_n C 1 dX3_takeOut_12 rfl ?_
    refine gz_aload_n C 0 dX3_takeOut_13 rfl ?_
    refine gz_get (ci := 4) C iwX3 0 rfl rfl 18 (by decide) wk_398 rfl rfl dX3_takeOut_14 ?_
    refine gz_ncmp_ge C 40 (by omega) (by omega) dX3_takeOut_17 (by decide) (fun h_1 => ?_) (fun h_1 => ?_)
    · skip
      exfalso; omega
    · have g_1 : ¬ (rs ≤ k) := (Nat.not_le.mpr h_1)
      refine gz_aload_n C 0 dX3_takeOut_20 rfl ?_
      refine gz_get (ci := 4) C iwX3 0 rfl rfl 19 (by decide) wk_399 rfl rfl dX3_takeOut_21 ?_
      refine gz_iload_n C 1 dX3_takeOut_24 rfl ?_
      refine gz_aload_n C 0 dX3_takeOut_25 rfl ?_
      refine gz_get (ci := 4) C iwX3 0 rfl rfl 19 (by decide) wk_399 rfl rfl dX3_takeOut_26 ?_
      refine gz_iload_n C 1 dX3_takeOut_29 rfl ?_
      refine gz_iconst (v := nI 1) C dX3_takeOut_30 (by decide) ?_
      refine gz_iadd (v := nI (k + 1)) C dX3_takeOut_31 (nI_add _ _) ?_
      refine gz_iald C 11 0 rfl rfl (by omega) (by decide) dX3_takeOut_32 ?_
      refine gz_iast (ws2 := (wM h ad cI cJ cZ thr sn tkv opv shv ldv lim wyv bdv isr rn rdv fz icv exa fr fev eav rs (va_up rov k (rov (k + 1))))) C 11 0 rfl rfl (by omega) (by decide) rfl dX3_takeOut_33 ?_
      refine gz_iinc (v := nI (k + 1)) (lv2 := [(2, .int (nI (k + 1))), (0, .ref h)]) (k := 1) C dX3_takeOut_34 rfl (nI_add _ 1) (by decide) rfl ?_
      refine gz_goto C 12 dX3_takeOut_37 (by decide) ?_
      refine gz_lv [1, 0] rfl ?_
      simp only [f3_takeOut_lp, if_neg g_1] at hx
      exact ih (k + 1) (va_up rov k (rov (k + 1))) (by omega)  hx

def f3_takeOut_rs (rs : Nat) : Nat := rs - 1
def f3_takeOut_rov (rs : Nat) (rov : Nat → Nat) (pl : Nat) : Nat → Nat := (f3_takeOut_lp  ((rs - 1) - pl) pl rov).2
set_option maxRecDepth 100000 in
set_option maxHeartbeats 4000000 in
theorem kX3_takeOut (l : Launch) (D : va_G) (h : Nat) (ad : Nat → Nat) (cI : ClassId) (cJ : ClassId) (cZ : ClassId) (thr : Int32) (sn : Nat) (tkv : Nat → Int64) (opv : Nat → Int64) (shv : Nat → Int64) (ldv : Nat → Int32) (lim : Int32) (wyv : Nat → Int64) (bdv : Nat → Bool) (isr : Bool) (rn : Nat) (rdv : Nat → Nat) (fz : Nat) (icv : Nat → Nat) (exa : Bool) (fr : Nat) (fev : Nat → Nat) (eav : Nat → Int64) (rs : Nat) (rov : Nat → Nat) (pl : Nat) (hrs : rs ≤ 21) (hpl : pl < rs) : gz_M l yX3_takeOut cX3_takeOut 3 none ({ frames := 0, cells := 0, slots := 0, locals := 0 } : Room) D [(cI, .int), (cJ, .long), (cZ, .boolean)] [.ref h, .int (nI pl)] (wM h ad cI cJ cZ thr sn tkv opv shv ldv lim wyv bdv isr rn rdv fz icv exa fr fev eav rs rov) (none) (wM h ad cI cJ cZ thr sn tkv opv shv ldv lim wyv bdv isr rn rdv fz icv exa fr fev eav (f3_takeOut_rs rs) (f3_takeOut_rov rs rov pl)) 0 0 := by
  refine gz_met l (by decide) (Nat.le_of_ble_eq_true rfl) [(0, .ref h), (1, .int (nI pl))] rfl ?_
  intro sz p e s m args below meth c C hr hk hnm
  have C : gz_C p s m args c cX3_takeOut 3 RX3 D [(cI, .int), (cJ, .long), (cZ, .boolean)] (va_A (wM h ad cI cJ cZ thr sn tkv opv shv ldv lim wyv bdv isr rn rdv fz icv exa fr fev eav rs rov) sz) := C
  refine gz_aload_n C 0 dX3_takeOut_0 rfl ?_
  refine gz_dup C dX3_takeOut_1 rfl ?_
  refine gz_get (ci := 4) C iwX3 0 rfl rfl 18 (by decide) wk_398 rfl rfl dX3_takeOut_2 ?_
  refine gz_iconst (v := nI 1) C dX3_takeOut_5 (by decide) ?_
  refine gz_isub (v := nI (rs - 1)) C dX3_takeOut_6 (pk_sub (by first | omega | exact Nat.one_le_two_pow)) ?_
  refine gz_put (ci := 4) (ws2 := (wM h ad cI cJ cZ thr sn tkv opv shv ldv lim wyv bdv isr rn rdv fz icv exa fr fev eav (rs - 1) rov)) C iwX3 0 rfl rfl 18 (by decide) wk_398 rfl tyX3 tyX3_ok nmX3 rfl rfl rfl rfl (Nat.le_of_ble_eq_true rfl) rfl dX3_takeOut_7 ?_
  refine gz_iload_n C 1 dX3_takeOut_10 rfl ?_
  refine gz_istore_n (lv2 := [(2, .int (nI pl)), (0, .ref h), (1, .int (nI pl))]) C dX3_takeOut_11 (by decide) rfl ?_
  refine gz_lv (lv2 := [(0, .ref h), (2, .int (nI pl))]) [1, 0] rfl ?_
  refine lX3_takeOut_lp h ad cI cJ cZ thr sn tkv opv shv ldv lim wyv bdv isr rn rdv fz icv exa fr fev eav (rs - 1)  C ((rs - 1) - pl) pl rov (by omega)  ?_
  intro zme_lp
  exact gz_vret C hr hk (by first | rfl | (simp only [f3_takeOut_rs, f3_takeOut_rov]) | (simp only [f3_takeOut_rs, f3_takeOut_rov]; rfl)) (by first | rfl | (simp only [f3_takeOut_rs, f3_takeOut_rov]) | (simp only [f3_takeOut_rs, f3_takeOut_rov]; rfl)) (Nat.le_refl _) (Nat.le_refl _) dX3_takeOut_40

def f3_turn_rov (rov : Nat → Nat) (i : Nat) (j : Nat) : Nat → Nat := va_up (va_up rov i (rov j)) j (rov i)
set_option maxRecDepth 100000 in
set_option maxHeartbeats 4000000 in
theorem kX3_turn (l : Launch) (D : va_G) (h : Nat) (ad : Nat → Nat) (cI : ClassId) (cJ : ClassId) (cZ : ClassId) (thr : Int32) (sn : Nat) (tkv : Nat → Int64) (opv : Nat → Int64) (shv : Nat → Int64) (ldv : Nat → Int32) (lim : Int32) (wyv : Nat → Int64) (bdv : Nat → Bool) (isr : Bool) (rn : Nat) (rdv : Nat → Nat) (fz : Nat) (icv : Nat → Nat) (exa : Bool) (fr : Nat) (fev : Nat → Nat) (eav : Nat → Int64) (rs : Nat) (rov : Nat → Nat) (i : Nat) (j : Nat) (hi : i < 21) (hj : j < 21) : gz_M l yX3_turn cX3_turn 4 none ({ frames := 0, cells := 0, slots := 0, locals := 0 } : Room) D [(cI, .int), (cJ, .long), (cZ, .boolean)] [.ref h, .int (nI i), .int (nI j)] (wM h ad cI cJ cZ thr sn tkv opv shv ldv lim wyv bdv isr rn rdv fz icv exa fr fev eav rs rov) (none) (wM h ad cI cJ cZ thr sn tkv opv shv ldv lim wyv bdv isr rn rdv fz icv exa fr fev eav rs (f3_turn_rov rov i j)) 0 0 := by
  refine gz_met l (by decide) (Nat.le_of_ble_eq_true rfl) [(0, .ref h), (1, .int (nI i)), (2, .int (nI j))] rfl ?_
  intro sz p e s m args below meth c C hr hk hnm
  have C : gz_C p s m args c cX3_turn 4 RX3 D [(cI, .int), (cJ, .long), (cZ, .boolean)] (va_A (wM h ad cI cJ cZ thr sn tkv opv shv ldv lim wyv bdv isr rn rdv fz icv exa fr fev eav rs rov) sz) := C
  refine gz_aload_n C 0 dX3_turn_0 rfl ?_
  refine gz_get (ci := 4) C iwX3 0 rfl rfl 19 (by decide) wk_399 rfl rfl dX3_turn_1 ?_
  refine gz_iload_n C 1 dX3_turn_4 rfl ?_
  refine gz_iald C 11 0 rfl rfl (by omega) (by decide) dX3_turn_5 ?_
  refine gz_istore_n (lv2 := [(3, .int (nI (rov i))), (0, .ref h), (1, .int (nI i)), (2, .int (nI j))]) C dX3_turn_6 (by decide) rfl ?_
  refine gz_aload_n C 1 dX3_turn_7 rfl ?_
  refine gz_get (ci := 4) C iwX3 0 rfl rfl 19 (by decide) wk_399 rfl rfl dX3_turn_8 ?_
  refine gz_iload_n C 2 dX3_turn_11 rfl ?_
  refine gz_aload_n C 1 dX3_turn_12 rfl ?_
  refine gz_get (ci := 4) C iwX3 0 rfl rfl 19 (by decide) wk_399 rfl rfl dX3_turn_13 ?_
  refine gz_iload_n C 3 dX3_turn_16 rfl ?_
  refine gz_iald C 11 0 rfl rfl (by omega) (by decide) dX3_turn_17 ?_
  refine gz_iast (ws2 := (wM h ad cI cJ cZ thr sn tkv opv shv ldv lim wyv bdv isr rn rdv fz icv exa fr fev eav rs (va_up rov i (rov j)))) C 11 0 rfl rfl (by omega) (by decide) rfl dX3_turn_18 ?_
  refine gz_aload_n C 1 dX3_turn_19 rfl ?_
  refine gz_get (ci := 4) C iwX3 0 rfl rfl 19 (by decide) wk_399 rfl rfl dX3_turn_20 ?_
  refine gz_iload_n C 3 dX3_turn_23 rfl ?_
  refine gz_iload_n C 0 dX3_turn_24 rfl ?_
  refine gz_iast (ws2 := (wM h ad cI cJ cZ thr sn tkv opv shv ldv lim wyv bdv isr rn rdv fz icv exa fr fev eav rs (va_up (va_up rov i (rov j)) j (rov i)))) C 11 0 rfl rfl (by omega) (by decide) rfl dX3_turn_25 ?_
  exact gz_vret C hr hk (by first | rfl | (simp only [f3_turn_rov]) | (simp only [f3_turn_rov]; rfl)) (by first | rfl | (simp only [f3_turn_rov]) | (simp only [f3_turn_rov]; rfl)) (Nat.le_refl _) (Nat.le_refl _) dX3_turn_26

theorem q3_up_le {f : Nat → Nat} {B N i v : Nat} (h : ∀ k, k < N → f k ≤ B) (hv : v ≤ B) : ∀ k, k < N → va_up f i v k ≤ B := by
  intro k hk
  by_cases e : k = i
  · subst e; simp [va_up]; exact hv
  · simp [va_up, e]; exact h k hk
theorem q3_turn_le {rov : Nat → Nat} {B rs i j : Nat} (h : ∀ k, k < rs → rov k ≤ B) (hi : i < rs) (hj : j < rs) : ∀ k, k < rs → f3_turn_rov rov i j k ≤ B := by
  unfold f3_turn_rov
  exact q3_up_le (q3_up_le h (h j hj)) (h i hi)
theorem q3_putIn_lp {pl : Nat} : ∀ (n k : Nat) (rov : Nat → Nat), k = pl + n → ∀ j, (f3_putIn_lp n k rov).2 j = if pl < j ∧ j ≤ k then rov (j - 1) else rov j := by
  intro n
  induction n with
  | zero =>
    intro k rov hk j
    have h : ¬ (pl < j ∧ j ≤ k) := by omega
    rw [if_neg h]; rfl
  | succ n ih =>
    intro k rov hk j
    show (f3_putIn_lp n (k - 1) (va_up rov k (rov (k - 1)))).2 j = _
    rw [ih _ _ (by omega)]
    by_cases h1 : pl < j ∧ j ≤ k - 1
    · rw [if_pos h1, if_pos ⟨h1.1, by omega⟩, va_up_ne _ _ (by omega)]
    · rw [if_neg h1]
      by_cases h2 : j = k
      · subst h2
        rw [if_pos ⟨by omega, Nat.le_refl _⟩, va_up_self]
      · rw [if_neg (by omega), va_up_ne _ _ h2]
theorem q3_takeOut_lp : ∀ (n k : Nat) (rov : Nat → Nat), ∀ j, (f3_takeOut_lp n k rov).2 j = if k ≤ j ∧ j < k + n then rov (j + 1) else rov j := by
  intro n
  induction n with
  | zero =>
    intro k rov j
    have h : ¬ (k ≤ j ∧ j < k + 0) := by omega
    rw [if_neg h]; rfl
  | succ n ih =>
    intro k rov j
    show (f3_takeOut_lp n (k + 1) (va_up rov k (rov (k + 1)))).2 j = _
    rw [ih]
    by_cases h1 : k + 1 ≤ j ∧ j < k + 1 + n
    · rw [if_pos h1, if_pos (by omega), va_up_ne _ _ (by omega)]
    · rw [if_neg h1]
      by_cases h2 : j = k
      · subst h2
        rw [if_pos (by omega), va_up_self]
      · rw [if_neg (by omega), va_up_ne _ _ h2]
/-- the row with a stop put in; with one taken out -/
theorem q3_putIn {rs pl x : Nat} {rov : Nat → Nat} (h : pl ≤ rs) (j : Nat) : f3_putIn_rov rs rov pl x j = if j = pl then x else if pl < j ∧ j ≤ rs then rov (j - 1) else rov j := by
  unfold f3_putIn_rov
  by_cases e : j = pl
  · subst e; rw [va_up_self, if_pos rfl]
  · rw [va_up_ne _ _ e, if_neg e, q3_putIn_lp (pl := pl) _ _ _ (by omega)]
theorem q3_takeOut {rs pl : Nat} {rov : Nat → Nat} (h : pl < rs) (j : Nat) : f3_takeOut_rov rs rov pl j = if pl ≤ j ∧ j < rs - 1 then rov (j + 1) else rov j := by
  unfold f3_takeOut_rov
  rw [q3_takeOut_lp]
  have : pl + (rs - 1 - pl) = rs - 1 := by omega
  rw [this]
theorem q3_putIn_le {B rs pl x : Nat} {rov : Nat → Nat} (h : pl ≤ rs) (hx : x ≤ B) (hr : ∀ k, k < rs → rov k ≤ B) : ∀ k, k < rs + 1 → f3_putIn_rov rs rov pl x k ≤ B := by
  intro k hk
  rw [q3_putIn h]
  by_cases e : k = pl
  · rw [if_pos e]; exact hx
  · rw [if_neg e]
    by_cases e2 : pl < k ∧ k ≤ rs
    · rw [if_pos e2]; exact hr _ (by omega)
    · rw [if_neg e2]; exact hr _ (by omega)
theorem q3_takeOut_le {B rs pl : Nat} {rov : Nat → Nat} (h : pl < rs) (hr : ∀ k, k < rs → rov k ≤ B) : ∀ k, k < rs - 1 → f3_takeOut_rov rs rov pl k ≤ B := by
  intro k hk
  rw [q3_takeOut h]
  by_cases e : pl ≤ k ∧ k < rs - 1
  · rw [if_pos e]; exact hr _ (by omega)
  · rw [if_neg e]; exact hr _ (by omega)

def f3_better (tkv : Nat → Int64) (opv : Nat → Int64) (shv : Nat → Int64) (wyv : Nat → Int64) (bdv : Nat → Bool) (rs : Nat) (rov : Nat → Nat) (i : Nat) (j : Nat) : Bool := (if (f3_measure tkv opv shv wyv bdv rs rov) ≤ (f3_measure tkv opv shv wyv bdv rs (f3_turn_rov rov i j)) then false else true)
def f3_better_rov (tkv : Nat → Int64) (opv : Nat → Int64) (shv : Nat → Int64) (wyv : Nat → Int64) (bdv : Nat → Bool) (rs : Nat) (rov : Nat → Nat) (i : Nat) (j : Nat) : Nat → Nat := (if ((if (f3_measure tkv opv shv wyv bdv rs rov) ≤ (f3_measure tkv opv shv wyv bdv rs (f3_turn_rov rov i j)) then false else true)) = true then f3_turn_rov rov i j else f3_turn_rov (f3_turn_rov rov i j) i j)
set_option maxRecDepth 100000 in
set_option maxHeartbeats 4000000 in
theorem kX3_better (l : Launch) (D : va_G) (h : Nat) (ad : Nat → Nat) (cI : ClassId) (cJ : ClassId) (cZ : ClassId) (thr : Int32) (sn : Nat) (tkv : Nat → Int64) (opv : Nat → Int64) (shv : Nat → Int64) (ldv : Nat → Int32) (lim : Int32) (wyv : Nat → Int64) (bdv : Nat → Bool) (isr : Bool) (rn : Nat) (rdv : Nat → Nat) (fz : Nat) (icv : Nat → Nat) (exa : Bool) (fr : Nat) (fev : Nat → Nat) (eav : Nat → Int64) (rs : Nat) (rov : Nat → Nat) (i : Nat) (j : Nat) (hrs : rs ≤ 20) (hro : ∀ k, k < rs → rov k ≤ 20) (hi : i < rs) (hj : j < rs) : gz_M l yX3_better cX3_better 6 (some .boolean) ({ frames := 1, cells := 0, slots := 0, locals := 29 } : Room) D [(cI, .int), (cJ, .long), (cZ, .boolean)] [.ref h, .int (nI i), .int (nI j)] (wM h ad cI cJ cZ thr sn tkv opv shv ldv lim wyv bdv isr rn rdv fz icv exa fr fev eav rs rov) (some (.int (bI (f3_better tkv opv shv wyv bdv rs rov i j)))) (wM h ad cI cJ cZ thr sn tkv opv shv ldv lim wyv bdv isr rn rdv fz icv exa fr fev eav rs (f3_better_rov tkv opv shv wyv bdv rs rov i j)) 0 0 := by
  refine gz_met l (by decide) (Nat.le_of_ble_eq_true rfl) [(0, .ref h), (1, .int (nI i)), (2, .int (nI j))] rfl ?_
  intro sz p e s m args below meth c C hr hk hnm
  have C : gz_C p s m args c cX3_better 6 RX3 D [(cI, .int), (cJ, .long), (cZ, .boolean)] (va_A (wM h ad cI cJ cZ thr sn tkv opv shv ldv lim wyv bdv isr rn rdv fz icv exa fr fev eav rs rov) sz) := C
  refine gz_aload_n C 0 dX3_better_0 rfl ?_
  refine gz_callV (wr := []) (n := 0) (ws2 := (wM h ad cI cJ cZ thr sn tkv opv shv ldv lim wyv bdv isr rn rdv fz icv exa fr fev eav rs rov)) (st2 := [.long (f3_measure tkv opv shv wyv bdv rs rov)]) (cells2 := 0) (slots2 := 0) (ci := 4) C (kX3_measure l D h ad cI cJ cZ thr sn tkv opv shv ldv lim wyv bdv isr rn rdv fz icv exa fr fev eav rs rov (by first | assumption | omega) (by first | assumption | omega)) (WB_V wk_510 wk_512 ws_26 wk_4 wk_513) (by decide +kernel) ⟨⟨rfl, rfl⟩, Nat.le_of_ble_eq_true rfl, Nat.le_of_ble_eq_true rfl⟩ [0, 1, 2, 3, 4, 5, 6, 7, 8, 9, 10, 11] [] [0, 1, 2] rfl rfl rfl (by decide) rfl 0 rfl rfl rfl rfl (Nat.le_of_ble_eq_true rfl) dX3_better_1 ⟨Nat.zero_le _, Nat.zero_le _⟩ rfl rfl rfl ?_
  refine gz_lstore_n (lv2 := [(3, .long (f3_measure tkv opv shv wyv bdv rs rov)), (0, .ref h), (1, .int (nI i)), (2, .int (nI j))]) C dX3_better_4 (by decide) rfl ?_
  refine gz_aload_n C 1 dX3_better_5 rfl ?_
  refine gz_iload_n C 2 dX3_better_6 rfl ?_
  refine gz_iload_n C 3 dX3_better_7 rfl ?_
  refine gz_callV (wr := []) (n := 2) (ws2 := (wM h ad cI cJ cZ thr sn tkv opv shv ldv lim wyv bdv isr rn rdv fz icv exa fr fev eav rs (f3_turn_rov rov i j))) (st2 := []) (cells2 := 0) (slots2 := 0) (ci := 4) C (kX3_turn l D h ad cI cJ cZ thr sn tkv opv shv ldv lim wyv bdv isr rn rdv fz icv exa fr fev eav rs rov i j (by first | assumption | omega) (by first | assumption | omega)) (WB_V wk_527 wk_529 ws_30 wk_4 wk_530) (by decide +kernel) ⟨⟨rfl, rfl⟩, Nat.le_of_ble_eq_true rfl, Nat.le_of_ble_eq_true rfl⟩ [0, 1, 2, 3, 4, 5, 6, 7, 8, 9, 10, 11] [] [0, 1, 2] rfl rfl rfl (by decide) rfl 0 rfl rfl rfl rfl (Nat.le_of_ble_eq_true rfl) dX3_better_8 ⟨Nat.zero_le _, Nat.zero_le _⟩ rfl rfl rfl ?_
  refine gz_aload_n C 1 dX3_better_11 rfl ?_
  refine gz_callV (wr := []) (n := 0) (ws2 := (wM h ad cI cJ cZ thr sn tkv opv shv ldv lim wyv bdv isr rn rdv fz icv exa fr fev eav rs (f3_turn_rov rov i j))) (st2 := [.long (f3_measure tkv opv shv wyv bdv rs (f3_turn_rov rov i j))]) (cells2 := 0) (slots2 := 0) (ci := 4) C (kX3_measure l D h ad cI cJ cZ thr sn tkv opv shv ldv lim wyv bdv isr rn rdv fz icv exa fr fev eav rs (f3_turn_rov rov i j) (by first | assumption | omega) (q3_turn_le hro hi hj)) (WB_V wk_510 wk_512 ws_26 wk_4 wk_513) (by decide +kernel) ⟨⟨rfl, rfl⟩, Nat.le_of_ble_eq_true rfl, Nat.le_of_ble_eq_true rfl⟩ [0, 1, 2, 3, 4, 5, 6, 7, 8, 9, 10, 11] [] [0, 1, 2] rfl rfl rfl (by decide) rfl 0 rfl rfl rfl rfl (Nat.le_of_ble_eq_true rfl) dX3_better_12 ⟨Nat.zero_le _, Nat.zero_le _⟩ rfl rfl rfl ?_
  refine gz_lload_n C 0 dX3_better_15 rfl ?_
  refine gz_J (ws2 := (wM h ad cI cJ cZ thr sn tkv opv shv ldv lim wyv bdv isr rn rdv fz icv exa fr fev eav rs (f3_turn_rov rov i j))) (lv2 := [(3, .long (f3_measure tkv opv shv wyv bdv rs rov)), (0, .ref h), (1, .int (nI i)), (2, .int (nI j))]) (st2 := [.int (nI ((if (f3_measure tkv opv shv wyv bdv rs rov) ≤ (f3_measure tkv opv shv wyv bdv rs (f3_turn_rov rov i j)) then 0 else 1)))]) (pc2 := 25) ?_ (fun J_1 => ?_)
  rotate_left
  · refine gz_lcmp_ge C 24 dX3_better_16 dX3_better_17 (by decide) (fun h_1 => ?_) (fun h_1 => ?_)
    · skip
      refine gz_iconst (v := nI 0) C dX3_better_24 (by decide) ?_
      simp only [if_pos h_1] at J_1 ⊢
      exact gz_lv [0, 1, 2, 3] rfl J_1
    · have g_1 : ¬ ((f3_measure tkv opv shv wyv bdv rs rov) ≤ (f3_measure tkv opv shv wyv bdv rs (f3_turn_rov rov i j))) := h_1
      refine gz_iconst (v := nI 1) C dX3_better_20 (by decide) ?_
      refine gz_goto C 25 dX3_better_21 (by decide) ?_
      simp only [if_neg g_1] at J_1 ⊢
      exact gz_lv [0, 1, 2, 3] rfl J_1
  refine gz_istore (lv2 := [(5, .int (nI ((if (f3_measure tkv opv shv wyv bdv rs rov) ≤ (f3_measure tkv opv shv wyv bdv rs (f3_turn_rov rov i j)) then 0 else 1)))), (3, .long (f3_measure tkv opv shv wyv bdv rs rov)), (0, .ref h), (1, .int (nI i)), (2, .int (nI j))]) C dX3_better_25 (by decide) rfl ?_
  refine gz_iload C 0 dX3_better_27 rfl ?_
  refine gz_sw (v := .int (nI ((if (f3_measure tkv opv shv wyv bdv rs rov) ≤ (f3_measure tkv opv shv wyv bdv rs (f3_turn_rov rov i j)) then 0 else 1)))) (w := .int (bI ((if (f3_measure tkv opv shv wyv bdv rs rov) ≤ (f3_measure tkv opv shv wyv bdv rs (f3_turn_rov rov i j)) then false else true)))) (by rw [show nI ((if (f3_measure tkv opv shv wyv bdv rs rov) ≤ (f3_measure tkv opv shv wyv bdv rs (f3_turn_rov rov i j)) then 0 else 1)) = bI ((if (f3_measure tkv opv shv wyv bdv rs rov) ≤ (f3_measure tkv opv shv wyv bdv rs (f3_turn_rov rov i j)) then false else true)) from (by first | rfl | decide | ((repeat' split) <;> rfl))]) ?_
  refine gz_J (ws2 := (wM h ad cI cJ cZ thr sn tkv opv shv ldv lim wyv bdv isr rn rdv fz icv exa fr fev eav rs ((if ((if (f3_measure tkv opv shv wyv bdv rs rov) ≤ (f3_measure tkv opv shv wyv bdv rs (f3_turn_rov rov i j)) then false else true)) = true then f3_turn_rov rov i j else f3_turn_rov (f3_turn_rov rov i j) i j)))) (lv2 := [(5, .int (nI ((if (f3_measure tkv opv shv wyv bdv rs rov) ≤ (f3_measure tkv opv shv wyv bdv rs (f3_turn_rov rov i j)) then 0 else 1)))), (3, .long (f3_measure tkv opv shv wyv bdv rs rov)), (0, .ref h), (1, .int (nI i)), (2, .int (nI j))]) (st2 := []) (pc2 := 38) ?_ (fun J_2 => ?_)
  rotate_left
  · refine gz_bif_ne C 38 dX3_better_29 (by decide) (fun h_2 => ?_) (fun h_2 => ?_)
    · skip
      simp only [if_pos h_2] at J_2 ⊢
      exact gz_lv [0, 1, 2, 3, 4] rfl J_2
    · have g_2 : ¬ (((if (f3_measure tkv opv shv wyv bdv rs rov) ≤ (f3_measure tkv opv shv wyv bdv rs (f3_turn_rov rov i j)) then false else true)) = true) := (by rw [h_2]; decide)
      refine gz_aload_n C 2 dX3_better_32 rfl ?_
      refine gz_iload_n C 3 dX3_better_33 rfl ?_
      refine gz_iload_n C 4 dX3_better_34 rfl ?_
      refine gz_callV (wr := []) (n := 2) (ws2 := (wM h ad cI cJ cZ thr sn tkv opv shv ldv lim wyv bdv isr rn rdv fz icv exa fr fev eav rs (f3_turn_rov (f3_turn_rov rov i j) i j))) (st2 := []) (cells2 := 0) (slots2 := 0) (ci := 4) C (kX3_turn l D h ad cI cJ cZ thr sn tkv opv shv ldv lim wyv bdv isr rn rdv fz icv exa fr fev eav rs (f3_turn_rov rov i j) i j (by first | assumption | omega) (by first | assumption | omega)) (WB_V wk_527 wk_529 ws_30 wk_4 wk_530) (by decide +kernel) ⟨⟨rfl, rfl⟩, Nat.le_of_ble_eq_true rfl, Nat.le_of_ble_eq_true rfl⟩ [0, 1, 2, 3, 4, 5, 6, 7, 8, 9, 10, 11] [] [0, 1, 2] rfl rfl rfl (by decide) rfl 0 rfl rfl rfl rfl (Nat.le_of_ble_eq_true rfl) dX3_better_35 ⟨Nat.zero_le _, Nat.zero_le _⟩ rfl rfl rfl ?_
      simp only [if_neg g_2] at J_2 ⊢
      exact gz_lv [0, 1, 2, 3, 4] rfl J_2
  refine gz_iload C 0 dX3_better_38 rfl ?_
  refine gz_sw (v := .int (nI ((if (f3_measure tkv opv shv wyv bdv rs rov) ≤ (f3_measure tkv opv shv wyv bdv rs (f3_turn_rov rov i j)) then 0 else 1)))) (w := .int (bI ((if (f3_measure tkv opv shv wyv bdv rs rov) ≤ (f3_measure tkv opv shv wyv bdv rs (f3_turn_rov rov i j)) then false else true)))) (by rw [show nI ((if (f3_measure tkv opv shv wyv bdv rs rov) ≤ (f3_measure tkv opv shv wyv bdv rs (f3_turn_rov rov i j)) then 0 else 1)) = bI ((if (f3_measure tkv opv shv wyv bdv rs rov) ≤ (f3_measure tkv opv shv wyv bdv rs (f3_turn_rov rov i j)) then false else true)) from (by first | rfl | decide | ((repeat' split) <;> rfl))]) ?_
  exact gz_zret C hr hk (bI_nar _) (by first | rfl | (simp only [f3_better, f3_better_rov]) | (simp only [f3_better, f3_better_rov]; rfl)) (by first | rfl | (simp only [f3_better, f3_better_rov]) | (simp only [f3_better, f3_better_rov]; rfl)) (Nat.le_refl _) (Nat.le_refl _) dX3_better_40


def f3_keep_lp (rov : Nat → Nat) : Nat → Nat → (Nat → Nat) → Nat × (Nat → Nat)
  | 0, k, rdv => (k, rdv)
  | n + 1, k, rdv => f3_keep_lp rov n (k + 1) (va_up rdv k (rov k))
set_option maxRecDepth 100000 in
set_option maxHeartbeats 4000000 in
theorem lX3_keep_lp {p : Program} {l : Launch} {e : Env} {R : Room} {s : State} {m : MethodId} {args : Array Value} {below : List Frame} {meth : Method} {c : Code} {cells slots : Nat} {Q : State → Prop} {A : Nat → Prop} {D : va_G} (h : Nat) (ad : Nat → Nat) (cI : ClassId) (cJ : ClassId) (cZ : ClassId) (thr : Int32) (sn : Nat) (tkv : Nat → Int64) (opv : Nat → Int64) (shv : Nat → Int64) (ldv : Nat → Int32) (lim : Int32) (wyv : Nat → Int64) (bdv : Nat → Bool) (isr : Bool) (rn : Nat) (fz : Nat) (icv : Nat → Nat) (exa : Bool) (fr : Nat) (fev : Nat → Nat) (eav : Nat → Int64) (rs : Nat) (rov : Nat → Nat) (hrs : rs ≤ 20) (C : gz_C p s m args c cX3_keep 2 RX3 D [(cI, .int), (cJ, .long), (cZ, .boolean)] A) : ∀ (n : Nat) (k : Nat) (rdv : Nat → Nat), (k + n = rs) → ((((f3_keep_lp rov n k rdv).1) + 0 = rs) → GZ p l e R s m args below meth c 2 D A cells slots Q (wM h ad cI cJ cZ thr sn tkv opv shv ldv lim wyv bdv isr rn ((f3_keep_lp rov n k rdv).2) fz icv exa fr fev eav rs rov) [(0, .ref h), (1, .int (nI ((f3_keep_lp rov n k rdv).1)))] [] 41) → GZ p l e R s m args below meth c 2 D A cells slots Q (wM h ad cI cJ cZ thr sn tkv opv shv ldv lim wyv bdv isr rn rdv fz icv exa fr fev eav rs rov) [(0, .ref h), (1, .int (nI k))] [] 15 := by
  intro n
  induction n with
  | zero =>
    intro k rdv hme  hx
    refine gz_iload_n C 1 dX3_keep_15 rfl ?_
    refine gz_aload_n C 0 dX3_keep_16 rfl ?_
    refine gz_get (ci := 4) C iwX3 0 rfl rfl 18 (by decide) wk_398 rfl rfl dX3_keep_17 ?_
    refine gz_ncmp_ge C 41 (by omega) (by omega) dX3_keep_20 (by decide) (fun h_1 => ?_) (fun h_1 => ?_)
    · skip
      exact gz_lv [0, 1] rfl (hx hme )
    · have g_1 : ¬ (rs ≤ k) := (Nat.not_le.mpr h_1)
      exfalso; omega
  | succ n ih =>
    intro k rdv hme  hx
    refine gz_iload_n C 1 dX3_keep_15 rfl ?_
    refine gz_aload_n C 0 dX3_keep_16 rfl ?_
    refine gz_get (ci := 4) C iwX3 0 rfl rfl 18 (by decide) wk_398 rfl rfl dX3_keep_17 ?_
    refine gz_ncmp_ge C 41 (by omega) (by omega) dX3_keep_20 (by decide) (fun h_1 => ?_) (fun h_1 => ?_)
    · skip
      exfalso; omega
    · have g_1 : ¬ (rs ≤ k) := (Nat.not_le.mpr h_1)
      refine gz_aload_n C 0 dX3_keep_23 rfl ?_
      refine gz_get (ci := 4) C iwX3 0 rfl rfl 11 (by decide) wk_391 rfl rfl dX3_keep_24 ?_
      refine gz_iload_n C 1 dX3_keep_27 rfl ?_
      refine gz_aload_n C 0 dX3_keep_28 rfl ?_
      refine gz_get (ci := 4) C iwX3 0 rfl rfl 19 (by decide) wk_399 rfl rfl dX3_keep_29 ?_
      refine gz_iload_n C 1 dX3_keep_32 rfl ?_
      refine gz_iald C 11 0 rfl rfl (by omega) (by decide) dX3_keep_33 ?_
      refine gz_iast (ws2 := (wM h ad cI cJ cZ thr sn tkv opv shv ldv lim wyv bdv isr rn (va_up rdv k (rov k)) fz icv exa fr fev eav rs rov)) C 7 0 rfl rfl (by omega) (by decide) rfl dX3_keep_34 ?_
      refine gz_iinc (v := nI (k + 1)) (lv2 := [(1, .int (nI (k + 1))), (0, .ref h)]) (k := 1) C dX3_keep_35 rfl (nI_add _ 1) (by decide) rfl ?_
      refine gz_goto C 15 dX3_keep_38 (by decide) ?_
      refine gz_lv [1, 0] rfl ?_
      simp only [f3_keep_lp, if_neg g_1] at hx
      exact ih (k + 1) (va_up rdv k (rov k)) (by omega)  hx

def f3_keep_isr  : Bool := true
def f3_keep_rn (rs : Nat) : Nat := rs
def f3_keep_rdv (rdv : Nat → Nat) (rs : Nat) (rov : Nat → Nat) : Nat → Nat := (f3_keep_lp rov rs 0 rdv).2
set_option maxRecDepth 100000 in
set_option maxHeartbeats 4000000 in
theorem kX3_keep (l : Launch) (D : va_G) (h : Nat) (ad : Nat → Nat) (cI : ClassId) (cJ : ClassId) (cZ : ClassId) (thr : Int32) (sn : Nat) (tkv : Nat → Int64) (opv : Nat → Int64) (shv : Nat → Int64) (ldv : Nat → Int32) (lim : Int32) (wyv : Nat → Int64) (bdv : Nat → Bool) (isr : Bool) (rn : Nat) (rdv : Nat → Nat) (fz : Nat) (icv : Nat → Nat) (exa : Bool) (fr : Nat) (fev : Nat → Nat) (eav : Nat → Int64) (rs : Nat) (rov : Nat → Nat) (hrs : rs ≤ 20) : gz_M l yX3_keep cX3_keep 2 none ({ frames := 0, cells := 0, slots := 0, locals := 0 } : Room) D [(cI, .int), (cJ, .long), (cZ, .boolean)] [.ref h] (wM h ad cI cJ cZ thr sn tkv opv shv ldv lim wyv bdv isr rn rdv fz icv exa fr fev eav rs rov) (none) (wM h ad cI cJ cZ thr sn tkv opv shv ldv lim wyv bdv f3_keep_isr (f3_keep_rn rs) (f3_keep_rdv rdv rs rov) fz icv exa fr fev eav rs rov) 0 0 := by
  refine gz_met l (by decide) (Nat.le_of_ble_eq_true rfl) [(0, .ref h)] rfl ?_
  intro sz p e s m args below meth c C hr hk hnm
  have C : gz_C p s m args c cX3_keep 2 RX3 D [(cI, .int), (cJ, .long), (cZ, .boolean)] (va_A (wM h ad cI cJ cZ thr sn tkv opv shv ldv lim wyv bdv isr rn rdv fz icv exa fr fev eav rs rov) sz) := C
  refine gz_aload_n C 0 dX3_keep_0 rfl ?_
  refine gz_iconst (v := nI 1) C dX3_keep_1 (by decide) ?_
  refine gz_sw (v := .int (nI 1)) (w := .int (bI true)) (by rw [show nI 1 = bI true from (by first | rfl | decide | ((repeat' split) <;> rfl))]) ?_
  refine gz_put (ci := 4) (ws2 := (wM h ad cI cJ cZ thr sn tkv opv shv ldv lim wyv bdv true rn rdv fz icv exa fr fev eav rs rov)) C iwX3 0 rfl rfl 9 (by decide) wk_389 rfl tyX3 tyX3_ok nmX3 rfl rfl (bI_nar _) (bI_fit _) (Nat.le_of_ble_eq_true rfl) rfl dX3_keep_2 ?_
  refine gz_aload_n C 0 dX3_keep_5 rfl ?_
  refine gz_aload_n C 0 dX3_keep_6 rfl ?_
  refine gz_get (ci := 4) C iwX3 0 rfl rfl 18 (by decide) wk_398 rfl rfl dX3_keep_7 ?_
  refine gz_put (ci := 4) (ws2 := (wM h ad cI cJ cZ thr sn tkv opv shv ldv lim wyv bdv true rs rdv fz icv exa fr fev eav rs rov)) C iwX3 0 rfl rfl 10 (by decide) wk_390 rfl tyX3 tyX3_ok nmX3 rfl rfl rfl rfl (Nat.le_of_ble_eq_true rfl) rfl dX3_keep_10 ?_
  refine gz_iconst (v := nI 0) C dX3_keep_13 (by decide) ?_
  refine gz_istore_n (lv2 := [(1, .int (nI 0)), (0, .ref h)]) C dX3_keep_14 (by decide) rfl ?_
  refine gz_lv (lv2 := [(0, .ref h), (1, .int (nI 0))]) [1, 0] rfl ?_
  refine lX3_keep_lp h ad cI cJ cZ thr sn tkv opv shv ldv lim wyv bdv true rs fz icv exa fr fev eav rs rov (by first | assumption | omega) C rs 0 rdv (by omega)  ?_
  intro zme_lp
  exact gz_vret C hr hk (by first | rfl | (simp only [f3_keep_isr, f3_keep_rn, f3_keep_rdv]) | (simp only [f3_keep_isr, f3_keep_rn, f3_keep_rdv]; rfl)) (by first | rfl | (simp only [f3_keep_isr, f3_keep_rn, f3_keep_rdv]) | (simp only [f3_keep_isr, f3_keep_rn, f3_keep_rdv]; rfl)) (Nat.le_refl _) (Nat.le_refl _) dX3_keep_41

def f3_fetch_lp (rdv : Nat → Nat) : Nat → Nat → (Nat → Nat) → Nat × (Nat → Nat)
  | 0, k, rov => (k, rov)
  | n + 1, k, rov => f3_fetch_lp rdv n (k + 1) (va_up rov k (rdv k))
set_option maxRecDepth 100000 in
set_option maxHeartbeats 4000000 in
theorem lX3_fetch_lp {p : Program} {l : Launch} {e : Env} {R : Room} {s : State} {m : MethodId} {args : Array Value} {below : List Frame} {meth : Method} {c : Code} {cells slots : Nat} {Q : State → Prop} {A : Nat → Prop} {D : va_G} (h : Nat) (ad : Nat → Nat) (cI : ClassId) (cJ : ClassId) (cZ : ClassId) (thr : Int32) (sn : Nat) (tkv : Nat → Int64) (opv : Nat → Int64) (shv : Nat → Int64) (ldv : Nat → Int32) (lim : Int32) (wyv : Nat → Int64) (bdv : Nat → Bool) (isr : Bool) (rn : Nat) (rdv : Nat → Nat) (fz : Nat) (icv : Nat → Nat) (exa : Bool) (fr : Nat) (fev : Nat → Nat) (eav : Nat → Int64) (rs : Nat) (hrn : rn ≤ 20) (C : gz_C p s m args c cX3_fetch 2 RX3 D [(cI, .int), (cJ, .long), (cZ, .boolean)] A) : ∀ (n : Nat) (k : Nat) (rov : Nat → Nat), (k + n = rn) → ((((f3_fetch_lp rdv n k rov).1) + 0 = rn) → GZ p l e R s m args below meth c 2 D A cells slots Q (wM h ad cI cJ cZ thr sn tkv opv shv ldv lim wyv bdv isr rn rdv fz icv exa fr fev eav rs ((f3_fetch_lp rdv n k rov).2)) [(0, .ref h), (1, .int (nI ((f3_fetch_lp rdv n k rov).1)))] [] 36) → GZ p l e R s m args below meth c 2 D A cells slots Q (wM h ad cI cJ cZ thr sn tkv opv shv ldv lim wyv bdv isr rn rdv fz icv exa fr fev eav rs rov) [(0, .ref h), (1, .int (nI k))] [] 10 := by
  intro n
  induction n with
  | zero =>
    intro k rov hme  hx
    refine gz_iload_n C 1 dX3_fetch_10 rfl ?_
    refine gz_aload_n C 0 dX3_fetch_11 rfl ?_
    refine gz_get (ci := 4) C iwX3 0 rfl rfl 10 (by decide) wk_390 rfl rfl dX3_fetch_12 ?_
    refine gz_ncmp_ge C 36 (by omega) (by omega) dX3_fetch_15 (by decide) (fun h_1 => ?_) (fun h_1 => ?_)
    · skip
      exact gz_lv [0, 1] rfl (hx hme )
    · have g_1 : ¬ (rn ≤ k) := (Nat.not_le.mpr h_1)
      exfalso; omega
  | succ n ih =>
    intro k rov hme  hx
    refine gz_iload_n C 1 dX3_fetch_10 rfl ?_
    refine gz_aload_n C 0 dX3_fetch_11 rfl ?_
    refine gz_get (ci := 4) C iwX3 0 rfl rfl 10 (by decide) wk_390 rfl rfl dX3_fetch_12 ?_
    refine gz_ncmp_ge C 36 (by omega) (by omega) dX3_fetch_15 (by decide) (fun h_1 => ?_) (fun h_1 => ?_)
    · skip
      exfalso; omega
    · have g_1 : ¬ (rn ≤ k) := (Nat.not_le.mpr h_1)
      refine gz_aload_n C 0 dX3_fetch_18 rfl ?_
      refine gz_get (ci := 4) C iwX3 0 rfl rfl 19 (by decide) wk_399 rfl rfl dX3_fetch_19 ?_
      refine gz_iload_n C 1 dX3_fetch_22 rfl ?_
      refine gz_aload_n C 0 dX3_fetch_23 rfl ?_
      refine gz_get (ci := 4) C iwX3 0 rfl rfl 11 (by decide) wk_391 rfl rfl dX3_fetch_24 ?_
      refine gz_iload_n C 1 dX3_fetch_27 rfl ?_
      refine gz_iald C 7 0 rfl rfl (by omega) (by decide) dX3_fetch_28 ?_
      refine gz_iast (ws2 := (wM h ad cI cJ cZ thr sn tkv opv shv ldv lim wyv bdv isr rn rdv fz icv exa fr fev eav rs (va_up rov k (rdv k)))) C 11 0 rfl rfl (by omega) (by decide) rfl dX3_fetch_29 ?_
      refine gz_iinc (v := nI (k + 1)) (lv2 := [(1, .int (nI (k + 1))), (0, .ref h)]) (k := 1) C dX3_fetch_30 rfl (nI_add _ 1) (by decide) rfl ?_
      refine gz_goto C 10 dX3_fetch_33 (by decide) ?_
      refine gz_lv [1, 0] rfl ?_
      simp only [f3_fetch_lp, if_neg g_1] at hx
      exact ih (k + 1) (va_up rov k (rdv k)) (by omega)  hx

def f3_fetch_rs (rn : Nat) : Nat := rn
def f3_fetch_rov (rn : Nat) (rdv : Nat → Nat) (rov : Nat → Nat) : Nat → Nat := (f3_fetch_lp rdv rn 0 rov).2
set_option maxRecDepth 100000 in
set_option maxHeartbeats 4000000 in
theorem kX3_fetch (l : Launch) (D : va_G) (h : Nat) (ad : Nat → Nat) (cI : ClassId) (cJ : ClassId) (cZ : ClassId) (thr : Int32) (sn : Nat) (tkv : Nat → Int64) (opv : Nat → Int64) (shv : Nat → Int64) (ldv : Nat → Int32) (lim : Int32) (wyv : Nat → Int64) (bdv : Nat → Bool) (isr : Bool) (rn : Nat) (rdv : Nat → Nat) (fz : Nat) (icv : Nat → Nat) (exa : Bool) (fr : Nat) (fev : Nat → Nat) (eav : Nat → Int64) (rs : Nat) (rov : Nat → Nat) (hrn : rn ≤ 20) : gz_M l yX3_fetch cX3_fetch 2 none ({ frames := 0, cells := 0, slots := 0, locals := 0 } : Room) D [(cI, .int), (cJ, .long), (cZ, .boolean)] [.ref h] (wM h ad cI cJ cZ thr sn tkv opv shv ldv lim wyv bdv isr rn rdv fz icv exa fr fev eav rs rov) (none) (wM h ad cI cJ cZ thr sn tkv opv shv ldv lim wyv bdv isr rn rdv fz icv exa fr fev eav (f3_fetch_rs rn) (f3_fetch_rov rn rdv rov)) 0 0 := by
  refine gz_met l (by decide) (Nat.le_of_ble_eq_true rfl) [(0, .ref h)] rfl ?_
  intro sz p e s m args below meth c C hr hk hnm
  have C : gz_C p s m args c cX3_fetch 2 RX3 D [(cI, .int), (cJ, .long), (cZ, .boolean)] (va_A (wM h ad cI cJ cZ thr sn tkv opv shv ldv lim wyv bdv isr rn rdv fz icv exa fr fev eav rs rov) sz) := C
  refine gz_aload_n C 0 dX3_fetch_0 rfl ?_
  refine gz_aload_n C 0 dX3_fetch_1 rfl ?_
  refine gz_get (ci := 4) C iwX3 0 rfl rfl 10 (by decide) wk_390 rfl rfl dX3_fetch_2 ?_
  refine gz_put (ci := 4) (ws2 := (wM h ad cI cJ cZ thr sn tkv opv shv ldv lim wyv bdv isr rn rdv fz icv exa fr fev eav rn rov)) C iwX3 0 rfl rfl 18 (by decide) wk_398 rfl tyX3 tyX3_ok nmX3 rfl rfl rfl rfl (Nat.le_of_ble_eq_true rfl) rfl dX3_fetch_5 ?_
  refine gz_iconst (v := nI 0) C dX3_fetch_8 (by decide) ?_
  refine gz_istore_n (lv2 := [(1, .int (nI 0)), (0, .ref h)]) C dX3_fetch_9 (by decide) rfl ?_
  refine gz_lv (lv2 := [(0, .ref h), (1, .int (nI 0))]) [1, 0] rfl ?_
  refine lX3_fetch_lp h ad cI cJ cZ thr sn tkv opv shv ldv lim wyv bdv isr rn rdv fz icv exa fr fev eav rn (by first | assumption | omega) C rn 0 rov (by omega)  ?_
  intro zme_lp
  exact gz_vret C hr hk (by first | rfl | (simp only [f3_fetch_rs, f3_fetch_rov]) | (simp only [f3_fetch_rs, f3_fetch_rov]; rfl)) (by first | rfl | (simp only [f3_fetch_rs, f3_fetch_rov]) | (simp only [f3_fetch_rs, f3_fetch_rov]; rfl)) (Nat.le_refl _) (Nat.le_refl _) dX3_fetch_36


def q3_good (fz rs : Nat) (z : Int32) : Prop := z = nI (cl z) ∧ fz ≤ cl z ∧ cl z ≤ rs
theorem q3_good_n {fz rs pl : Nat} (h1 : fz ≤ pl) (h2 : pl ≤ rs) (h3 : rs ≤ 20) : q3_good fz rs (nI pl) := by
  unfold q3_good
  rw [cl_nI (by omega)]
  exact ⟨rfl, h1, h2⟩
theorem q3_ch {fz rs pl : Nat} {ch : Int32} {P : Prop} [Decidable P] (h : ch < 0 ∧ pl = fz ∨ q3_good fz rs ch) (h1 : fz ≤ pl) (h2 : pl ≤ rs) (h3 : rs ≤ 20) : (if ch < 0 then nI pl else (if P then ch else nI pl)) < 0 ∧ pl + 1 = fz ∨ q3_good fz rs (if ch < 0 then nI pl else (if P then ch else nI pl)) := by
  right
  by_cases a : ch < 0
  · rw [if_pos a]; exact q3_good_n h1 h2 h3
  · rw [if_neg a]
    rcases h with h | h
    · exact absurd h.1 a
    · split
      · exact h
      · exact q3_good_n h1 h2 h3
theorem q3_pt_le {B rs pl x : Nat} {rov : Nat → Nat} (h : pl ≤ rs) (hx : x ≤ B) (hr : ∀ k, k < rs → rov k ≤ B) : ∀ k, k < rs → f3_takeOut_rov (f3_putIn_rs rs) (f3_putIn_rov rs rov pl x) pl k ≤ B := fun k hk => q3_takeOut_le (rs := rs + 1) (by omega) (q3_putIn_le h hx hr) k (by omega)

def f3_insert_lp (tkv : Nat → Int64) (opv : Nat → Int64) (shv : Nat → Int64) (wyv : Nat → Int64) (bdv : Nat → Bool) (rs : Nat) (x : Nat) : Nat → Int32 → Int64 → Nat → (Nat → Nat) → Int32 × Int64 × Nat × (Nat → Nat)
  | 0, ch, lst, pl, rov => (ch, lst, pl, rov)
  | n + 1, ch, lst, pl, rov => f3_insert_lp tkv opv shv wyv bdv rs x n ((if ch < 0 then nI pl else (if lst ≤ (f3_measure tkv opv shv wyv bdv (f3_putIn_rs rs) (f3_putIn_rov rs rov pl x)) then ch else nI pl))) ((if ch < 0 then f3_measure tkv opv shv wyv bdv (f3_putIn_rs rs) (f3_putIn_rov rs rov pl x) else (if lst ≤ (f3_measure tkv opv shv wyv bdv (f3_putIn_rs rs) (f3_putIn_rov rs rov pl x)) then lst else f3_measure tkv opv shv wyv bdv (f3_putIn_rs rs) (f3_putIn_rov rs rov pl x)))) (pl + 1) (f3_takeOut_rov (f3_putIn_rs rs) (f3_putIn_rov rs rov pl x) pl)
set_option maxRecDepth 100000 in
set_option maxHeartbeats 4000000 in
theorem lX3_insert_lp {p : Program} {l : Launch} {e : Env} {R : Room} {s : State} {m : MethodId} {args : Array Value} {below : List Frame} {meth : Method} {c : Code} {cells slots : Nat} {Q : State → Prop} {A : Nat → Prop} {D : va_G} (h : Nat) (ad : Nat → Nat) (cI : ClassId) (cJ : ClassId) (cZ : ClassId) (thr : Int32) (sn : Nat) (tkv : Nat → Int64) (opv : Nat → Int64) (shv : Nat → Int64) (ldv : Nat → Int32) (lim : Int32) (wyv : Nat → Int64) (bdv : Nat → Bool) (isr : Bool) (rn : Nat) (rdv : Nat → Nat) (fz : Nat) (icv : Nat → Nat) (exa : Bool) (fr : Nat) (fev : Nat → Nat) (eav : Nat → Int64) (rs : Nat) (x : Nat) (hrs : rs ≤ 19) (hfz : fz ≤ rs) (hxx : x ≤ 20) (hR : 1 ≤ R.frames ∧ 29 ≤ R.locals) (hce : cells ≤ R.cells ∧ slots ≤ R.slots) (C : gz_C p s m args c cX3_insert 8 RX3 D [(cI, .int), (cJ, .long), (cZ, .boolean)] A) : ∀ (n : Nat) (ch : Int32) (lst : Int64) (pl : Nat) (rov : Nat → Nat), (pl + n = rs + 1) → (fz ≤ pl) → (ch < 0 ∧ pl = fz ∨ q3_good fz rs ch) → (∀ k, k < rs → rov k ≤ 20) → ((((f3_insert_lp tkv opv shv wyv bdv rs x n ch lst pl rov).2.2.1) + 0 = rs + 1) → (fz ≤ ((f3_insert_lp tkv opv shv wyv bdv rs x n ch lst pl rov).2.2.1)) → (((f3_insert_lp tkv opv shv wyv bdv rs x n ch lst pl rov).1) < 0 ∧ ((f3_insert_lp tkv opv shv wyv bdv rs x n ch lst pl rov).2.2.1) = fz ∨ q3_good fz rs ((f3_insert_lp tkv opv shv wyv bdv rs x n ch lst pl rov).1)) → (∀ k, k < rs → ((f3_insert_lp tkv opv shv wyv bdv rs x n ch lst pl rov).2.2.2) k ≤ 20) → GZ p l e R s m args below meth c 8 D A cells slots Q (wM h ad cI cJ cZ thr sn tkv opv shv ldv lim wyv bdv isr rn rdv fz icv exa fr fev eav rs ((f3_insert_lp tkv opv shv wyv bdv rs x n ch lst pl rov).2.2.2)) [(0, .ref h), (1, .int (nI x)), (2, .int ((f3_insert_lp tkv opv shv wyv bdv rs x n ch lst pl rov).1)), (3, .long ((f3_insert_lp tkv opv shv wyv bdv rs x n ch lst pl rov).2.1)), (5, .int (nI ((f3_insert_lp tkv opv shv wyv bdv rs x n ch lst pl rov).2.2.1)))] [] 61) → GZ p l e R s m args below meth c 8 D A cells slots Q (wM h ad cI cJ cZ thr sn tkv opv shv ldv lim wyv bdv isr rn rdv fz icv exa fr fev eav rs rov) [(0, .ref h), (1, .int (nI x)), (2, .int ch), (3, .long lst), (5, .int (nI pl))] [] 10 := by
  intro n
  induction n with
  | zero =>
    intro ch lst pl rov hme hpl hch hro hx
    refine gz_iload C 4 dX3_insert_10 rfl ?_
    refine gz_aload_n C 0 dX3_insert_12 rfl ?_
    refine gz_get (ci := 4) C iwX3 0 rfl rfl 18 (by decide) wk_398 rfl rfl dX3_insert_13 ?_
    refine gz_ncmp_gt C 61 (by omega) (by omega) dX3_insert_16 (by decide) (fun h_1 => ?_) (fun h_1 => ?_)
    · skip
      exact gz_lv [0, 1, 2, 3, 4] rfl (hx hme hpl hch hro)
    · have g_1 : ¬ (rs < pl) := (Nat.not_lt.mpr h_1)
      exfalso; omega
  | succ n ih =>
    intro ch lst pl rov hme hpl hch hro hx
    refine gz_iload C 4 dX3_insert_10 rfl ?_
    refine gz_aload_n C 0 dX3_insert_12 rfl ?_
    refine gz_get (ci := 4) C iwX3 0 rfl rfl 18 (by decide) wk_398 rfl rfl dX3_insert_13 ?_
    refine gz_ncmp_gt C 61 (by omega) (by omega) dX3_insert_16 (by decide) (fun h_1 => ?_) (fun h_1 => ?_)
    · skip
      exfalso; omega
    · have g_1 : ¬ (rs < pl) := (Nat.not_lt.mpr h_1)
      refine gz_aload_n C 0 dX3_insert_19 rfl ?_
      refine gz_iload C 4 dX3_insert_20 rfl ?_
      refine gz_iload_n C 1 dX3_insert_22 rfl ?_
      refine gz_callV (wr := []) (n := 2) (ws2 := (wM h ad cI cJ cZ thr sn tkv opv shv ldv lim wyv bdv isr rn rdv fz icv exa fr fev eav (f3_putIn_rs rs) (f3_putIn_rov rs rov pl x))) (st2 := []) (cells2 := cells) (slots2 := slots) (ci := 4) C (kX3_putIn l D h ad cI cJ cZ thr sn tkv opv shv ldv lim wyv bdv isr rn rdv fz icv exa fr fev eav rs rov pl x (by first | assumption | omega) (by first | assumption | omega)) (WB_V wk_506 wk_508 ws_25 wk_4 wk_509) (by decide +kernel) ⟨⟨rfl, rfl⟩, Nat.le_trans (by decide) hR.1, Nat.le_trans (by decide) hR.2⟩ [0, 1, 2, 3, 4, 5, 6, 7, 8, 9, 10, 11] [] [0, 1, 2] rfl rfl rfl (by decide) rfl 0 rfl rfl rfl rfl (Nat.le_of_ble_eq_true rfl) dX3_insert_23 hce rfl rfl rfl ?_
      refine gz_aload_n C 0 dX3_insert_26 rfl ?_
      refine gz_callV (wr := []) (n := 0) (ws2 := (wM h ad cI cJ cZ thr sn tkv opv shv ldv lim wyv bdv isr rn rdv fz icv exa fr fev eav (f3_putIn_rs rs) (f3_putIn_rov rs rov pl x))) (st2 := [.long (f3_measure tkv opv shv wyv bdv (f3_putIn_rs rs) (f3_putIn_rov rs rov pl x))]) (cells2 := cells) (slots2 := slots) (ci := 4) C (kX3_measure l D h ad cI cJ cZ thr sn tkv opv shv ldv lim wyv bdv isr rn rdv fz icv exa fr fev eav (f3_putIn_rs rs) (f3_putIn_rov rs rov pl x) (by show rs + 1 ≤ 20; omega) (q3_putIn_le (by omega) hxx hro)) (WB_V wk_510 wk_512 ws_26 wk_4 wk_513) (by decide +kernel) ⟨⟨rfl, rfl⟩, Nat.le_trans (by decide) hR.1, Nat.le_trans (by decide) hR.2⟩ [0, 1, 2, 3, 4, 5, 6, 7, 8, 9, 10, 11] [] [0, 1, 2] rfl rfl rfl (by decide) rfl 0 rfl rfl rfl rfl (Nat.le_of_ble_eq_true rfl) dX3_insert_27 hce rfl rfl rfl ?_
      refine gz_lstore (lv2 := [(6, .long (f3_measure tkv opv shv wyv bdv (f3_putIn_rs rs) (f3_putIn_rov rs rov pl x))), (0, .ref h), (1, .int (nI x)), (2, .int ch), (3, .long lst), (5, .int (nI pl))]) C dX3_insert_30 (by decide) rfl ?_
      refine gz_aload_n C 1 dX3_insert_32 rfl ?_
      refine gz_iload C 5 dX3_insert_33 rfl ?_
      refine gz_callV (wr := []) (n := 1) (ws2 := (wM h ad cI cJ cZ thr sn tkv opv shv ldv lim wyv bdv isr rn rdv fz icv exa fr fev eav (f3_takeOut_rs (f3_putIn_rs rs)) (f3_takeOut_rov (f3_putIn_rs rs) (f3_putIn_rov rs rov pl x) pl))) (st2 := []) (cells2 := cells) (slots2 := slots) (ci := 4) C (kX3_takeOut l D h ad cI cJ cZ thr sn tkv opv shv ldv lim wyv bdv isr rn rdv fz icv exa fr fev eav (f3_putIn_rs rs) (f3_putIn_rov rs rov pl x) pl (by show rs + 1 ≤ 21; omega) (by show pl < rs + 1; omega)) (WB_V wk_515 wk_517 ws_27 wk_4 wk_518) (by decide +kernel) ⟨⟨rfl, rfl⟩, Nat.le_trans (by decide) hR.1, Nat.le_trans (by decide) hR.2⟩ [0, 1, 2, 3, 4, 5, 6, 7, 8, 9, 10, 11] [] [0, 1, 2] rfl rfl rfl (by decide) rfl 0 rfl rfl rfl rfl (Nat.le_of_ble_eq_true rfl) dX3_insert_35 hce rfl rfl rfl ?_
      refine gz_wse (ws2 := (wM h ad cI cJ cZ thr sn tkv opv shv ldv lim wyv bdv isr rn rdv fz icv exa fr fev eav rs (f3_takeOut_rov (f3_putIn_rs rs) (f3_putIn_rov rs rov pl x) pl))) rfl ?_
      refine gz_iload_n C 3 dX3_insert_38 rfl ?_
      refine gz_J (ws2 := (wM h ad cI cJ cZ thr sn tkv opv shv ldv lim wyv bdv isr rn rdv fz icv exa fr fev eav rs (f3_takeOut_rov (f3_putIn_rs rs) (f3_putIn_rov rs rov pl x) pl))) (lv2 := [(3, .long ((if ch < 0 then f3_measure tkv opv shv wyv bdv (f3_putIn_rs rs) (f3_putIn_rov rs rov pl x) else (if lst ≤ (f3_measure tkv opv shv wyv bdv (f3_putIn_rs rs) (f3_putIn_rov rs rov pl x)) then lst else f3_measure tkv opv shv wyv bdv (f3_putIn_rs rs) (f3_putIn_rov rs rov pl x))))), (2, .int ((if ch < 0 then nI pl else (if lst ≤ (f3_measure tkv opv shv wyv bdv (f3_putIn_rs rs) (f3_putIn_rov rs rov pl x)) then ch else nI pl)))), (6, .long (f3_measure tkv opv shv wyv bdv (f3_putIn_rs rs) (f3_putIn_rov rs rov pl x))), (0, .ref h), (1, .int (nI x)), (5, .int (nI pl))]) (st2 := []) (pc2 := 55) ?_ (fun J_2 => ?_)
      rotate_left
      · refine gz_if_lt C 49 dX3_insert_39 (by decide) (fun h_2 => ?_) (fun h_2 => ?_)
        · skip
          refine gz_iload C 5 dX3_insert_49 rfl ?_
          refine gz_istore_n (lv2 := [(2, .int (nI pl)), (6, .long (f3_measure tkv opv shv wyv bdv (f3_putIn_rs rs) (f3_putIn_rov rs rov pl x))), (0, .ref h), (1, .int (nI x)), (3, .long lst), (5, .int (nI pl))]) C dX3_insert_51 (by decide) rfl ?_
          refine gz_lload C 1 dX3_insert_52 rfl ?_
          refine gz_lstore_n (lv2 := [(3, .long (f3_measure tkv opv shv wyv bdv (f3_putIn_rs rs) (f3_putIn_rov rs rov pl x))), (2, .int (nI pl)), (6, .long (f3_measure tkv opv shv wyv bdv (f3_putIn_rs rs) (f3_putIn_rov rs rov pl x))), (0, .ref h), (1, .int (nI x)), (5, .int (nI pl))]) C dX3_insert_54 (by decide) rfl ?_
          simp only [if_pos h_2] at J_2 ⊢
          exact gz_lv [0, 1, 2, 3, 4, 5] rfl J_2
        · have g_2 : ¬ (ch < 0) := h_2
          refine gz_lload C 0 dX3_insert_42 rfl ?_
          refine gz_lload_n C 4 dX3_insert_44 rfl ?_
          refine gz_J (ws2 := (wM h ad cI cJ cZ thr sn tkv opv shv ldv lim wyv bdv isr rn rdv fz icv exa fr fev eav rs (f3_takeOut_rov (f3_putIn_rs rs) (f3_putIn_rov rs rov pl x) pl))) (lv2 := [(6, .long (f3_measure tkv opv shv wyv bdv (f3_putIn_rs rs) (f3_putIn_rov rs rov pl x))), (0, .ref h), (1, .int (nI x)), (2, .int ((if lst ≤ (f3_measure tkv opv shv wyv bdv (f3_putIn_rs rs) (f3_putIn_rov rs rov pl x)) then ch else nI pl))), (3, .long ((if lst ≤ (f3_measure tkv opv shv wyv bdv (f3_putIn_rs rs) (f3_putIn_rov rs rov pl x)) then lst else f3_measure tkv opv shv wyv bdv (f3_putIn_rs rs) (f3_putIn_rov rs rov pl x)))), (5, .int (nI pl))]) (st2 := []) (pc2 := 55) ?_ (fun J_3 => ?_)
          rotate_left
          · refine gz_lcmp_ge C 55 dX3_insert_45 dX3_insert_46 (by decide) (fun h_3 => ?_) (fun h_3 => ?_)
            · skip
              simp only [if_pos h_3] at J_3 ⊢
              exact gz_lv [0, 1, 2, 3, 4, 5] rfl J_3
            · have g_3 : ¬ (lst ≤ (f3_measure tkv opv shv wyv bdv (f3_putIn_rs rs) (f3_putIn_rov rs rov pl x))) := h_3
              refine gz_iload C 5 dX3_insert_49 rfl ?_
              refine gz_istore_n (lv2 := [(2, .int (nI pl)), (6, .long (f3_measure tkv opv shv wyv bdv (f3_putIn_rs rs) (f3_putIn_rov rs rov pl x))), (0, .ref h), (1, .int (nI x)), (3, .long lst), (5, .int (nI pl))]) C dX3_insert_51 (by decide) rfl ?_
              refine gz_lload C 1 dX3_insert_52 rfl ?_
              refine gz_lstore_n (lv2 := [(3, .long (f3_measure tkv opv shv wyv bdv (f3_putIn_rs rs) (f3_putIn_rov rs rov pl x))), (2, .int (nI pl)), (6, .long (f3_measure tkv opv shv wyv bdv (f3_putIn_rs rs) (f3_putIn_rov rs rov pl x))), (0, .ref h), (1, .int (nI x)), (5, .int (nI pl))]) C dX3_insert_54 (by decide) rfl ?_
              simp only [if_neg g_3] at J_3 ⊢
              exact gz_lv [2, 3, 4, 1, 0, 5] rfl J_3
          simp only [if_neg g_2] at J_2 ⊢
          exact gz_lv [4, 3, 0, 1, 2, 5] rfl J_2
      refine gz_iinc (v := nI (pl + 1)) (lv2 := [(5, .int (nI (pl + 1))), (3, .long ((if ch < 0 then f3_measure tkv opv shv wyv bdv (f3_putIn_rs rs) (f3_putIn_rov rs rov pl x) else (if lst ≤ (f3_measure tkv opv shv wyv bdv (f3_putIn_rs rs) (f3_putIn_rov rs rov pl x)) then lst else f3_measure tkv opv shv wyv bdv (f3_putIn_rs rs) (f3_putIn_rov rs rov pl x))))), (2, .int ((if ch < 0 then nI pl else (if lst ≤ (f3_measure tkv opv shv wyv bdv (f3_putIn_rs rs) (f3_putIn_rov rs rov pl x)) then ch else nI pl)))), (6, .long (f3_measure tkv opv shv wyv bdv (f3_putIn_rs rs) (f3_putIn_rov rs rov pl x))), (0, .ref h), (1, .int (nI x))]) (k := 5) C dX3_insert_55 rfl (nI_add _ 1) (by decide) rfl ?_
      refine gz_goto C 10 dX3_insert_58 (by decide) ?_
      refine gz_lv [4, 5, 2, 1, 0] rfl ?_
      simp only [f3_insert_lp, if_neg g_1] at hx
      exact ih ((if ch < 0 then nI pl else (if lst ≤ (f3_measure tkv opv shv wyv bdv (f3_putIn_rs rs) (f3_putIn_rov rs rov pl x)) then ch else nI pl))) ((if ch < 0 then f3_measure tkv opv shv wyv bdv (f3_putIn_rs rs) (f3_putIn_rov rs rov pl x) else (if lst ≤ (f3_measure tkv opv shv wyv bdv (f3_putIn_rs rs) (f3_putIn_rov rs rov pl x)) then lst else f3_measure tkv opv shv wyv bdv (f3_putIn_rs rs) (f3_putIn_rov rs rov pl x)))) (pl + 1) (f3_takeOut_rov (f3_putIn_rs rs) (f3_putIn_rov rs rov pl x) pl) (by omega) (by omega) (q3_ch hch hpl (by omega) (by omega)) (q3_pt_le (by omega) hxx hro) hx

def f3_insert (tkv : Nat → Int64) (opv : Nat → Int64) (shv : Nat → Int64) (wyv : Nat → Int64) (bdv : Nat → Bool) (fz : Nat) (rs : Nat) (rov : Nat → Nat) (x : Nat) : Int32 := nI (cl ((f3_insert_lp tkv opv shv wyv bdv rs x (rs + 1 - fz) ((-1)) 0 fz rov).1))
def f3_insert_rs (rs : Nat) : Nat := f3_putIn_rs rs
def f3_insert_rov (tkv : Nat → Int64) (opv : Nat → Int64) (shv : Nat → Int64) (wyv : Nat → Int64) (bdv : Nat → Bool) (fz : Nat) (rs : Nat) (rov : Nat → Nat) (x : Nat) : Nat → Nat := f3_putIn_rov rs ((f3_insert_lp tkv opv shv wyv bdv rs x (rs + 1 - fz) ((-1)) 0 fz rov).2.2.2) (cl ((f3_insert_lp tkv opv shv wyv bdv rs x (rs + 1 - fz) ((-1)) 0 fz rov).1)) x
set_option maxRecDepth 100000 in
set_option maxHeartbeats 4000000 in
theorem kX3_insert (l : Launch) (D : va_G) (h : Nat) (ad : Nat → Nat) (cI : ClassId) (cJ : ClassId) (cZ : ClassId) (thr : Int32) (sn : Nat) (tkv : Nat → Int64) (opv : Nat → Int64) (shv : Nat → Int64) (ldv : Nat → Int32) (lim : Int32) (wyv : Nat → Int64) (bdv : Nat → Bool) (isr : Bool) (rn : Nat) (rdv : Nat → Nat) (fz : Nat) (icv : Nat → Nat) (exa : Bool) (fr : Nat) (fev : Nat → Nat) (eav : Nat → Int64) (rs : Nat) (rov : Nat → Nat) (x : Nat) (hrs : rs ≤ 19) (hfz : fz ≤ rs) (hxx : x ≤ 20) (hro : ∀ k, k < rs → rov k ≤ 20) : gz_M l yX3_insert cX3_insert 8 (some .int) ({ frames := 1, cells := 0, slots := 0, locals := 29 } : Room) D [(cI, .int), (cJ, .long), (cZ, .boolean)] [.ref h, .int (nI x)] (wM h ad cI cJ cZ thr sn tkv opv shv ldv lim wyv bdv isr rn rdv fz icv exa fr fev eav rs rov) (some (.int (f3_insert tkv opv shv wyv bdv fz rs rov x))) (wM h ad cI cJ cZ thr sn tkv opv shv ldv lim wyv bdv isr rn rdv fz icv exa fr fev eav (f3_insert_rs rs) (f3_insert_rov tkv opv shv wyv bdv fz rs rov x)) 0 0 := by
  refine gz_met l (by decide) (Nat.le_of_ble_eq_true rfl) [(0, .ref h), (1, .int (nI x))] rfl ?_
  intro sz p e s m args below meth c C hr hk hnm
  have C : gz_C p s m args c cX3_insert 8 RX3 D [(cI, .int), (cJ, .long), (cZ, .boolean)] (va_A (wM h ad cI cJ cZ thr sn tkv opv shv ldv lim wyv bdv isr rn rdv fz icv exa fr fev eav rs rov) sz) := C
  refine gz_iconst (v := ((-1))) C dX3_insert_0 (by decide) ?_
  refine gz_istore_n (lv2 := [(2, .int ((-1))), (0, .ref h), (1, .int (nI x))]) C dX3_insert_1 (by decide) rfl ?_
  refine gz_lconst (v := 0) C dX3_insert_2 (by decide) ?_
  refine gz_lstore_n (lv2 := [(3, .long 0), (2, .int ((-1))), (0, .ref h), (1, .int (nI x))]) C dX3_insert_3 (by decide) rfl ?_
  refine gz_aload_n C 2 dX3_insert_4 rfl ?_
  refine gz_get (ci := 4) C iwX3 0 rfl rfl 12 (by decide) wk_392 rfl rfl dX3_insert_5 ?_
  refine gz_istore (lv2 := [(5, .int (nI fz)), (3, .long 0), (2, .int ((-1))), (0, .ref h), (1, .int (nI x))]) C dX3_insert_8 (by decide) rfl ?_
  refine gz_lv (lv2 := [(0, .ref h), (1, .int (nI x)), (2, .int ((-1))), (3, .long 0), (5, .int (nI fz))]) [3, 4, 2, 1, 0] rfl ?_
  refine lX3_insert_lp h ad cI cJ cZ thr sn tkv opv shv ldv lim wyv bdv isr rn rdv fz icv exa fr fev eav rs x (by first | assumption | omega) (by first | assumption | omega) (by first | assumption | omega) ⟨Nat.le_of_ble_eq_true rfl, Nat.le_of_ble_eq_true rfl⟩ ⟨Nat.zero_le _, Nat.zero_le _⟩ C (rs + 1 - fz) ((-1)) 0 fz rov (by omega) (by first | assumption | omega) (Or.inl ⟨by decide, rfl⟩) (by first | assumption | omega) ?_
  intro zme_lp zhpl_lp zhch_lp zhro_lp
  have hgd : q3_good fz rs ((f3_insert_lp tkv opv shv wyv bdv rs x (rs + 1 - fz) ((-1)) 0 fz rov).1) := by
    rcases zhch_lp with z | z
    · exact absurd z.2 (by omega)
    · exact z
  obtain ⟨hg1, hg2, hg3⟩ := hgd
  refine gz_lve (lv2 := [(0, .ref h), (1, .int (nI x)), (2, .int (nI (cl ((f3_insert_lp tkv opv shv wyv bdv rs x (rs + 1 - fz) ((-1)) 0 fz rov).1)))), (3, .long ((f3_insert_lp tkv opv shv wyv bdv rs x (rs + 1 - fz) ((-1)) 0 fz rov).2.1)), (5, .int (nI ((f3_insert_lp tkv opv shv wyv bdv rs x (rs + 1 - fz) ((-1)) 0 fz rov).2.2.1)))]) (by rw [← hg1]) ?_
  refine gz_aload_n C 0 dX3_insert_61 rfl ?_
  refine gz_iload_n C 2 dX3_insert_62 rfl ?_
  refine gz_iload_n C 1 dX3_insert_63 rfl ?_
  refine gz_callV (wr := []) (n := 2) (ws2 := (wM h ad cI cJ cZ thr sn tkv opv shv ldv lim wyv bdv isr rn rdv fz icv exa fr fev eav (f3_putIn_rs rs) (f3_putIn_rov rs ((f3_insert_lp tkv opv shv wyv bdv rs x (rs + 1 - fz) ((-1)) 0 fz rov).2.2.2) (cl ((f3_insert_lp tkv opv shv wyv bdv rs x (rs + 1 - fz) ((-1)) 0 fz rov).1)) x))) (st2 := []) (cells2 := 0) (slots2 := 0) (ci := 4) C (kX3_putIn l D h ad cI cJ cZ thr sn tkv opv shv ldv lim wyv bdv isr rn rdv fz icv exa fr fev eav rs ((f3_insert_lp tkv opv shv wyv bdv rs x (rs + 1 - fz) ((-1)) 0 fz rov).2.2.2) (cl ((f3_insert_lp tkv opv shv wyv bdv rs x (rs + 1 - fz) ((-1)) 0 fz rov).1)) x (by first | assumption | omega) (by first | assumption | omega)) (WB_V wk_506 wk_508 ws_25 wk_4 wk_509) (by decide +kernel) ⟨⟨rfl, rfl⟩, Nat.le_of_ble_eq_true rfl, Nat.le_of_ble_eq_true rfl⟩ [0, 1, 2, 3, 4, 5, 6, 7, 8, 9, 10, 11] [] [0, 1, 2] rfl rfl rfl (by decide) rfl 0 rfl rfl rfl rfl (Nat.le_of_ble_eq_true rfl) dX3_insert_64 ⟨Nat.zero_le _, Nat.zero_le _⟩ rfl rfl rfl ?_
  refine gz_iload_n C 2 dX3_insert_67 rfl ?_
  exact gz_iret C hr hk (by first | rfl | (simp only [f3_insert, f3_insert_rs, f3_insert_rov]) | (simp only [f3_insert, f3_insert_rs, f3_insert_rov]; rfl)) (by first | rfl | (simp only [f3_insert, f3_insert_rs, f3_insert_rov]) | (simp only [f3_insert, f3_insert_rs, f3_insert_rov]; rfl)) (Nat.le_refl _) (Nat.le_refl _) dX3_insert_68


theorem q3_better_le {tkv opv shv wyv : Nat → Int64} {bdv : Nat → Bool} {rs i j : Nat} {rov : Nat → Nat} {B : Nat} (h : ∀ k, k < rs → rov k ≤ B) (hi : i < rs) (hj : j < rs) : ∀ k, k < rs → f3_better_rov tkv opv shv wyv bdv rs rov i j k ≤ B := by
  unfold f3_better_rov
  (repeat' split) <;> first | exact q3_turn_le h hi hj | exact q3_turn_le (q3_turn_le h hi hj) hi hj

def f3_improve_lp (tkv : Nat → Int64) (opv : Nat → Int64) (shv : Nat → Int64) (wyv : Nat → Int64) (bdv : Nat → Bool) (fz : Nat) (rs : Nat) : Nat → Int64 → Nat → Nat → (Nat → Nat) → Int64 × Nat × Nat × (Nat → Nat)
  | 0, lf, i, j, rov => (lf, i, j, rov)
  | n + 1, lf, i, j, rov => if rs ≤ (i + 1) then (lf, i, j, rov) else if (f3_better tkv opv shv wyv bdv rs rov i j) = true then f3_improve_lp tkv opv shv wyv bdv fz rs n (lf - 1) fz (fz + 1) (f3_better_rov tkv opv shv wyv bdv rs rov i j) else f3_improve_lp tkv opv shv wyv bdv fz rs n (lf - 1) ((if (j + 1) = rs then i + 1 else i)) ((if (j + 1) = rs then ((if (j + 1) = rs then i + 1 else i)) + 1 else j + 1)) (f3_better_rov tkv opv shv wyv bdv rs rov i j)
set_option maxRecDepth 100000 in
set_option maxHeartbeats 4000000 in
theorem lX3_improve_lp {p : Program} {l : Launch} {e : Env} {R : Room} {s : State} {m : MethodId} {args : Array Value} {below : List Frame} {meth : Method} {c : Code} {cells slots : Nat} {Q : State → Prop} {A : Nat → Prop} {D : va_G} (h : Nat) (ad : Nat → Nat) (cI : ClassId) (cJ : ClassId) (cZ : ClassId) (thr : Int32) (sn : Nat) (tkv : Nat → Int64) (opv : Nat → Int64) (shv : Nat → Int64) (ldv : Nat → Int32) (lim : Int32) (wyv : Nat → Int64) (bdv : Nat → Bool) (isr : Bool) (rn : Nat) (rdv : Nat → Nat) (fz : Nat) (icv : Nat → Nat) (exa : Bool) (fr : Nat) (fev : Nat → Nat) (eav : Nat → Int64) (rs : Nat) (hrs : rs ≤ 20) (hfz : fz ≤ 20) (hR : 2 ≤ R.frames ∧ 54 ≤ R.locals) (hce : cells ≤ R.cells ∧ slots ≤ R.slots) (C : gz_C p s m args c cX3_improve 7 RX3 D [(cI, .int), (cJ, .long), (cZ, .boolean)] A) : ∀ (n : Nat) (lf : Int64) (i : Nat) (j : Nat) (rov : Nat → Nat), (lf = lN n ∧ n ≤ 100000) → (i ≤ 20 ∧ i < j ∧ (i + 1 < rs → j < rs)) → (∀ k, k < rs → rov k ≤ 20) → ((((f3_improve_lp tkv opv shv wyv bdv fz rs n lf i j rov).2.1) ≤ 20 ∧ ((f3_improve_lp tkv opv shv wyv bdv fz rs n lf i j rov).2.1) < ((f3_improve_lp tkv opv shv wyv bdv fz rs n lf i j rov).2.2.1) ∧ (((f3_improve_lp tkv opv shv wyv bdv fz rs n lf i j rov).2.1) + 1 < rs → ((f3_improve_lp tkv opv shv wyv bdv fz rs n lf i j rov).2.2.1) < rs)) → (∀ k, k < rs → ((f3_improve_lp tkv opv shv wyv bdv fz rs n lf i j rov).2.2.2) k ≤ 20) → GZ p l e R s m args below meth c 7 D A cells slots Q (wM h ad cI cJ cZ thr sn tkv opv shv ldv lim wyv bdv isr rn rdv fz icv exa fr fev eav rs ((f3_improve_lp tkv opv shv wyv bdv fz rs n lf i j rov).2.2.2)) [(0, .ref h), (3, .long ((f3_improve_lp tkv opv shv wyv bdv fz rs n lf i j rov).1)), (5, .int (nI ((f3_improve_lp tkv opv shv wyv bdv fz rs n lf i j rov).2.1))), (6, .int (nI ((f3_improve_lp tkv opv shv wyv bdv fz rs n lf i j rov).2.2.1)))] [] 111) → GZ p l e R s m args below meth c 7 D A cells slots Q (wM h ad cI cJ cZ thr sn tkv opv shv ldv lim wyv bdv isr rn rdv fz icv exa fr fev eav rs rov) [(0, .ref h), (3, .long lf), (5, .int (nI i)), (6, .int (nI j))] [] 16 := by
  intro n
  induction n with
  | zero =>
    intro lf i j rov hme hij hro hx
    refine gz_lload_n C 1 dX3_improve_16 rfl ?_
    refine gz_lconst (v := 0) C dX3_improve_17 (by decide) ?_
    refine gz_lcmp_le C 111 dX3_improve_18 dX3_improve_19 (by decide) (fun h_1 => ?_) (fun h_1 => ?_)
    · skip
      exact gz_lv [0, 1, 2, 3] rfl (hx hij hro)
    · have g_1 : ¬ (lf ≤ 0) := h_1
      exact absurd (by rw [hme.1]; decide) g_1
  | succ n ih =>
    intro lf i j rov hme hij hro hx
    refine gz_lload_n C 1 dX3_improve_16 rfl ?_
    refine gz_lconst (v := 0) C dX3_improve_17 (by decide) ?_
    refine gz_lcmp_le C 111 dX3_improve_18 dX3_improve_19 (by decide) (fun h_1 => ?_) (fun h_1 => ?_)
    · skip
      exact absurd ((lN_le (by omega) (by decide)).mp (hme.1 ▸ h_1 : lN (n + 1) ≤ lN 0)) (by omega)
    · have g_1 : ¬ (lf ≤ 0) := h_1
      refine gz_iload C 2 dX3_improve_22 rfl ?_
      refine gz_iconst (v := nI 1) C dX3_improve_24 (by decide) ?_
      refine gz_iadd (v := nI (i + 1)) C dX3_improve_25 (nI_add _ _) ?_
      refine gz_aload_n C 0 dX3_improve_26 rfl ?_
      refine gz_get (ci := 4) C iwX3 0 rfl rfl 18 (by decide) wk_398 rfl rfl dX3_improve_27 ?_
      refine gz_ncmp_ge C 111 (by omega) (by omega) dX3_improve_30 (by decide) (fun h_2 => ?_) (fun h_2 => ?_)
      · skip
        simp only [f3_improve_lp, if_neg g_1, if_pos h_2] at hx
        exact gz_lv [0, 1, 2, 3] rfl (hx hij hro)
      · have g_2 : ¬ (rs ≤ (i + 1)) := (Nat.not_le.mpr h_2)
        refine gz_lload_n C 1 dX3_improve_33 rfl ?_
        refine gz_lconst (v := 1) C dX3_improve_34 (by decide) ?_
        refine gz_lsub (v := lf - 1) C dX3_improve_35 rfl ?_
        refine gz_lstore_n (lv2 := [(3, .long (lf - 1)), (0, .ref h), (5, .int (nI i)), (6, .int (nI j))]) C dX3_improve_36 (by decide) rfl ?_
        refine gz_aload_n C 1 dX3_improve_37 rfl ?_
        refine gz_iload C 2 dX3_improve_38 rfl ?_
        refine gz_iload C 3 dX3_improve_40 rfl ?_
        refine gz_callV (wr := []) (n := 2) (ws2 := (wM h ad cI cJ cZ thr sn tkv opv shv ldv lim wyv bdv isr rn rdv fz icv exa fr fev eav rs (f3_better_rov tkv opv shv wyv bdv rs rov i j))) (st2 := [.int (bI (f3_better tkv opv shv wyv bdv rs rov i j))]) (cells2 := cells) (slots2 := slots) (ci := 4) C (kX3_better l D h ad cI cJ cZ thr sn tkv opv shv ldv lim wyv bdv isr rn rdv fz icv exa fr fev eav rs rov i j (by first | assumption | omega) (by first | assumption | omega) (by first | assumption | omega) (by first | assumption | omega)) (WB_V wk_523 wk_525 ws_29 wk_4 wk_526) (by decide +kernel) ⟨⟨rfl, rfl⟩, Nat.le_trans (by decide) hR.1, Nat.le_trans (by decide) hR.2⟩ [0, 1, 2, 3, 4, 5, 6, 7, 8, 9, 10, 11] [] [0, 1, 2] rfl rfl rfl (by decide) rfl 0 rfl rfl rfl rfl (Nat.le_of_ble_eq_true rfl) dX3_improve_42 hce rfl rfl rfl ?_
        refine gz_bif_eq C 65 dX3_improve_45 (by decide) (fun h_3 => ?_) (fun h_3 => ?_)
        · have g_3 : ¬ ((f3_better tkv opv shv wyv bdv rs rov i j) = true) := (by rw [h_3]; decide)
          refine gz_iinc (v := nI (j + 1)) (lv2 := [(6, .int (nI (j + 1))), (3, .long (lf - 1)), (0, .ref h), (5, .int (nI i))]) (k := 3) C dX3_improve_65 rfl (nI_add _ 1) (by decide) rfl ?_
          refine gz_iload C 0 dX3_improve_68 rfl ?_
          refine gz_aload_n C 2 dX3_improve_70 rfl ?_
          refine gz_get (ci := 4) C iwX3 0 rfl rfl 18 (by decide) wk_398 rfl rfl dX3_improve_71 ?_
          refine gz_J (ws2 := (wM h ad cI cJ cZ thr sn tkv opv shv ldv lim wyv bdv isr rn rdv fz icv exa fr fev eav rs (f3_better_rov tkv opv shv wyv bdv rs rov i j))) (lv2 := [(6, .int (nI (j + 1))), (3, .long (lf - 1)), (0, .ref h), (5, .int (nI i))]) (st2 := [.int (nI ((if (j + 1) = rs then i + 1 else i)))]) (pc2 := 86) ?_ (fun J_4 => ?_)
          rotate_left
          · refine gz_ncmp_ne C 84 (by omega) (by omega) dX3_improve_74 (by decide) (fun h_4 => ?_) (fun h_4 => ?_)
            · have g_4 : ¬ ((j + 1) = rs) := h_4
              refine gz_iload C 3 dX3_improve_84 rfl ?_
              simp only [if_neg g_4] at J_4 ⊢
              exact gz_lv [0, 1, 2, 3] rfl J_4
            · skip
              refine gz_iload C 3 dX3_improve_77 rfl ?_
              refine gz_iconst (v := nI 1) C dX3_improve_79 (by decide) ?_
              refine gz_iadd (v := nI (i + 1)) C dX3_improve_80 (nI_add _ _) ?_
              refine gz_goto C 86 dX3_improve_81 (by decide) ?_
              simp only [if_pos h_4] at J_4 ⊢
              exact gz_lv [0, 1, 2, 3] rfl J_4
          refine gz_istore (lv2 := [(5, .int (nI ((if (j + 1) = rs then i + 1 else i)))), (6, .int (nI (j + 1))), (3, .long (lf - 1)), (0, .ref h)]) C dX3_improve_86 (by decide) rfl ?_
          refine gz_iload C 1 dX3_improve_88 rfl ?_
          refine gz_aload_n C 3 dX3_improve_90 rfl ?_
          refine gz_get (ci := 4) C iwX3 0 rfl rfl 18 (by decide) wk_398 rfl rfl dX3_improve_91 ?_
          refine gz_J (ws2 := (wM h ad cI cJ cZ thr sn tkv opv shv ldv lim wyv bdv isr rn rdv fz icv exa fr fev eav rs (f3_better_rov tkv opv shv wyv bdv rs rov i j))) (lv2 := [(5, .int (nI ((if (j + 1) = rs then i + 1 else i)))), (6, .int (nI (j + 1))), (3, .long (lf - 1)), (0, .ref h)]) (st2 := [.int (nI ((if (j + 1) = rs then ((if (j + 1) = rs then i + 1 else i)) + 1 else j + 1)))]) (pc2 := 106) ?_ (fun J_5 => ?_)
          rotate_left
          · refine gz_ncmp_ne C 104 (by omega) (by omega) dX3_improve_94 (by decide) (fun h_5 => ?_) (fun h_5 => ?_)
            · have g_5 : ¬ ((j + 1) = rs) := h_5
              refine gz_iload C 1 dX3_improve_104 rfl ?_
              simp only [if_neg g_5] at J_5 ⊢
              exact gz_lv [0, 1, 2, 3] rfl J_5
            · skip
              refine gz_iload C 0 dX3_improve_97 rfl ?_
              refine gz_iconst (v := nI 1) C dX3_improve_99 (by decide) ?_
              refine gz_iadd (v := nI (((if (j + 1) = rs then i + 1 else i)) + 1)) C dX3_improve_100 (nI_add _ _) ?_
              refine gz_goto C 106 dX3_improve_101 (by decide) ?_
              simp only [if_pos h_5] at J_5 ⊢
              exact gz_lv [0, 1, 2, 3] rfl J_5
          refine gz_istore (lv2 := [(6, .int (nI ((if (j + 1) = rs then ((if (j + 1) = rs then i + 1 else i)) + 1 else j + 1)))), (5, .int (nI ((if (j + 1) = rs then i + 1 else i)))), (3, .long (lf - 1)), (0, .ref h)]) C dX3_improve_106 (by decide) rfl ?_
          refine gz_goto C 16 dX3_improve_108 (by decide) ?_
          refine gz_lv [3, 2, 1, 0] rfl ?_
          simp only [f3_improve_lp, if_neg g_1, if_neg g_2, if_neg g_3] at hx
          exact ih (lf - 1) ((if (j + 1) = rs then i + 1 else i)) ((if (j + 1) = rs then ((if (j + 1) = rs then i + 1 else i)) + 1 else j + 1)) (f3_better_rov tkv opv shv wyv bdv rs rov i j) ⟨by rw [hme.1]; exact lN_sub (a := n + 1) (b := 1) (by omega), by omega⟩ (by first | omega | ((repeat' split) <;> omega)) (q3_better_le hro (by omega) (by omega)) hx
        · skip
          refine gz_aload_n C 1 dX3_improve_48 rfl ?_
          refine gz_get (ci := 4) C iwX3 0 rfl rfl 12 (by decide) wk_392 rfl rfl dX3_improve_49 ?_
          refine gz_istore (lv2 := [(5, .int (nI fz)), (3, .long (lf - 1)), (0, .ref h), (6, .int (nI j))]) C dX3_improve_52 (by decide) rfl ?_
          refine gz_aload_n C 2 dX3_improve_54 rfl ?_
          refine gz_get (ci := 4) C iwX3 0 rfl rfl 12 (by decide) wk_392 rfl rfl dX3_improve_55 ?_
          refine gz_iconst (v := nI 1) C dX3_improve_58 (by decide) ?_
          refine gz_iadd (v := nI (fz + 1)) C dX3_improve_59 (nI_add _ _) ?_
          refine gz_istore (lv2 := [(6, .int (nI (fz + 1))), (5, .int (nI fz)), (3, .long (lf - 1)), (0, .ref h)]) C dX3_improve_60 (by decide) rfl ?_
          refine gz_goto C 16 dX3_improve_62 (by decide) ?_
          refine gz_lv [3, 2, 1, 0] rfl ?_
          simp only [f3_improve_lp, if_neg g_1, if_neg g_2, if_pos h_3] at hx
          exact ih (lf - 1) fz (fz + 1) (f3_better_rov tkv opv shv wyv bdv rs rov i j) ⟨by rw [hme.1]; exact lN_sub (a := n + 1) (b := 1) (by omega), by omega⟩ (by first | omega | ((repeat' split) <;> omega)) (q3_better_le hro (by omega) (by omega)) hx

def f3_improve_rov (tkv : Nat → Int64) (opv : Nat → Int64) (shv : Nat → Int64) (wyv : Nat → Int64) (bdv : Nat → Bool) (fz : Nat) (rs : Nat) (rov : Nat → Nat) (stp : Int64) : Nat → Nat := (f3_improve_lp tkv opv shv wyv bdv fz rs (cN stp) stp fz (fz + 1) rov).2.2.2
set_option maxRecDepth 100000 in
set_option maxHeartbeats 4000000 in
theorem kX3_improve (l : Launch) (D : va_G) (h : Nat) (ad : Nat → Nat) (cI : ClassId) (cJ : ClassId) (cZ : ClassId) (thr : Int32) (sn : Nat) (tkv : Nat → Int64) (opv : Nat → Int64) (shv : Nat → Int64) (ldv : Nat → Int32) (lim : Int32) (wyv : Nat → Int64) (bdv : Nat → Bool) (isr : Bool) (rn : Nat) (rdv : Nat → Nat) (fz : Nat) (icv : Nat → Nat) (exa : Bool) (fr : Nat) (fev : Nat → Nat) (eav : Nat → Int64) (rs : Nat) (rov : Nat → Nat) (stp : Int64) (hrs : rs ≤ 20) (hro : ∀ k, k < rs → rov k ≤ 20) (hfz : fz ≤ 20) (hst1 : ¬ stp < 0) (hst2 : stp ≤ 100000) : gz_M l yX3_improve cX3_improve 7 none ({ frames := 2, cells := 0, slots := 0, locals := 54 } : Room) D [(cI, .int), (cJ, .long), (cZ, .boolean)] [.ref h, .long stp] (wM h ad cI cJ cZ thr sn tkv opv shv ldv lim wyv bdv isr rn rdv fz icv exa fr fev eav rs rov) (none) (wM h ad cI cJ cZ thr sn tkv opv shv ldv lim wyv bdv isr rn rdv fz icv exa fr fev eav rs (f3_improve_rov tkv opv shv wyv bdv fz rs rov stp)) 0 0 := by
  refine gz_met l (by decide) (Nat.le_of_ble_eq_true rfl) [(0, .ref h), (1, .long stp)] rfl ?_
  intro sz p e s m args below meth c C hr hk hnm
  have C : gz_C p s m args c cX3_improve 7 RX3 D [(cI, .int), (cJ, .long), (cZ, .boolean)] (va_A (wM h ad cI cJ cZ thr sn tkv opv shv ldv lim wyv bdv isr rn rdv fz icv exa fr fev eav rs rov) sz) := C
  refine gz_lload_n C 1 dX3_improve_0 rfl ?_
  refine gz_lstore_n (lv2 := [(3, .long stp), (0, .ref h), (1, .long stp)]) C dX3_improve_1 (by decide) rfl ?_
  refine gz_aload_n C 1 dX3_improve_2 rfl ?_
  refine gz_get (ci := 4) C iwX3 0 rfl rfl 12 (by decide) wk_392 rfl rfl dX3_improve_3 ?_
  refine gz_istore (lv2 := [(5, .int (nI fz)), (3, .long stp), (0, .ref h), (1, .long stp)]) C dX3_improve_6 (by decide) rfl ?_
  refine gz_aload_n C 2 dX3_improve_8 rfl ?_
  refine gz_get (ci := 4) C iwX3 0 rfl rfl 12 (by decide) wk_392 rfl rfl dX3_improve_9 ?_
  refine gz_iconst (v := nI 1) C dX3_improve_12 (by decide) ?_
  refine gz_iadd (v := nI (fz + 1)) C dX3_improve_13 (nI_add _ _) ?_
  refine gz_istore (lv2 := [(6, .int (nI (fz + 1))), (5, .int (nI fz)), (3, .long stp), (0, .ref h), (1, .long stp)]) C dX3_improve_14 (by decide) rfl ?_
  refine gz_lv (lv2 := [(0, .ref h), (3, .long stp), (5, .int (nI fz)), (6, .int (nI (fz + 1)))]) [3, 2, 1, 0] rfl ?_
  refine lX3_improve_lp h ad cI cJ cZ thr sn tkv opv shv ldv lim wyv bdv isr rn rdv fz icv exa fr fev eav rs (by first | assumption | omega) (by first | assumption | omega) ⟨Nat.le_of_ble_eq_true rfl, Nat.le_of_ble_eq_true rfl⟩ ⟨Nat.zero_le _, Nat.zero_le _⟩ C (cN stp) stp fz (fz + 1) rov (cN_of hst1 hst2) (by omega) (by first | assumption | omega) ?_
  intro zhij_lp zhro_lp
  exact gz_vret C hr hk (by first | rfl | (simp only [f3_improve_rov]) | (simp only [f3_improve_rov]; rfl)) (by first | rfl | (simp only [f3_improve_rov]) | (simp only [f3_improve_rov]; rfl)) (Nat.le_refl _) (Nat.le_refl _) dX3_improve_111

