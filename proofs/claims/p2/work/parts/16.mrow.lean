def f3_putIn_lp  : Nat → Nat → (Nat → Nat) → Nat × (Nat → Nat)
  | 0, k, rov => (k, rov)
  | n + 1, k, rov => f3_putIn_lp  n (k - 1) (va_up rov k (rov (k - 1)))
set_option maxRecDepth 100000 in
set_option maxHeartbeats 4000000 in
theorem lX3_putIn_lp {p : Program} {l : Launch} {e : Env} {R : Room} {s : State} {m : MethodId} {args : Array Value} {below : List Frame} {meth : Method} {c : Code} {cells slots : Nat} {Q : State → Prop} {A : Nat → Prop} {D : va_G} (h : Nat) (ad : Nat → Nat) (cI : ClassId) (cJ : ClassId) (cZ : ClassId) (thr : Int32) (sn : Nat) (tkv : Nat → Int64) (opv : Nat → Int64) (shv : Nat → Int64) (ldv : Nat → Int32) (lim : Int32) (wyv : Nat → Int64) (bdv : Nat → Bool) (isr : Bool) (rn : Nat) (rdv : Nat → Nat) (fz : Nat) (icv : Nat → Nat) (exa : Bool) (fr : Nat) (fev : Nat → Nat) (eav : Nat → Int64) (rs : Nat) (pl : Nat) (x : Nat)  (C : gz_C p s m args c cX3_putIn 4 RX3 D [(cI, .int), (cJ, .long), (cZ, .boolean)] A) : ∀ (n : Nat) (k : Nat) (rov : Nat → Nat), (k = pl + n ∧ k ≤ 20) → ((((f3_putIn_lp  n k rov).1) = pl + 0 ∧ ((f3_putIn_lp  n k rov).1) ≤ 20) → GZ p l e R s m args below meth c 4 D A cells slots Q (wM h ad cI cJ cZ thr sn tkv opv shv ldv lim wyv bdv isr rn rdv fz icv exa fr fev eav rs ((f3_putIn_lp  n k rov).2)) [(0, .ref h), (1, .int (nI pl)), (2, .int (nI x)), (3, .int (nI ((f3_putIn_lp  n k rov).1)))] [] 30) → GZ p l e R s m args below meth c 4 D A cells slots Q (wM h ad cI cJ cZ thr sn tkv opv shv ldv lim wyv bdv isr rn rdv fz icv exa fr fev eav rs rov) [(0, .ref h), (1, .int (nI pl)), (2, .int (nI x)), (3, .int (nI k))] [] 5 := by
  intro n
  induction n with
  | zero =>
    intro k rov hme  hx
    refine gz_iload_n C 3 dX3_putIn_5 rfl ?_
    refine gz_iload_n C 1 dX3_putIn_6 rfl ?_
    refine gz_ncmp_le C 30 (by omega) (by omega) dX3_putIn_7 (by decide) (fun h_1 => ?_) (fun h_1 => ?_)
    · skip
      exact gz_lv [0, 1, 2, 3] rfl (hx hme )
    · have g_1 : ¬ (k ≤ pl) := (Nat.not_le.mpr h_1)
      exfalso; omega
  | succ n ih =>
    intro k rov hme  hx
    refine gz_iload_n C 3 dX3_putIn_5 rfl ?_
    refine gz_iload_n C 1 dX3_putIn_6 rfl ?_
    refine gz_ncmp_le C 30 (by omega) (by omega) dX3_putIn_7 (by decide) (fun h_1 => ?_) (fun h_1 => ?_)
    · skip
      exfalso; omega
    · have g_1 : ¬ (k ≤ pl) := (Nat.not_le.mpr h_1)
      refine gz_aload_n C 0 dX3_putIn_10 rfl ?_
      refine gz_get (ci := 4) C iwX3 0 rfl rfl 19 (by decide) wk_399 rfl rfl dX3_putIn_11 ?_
      refine gz_iload_n C 3 dX3_putIn_14 rfl ?_
      refine gz_aload_n C 0 dX3_putIn_15 rfl ?_
      refine gz_get (ci := 4) C iwX3 0 rfl rfl 19 (by decide) wk_399 rfl rfl dX3_putIn_16 ?_
      refine gz_iload_n C 3 dX3_putIn_19 rfl ?_
      refine gz_iconst (v := nI 1) C dX3_putIn_20 (by decide) ?_
      refine gz_isub (v := nI (k - 1)) C dX3_putIn_21 (pk_sub (by first | omega | exact Nat.one_le_two_pow)) ?_
      refine gz_iald C 11 0 rfl rfl (by omega) (by decide) dX3_putIn_22 ?_
      refine gz_iast (ws2 := (wM h ad cI cJ cZ thr sn tkv opv shv ldv lim wyv bdv isr rn rdv fz icv exa fr fev eav rs (va_up rov k (rov (k - 1))))) C 11 0 rfl rfl (by omega) (by decide) rfl dX3_putIn_23 ?_
      refine gz_iinc (v := nI (k - 1)) (lv2 := [(3, .int (nI (k - 1))), (0, .ref h), (1, .int (nI pl)), (2, .int (nI x))]) (k := 3) C dX3_putIn_24 rfl (sb_m1 (by omega)) (by decide) rfl ?_
      refine gz_goto C 5 dX3_putIn_27 (by decide) ?_
      refine gz_lv [1, 2, 3, 0] rfl ?_
      simp only [f3_putIn_lp, if_neg g_1] at hx
      exact ih (k - 1) (va_up rov k (rov (k - 1))) (by omega)  hx

def f3_putIn_rs (rs : Nat) : Nat := rs + 1
def f3_putIn_rov (rs : Nat) (rov : Nat → Nat) (pl : Nat) (x : Nat) : Nat → Nat := va_up ((f3_putIn_lp  (rs - pl) rs rov).2) pl x
set_option maxRecDepth 100000 in
set_option maxHeartbeats 4000000 in
theorem kX3_putIn (l : Launch) (D : va_G) (h : Nat) (ad : Nat → Nat) (cI : ClassId) (cJ : ClassId) (cZ : ClassId) (thr : Int32) (sn : Nat) (tkv : Nat → Int64) (opv : Nat → Int64) (shv : Nat → Int64) (ldv : Nat → Int32) (lim : Int32) (wyv : Nat → Int64) (bdv : Nat → Bool) (isr : Bool) (rn : Nat) (rdv : Nat → Nat) (fz : Nat) (icv : Nat → Nat) (exa : Bool) (fr : Nat) (fev : Nat → Nat) (eav : Nat → Int64) (rs : Nat) (rov : Nat → Nat) (pl : Nat) (x : Nat) (hrs : rs ≤ 20) (hpl : pl ≤ rs) : gz_M l yX3_putIn cX3_putIn 4 none ({ frames := 0, cells := 0, slots := 0, locals := 0 } : Room) D [(cI, .int), (cJ, .long), (cZ, .boolean)] [.ref h, .int (nI pl), .int (nI x)] (wM h ad cI cJ cZ thr sn tkv opv shv ldv lim wyv bdv isr rn rdv fz icv exa fr fev eav rs rov) (none) (wM h ad cI cJ cZ thr sn tkv opv shv ldv lim wyv bdv isr rn rdv fz icv exa fr fev eav (f3_putIn_rs rs) (f3_putIn_rov rs rov pl x)) 0 0 := by
  refine gz_met l (by decide) (Nat.le_of_ble_eq_true rfl) [(0, .ref h), (1, .int (nI pl)), (2, .int (nI x))] rfl ?_
  intro sz p e s m args below meth c C hr hk hnm
  have C : gz_C p s m args c cX3_putIn 4 RX3 D [(cI, .int), (cJ, .long), (cZ, .boolean)] (va_A (wM h ad cI cJ cZ thr sn tkv opv shv ldv lim wyv bdv isr rn rdv fz icv exa fr fev eav rs rov) sz) := C
  refine gz_aload_n C 0 dX3_putIn_0 rfl ?_
  refine gz_get (ci := 4) C iwX3 0 rfl rfl 18 (by decide) wk_398 rfl rfl dX3_putIn_1 ?_
  refine gz_istore_n (lv2 := [(3, .int (nI rs)), (0, .ref h), (1, .int (nI pl)), (2, .int (nI x))]) C dX3_putIn_4 (by decide) rfl ?_
  refine gz_lv (lv2 := [(0, .ref h), (1, .int (nI pl)), (2, .int (nI x)), (3, .int (nI rs))]) [1, 2, 3, 0] rfl ?_
  refine lX3_putIn_lp h ad cI cJ cZ thr sn tkv opv shv ldv lim wyv bdv isr rn rdv fz icv exa fr fev eav rs pl x  C (rs - pl) rs rov (by omega)  ?_
  intro zme_lp
  refine gz_aload_n C 0 dX3_putIn_30 rfl ?_
  refine gz_get (ci := 4) C iwX3 0 rfl rfl 19 (by decide) wk_399 rfl rfl dX3_putIn_31 ?_
  refine gz_iload_n C 1 dX3_putIn_34 rfl ?_
  refine gz_iload_n C 2 dX3_putIn_35 rfl ?_
  refine gz_iast (ws2 := (wM h ad cI cJ cZ thr sn tkv opv shv ldv lim wyv bdv isr rn rdv fz icv exa fr fev eav rs (va_up ((f3_putIn_lp  (rs - pl) rs rov).2) pl x))) C 11 0 rfl rfl (by omega) (by decide) rfl dX3_putIn_36 ?_
  refine gz_aload_n C 0 dX3_putIn_37 rfl ?_
  refine gz_dup C dX3_putIn_38 rfl ?_
  refine gz_get (ci := 4) C iwX3 0 rfl rfl 18 (by decide) wk_398 rfl rfl dX3_putIn_39 ?_
  refine gz_iconst (v := nI 1) C dX3_putIn_42 (by decide) ?_
  refine gz_iadd (v := nI (rs + 1)) C dX3_putIn_43 (nI_add _ _) ?_
  refine gz_put (ci := 4) (ws2 := (wM h ad cI cJ cZ thr sn tkv opv shv ldv lim wyv bdv isr rn rdv fz icv exa fr fev eav (rs + 1) (va_up ((f3_putIn_lp  (rs - pl) rs rov).2) pl x))) C iwX3 0 rfl rfl 18 (by decide) wk_398 rfl tyX3 tyX3_ok nmX3 rfl rfl rfl rfl (Nat.le_of_ble_eq_true rfl) rfl dX3_putIn_44 ?_
  exact gz_vret C hr hk (by first | rfl | (simp only [f3_putIn_rs, f3_putIn_rov]) | (simp only [f3_putIn_rs, f3_putIn_rov]; rfl)) (by first | rfl | (simp only [f3_putIn_rs, f3_putIn_rov]) | (simp only [f3_putIn_rs, f3_putIn_rov]; rfl)) (Nat.le_refl _) (Nat.le_refl _) dX3_putIn_47

def f3_takeOut_lp  : Nat → Nat → (Nat → Nat) → Nat × (Nat → Nat)
  | 0, k, rov => (k, rov)
  | n + 1, k, rov => f3_takeOut_lp  n (k + 1) (va_up rov k (rov (k + 1)))
set_option maxRecDepth 100000 in
set_option maxHeartbeats 4000000 in
theorem lX3_takeOut_lp {p : Program} {l : Launch} {e : Env} {R : Room} {s : State} {m : MethodId} {args : Array Value} {below : List Frame} {meth : Method} {c : Code} {cells slots : Nat} {Q : State → Prop} {A : Nat → Prop} {D : va_G} (h : Nat) (ad : Nat → Nat) (cI : ClassId) (cJ : ClassId) (cZ : ClassId) (thr : Int32) (sn : Nat) (tkv : Nat → Int64) (opv : Nat → Int64) (shv : Nat → Int64) (ldv : Nat → Int32) (lim : Int32) (wyv : Nat → Int64) (bdv : Nat → Bool) (isr : Bool) (rn : Nat) (rdv : Nat → Nat) (fz : Nat) (icv : Nat → Nat) (exa : Bool) (fr : Nat) (fev : Nat → Nat) (eav : Nat → Int64) (rs : Nat)  (C : gz_C p s m args c cX3_takeOut 3 RX3 D [(cI, .int), (cJ, .long), (cZ, .boolean)] A) : ∀ (n : Nat) (k : Nat) (rov : Nat → Nat), (k + n = rs ∧ rs ≤ 20) → ((((f3_takeOut_lp  n k rov).1) + 0 = rs ∧ rs ≤ 20) → GZ p l e R s m args below meth c 3 D A cells slots Q (wM h ad cI cJ cZ thr sn tkv opv shv ldv lim wyv bdv isr rn rdv fz icv exa fr fev eav rs ((f3_takeOut_lp  n k rov).2)) [(0, .ref h), (2, .int (nI ((f3_takeOut_lp  n k rov).1)))] [] 40) → GZ p l e R s m args below meth c 3 D A cells slots Q (wM h ad cI cJ cZ thr sn tkv opv shv ldv lim wyv bdv isr rn rdv fz icv exa fr fev eav rs rov) [(0, .ref h), (2, .int (nI k))] [] 12 := by
  intro n
  induction n with
  | zero =>
    intro k rov hme  hx
    refine gz_iload_n C 1 dX3_takeOut_12 rfl ?_
    refine gz_aload_n C 0 dX3_takeOut_13 rfl ?_
    refine gz_get (ci := 4) C iwX3 0 rfl rfl 18 (by decide) wk_398 rfl rfl dX3_takeOut_14 ?_
    refine gz_ncmp_ge C 40 (by omega) (by omega) dX3_takeOut_17 (by decide) (fun h_1 => ?_) (fun h_1 => ?_)
    · skip
      exact gz_lv [0, 1] rfl (hx hme )
    · have g_1 : ¬ (rs ≤ k) := (Nat.not_le.mpr h_1)
      exfalso; omega
  | succ n ih =>
    intro k rov hme  hx
    refine gz_iload_n C 1 dX3_takeOut_12 rfl ?_
    refine gz_aload_n C 0 dX3_takeOut_13 rfl ?_
    refine gz_get (ci := 4) C iwX3 0 rfl rfl 18 (by decide) wk_398 rfl rfl dX3_takeOut_14 ?_
    refine gz_ncmp_ge C 40 (by omega) (by omega) dX3_takeOut_17 (by decide) (fun h_1 => ?_) (fun h_1 => ?_)
    · skip
      exfalso; omega
    · have g_1 : ¬ (rs ≤ k) := (Nat.not_le.mpr h_1)
      refine gz_aload_n C 0 dX3_takeOut_20 rfl ?_
      refine gz_get (ci := 4) C iwX3 0 rfl rfl 19 (by decide) wk_399 rfl rfl dX3_takeOut_21 ?_
      refine gz_iload_n C 1 dX3_takeOut_24 rfl ?_
      refine gz_aload_n C 0 dX3_takeOut_25 rfl ?_
      refine gz_get (ci := 4) C iwX3 0 rfl rfl 19 (by decide) wk_399 rfl rfl dX3_takeOut_26 ?_
      refine gz_iload_n C 1 dX3_takeOut_29 rfl ?_
      refine gz_iconst (v := nI 1) C dX3_takeOut_30 (by decide) ?_
      refine gz_iadd (v := nI (k + 1)) C dX3_takeOut_31 (nI_add _ _) ?_
      refine gz_iald C 11 0 rfl rfl (by omega) (by decide) dX3_takeOut_32 ?_
      refine gz_iast (ws2 := (wM h ad cI cJ cZ thr sn tkv opv shv ldv lim wyv bdv isr rn rdv fz icv exa fr fev eav rs (va_up rov k (rov (k + 1))))) C 11 0 rfl rfl (by omega) (by decide) rfl dX3_takeOut_33 ?_
      refine gz_iinc (v := nI (k + 1)) (lv2 := [(2, .int (nI (k + 1))), (0, .ref h)]) (k := 1) C dX3_takeOut_34 rfl (nI_add _ 1) (by decide) rfl ?_
      refine gz_goto C 12 dX3_takeOut_37 (by decide) ?_
      refine gz_lv [1, 0] rfl ?_
      simp only [f3_takeOut_lp, if_neg g_1] at hx
      exact ih (k + 1) (va_up rov k (rov (k + 1))) (by omega)  hx

def f3_takeOut_rs (rs : Nat) : Nat := rs - 1
def f3_takeOut_rov (rs : Nat) (rov : Nat → Nat) (pl : Nat) : Nat → Nat := (f3_takeOut_lp  ((rs - 1) - pl) pl rov).2
set_option maxRecDepth 100000 in
set_option maxHeartbeats 4000000 in
theorem kX3_takeOut (l : Launch) (D : va_G) (h : Nat) (ad : Nat → Nat) (cI : ClassId) (cJ : ClassId) (cZ : ClassId) (thr : Int32) (sn : Nat) (tkv : Nat → Int64) (opv : Nat → Int64) (shv : Nat → Int64) (ldv : Nat → Int32) (lim : Int32) (wyv : Nat → Int64) (bdv : Nat → Bool) (isr : Bool) (rn : Nat) (rdv : Nat → Nat) (fz : Nat) (icv : Nat → Nat) (exa : Bool) (fr : Nat) (fev : Nat → Nat) (eav : Nat → Int64) (rs : Nat) (rov : Nat → Nat) (pl : Nat) (hrs : rs ≤ 21) (hpl : pl < rs) : gz_M l yX3_takeOut cX3_takeOut 3 none ({ frames := 0, cells := 0, slots := 0, locals := 0 } : Room) D [(cI, .int), (cJ, .long), (cZ, .boolean)] [.ref h, .int (nI pl)] (wM h ad cI cJ cZ thr sn tkv opv shv ldv lim wyv bdv isr rn rdv fz icv exa fr fev eav rs rov) (none) (wM h ad cI cJ cZ thr sn tkv opv shv ldv lim wyv bdv isr rn rdv fz icv exa fr fev eav (f3_takeOut_rs rs) (f3_takeOut_rov rs rov pl)) 0 0 := by
  refine gz_met l (by decide) (Nat.le_of_ble_eq_true rfl) [(0, .ref h), (1, .int (nI pl))] rfl ?_
  intro sz p e s m args below meth c C hr hk hnm
  have C : gz_C p s m args c cX3_takeOut 3 RX3 D [(cI, .int), (cJ, .long), (cZ, .boolean)] (va_A (wM h ad cI cJ cZ thr sn tkv opv shv ldv lim wyv bdv isr rn rdv fz icv exa fr fev eav rs rov) sz) := C
  refine gz_aload_n C 0 dX3_takeOut_0 rfl ?_
  refine gz_dup C dX3_takeOut_1 rfl ?_
  refine gz_get (ci := 4) C iwX3 0 rfl rfl 18 (by decide) wk_398 rfl rfl dX3_takeOut_2 ?_
  refine gz_iconst (v := nI 1) C dX3_takeOut_5 (by decide) ?_
  refine gz_isub (v := nI (rs - 1)) C dX3_takeOut_6 (pk_sub (by first | omega | exact Nat.one_le_two_pow)) ?_
  refine gz_put (ci := 4) (ws2 := (wM h ad cI cJ cZ thr sn tkv opv shv ldv lim wyv bdv isr rn rdv fz icv exa fr fev eav (rs - 1) rov)) C iwX3 0 rfl rfl 18 (by decide) wk_398 rfl tyX3 tyX3_ok nmX3 rfl rfl rfl rfl (Nat.le_of_ble_eq_true rfl) rfl dX3_takeOut_7 ?_
  refine gz_iload_n C 1 dX3_takeOut_10 rfl ?_
  refine gz_istore_n (lv2 := [(2, .int (nI pl)), (0, .ref h), (1, .int (nI pl))]) C dX3_takeOut_11 (by decide) rfl ?_
  refine gz_lv (lv2 := [(0, .ref h), (2, .int (nI pl))]) [1, 0] rfl ?_
  refine lX3_takeOut_lp h ad cI cJ cZ thr sn tkv opv shv ldv lim wyv bdv isr rn rdv fz icv exa fr fev eav (rs - 1)  C ((rs - 1) - pl) pl rov (by omega)  ?_
  intro zme_lp
  exact gz_vret C hr hk (by first | rfl | (simp only [f3_takeOut_rs, f3_takeOut_rov]) | (simp only [f3_takeOut_rs, f3_takeOut_rov]; rfl)) (by first | rfl | (simp only [f3_takeOut_rs, f3_takeOut_rov]) | (simp only [f3_takeOut_rs, f3_takeOut_rov]; rfl)) (Nat.le_refl _) (Nat.le_refl _) dX3_takeOut_40

def f3_turn_rov (rov : Nat → Nat) (i : Nat) (j : Nat) : Nat → Nat := va_up (va_up rov i (rov j)) j (rov i)
set_option maxRecDepth 100000 in
set_option maxHeartbeats 4000000 in
theorem kX3_turn (l : Launch) (D : va_G) (h : Nat) (ad : Nat → Nat) (cI : ClassId) (cJ : ClassId) (cZ : ClassId) (thr : Int32) (sn : Nat) (tkv : Nat → Int64) (opv : Nat → Int64) (shv : Nat → Int64) (ldv : Nat → Int32) (lim : Int32) (wyv : Nat → Int64) (bdv : Nat → Bool) (isr : Bool) (rn : Nat) (rdv : Nat → Nat) (fz : Nat) (icv : Nat → Nat) (exa : Bool) (fr : Nat) (fev : Nat → Nat) (eav : Nat → Int64) (rs : Nat) (rov : Nat → Nat) (i : Nat) (j : Nat) (hi : i < 21) (hj : j < 21) : gz_M l yX3_turn cX3_turn 4 none ({ frames := 0, cells := 0, slots := 0, locals := 0 } : Room) D [(cI, .int), (cJ, .long), (cZ, .boolean)] [.ref h, .int (nI i), .int (nI j)] (wM h ad cI cJ cZ thr sn tkv opv shv ldv lim wyv bdv isr rn rdv fz icv exa fr fev eav rs rov) (none) (wM h ad cI cJ cZ thr sn tkv opv shv ldv lim wyv bdv isr rn rdv fz icv exa fr fev eav rs (f3_turn_rov rov i j)) 0 0 := by
  refine gz_met l (by decide) (Nat.le_of_ble_eq_true rfl) [(0, .ref h), (1, .int (nI i)), (2, .int (nI j))] rfl ?_
  intro sz p e s m args below meth c C hr hk hnm
  have C : gz_C p s m args c cX3_turn 4 RX3 D [(cI, .int), (cJ, .long), (cZ, .boolean)] (va_A (wM h ad cI cJ cZ thr sn tkv opv shv ldv lim wyv bdv isr rn rdv fz icv exa fr fev eav rs rov) sz) := C
  refine gz_aload_n C 0 dX3_turn_0 rfl ?_
  refine gz_get (ci := 4) C iwX3 0 rfl rfl 19 (by decide) wk_399 rfl rfl dX3_turn_1 ?_
  refine gz_iload_n C 1 dX3_turn_4 rfl ?_
  refine gz_iald C 11 0 rfl rfl (by omega) (by decide) dX3_turn_5 ?_
  refine gz_istore_n (lv2 := [(3, .int (nI (rov i))), (0, .ref h), (1, .int (nI i)), (2, .int (nI j))]) C dX3_turn_6 (by decide) rfl ?_
  refine gz_aload_n C 1 dX3_turn_7 rfl ?_
  refine gz_get (ci := 4) C iwX3 0 rfl rfl 19 (by decide) wk_399 rfl rfl dX3_turn_8 ?_
  refine gz_iload_n C 2 dX3_turn_11 rfl ?_
  refine gz_aload_n C 1 dX3_turn_12 rfl ?_
  refine gz_get (ci := 4) C iwX3 0 rfl rfl 19 (by decide) wk_399 rfl rfl dX3_turn_13 ?_
  refine gz_iload_n C 3 dX3_turn_16 rfl ?_
  refine gz_iald C 11 0 rfl rfl (by omega) (by decide) dX3_turn_17 ?_
  refine gz_iast (ws2 := (wM h ad cI cJ cZ thr sn tkv opv shv ldv lim wyv bdv isr rn rdv fz icv exa fr fev eav rs (va_up rov i (rov j)))) C 11 0 rfl rfl (by omega) (by decide) rfl dX3_turn_18 ?_
  refine gz_aload_n C 1 dX3_turn_19 rfl ?_
  refine gz_get (ci := 4) C iwX3 0 rfl rfl 19 (by decide) wk_399 rfl rfl dX3_turn_20 ?_
  refine gz_iload_n C 3 dX3_turn_23 rfl ?_
  refine gz_iload_n C 0 dX3_turn_24 rfl ?_
  refine gz_iast (ws2 := (wM h ad cI cJ cZ thr sn tkv opv shv ldv lim wyv bdv isr rn rdv fz icv exa fr fev eav rs (va_up (va_up rov i (rov j)) j (rov i)))) C 11 0 rfl rfl (by omega) (by decide) rfl dX3_turn_25 ?_
  exact gz_vret C hr hk (by first | rfl | (simp only [f3_turn_rov]) | (simp only [f3_turn_rov]; rfl)) (by first | rfl | (simp only [f3_turn_rov]) | (simp only [f3_turn_rov]; rfl)) (Nat.le_refl _) (Nat.le_refl _) dX3_turn_26

theorem q3_up_le {f : Nat → Nat} {B N i v : Nat} (h : ∀ k, k < N → f k ≤ B) (hv : v ≤ B) : ∀ k, k < N → va_up f i v k ≤ B := by
  intro k hk
  by_cases e : k = i
  · subst e; simp [va_up]; exact hv
  · simp [va_up, e]; exact h k hk
theorem q3_turn_le {rov : Nat → Nat} {B rs i j : Nat} (h : ∀ k, k < rs → rov k ≤ B) (hi : i < rs) (hj : j < rs) : ∀ k, k < rs → f3_turn_rov rov i j k ≤ B := by
  unfold f3_turn_rov
  exact q3_up_le (q3_up_le h (h j hj)) (h i hi)
theorem q3_putIn_lp {pl : Nat} : ∀ (n k : Nat) (rov : Nat → Nat), k = pl + n → ∀ j, (f3_putIn_lp n k rov).2 j = if pl < j ∧ j ≤ k then rov (j - 1) else rov j := by
  intro n
  induction n with
  | zero =>
    intro k rov hk j
    have h : ¬ (pl < j ∧ j ≤ k) := by omega
    rw [if_neg h]; rfl
  | succ n ih =>
    intro k rov hk j
    show (f3_putIn_lp n (k - 1) (va_up rov k (rov (k - 1)))).2 j = _
    rw [ih _ _ (by omega)]
    by_cases h1 : pl < j ∧ j ≤ k - 1
    · rw [if_pos h1, if_pos ⟨h1.1, by omega⟩, va_up_ne _ _ (by omega)]
    · rw [if_neg h1]
      by_cases h2 : j = k
      · subst h2
        rw [if_pos ⟨by omega, Nat.le_refl _⟩, va_up_self]
      · rw [if_neg (by omega), va_up_ne _ _ h2]
theorem q3_takeOut_lp : ∀ (n k : Nat) (rov : Nat → Nat), ∀ j, (f3_takeOut_lp n k rov).2 j = if k ≤ j ∧ j < k + n then rov (j + 1) else rov j := by
  intro n
  induction n with
  | zero =>
    intro k rov j
    have h : ¬ (k ≤ j ∧ j < k + 0) := by omega
    rw [if_neg h]; rfl
  | succ n ih =>
    intro k rov j
    show (f3_takeOut_lp n (k + 1) (va_up rov k (rov (k + 1)))).2 j = _
    rw [ih]
    by_cases h1 : k + 1 ≤ j ∧ j < k + 1 + n
    · rw [if_pos h1, if_pos (by omega), va_up_ne _ _ (by omega)]
    · rw [if_neg h1]
      by_cases h2 : j = k
      · subst h2
        rw [if_pos (by omega), va_up_self]
      · rw [if_neg (by omega), va_up_ne _ _ h2]
/-- the row with a stop put in; with one taken out -/
theorem q3_putIn {rs pl x : Nat} {rov : Nat → Nat} (h : pl ≤ rs) (j : Nat) : f3_putIn_rov rs rov pl x j = if j = pl then x else if pl < j ∧ j ≤ rs then rov (j - 1) else rov j := by
  unfold f3_putIn_rov
  by_cases e : j = pl
  · subst e; rw [va_up_self, if_pos rfl]
  · rw [va_up_ne _ _ e, if_neg e, q3_putIn_lp (pl := pl) _ _ _ (by omega)]
theorem q3_takeOut {rs pl : Nat} {rov : Nat → Nat} (h : pl < rs) (j : Nat) : f3_takeOut_rov rs rov pl j = if pl ≤ j ∧ j < rs - 1 then rov (j + 1) else rov j := by
  unfold f3_takeOut_rov
  rw [q3_takeOut_lp]
  have : pl + (rs - 1 - pl) = rs - 1 := by omega
  rw [this]
theorem q3_putIn_le {B rs pl x : Nat} {rov : Nat → Nat} (h : pl ≤ rs) (hx : x ≤ B) (hr : ∀ k, k < rs → rov k ≤ B) : ∀ k, k < rs + 1 → f3_putIn_rov rs rov pl x k ≤ B := by
  intro k hk
  rw [q3_putIn h]
  by_cases e : k = pl
  · rw [if_pos e]; exact hx
  · rw [if_neg e]
    by_cases e2 : pl < k ∧ k ≤ rs
    · rw [if_pos e2]; exact hr _ (by omega)
    · rw [if_neg e2]; exact hr _ (by omega)
theorem q3_takeOut_le {B rs pl : Nat} {rov : Nat → Nat} (h : pl < rs) (hr : ∀ k, k < rs → rov k ≤ B) : ∀ k, k < rs - 1 → f3_takeOut_rov rs rov pl k ≤ B := by
  intro k hk
  rw [q3_takeOut h]
  by_cases e : pl ≤ k ∧ k < rs - 1
  · rw [if_pos e]; exact hr _ (by omega)
  · rw [if_neg e]; exact hr _ (by omega)

def f3_better (tkv : Nat → Int64) (opv : Nat → Int64) (shv : Nat → Int64) (wyv : Nat → Int64) (bdv : Nat → Bool) (rs : Nat) (rov : Nat → Nat) (i : Nat) (j : Nat) : Bool := (if (f3_measure tkv opv shv wyv bdv rs rov) ≤ (f3_measure tkv opv shv wyv bdv rs (f3_turn_rov rov i j)) then false else true)
def f3_better_rov (tkv : Nat → Int64) (opv : Nat → Int64) (shv : Nat → Int64) (wyv : Nat → Int64) (bdv : Nat → Bool) (rs : Nat) (rov : Nat → Nat) (i : Nat) (j : Nat) : Nat → Nat := (if ((if (f3_measure tkv opv shv wyv bdv rs rov) ≤ (f3_measure tkv opv shv wyv bdv rs (f3_turn_rov rov i j)) then false else true)) = true then f3_turn_rov rov i j else f3_turn_rov (f3_turn_rov rov i j) i j)
set_option maxRecDepth 100000 in
set_option maxHeartbeats 4000000 in
theorem kX3_better (l : Launch) (D : va_G) (h : Nat) (ad : Nat → Nat) (cI : ClassId) (cJ : ClassId) (cZ : ClassId) (thr : Int32) (sn : Nat) (tkv : Nat → Int64) (opv : Nat → Int64) (shv : Nat → Int64) (ldv : Nat → Int32) (lim : Int32) (wyv : Nat → Int64) (bdv : Nat → Bool) (isr : Bool) (rn : Nat) (rdv : Nat → Nat) (fz : Nat) (icv : Nat → Nat) (exa : Bool) (fr : Nat) (fev : Nat → Nat) (eav : Nat → Int64) (rs : Nat) (rov : Nat → Nat) (i : Nat) (j : Nat) (hrs : rs ≤ 20) (hro : ∀ k, k < rs → rov k ≤ 20) (hi : i < rs) (hj : j < rs) : gz_M l yX3_better cX3_better 6 (some .boolean) ({ frames := 1, cells := 0, slots := 0, locals := 29 } : Room) D [(cI, .int), (cJ, .long), (cZ, .boolean)] [.ref h, .int (nI i), .int (nI j)] (wM h ad cI cJ cZ thr sn tkv opv shv ldv lim wyv bdv isr rn rdv fz icv exa fr fev eav rs rov) (some (.int (bI (f3_better tkv opv shv wyv bdv rs rov i j)))) (wM h ad cI cJ cZ thr sn tkv opv shv ldv lim wyv bdv isr rn rdv fz icv exa fr fev eav rs (f3_better_rov tkv opv shv wyv bdv rs rov i j)) 0 0 := by
  refine gz_met l (by decide) (Nat.le_of_ble_eq_true rfl) [(0, .ref h), (1, .int (nI i)), (2, .int (nI j))] rfl ?_
  intro sz p e s m args below meth c C hr hk hnm
  have C : gz_C p s m args c cX3_better 6 RX3 D [(cI, .int), (cJ, .long), (cZ, .boolean)] (va_A (wM h ad cI cJ cZ thr sn tkv opv shv ldv lim wyv bdv isr rn rdv fz icv exa fr fev eav rs rov) sz) := C
  refine gz_aload_n C 0 dX3_better_0 rfl ?_
  refine gz_callV (wr := []) (n := 0) (ws2 := (wM h ad cI cJ cZ thr sn tkv opv shv ldv lim wyv bdv isr rn rdv fz icv exa fr fev eav rs rov)) (st2 := [.long (f3_measure tkv opv shv wyv bdv rs rov)]) (cells2 := 0) (slots2 := 0) (ci := 4) C (kX3_measure l D h ad cI cJ cZ thr sn tkv opv shv ldv lim wyv bdv isr rn rdv fz icv exa fr fev eav rs rov (by first | assumption | omega) (by first | assumption | omega)) (WB_V wk_506 wk_508 ws_26 wk_4 wk_509) (by decide +kernel) ⟨⟨rfl, rfl⟩, Nat.le_of_ble_eq_true rfl, Nat.le_of_ble_eq_true rfl⟩ [0, 1, 2, 3, 4, 5, 6, 7, 8, 9, 10, 11] [] [0, 1, 2] rfl rfl rfl (by decide) rfl 0 rfl rfl rfl rfl (Nat.le_of_ble_eq_true rfl) dX3_better_1 ⟨Nat.zero_le _, Nat.zero_le _⟩ rfl rfl rfl ?_
  refine gz_lstore_n (lv2 := [(3, .long (f3_measure tkv opv shv wyv bdv rs rov)), (0, .ref h), (1, .int (nI i)), (2, .int (nI j))]) C dX3_better_4 (by decide) rfl ?_
  refine gz_aload_n C 1 dX3_better_5 rfl ?_
  refine gz_iload_n C 2 dX3_better_6 rfl ?_
  refine gz_iload_n C 3 dX3_better_7 rfl ?_
  refine gz_callV (wr := []) (n := 2) (ws2 := (wM h ad cI cJ cZ thr sn tkv opv shv ldv lim wyv bdv isr rn rdv fz icv exa fr fev eav rs (f3_turn_rov rov i j))) (st2 := []) (cells2 := 0) (slots2 := 0) (ci := 4) C (kX3_turn l D h ad cI cJ cZ thr sn tkv opv shv ldv lim wyv bdv isr rn rdv fz icv exa fr fev eav rs rov i j (by first | assumption | omega) (by first | assumption | omega)) (WB_V wk_523 wk_525 ws_30 wk_4 wk_526) (by decide +kernel) ⟨⟨rfl, rfl⟩, Nat.le_of_ble_eq_true rfl, Nat.le_of_ble_eq_true rfl⟩ [0, 1, 2, 3, 4, 5, 6, 7, 8, 9, 10, 11] [] [0, 1, 2] rfl rfl rfl (by decide) rfl 0 rfl rfl rfl rfl (Nat.le_of_ble_eq_true rfl) dX3_better_8 ⟨Nat.zero_le _, Nat.zero_le _⟩ rfl rfl rfl ?_
  refine gz_aload_n C 1 dX3_better_11 rfl ?_
  refine gz_callV (wr := []) (n := 0) (ws2 := (wM h ad cI cJ cZ thr sn tkv opv shv ldv lim wyv bdv isr rn rdv fz icv exa fr fev eav rs (f3_turn_rov rov i j))) (st2 := [.long (f3_measure tkv opv shv wyv bdv rs (f3_turn_rov rov i j))]) (cells2 := 0) (slots2 := 0) (ci := 4) C (kX3_measure l D h ad cI cJ cZ thr sn tkv opv shv ldv lim wyv bdv isr rn rdv fz icv exa fr fev eav rs (f3_turn_rov rov i j) (by first | assumption | omega) (q3_turn_le hro hi hj)) (WB_V wk_506 wk_508 ws_26 wk_4 wk_509) (by decide +kernel) ⟨⟨rfl, rfl⟩, Nat.le_of_ble_eq_true rfl, Nat.le_of_ble_eq_true rfl⟩ [0, 1, 2, 3, 4, 5, 6, 7, 8, 9, 10, 11] [] [0, 1, 2] rfl rfl rfl (by decide) rfl 0 rfl rfl rfl rfl (Nat.le_of_ble_eq_true rfl) dX3_better_12 ⟨Nat.zero_le _, Nat.zero_le _⟩ rfl rfl rfl ?_
  refine gz_lload_n C 0 dX3_better_15 rfl ?_
  refine gz_J (ws2 := (wM h ad cI cJ cZ thr sn tkv opv shv ldv lim wyv bdv isr rn rdv fz icv exa fr fev eav rs (f3_turn_rov rov i j))) (lv2 := [(3, .long (f3_measure tkv opv shv wyv bdv rs rov)), (0, .ref h), (1, .int (nI i)), (2, .int (nI j))]) (st2 := [.int (nI ((if (f3_measure tkv opv shv wyv bdv rs rov) ≤ (f3_measure tkv opv shv wyv bdv rs (f3_turn_rov rov i j)) then 0 else 1)))]) (pc2 := 25) ?_ (fun J_1 => ?_)
  rotate_left
  · refine gz_lcmp_ge C 24 dX3_better_16 dX3_better_17 (by decide) (fun h_1 => ?_) (fun h_1 => ?_)
    · skip
      refine gz_iconst (v := nI 0) C dX3_better_24 (by decide) ?_
      simp only [if_pos h_1] at J_1 ⊢
      exact gz_lv [0, 1, 2, 3] rfl J_1
    · have g_1 : ¬ ((f3_measure tkv opv shv wyv bdv rs rov) ≤ (f3_measure tkv opv shv wyv bdv rs (f3_turn_rov rov i j))) := h_1
      refine gz_iconst (v := nI 1) C dX3_better_20 (by decide) ?_
      refine gz_goto C 25 dX3_better_21 (by decide) ?_
      simp only [if_neg g_1] at J_1 ⊢
      exact gz_lv [0, 1, 2, 3] rfl J_1
  refine gz_istore (lv2 := [(5, .int (nI ((if (f3_measure tkv opv shv wyv bdv rs rov) ≤ (f3_measure tkv opv shv wyv bdv rs (f3_turn_rov rov i j)) then 0 else 1)))), (3, .long (f3_measure tkv opv shv wyv bdv rs rov)), (0, .ref h), (1, .int (nI i)), (2, .int (nI j))]) C dX3_better_25 (by decide) rfl ?_
  refine gz_iload C 0 dX3_better_27 rfl ?_
  refine gz_sw (v := .int (nI ((if (f3_measure tkv opv shv wyv bdv rs rov) ≤ (f3_measure tkv opv shv wyv bdv rs (f3_turn_rov rov i j)) then 0 else 1)))) (w := .int (bI ((if (f3_measure tkv opv shv wyv bdv rs rov) ≤ (f3_measure tkv opv shv wyv bdv rs (f3_turn_rov rov i j)) then false else true)))) (by rw [show nI ((if (f3_measure tkv opv shv wyv bdv rs rov) ≤ (f3_measure tkv opv shv wyv bdv rs (f3_turn_rov rov i j)) then 0 else 1)) = bI ((if (f3_measure tkv opv shv wyv bdv rs rov) ≤ (f3_measure tkv opv shv wyv bdv rs (f3_turn_rov rov i j)) then false else true)) from (by first | rfl | decide | ((repeat' split) <;> rfl))]) ?_
  refine gz_J (ws2 := (wM h ad cI cJ cZ thr sn tkv opv shv ldv lim wyv bdv isr rn rdv fz icv exa fr fev eav rs ((if ((if (f3_measure tkv opv shv wyv bdv rs rov) ≤ (f3_measure tkv opv shv wyv bdv rs (f3_turn_rov rov i j)) then false else true)) = true then f3_turn_rov rov i j else f3_turn_rov (f3_turn_rov rov i j) i j)))) (lv2 := [(5, .int (nI ((if (f3_measure tkv opv shv wyv bdv rs rov) ≤ (f3_measure tkv opv shv wyv bdv rs (f3_turn_rov rov i j)) then 0 else 1)))), (3, .long (f3_measure tkv opv shv wyv bdv rs rov)), (0, .ref h), (1, .int (nI i)), (2, .int (nI j))]) (st2 := []) (pc2 := 38) ?_ (fun J_2 => ?_)
  rotate_left
  · refine gz_bif_ne C 38 dX3_better_29 (by decide) (fun h_2 => ?_) (fun h_2 => ?_)
    · skip
      simp only [if_pos h_2] at J_2 ⊢
      exact gz_lv [0, 1, 2, 3, 4] rfl J_2
    · have g_2 : ¬ (((if (f3_measure tkv opv shv wyv bdv rs rov) ≤ (f3_measure tkv opv shv wyv bdv rs (f3_turn_rov rov i j)) then false else true)) = true) := (by rw [h_2]; decide)
      refine gz_aload_n C 2 dX3_better_32 rfl ?_
      refine gz_iload_n C 3 dX3_better_33 rfl ?_
      refine gz_iload_n C 4 dX3_better_34 rfl ?_
      refine gz_callV (wr := []) (n := 2) (ws2 := (wM h ad cI cJ cZ thr sn tkv opv shv ldv lim wyv bdv isr rn rdv fz icv exa fr fev eav rs (f3_turn_rov (f3_turn_rov rov i j) i j))) (st2 := []) (cells2 := 0) (slots2 := 0) (ci := 4) C (kX3_turn l D h ad cI cJ cZ thr sn tkv opv shv ldv lim wyv bdv isr rn rdv fz icv exa fr fev eav rs (f3_turn_rov rov i j) i j (by first | assumption | omega) (by first | assumption | omega)) (WB_V wk_523 wk_525 ws_30 wk_4 wk_526) (by decide +kernel) ⟨⟨rfl, rfl⟩, Nat.le_of_ble_eq_true rfl, Nat.le_of_ble_eq_true rfl⟩ [0, 1, 2, 3, 4, 5, 6, 7, 8, 9, 10, 11] [] [0, 1, 2] rfl rfl rfl (by decide) rfl 0 rfl rfl rfl rfl (Nat.le_of_ble_eq_true rfl) dX3_better_35 ⟨Nat.zero_le _, Nat.zero_le _⟩ rfl rfl rfl ?_
      simp only [if_neg g_2] at J_2 ⊢
      exact gz_lv [0, 1, 2, 3, 4] rfl J_2
  refine gz_iload C 0 dX3_better_38 rfl ?_
  refine gz_sw (v := .int (nI ((if (f3_measure tkv opv shv wyv bdv rs rov) ≤ (f3_measure tkv opv shv wyv bdv rs (f3_turn_rov rov i j)) then 0 else 1)))) (w := .int (bI ((if (f3_measure tkv opv shv wyv bdv rs rov) ≤ (f3_measure tkv opv shv wyv bdv rs (f3_turn_rov rov i j)) then false else true)))) (by rw [show nI ((if (f3_measure tkv opv shv wyv bdv rs rov) ≤ (f3_measure tkv opv shv wyv bdv rs (f3_turn_rov rov i j)) then 0 else 1)) = bI ((if (f3_measure tkv opv shv wyv bdv rs rov) ≤ (f3_measure tkv opv shv wyv bdv rs (f3_turn_rov rov i j)) then false else true)) from (by first | rfl | decide | ((repeat' split) <;> rfl))]) ?_
  exact gz_zret C hr hk (bI_nar _) (by first | rfl | (simp only [f3_better, f3_better_rov]) | (simp only [f3_better, f3_better_rov]; rfl)) (by first | rfl | (simp only [f3_better, f3_better_rov]) | (simp only [f3_better, f3_better_rov]; rfl)) (Nat.le_refl _) (Nat.le_refl _) dX3_better_40

