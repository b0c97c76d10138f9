def f3_keep_lp (rov : Nat → Nat) : Nat → Nat → (Nat → Nat) → Nat × (Nat → Nat)
  | 0, k, rdv => (k, rdv)
  | n + 1, k, rdv => f3_keep_lp rov n (k + 1) (va_up rdv k (rov k))
set_option maxRecDepth 100000 in
set_option maxHeartbeats 4000000 in
theorem lX3_keep_lp {p : Program} {l : Launch} {e : Env} {R : Room} {s : State} {m : MethodId} {args : Array Value} {below : List Frame} {meth : Method} {c : Code} {cells slots : Nat} {Q : State → Prop} {A : Nat → Prop} {D : va_G} (h : Nat) (ad : Nat → Nat) (cI : ClassId) (cJ : ClassId) (cZ : ClassId) (thr : Int32) (sn : Nat) (tkv : Nat → Int64) (opv : Nat → Int64) (shv : Nat → Int64) (ldv : Nat → Int32) (lim : Int32) (wyv : Nat → Int64) (bdv : Nat → Bool) (isr : Bool) (rn : Nat) (fz : Nat) (icv : Nat → Nat) (exa : Bool) (fr : Nat) (fev : Nat → Nat) (eav : Nat → Int64) (rs : Nat) (rov : Nat → Nat) (hrs : rs ≤ 20) (C : gz_C p s m args c cX3_keep 2 RX3 D [(cI, .int), (cJ, .long), (cZ, .boolean)] A) : ∀ (n : Nat) (k : Nat) (rdv : Nat → Nat), (k + n = rs) → ((((f3_keep_lp rov n k rdv).1) + 0 = rs) → GZ p l e R s m args below meth c 2 D A cells slots Q (wM h ad cI cJ cZ thr sn tkv opv shv ldv lim wyv bdv isr rn ((f3_keep_lp rov n k rdv).2) fz icv exa fr fev eav rs rov) [(0, .ref h), (1, .int (nI ((f3_keep_lp rov n k rdv).1)))] [] 41) → GZ p l e R s m args below meth c 2 D A cells slots Q (wM h ad cI cJ cZ thr sn tkv opv shv ldv lim wyv bdv isr rn rdv fz icv exa fr fev eav rs rov) [(0, .ref h), (1, .int (nI k))] [] 15 := by
  intro n
  induction n with
  | zero =>
    intro k rdv hme  hx
    refine gz_iload_n C 1 dX3_keep_15 rfl ?_
    refine gz_aload_n C 0 dX3_keep_16 rfl ?_
    refine gz_get (ci := 4) C iwX3 0 rfl rfl 18 (by decide) wk_398 rfl rfl dX3_keep_17 ?_
    refine gz_ncmp_ge C 41 (by omega) (by omega) dX3_keep_20 (by decide) (fun h_1 => ?_) (fun h_1 => ?_)
    · skip
      exact gz_lv [0, 1] rfl (hx hme )
    · have g_1 : ¬ (rs ≤ k) := (Nat.not_le.mpr h_1)
      exfalso; omega
  | succ n ih =>
    intro k rdv hme  hx
    refine gz_iload_n C 1 dX3_keep_15 rfl ?_
    refine gz_aload_n C 0 dX3_keep_16 rfl ?_
    refine gz_get (ci := 4) C iwX3 0 rfl rfl 18 (by decide) wk_398 rfl rfl dX3_keep_17 ?_
    refine gz_ncmp_ge C 41 (by omega) (by omega) dX3_keep_20 (by decide) (fun h_1 => ?_) (fun h_1 => ?_)
    · skip
      exfalso; omega
    · have g_1 : ¬ (rs ≤ k) := (Nat.not_le.mpr h_1)
      refine gz_aload_n C 0 dX3_keep_23 rfl ?_
      refine gz_get (ci := 4) C iwX3 0 rfl rfl 11 (by decide) wk_391 rfl rfl dX3_keep_24 ?_
      refine gz_iload_n C 1 dX3_keep_27 rfl ?_
      refine gz_aload_n C 0 dX3_keep_28 rfl ?_
      refine gz_get (ci := 4) C iwX3 0 rfl rfl 19 (by decide) wk_399 rfl rfl dX3_keep_29 ?_
      refine gz_iload_n C 1 dX3_keep_32 rfl ?_
      refine gz_iald C 11 0 rfl rfl (by omega) (by decide) dX3_keep_33 ?_
      refine gz_iast (ws2 := (wM h ad cI cJ cZ thr sn tkv opv shv ldv lim wyv bdv isr rn (va_up rdv k (rov k)) fz icv exa fr fev eav rs rov)) C 7 0 rfl rfl (by omega) (by decide) rfl dX3_keep_34 ?_
      refine gz_iinc (v := nI (k + 1)) (lv2 := [(1, .int (nI (k + 1))), (0, .ref h)]) (k := 1) C dX3_keep_35 rfl (nI_add _ 1) (by decide) rfl ?_
      refine gz_goto C 15 dX3_keep_38 (by decide) ?_
      refine gz_lv [1, 0] rfl ?_
      simp only [f3_keep_lp, if_neg g_1] at hx
      exact ih (k + 1) (va_up rdv k (rov k)) (by omega)  hx

def f3_keep_isr  : Bool := true
def f3_keep_rn (rs : Nat) : Nat := rs
def f3_keep_rdv (rdv : Nat → Nat) (rs : Nat) (rov : Nat → Nat) : Nat → Nat := (f3_keep_lp rov rs 0 rdv).2
set_option maxRecDepth 100000 in
set_option maxHeartbeats 4000000 in
theorem kX3_keep (l : Launch) (D : va_G) (h : Nat) (ad : Nat → Nat) (cI : ClassId) (cJ : ClassId) (cZ : ClassId) (thr : Int32) (sn : Nat) (tkv : Nat → Int64) (opv : Nat → Int64) (shv : Nat → Int64) (ldv : Nat → Int32) (lim : Int32) (wyv : Nat → Int64) (bdv : Nat → Bool) (isr : Bool) (rn : Nat) (rdv : Nat → Nat) (fz : Nat) (icv : Nat → Nat) (exa : Bool) (fr : Nat) (fev : Nat → Nat) (eav : Nat → Int64) (rs : Nat) (rov : Nat → Nat) (hrs : rs ≤ 20) : gz_M l yX3_keep cX3_keep 2 none ({ frames := 0, cells := 0, slots := 0, locals := 0 } : Room) D [(cI, .int), (cJ, .long), (cZ, .boolean)] [.ref h] (wM h ad cI cJ cZ thr sn tkv opv shv ldv lim wyv bdv isr rn rdv fz icv exa fr fev eav rs rov) (none) (wM h ad cI cJ cZ thr sn tkv opv shv ldv lim wyv bdv f3_keep_isr (f3_keep_rn rs) (f3_keep_rdv rdv rs rov) fz icv exa fr fev eav rs rov) 0 0 := by
  refine gz_met l (by decide) (Nat.le_of_ble_eq_true rfl) [(0, .ref h)] rfl ?_
  intro sz p e s m args below meth c C hr hk hnm
  have C : gz_C p s m args c cX3_keep 2 RX3 D [(cI, .int), (cJ, .long), (cZ, .boolean)] (va_A (wM h ad cI cJ cZ thr sn tkv opv shv ldv lim wyv bdv isr rn rdv fz icv exa fr fev eav rs rov) sz) := C
  refine gz_aload_n C 0 dX3_keep_0 rfl ?_
  refine gz_iconst (v := nI 1) C dX3_keep_1 (by decide) ?_
  refine gz_sw (v := .int (nI 1)) (w := .int (bI true)) (by rw [show nI 1 = bI true from (by first | rfl | decide | ((repeat' split) <;> rfl))]) ?_
  refine gz_put (ci := 4) (ws2 := (wM h ad cI cJ cZ thr sn tkv opv shv ldv lim wyv bdv true rn rdv fz icv exa fr fev eav rs rov)) C iwX3 0 rfl rfl 9 (by decide) wk_389 rfl tyX3 tyX3_ok nmX3 rfl rfl (bI_nar _) (bI_fit _) (Nat.le_of_ble_eq_true rfl) rfl dX3_keep_2 ?_
  refine gz_aload_n C 0 dX3_keep_5 rfl ?_
  refine gz_aload_n C 0 dX3_keep_6 rfl ?_
  refine gz_get (ci := 4) C iwX3 0 rfl rfl 18 (by decide) wk_398 rfl rfl dX3_keep_7 ?_
  refine gz_put (ci := 4) (ws2 := (wM h ad cI cJ cZ thr sn tkv opv shv ldv lim wyv bdv true rs rdv fz icv exa fr fev eav rs rov)) C iwX3 0 rfl rfl 10 (by decide) wk_390 rfl tyX3 tyX3_ok nmX3 rfl rfl rfl rfl (Nat.le_of_ble_eq_true rfl) rfl dX3_keep_10 ?_
  refine gz_iconst (v := nI 0) C dX3_keep_13 (by decide) ?_
  refine gz_istore_n (lv2 := [(1, .int (nI 0)), (0, .ref h)]) C dX3_keep_14 (by decide) rfl ?_
  refine gz_lv (lv2 := [(0, .ref h), (1, .int (nI 0))]) [1, 0] rfl ?_
  refine lX3_keep_lp h ad cI cJ cZ thr sn tkv opv shv ldv lim wyv bdv true rs fz icv exa fr fev eav rs rov (by first | assumption | omega) C rs 0 rdv (by omega)  ?_
  intro zme_lp
  exact gz_vret C hr hk (by first | rfl | (simp only [f3_keep_isr, f3_keep_rn, f3_keep_rdv]) | (simp only [f3_keep_isr, f3_keep_rn, f3_keep_rdv]; rfl)) (by first | rfl | (simp only [f3_keep_isr, f3_keep_rn, f3_keep_rdv]) | (simp only [f3_keep_isr, f3_keep_rn, f3_keep_rdv]; rfl)) (Nat.le_refl _) (Nat.le_refl _) dX3_keep_41

def f3_fetch_lp (rdv : Nat → Nat) : Nat → Nat → (Nat → Nat) → Nat × (Nat → Nat)
  | 0, k, rov => (k, rov)
  | n + 1, k, rov => f3_fetch_lp rdv n (k + 1) (va_up rov k (rdv k))
set_option maxRecDepth 100000 in
set_option maxHeartbeats 4000000 in
theorem lX3_fetch_lp {p : Program} {l : Launch} {e : Env} {R : Room} {s : State} {m : MethodId} {args : Array Value} {below : List Frame} {meth : Method} {c : Code} {cells slots : Nat} {Q : State → Prop} {A : Nat → Prop} {D : va_G} (h : Nat) (ad : Nat → Nat) (cI : ClassId) (cJ : ClassId) (cZ : ClassId) (thr : Int32) (sn : Nat) (tkv : Nat → Int64) (opv : Nat → Int64) (shv : Nat → Int64) (ldv : Nat → Int32) (lim : Int32) (wyv : Nat → Int64) (bdv : Nat → Bool) (isr : Bool) (rn : Nat) (rdv : Nat → Nat) (fz : Nat) (icv : Nat → Nat) (exa : Bool) (fr : Nat) (fev : Nat → Nat) (eav : Nat → Int64) (rs : Nat) (hrn : rn ≤ 20) (C : gz_C p s m args c cX3_fetch 2 RX3 D [(cI, .int), (cJ, .long), (cZ, .boolean)] A) : ∀ (n : Nat) (k : Nat) (rov : Nat → Nat), (k + n = rn) → ((((f3_fetch_lp rdv n k rov).1) + 0 = rn) → GZ p l e R s m args below meth c 2 D A cells slots Q (wM h ad cI cJ cZ thr sn tkv opv shv ldv lim wyv bdv isr rn rdv fz icv exa fr fev eav rs ((f3_fetch_lp rdv n k rov).2)) [(0, .ref h), (1, .int (nI ((f3_fetch_lp rdv n k rov).1)))] [] 36) → GZ p l e R s m args below meth c 2 D A cells slots Q (wM h ad cI cJ cZ thr sn tkv opv shv ldv lim wyv bdv isr rn rdv fz icv exa fr fev eav rs rov) [(0, .ref h), (1, .int (nI k))] [] 10 := by
  intro n
  induction n with
  | zero =>
    intro k rov hme  hx
    refine gz_iload_n C 1 dX3_fetch_10 rfl ?_
    refine gz_aload_n C 0 dX3_fetch_11 rfl ?_
    refine gz_get (ci := 4) C iwX3 0 rfl rfl 10 (by decide) wk_390 rfl rfl dX3_fetch_12 ?_
    refine gz_ncmp_ge C 36 (by omega) (by omega) dX3_fetch_15 (by decide) (fun h_1 => ?_) (fun h_1 => ?_)
    · skip
      exact gz_lv [0, 1] rfl (hx hme )
    · have g_1 : ¬ (rn ≤ k) := (Nat.not_le.mpr h_1)
      exfalso; omega
  | succ n ih =>
    intro k rov hme  hx
    refine gz_iload_n C 1 dX3_fetch_10 rfl ?_
    refine gz_aload_n C 0 dX3_fetch_11 rfl ?_
    refine gz_get (ci := 4) C iwX3 0 rfl rfl 10 (by decide) wk_390 rfl rfl dX3_fetch_12 ?_
    refine gz_ncmp_ge C 36 (by omega) (by omega) dX3_fetch_15 (by decide) (fun h_1 => ?_) (fun h_1 => ?_)
    · skip
      exfalso; omega
    · have g_1 : ¬ (rn ≤ k) := (Nat.not_le.mpr h_1)
      refine gz_aload_n C 0 dX3_fetch_18 rfl ?_
      refine gz_get (ci := 4) C iwX3 0 rfl rfl 19 (by decide) wk_399 rfl rfl dX3_fetch_19 ?_
      refine gz_iload_n C 1 dX3_fetch_22 rfl ?_
      refine gz_aload_n C 0 dX3_fetch_23 rfl ?_
      refine gz_get (ci := 4) C iwX3 0 rfl rfl 11 (by decide) wk_391 rfl rfl dX3_fetch_24 ?_
      refine gz_iload_n C 1 dX3_fetch_27 rfl ?_
      refine gz_iald C 7 0 rfl rfl (by omega) (by decide) dX3_fetch_28 ?_
      refine gz_iast (ws2 := (wM h ad cI cJ cZ thr sn tkv opv shv ldv lim wyv bdv isr rn rdv fz icv exa fr fev eav rs (va_up rov k (rdv k)))) C 11 0 rfl rfl (by omega) (by decide) rfl dX3_fetch_29 ?_
      refine gz_iinc (v := nI (k + 1)) (lv2 := [(1, .int (nI (k + 1))), (0, .ref h)]) (k := 1) C dX3_fetch_30 rfl (nI_add _ 1) (by decide) rfl ?_
      refine gz_goto C 10 dX3_fetch_33 (by decide) ?_
      refine gz_lv [1, 0] rfl ?_
      simp only [f3_fetch_lp, if_neg g_1] at hx
      exact ih (k + 1) (va_up rov k (rdv k)) (by omega)  hx

def f3_fetch_rs (rn : Nat) : Nat := rn
def f3_fetch_rov (rn : Nat) (rdv : Nat → Nat) (rov : Nat → Nat) : Nat → Nat := (f3_fetch_lp rdv rn 0 rov).2
set_option maxRecDepth 100000 in
set_option maxHeartbeats 4000000 in
theorem kX3_fetch (l : Launch) (D : va_G) (h : Nat) (ad : Nat → Nat) (cI : ClassId) (cJ : ClassId) (cZ : ClassId) (thr : Int32) (sn : Nat) (tkv : Nat → Int64) (opv : Nat → Int64) (shv : Nat → Int64) (ldv : Nat → Int32) (lim : Int32) (wyv : Nat → Int64) (bdv : Nat → Bool) (isr : Bool) (rn : Nat) (rdv : Nat → Nat) (fz : Nat) (icv : Nat → Nat) (exa : Bool) (fr : Nat) (fev : Nat → Nat) (eav : Nat → Int64) (rs : Nat) (rov : Nat → Nat) (hrn : rn ≤ 20) : gz_M l yX3_fetch cX3_fetch 2 none ({ frames := 0, cells := 0, slots := 0, locals := 0 } : Room) D [(cI, .int), (cJ, .long), (cZ, .boolean)] [.ref h] (wM h ad cI cJ cZ thr sn tkv opv shv ldv lim wyv bdv isr rn rdv fz icv exa fr fev eav rs rov) (none) (wM h ad cI cJ cZ thr sn tkv opv shv ldv lim wyv bdv isr rn rdv fz icv exa fr fev eav (f3_fetch_rs rn) (f3_fetch_rov rn rdv rov)) 0 0 := by
  refine gz_met l (by decide) (Nat.le_of_ble_eq_true rfl) [(0, .ref h)] rfl ?_
  intro sz p e s m args below meth c C hr hk hnm
  have C : gz_C p s m args c cX3_fetch 2 RX3 D [(cI, .int), (cJ, .long), (cZ, .boolean)] (va_A (wM h ad cI cJ cZ thr sn tkv opv shv ldv lim wyv bdv isr rn rdv fz icv exa fr fev eav rs rov) sz) := C
  refine gz_aload_n C 0 dX3_fetch_0 rfl ?_
  refine gz_aload_n C 0 dX3_fetch_1 rfl ?_
  refine gz_get (ci := 4) C iwX3 0 rfl rfl 10 (by decide) wk_390 rfl rfl dX3_fetch_2 ?_
  refine gz_put (ci := 4) (ws2 := (wM h ad cI cJ cZ thr sn tkv opv shv ldv lim wyv bdv isr rn rdv fz icv exa fr fev eav rn rov)) C iwX3 0 rfl rfl 18 (by decide) wk_398 rfl tyX3 tyX3_ok nmX3 rfl rfl rfl rfl (Nat.le_of_ble_eq_true rfl) rfl dX3_fetch_5 ?_
  refine gz_iconst (v := nI 0) C dX3_fetch_8 (by decide) ?_
  refine gz_istore_n (lv2 := [(1, .int (nI 0)), (0, .ref h)]) C dX3_fetch_9 (by decide) rfl ?_
  refine gz_lv (lv2 := [(0, .ref h), (1, .int (nI 0))]) [1, 0] rfl ?_
  refine lX3_fetch_lp h ad cI cJ cZ thr sn tkv opv shv ldv lim wyv bdv isr rn rdv fz icv exa fr fev eav rn (by first | assumption | omega) C rn 0 rov (by omega)  ?_
  intro zme_lp
  exact gz_vret C hr hk (by first | rfl | (simp only [f3_fetch_rs, f3_fetch_rov]) | (simp only [f3_fetch_rs, f3_fetch_rov]; rfl)) (by first | rfl | (simp only [f3_fetch_rs, f3_fetch_rov]) | (simp only [f3_fetch_rs, f3_fetch_rov]; rfl)) (Nat.le_refl _) (Nat.le_refl _) dX3_fetch_36

