def ctl : List Nat → Nat → Nat
  | [], _ => 0
  | a :: _, 0 => a
  | _ :: r, k + 1 => ctl r k

def f3_init_lp  : Nat → Nat → (Nat → Int64) → Nat × (Nat → Int64)
  | 0, k, wyv => (k, wyv)
  | n + 1, k, wyv => f3_init_lp  n (k + 1) (va_up wyv k 1000)
set_option maxRecDepth 100000 in
set_option maxHeartbeats 4000000 in
theorem lX3_init_lp {p : Program} {l : Launch} {e : Env} {R : Room} {s : State} {m : MethodId} {args : Array Value} {below : List Frame} {meth : Method} {c : Code} {cells slots : Nat} {Q : State → Prop} {A : Nat → Prop} {D : va_G} (h : Nat) (ad : Nat → Nat) (cI : ClassId) (cJ : ClassId) (cZ : ClassId) (thr : Int32) (sn : Nat) (tkv : Nat → Int64) (opv : Nat → Int64) (shv : Nat → Int64) (ldv : Nat → Int32) (lim : Int32) (bdv : Nat → Bool) (isr : Bool) (rn : Nat) (rdv : Nat → Nat) (fz : Nat) (icv : Nat → Nat) (exa : Bool) (fr : Nat) (fev : Nat → Nat) (eav : Nat → Int64) (rs : Nat) (rov : Nat → Nat)  (C : gz_C p s m args c cX3_init 2 RX3 D [(cI, .int), (cJ, .long), (cZ, .boolean)] A) : ∀ (n : Nat) (k : Nat) (wyv : Nat → Int64), (k + n = 441) → ((((f3_init_lp  n k wyv).1) + 0 = 441) → GZ p l e R s m args below meth c 2 D A cells slots Q (wM h ad cI cJ cZ thr sn tkv opv shv ldv lim ((f3_init_lp  n k wyv).2) bdv isr rn rdv fz icv exa fr fev eav rs rov) [(0, .ref h), (1, .int (nI ((f3_init_lp  n k wyv).1)))] [] 124) → GZ p l e R s m args below meth c 2 D A cells slots Q (wM h ad cI cJ cZ thr sn tkv opv shv ldv lim wyv bdv isr rn rdv fz icv exa fr fev eav rs rov) [(0, .ref h), (1, .int (nI k))] [] 102 := by
  intro n
  induction n with
  | zero =>
    intro k wyv hme  hx
    refine gz_iload_n C 1 dX3_init_102 rfl ?_
    refine gz_sipush (v := nI 441) C dX3_init_103 (by decide) ?_
    refine gz_ncmp_ge C 124 (by omega) (by omega) dX3_init_106 (by decide) (fun h_1 => ?_) (fun h_1 => ?_)
    · skip
      exact gz_lv [0, 1] rfl (hx hme )
    · have g_1 : ¬ (441 ≤ k) := (Nat.not_le.mpr h_1)
      exfalso; omega
  | succ n ih =>
    intro k wyv hme  hx
    refine gz_iload_n C 1 dX3_init_102 rfl ?_
    refine gz_sipush (v := nI 441) C dX3_init_103 (by decide) ?_
    refine gz_ncmp_ge C 124 (by omega) (by omega) dX3_init_106 (by decide) (fun h_1 => ?_) (fun h_1 => ?_)
    · skip
      exfalso; omega
    · have g_1 : ¬ (441 ≤ k) := (Nat.not_le.mpr h_1)
      refine gz_aload_n C 0 dX3_init_109 rfl ?_
      refine gz_get (ci := 4) C iwX3 0 rfl rfl 7 (by decide) wk_387 rfl rfl dX3_init_110 ?_
      refine gz_iload_n C 1 dX3_init_113 rfl ?_
      refine gz_ldc2 (v := 1000) C wk_379 dX3_init_114 ?_
      refine gz_last (ws2 := (wM h ad cI cJ cZ thr sn tkv opv shv ldv lim (va_up wyv k 1000) bdv isr rn rdv fz icv exa fr fev eav rs rov)) C 5 1 rfl rfl (by omega) (by decide) rfl dX3_init_117 ?_
      refine gz_iinc (v := nI (k + 1)) (lv2 := [(1, .int (nI (k + 1))), (0, .ref h)]) (k := 1) C dX3_init_118 rfl (nI_add _ 1) (by decide) rfl ?_
      refine gz_goto C 102 dX3_init_121 (by decide) ?_
      refine gz_lv [1, 0] rfl ?_
      simp only [f3_init_lp, if_neg g_1] at hx
      exact ih (k + 1) (va_up wyv k 1000) (by omega)  hx

set_option maxRecDepth 100000 in
set_option maxHeartbeats 4000000 in
theorem kX3_init (l : Launch) (D : va_G) (h : Nat) (cI : ClassId) (cJ : ClassId) (cZ : ClassId) : gz_MX l yX3_init cX3_init 2 none ({ frames := 1, cells := 11, slots := 23575, locals := 20 } : Room) D [(cI, .int), (cJ, .long), (cZ, .boolean)] [.ref h] [(h, .inr (4, [.int 0, .int 0, .null, .null, .null, .null, .int 0, .null, .null, .int 0, .int 0, .null, .int 0, .null, .int 0, .int 0, .null, .null, .int 0, .null]))] none (fun ad : Nat → Nat => (wM h ad cI cJ cZ 0 0 ((fun _ => 0)) ((fun _ => 0)) ((fun _ => 0)) ((fun _ => 0)) ((-1)) ((f3_init_lp  441 0 ((fun _ => 0))).2) ((fun _ => false)) false 0 ((fun _ => 0)) 0 ((fun _ => 0)) false 0 ((fun _ => 0)) ((fun _ => 0)) 0 ((fun _ => 0)))) 11 23575 := by
  refine gz_metX l (by decide) (Nat.le_of_ble_eq_true rfl) [(0, .ref h)] rfl ?_
  intro sz p e s m args below meth c C hr hk hnm
  have C : gz_C p s m args c cX3_init 2 RX3 D [(cI, .int), (cJ, .long), (cZ, .boolean)] (va_A [(h, .inr (4, [.int 0, .int 0, .null, .null, .null, .null, .int 0, .null, .null, .int 0, .int 0, .null, .int 0, .null, .int 0, .int 0, .null, .null, .int 0, .null]))] sz) := C
  refine gz_aload_n C 0 dX3_init_0 rfl ?_
  refine gz_objInit C wk_378 wk_17 wk_18 dX3_init_1 (by decide) (by decide) ?_
  refine gz_aload_n C 0 dX3_init_4 rfl ?_
  refine gz_bipush (v := nI 21) C dX3_init_5 (by decide) ?_
  refine gz_newa (atype := .long) (N := 21) (a0 := (21, .inr (.inl (fun _ => 0)))) C wk_54 1 rfl (fun _ => rfl) (by decide) (by decide) (by decide) (by decide) dX3_init_7 (fun q1 => ?_)
  refine gz_wse (ws2 := [(h, .inr (4, [.int 0, .int 0, .null, .null, .null, .null, .int 0, .null, .null, .int 0, .int 0, .null, .int 0, .null, .int 0, .int 0, .null, .null, .int 0, .null])), (q1, .inl (cJ, 21, .inr (.inl (fun _ => 0))))]) rfl ?_
  refine gz_putF (ci := 4) (ws2 := [(h, .inr (4, [.int 0, .int 0, .ref q1, .null, .null, .null, .int 0, .null, .null, .int 0, .int 0, .null, .int 0, .null, .int 0, .int 0, .null, .null, .int 0, .null])), (q1, .inl (cJ, 21, .inr (.inl (fun _ => 0))))]) C iwX3 0 rfl rfl 2 (by decide) wk_382 rfl tyX3 tyX3_ok nmX3 rfl hnm rfl rfl rfl rfl (Nat.le_of_ble_eq_true rfl) rfl dX3_init_9 ?_
  refine gz_aload_n C 0 dX3_init_12 rfl ?_
  refine gz_bipush (v := nI 21) C dX3_init_13 (by decide) ?_
  refine gz_newa (atype := .long) (N := 21) (a0 := (21, .inr (.inl (fun _ => 0)))) C wk_54 1 rfl (fun _ => rfl) (by decide) (by decide) (by decide) (by decide) dX3_init_15 (fun q2 => ?_)
  refine gz_wse (ws2 := [(h, .inr (4, [.int 0, .int 0, .ref q1, .null, .null, .null, .int 0, .null, .null, .int 0, .int 0, .null, .int 0, .null, .int 0, .int 0, .null, .null, .int 0, .null])), (q1, .inl (cJ, 21, .inr (.inl (fun _ => 0)))), (q2, .inl (cJ, 21, .inr (.inl (fun _ => 0))))]) rfl ?_
  refine gz_putF (ci := 4) (ws2 := [(h, .inr (4, [.int 0, .int 0, .ref q1, .ref q2, .null, .null, .int 0, .null, .null, .int 0, .int 0, .null, .int 0, .null, .int 0, .int 0, .null, .null, .int 0, .null])), (q1, .inl (cJ, 21, .inr (.inl (fun _ => 0)))), (q2, .inl (cJ, 21, .inr (.inl (fun _ => 0))))]) C iwX3 0 rfl rfl 3 (by decide) wk_383 rfl tyX3 tyX3_ok nmX3 rfl hnm rfl rfl rfl rfl (Nat.le_of_ble_eq_true rfl) rfl dX3_init_17 ?_
  refine gz_aload_n C 0 dX3_init_20 rfl ?_
  refine gz_bipush (v := nI 21) C dX3_init_21 (by decide) ?_
  refine gz_newa (atype := .long) (N := 21) (a0 := (21, .inr (.inl (fun _ => 0)))) C wk_54 1 rfl (fun _ => rfl) (by decide) (by decide) (by decide) (by decide) dX3_init_23 (fun q3 => ?_)
  refine gz_wse (ws2 := [(h, .inr (4, [.int 0, .int 0, .ref q1, .ref q2, .null, .null, .int 0, .null, .null, .int 0, .int 0, .null, .int 0, .null, .int 0, .int 0, .null, .null, .int 0, .null])), (q1, .inl (cJ, 21, .inr (.inl (fun _ => 0)))), (q2, .inl (cJ, 21, .inr (.inl (fun _ => 0)))), (q3, .inl (cJ, 21, .inr (.inl (fun _ => 0))))]) rfl ?_
  refine gz_putF (ci := 4) (ws2 := [(h, .inr (4, [.int 0, .int 0, .ref q1, .ref q2, .ref q3, .null, .int 0, .null, .null, .int 0, .int 0, .null, .int 0, .null, .int 0, .int 0, .null, .null, .int 0, .null])), (q1, .inl (cJ, 21, .inr (.inl (fun _ => 0)))), (q2, .inl (cJ, 21, .inr (.inl (fun _ => 0)))), (q3, .inl (cJ, 21, .inr (.inl (fun _ => 0))))]) C iwX3 0 rfl rfl 4 (by decide) wk_384 rfl tyX3 tyX3_ok nmX3 rfl hnm rfl rfl rfl rfl (Nat.le_of_ble_eq_true rfl) rfl dX3_init_25 ?_
  refine gz_aload_n C 0 dX3_init_28 rfl ?_
  refine gz_bipush (v := nI 21) C dX3_init_29 (by decide) ?_
  refine gz_newa (atype := .int) (N := 21) (a0 := (21, .inl (fun _ => 0))) C wk_55 0 rfl (fun _ => rfl) (by decide) (by decide) (by decide) (by decide) dX3_init_31 (fun q4 => ?_)
  refine gz_wse (ws2 := [(h, .inr (4, [.int 0, .int 0, .ref q1, .ref q2, .ref q3, .null, .int 0, .null, .null, .int 0, .int 0, .null, .int 0, .null, .int 0, .int 0, .null, .null, .int 0, .null])), (q1, .inl (cJ, 21, .inr (.inl (fun _ => 0)))), (q2, .inl (cJ, 21, .inr (.inl (fun _ => 0)))), (q3, .inl (cJ, 21, .inr (.inl (fun _ => 0)))), (q4, .inl (cI, 21, .inl (fun _ => 0)))]) rfl ?_
  refine gz_putF (ci := 4) (ws2 := [(h, .inr (4, [.int 0, .int 0, .ref q1, .ref q2, .ref q3, .ref q4, .int 0, .null, .null, .int 0, .int 0, .null, .int 0, .null, .int 0, .int 0, .null, .null, .int 0, .null])), (q1, .inl (cJ, 21, .inr (.inl (fun _ => 0)))), (q2, .inl (cJ, 21, .inr (.inl (fun _ => 0)))), (q3, .inl (cJ, 21, .inr (.inl (fun _ => 0)))), (q4, .inl (cI, 21, .inl (fun _ => 0)))]) C iwX3 0 rfl rfl 5 (by decide) wk_385 rfl tyX3 tyX3_ok nmX3 rfl hnm rfl rfl rfl rfl (Nat.le_of_ble_eq_true rfl) rfl dX3_init_33 ?_
  refine gz_aload_n C 0 dX3_init_36 rfl ?_
  refine gz_iconst (v := (-1)) C dX3_init_37 (by decide) ?_
  refine gz_put (ci := 4) (ws2 := [(h, .inr (4, [.int 0, .int 0, .ref q1, .ref q2, .ref q3, .ref q4, .int (-1), .null, .null, .int 0, .int 0, .null, .int 0, .null, .int 0, .int 0, .null, .null, .int 0, .null])), (q1, .inl (cJ, 21, .inr (.inl (fun _ => 0)))), (q2, .inl (cJ, 21, .inr (.inl (fun _ => 0)))), (q3, .inl (cJ, 21, .inr (.inl (fun _ => 0)))), (q4, .inl (cI, 21, .inl (fun _ => 0)))]) C iwX3 0 rfl rfl 6 (by decide) wk_386 rfl tyX3 tyX3_ok nmX3 rfl rfl rfl rfl (Nat.le_of_ble_eq_true rfl) rfl dX3_init_38 ?_
  refine gz_aload_n C 0 dX3_init_41 rfl ?_
  refine gz_sipush (v := nI 441) C dX3_init_42 (by decide) ?_
  refine gz_newa (atype := .long) (N := 441) (a0 := (441, .inr (.inl (fun _ => 0)))) C wk_54 1 rfl (fun _ => rfl) (by decide) (by decide) (by decide) (by decide) dX3_init_45 (fun q5 => ?_)
  refine gz_wse (ws2 := [(h, .inr (4, [.int 0, .int 0, .ref q1, .ref q2, .ref q3, .ref q4, .int (-1), .null, .null, .int 0, .int 0, .null, .int 0, .null, .int 0, .int 0, .null, .null, .int 0, .null])), (q1, .inl (cJ, 21, .inr (.inl (fun _ => 0)))), (q2, .inl (cJ, 21, .inr (.inl (fun _ => 0)))), (q3, .inl (cJ, 21, .inr (.inl (fun _ => 0)))), (q4, .inl (cI, 21, .inl (fun _ => 0))), (q5, .inl (cJ, 441, .inr (.inl (fun _ => 0))))]) rfl ?_
  refine gz_putF (ci := 4) (ws2 := [(h, .inr (4, [.int 0, .int 0, .ref q1, .ref q2, .ref q3, .ref q4, .int (-1), .ref q5, .null, .int 0, .int 0, .null, .int 0, .null, .int 0, .int 0, .null, .null, .int 0, .null])), (q1, .inl (cJ, 21, .inr (.inl (fun _ => 0)))), (q2, .inl (cJ, 21, .inr (.inl (fun _ => 0)))), (q3, .inl (cJ, 21, .inr (.inl (fun _ => 0)))), (q4, .inl (cI, 21, .inl (fun _ => 0))), (q5, .inl (cJ, 441, .inr (.inl (fun _ => 0))))]) C iwX3 0 rfl rfl 7 (by decide) wk_387 rfl tyX3 tyX3_ok nmX3 rfl hnm rfl rfl rfl rfl (Nat.le_of_ble_eq_true rfl) rfl dX3_init_47 ?_
  refine gz_aload_n C 0 dX3_init_50 rfl ?_
  refine gz_sipush (v := nI 441) C dX3_init_51 (by decide) ?_
  refine gz_newa (atype := .boolean) (N := 441) (a0 := (441, .inl (bF (fun _ => false)))) C wk_56 2 rfl (fun _ => rfl) (by decide) (by decide) (by decide) (by decide) dX3_init_54 (fun q6 => ?_)
  refine gz_wse (ws2 := [(h, .inr (4, [.int 0, .int 0, .ref q1, .ref q2, .ref q3, .ref q4, .int (-1), .ref q5, .null, .int 0, .int 0, .null, .int 0, .null, .int 0, .int 0, .null, .null, .int 0, .null])), (q1, .inl (cJ, 21, .inr (.inl (fun _ => 0)))), (q2, .inl (cJ, 21, .inr (.inl (fun _ => 0)))), (q3, .inl (cJ, 21, .inr (.inl (fun _ => 0)))), (q4, .inl (cI, 21, .inl (fun _ => 0))), (q5, .inl (cJ, 441, .inr (.inl (fun _ => 0)))), (q6, .inl (cZ, 441, .inl (bF (fun _ => false))))]) rfl ?_
  refine gz_putF (ci := 4) (ws2 := [(h, .inr (4, [.int 0, .int 0, .ref q1, .ref q2, .ref q3, .ref q4, .int (-1), .ref q5, .ref q6, .int 0, .int 0, .null, .int 0, .null, .int 0, .int 0, .null, .null, .int 0, .null])), (q1, .inl (cJ, 21, .inr (.inl (fun _ => 0)))), (q2, .inl (cJ, 21, .inr (.inl (fun _ => 0)))), (q3, .inl (cJ, 21, .inr (.inl (fun _ => 0)))), (q4, .inl (cI, 21, .inl (fun _ => 0))), (q5, .inl (cJ, 441, .inr (.inl (fun _ => 0)))), (q6, .inl (cZ, 441, .inl (bF (fun _ => false))))]) C iwX3 0 rfl rfl 8 (by decide) wk_388 rfl tyX3 tyX3_ok nmX3 rfl hnm rfl rfl rfl rfl (Nat.le_of_ble_eq_true rfl) rfl dX3_init_56 ?_
  refine gz_aload_n C 0 dX3_init_59 rfl ?_
  refine gz_bipush (v := nI 20) C dX3_init_60 (by decide) ?_
  refine gz_newa (atype := .int) (N := 20) (a0 := (20, .inl (nF (fun _ => 0)))) C wk_55 0 rfl (fun _ => rfl) (by decide) (by decide) (by decide) (by decide) dX3_init_62 (fun q7 => ?_)
  refine gz_wse (ws2 := [(h, .inr (4, [.int 0, .int 0, .ref q1, .ref q2, .ref q3, .ref q4, .int (-1), .ref q5, .ref q6, .int 0, .int 0, .null, .int 0, .null, .int 0, .int 0, .null, .null, .int 0, .null])), (q1, .inl (cJ, 21, .inr (.inl (fun _ => 0)))), (q2, .inl (cJ, 21, .inr (.inl (fun _ => 0)))), (q3, .inl (cJ, 21, .inr (.inl (fun _ => 0)))), (q4, .inl (cI, 21, .inl (fun _ => 0))), (q5, .inl (cJ, 441, .inr (.inl (fun _ => 0)))), (q6, .inl (cZ, 441, .inl (bF (fun _ => false)))), (q7, .inl (cI, 20, .inl (nF (fun _ => 0))))]) rfl ?_
  refine gz_putF (ci := 4) (ws2 := [(h, .inr (4, [.int 0, .int 0, .ref q1, .ref q2, .ref q3, .ref q4, .int (-1), .ref q5, .ref q6, .int 0, .int 0, .ref q7, .int 0, .null, .int 0, .int 0, .null, .null, .int 0, .null])), (q1, .inl (cJ, 21, .inr (.inl (fun _ => 0)))), (q2, .inl (cJ, 21, .inr (.inl (fun _ => 0)))), (q3, .inl (cJ, 21, .inr (.inl (fun _ => 0)))), (q4, .inl (cI, 21, .inl (fun _ => 0))), (q5, .inl (cJ, 441, .inr (.inl (fun _ => 0)))), (q6, .inl (cZ, 441, .inl (bF (fun _ => false)))), (q7, .inl (cI, 20, .inl (nF (fun _ => 0))))]) C iwX3 0 rfl rfl 11 (by decide) wk_391 rfl tyX3 tyX3_ok nmX3 rfl hnm rfl rfl rfl rfl (Nat.le_of_ble_eq_true rfl) rfl dX3_init_64 ?_
  refine gz_aload_n C 0 dX3_init_67 rfl ?_
  refine gz_bipush (v := nI 20) C dX3_init_68 (by decide) ?_
  refine gz_newa (atype := .int) (N := 20) (a0 := (20, .inl (nF (fun _ => 0)))) C wk_55 0 rfl (fun _ => rfl) (by decide) (by decide) (by decide) (by decide) dX3_init_70 (fun q8 => ?_)
  refine gz_wse (ws2 := [(h, .inr (4, [.int 0, .int 0, .ref q1, .ref q2, .ref q3, .ref q4, .int (-1), .ref q5, .ref q6, .int 0, .int 0, .ref q7, .int 0, .null, .int 0, .int 0, .null, .null, .int 0, .null])), (q1, .inl (cJ, 21, .inr (.inl (fun _ => 0)))), (q2, .inl (cJ, 21, .inr (.inl (fun _ => 0)))), (q3, .inl (cJ, 21, .inr (.inl (fun _ => 0)))), (q4, .inl (cI, 21, .inl (fun _ => 0))), (q5, .inl (cJ, 441, .inr (.inl (fun _ => 0)))), (q6, .inl (cZ, 441, .inl (bF (fun _ => false)))), (q7, .inl (cI, 20, .inl (nF (fun _ => 0)))), (q8, .inl (cI, 20, .inl (nF (fun _ => 0))))]) rfl ?_
  refine gz_putF (ci := 4) (ws2 := [(h, .inr (4, [.int 0, .int 0, .ref q1, .ref q2, .ref q3, .ref q4, .int (-1), .ref q5, .ref q6, .int 0, .int 0, .ref q7, .int 0, .ref q8, .int 0, .int 0, .null, .null, .int 0, .null])), (q1, .inl (cJ, 21, .inr (.inl (fun _ => 0)))), (q2, .inl (cJ, 21, .inr (.inl (fun _ => 0)))), (q3, .inl (cJ, 21, .inr (.inl (fun _ => 0)))), (q4, .inl (cI, 21, .inl (fun _ => 0))), (q5, .inl (cJ, 441, .inr (.inl (fun _ => 0)))), (q6, .inl (cZ, 441, .inl (bF (fun _ => false)))), (q7, .inl (cI, 20, .inl (nF (fun _ => 0)))), (q8, .inl (cI, 20, .inl (nF (fun _ => 0))))]) C iwX3 0 rfl rfl 13 (by decide) wk_393 rfl tyX3 tyX3_ok nmX3 rfl hnm rfl rfl rfl rfl (Nat.le_of_ble_eq_true rfl) rfl dX3_init_72 ?_
  refine gz_aload_n C 0 dX3_init_75 rfl ?_
  refine gz_bipush (v := nI 20) C dX3_init_76 (by decide) ?_
  refine gz_newa (atype := .int) (N := 20) (a0 := (20, .inl (nF (fun _ => 0)))) C wk_55 0 rfl (fun _ => rfl) (by decide) (by decide) (by decide) (by decide) dX3_init_78 (fun q9 => ?_)
  refine gz_wse (ws2 := [(h, .inr (4, [.int 0, .int 0, .ref q1, .ref q2, .ref q3, .ref q4, .int (-1), .ref q5, .ref q6, .int 0, .int 0, .ref q7, .int 0, .ref q8, .int 0, .int 0, .null, .null, .int 0, .null])), (q1, .inl (cJ, 21, .inr (.inl (fun _ => 0)))), (q2, .inl (cJ, 21, .inr (.inl (fun _ => 0)))), (q3, .inl (cJ, 21, .inr (.inl (fun _ => 0)))), (q4, .inl (cI, 21, .inl (fun _ => 0))), (q5, .inl (cJ, 441, .inr (.inl (fun _ => 0)))), (q6, .inl (cZ, 441, .inl (bF (fun _ => false)))), (q7, .inl (cI, 20, .inl (nF (fun _ => 0)))), (q8, .inl (cI, 20, .inl (nF (fun _ => 0)))), (q9, .inl (cI, 20, .inl (nF (fun _ => 0))))]) rfl ?_
  refine gz_putF (ci := 4) (ws2 := [(h, .inr (4, [.int 0, .int 0, .ref q1, .ref q2, .ref q3, .ref q4, .int (-1), .ref q5, .ref q6, .int 0, .int 0, .ref q7, .int 0, .ref q8, .int 0, .int 0, .ref q9, .null, .int 0, .null])), (q1, .inl (cJ, 21, .inr (.inl (fun _ => 0)))), (q2, .inl (cJ, 21, .inr (.inl (fun _ => 0)))), (q3, .inl (cJ, 21, .inr (.inl (fun _ => 0)))), (q4, .inl (cI, 21, .inl (fun _ => 0))), (q5, .inl (cJ, 441, .inr (.inl (fun _ => 0)))), (q6, .inl (cZ, 441, .inl (bF (fun _ => false)))), (q7, .inl (cI, 20, .inl (nF (fun _ => 0)))), (q8, .inl (cI, 20, .inl (nF (fun _ => 0)))), (q9, .inl (cI, 20, .inl (nF (fun _ => 0))))]) C iwX3 0 rfl rfl 16 (by decide) wk_396 rfl tyX3 tyX3_ok nmX3 rfl hnm rfl rfl rfl rfl (Nat.le_of_ble_eq_true rfl) rfl dX3_init_80 ?_
  refine gz_aload_n C 0 dX3_init_83 rfl ?_
  refine gz_sipush (v := nI 22528) C dX3_init_84 (by decide) ?_
  refine gz_newa (atype := .long) (N := 22528) (a0 := (22528, .inr (.inl (fun _ => 0)))) C wk_54 1 rfl (fun _ => rfl) (by decide) (by decide) (by decide) (by decide) dX3_init_87 (fun q10 => ?_)
  refine gz_wse (ws2 := [(h, .inr (4, [.int 0, .int 0, .ref q1, .ref q2, .ref q3, .ref q4, .int (-1), .ref q5, .ref q6, .int 0, .int 0, .ref q7, .int 0, .ref q8, .int 0, .int 0, .ref q9, .null, .int 0, .null])), (q1, .inl (cJ, 21, .inr (.inl (fun _ => 0)))), (q2, .inl (cJ, 21, .inr (.inl (fun _ => 0)))), (q3, .inl (cJ, 21, .inr (.inl (fun _ => 0)))), (q4, .inl (cI, 21, .inl (fun _ => 0))), (q5, .inl (cJ, 441, .inr (.inl (fun _ => 0)))), (q6, .inl (cZ, 441, .inl (bF (fun _ => false)))), (q7, .inl (cI, 20, .inl (nF (fun _ => 0)))), (q8, .inl (cI, 20, .inl (nF (fun _ => 0)))), (q9, .inl (cI, 20, .inl (nF (fun _ => 0)))), (q10, .inl (cJ, 22528, .inr (.inl (fun _ => 0))))]) rfl ?_
  refine gz_putF (ci := 4) (ws2 := [(h, .inr (4, [.int 0, .int 0, .ref q1, .ref q2, .ref q3, .ref q4, .int (-1), .ref q5, .ref q6, .int 0, .int 0, .ref q7, .int 0, .ref q8, .int 0, .int 0, .ref q9, .ref q10, .int 0, .null])), (q1, .inl (cJ, 21, .inr (.inl (fun _ => 0)))), (q2, .inl (cJ, 21, .inr (.inl (fun _ => 0)))), (q3, .inl (cJ, 21, .inr (.inl (fun _ => 0)))), (q4, .inl (cI, 21, .inl (fun _ => 0))), (q5, .inl (cJ, 441, .inr (.inl (fun _ => 0)))), (q6, .inl (cZ, 441, .inl (bF (fun _ => false)))), (q7, .inl (cI, 20, .inl (nF (fun _ => 0)))), (q8, .inl (cI, 20, .inl (nF (fun _ => 0)))), (q9, .inl (cI, 20, .inl (nF (fun _ => 0)))), (q10, .inl (cJ, 22528, .inr (.inl (fun _ => 0))))]) C iwX3 0 rfl rfl 17 (by decide) wk_397 rfl tyX3 tyX3_ok nmX3 rfl hnm rfl rfl rfl rfl (Nat.le_of_ble_eq_true rfl) rfl dX3_init_89 ?_
  refine gz_aload_n C 0 dX3_init_92 rfl ?_
  refine gz_bipush (v := nI 21) C dX3_init_93 (by decide) ?_
  refine gz_newa (atype := .int) (N := 21) (a0 := (21, .inl (nF (fun _ => 0)))) C wk_55 0 rfl (fun _ => rfl) (by decide) (by decide) (by decide) (by decide) dX3_init_95 (fun q11 => ?_)
  refine gz_wse (ws2 := [(h, .inr (4, [.int 0, .int 0, .ref q1, .ref q2, .ref q3, .ref q4, .int (-1), .ref q5, .ref q6, .int 0, .int 0, .ref q7, .int 0, .ref q8, .int 0, .int 0, .ref q9, .ref q10, .int 0, .null])), (q1, .inl (cJ, 21, .inr (.inl (fun _ => 0)))), (q2, .inl (cJ, 21, .inr (.inl (fun _ => 0)))), (q3, .inl (cJ, 21, .inr (.inl (fun _ => 0)))), (q4, .inl (cI, 21, .inl (fun _ => 0))), (q5, .inl (cJ, 441, .inr (.inl (fun _ => 0)))), (q6, .inl (cZ, 441, .inl (bF (fun _ => false)))), (q7, .inl (cI, 20, .inl (nF (fun _ => 0)))), (q8, .inl (cI, 20, .inl (nF (fun _ => 0)))), (q9, .inl (cI, 20, .inl (nF (fun _ => 0)))), (q10, .inl (cJ, 22528, .inr (.inl (fun _ => 0)))), (q11, .inl (cI, 21, .inl (nF (fun _ => 0))))]) rfl ?_
  refine gz_putF (ci := 4) (ws2 := [(h, .inr (4, [.int 0, .int 0, .ref q1, .ref q2, .ref q3, .ref q4, .int (-1), .ref q5, .ref q6, .int 0, .int 0, .ref q7, .int 0, .ref q8, .int 0, .int 0, .ref q9, .ref q10, .int 0, .ref q11])), (q1, .inl (cJ, 21, .inr (.inl (fun _ => 0)))), (q2, .inl (cJ, 21, .inr (.inl (fun _ => 0)))), (q3, .inl (cJ, 21, .inr (.inl (fun _ => 0)))), (q4, .inl (cI, 21, .inl (fun _ => 0))), (q5, .inl (cJ, 441, .inr (.inl (fun _ => 0)))), (q6, .inl (cZ, 441, .inl (bF (fun _ => false)))), (q7, .inl (cI, 20, .inl (nF (fun _ => 0)))), (q8, .inl (cI, 20, .inl (nF (fun _ => 0)))), (q9, .inl (cI, 20, .inl (nF (fun _ => 0)))), (q10, .inl (cJ, 22528, .inr (.inl (fun _ => 0)))), (q11, .inl (cI, 21, .inl (nF (fun _ => 0))))]) C iwX3 0 rfl rfl 19 (by decide) wk_399 rfl tyX3 tyX3_ok nmX3 rfl hnm rfl rfl rfl rfl (Nat.le_of_ble_eq_true rfl) rfl dX3_init_97 ?_
  refine gz_wse (ws2 := (wM h (ctl [0, 0, q1, q2, q3, q4, 0, q5, q6, 0, 0, q7, 0, q8, 0, 0, q9, q10, 0, q11]) cI cJ cZ 0 0 ((fun _ => 0)) ((fun _ => 0)) ((fun _ => 0)) ((fun _ => 0)) ((-1)) ((fun _ => 0)) ((fun _ => false)) false 0 ((fun _ => 0)) 0 ((fun _ => 0)) false 0 ((fun _ => 0)) ((fun _ => 0)) 0 ((fun _ => 0)))) rfl ?_
  generalize ctl [0, 0, q1, q2, q3, q4, 0, q5, q6, 0, 0, q7, 0, q8, 0, 0, q9, q10, 0, q11] = ad
  refine gz_iconst (v := nI 0) C dX3_init_100 (by decide) ?_
  refine gz_istore_n (lv2 := [(1, .int (nI 0)), (0, .ref h)]) C dX3_init_101 (by decide) rfl ?_
  refine gz_lv (lv2 := [(0, .ref h), (1, .int (nI 0))]) [1, 0] rfl ?_
  refine lX3_init_lp h ad cI cJ cZ 0 0 ((fun _ => 0)) ((fun _ => 0)) ((fun _ => 0)) ((fun _ => 0)) ((-1)) ((fun _ => false)) false 0 ((fun _ => 0)) 0 ((fun _ => 0)) false 0 ((fun _ => 0)) ((fun _ => 0)) 0 ((fun _ => 0))  C 441 0 ((fun _ => 0)) (by omega)  ?_
  intro zme_lp
  exact gz_vretX C hr hk rfl ad rfl (by decide) (by decide) dX3_init_124

