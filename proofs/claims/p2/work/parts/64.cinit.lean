def wN (nt : Nat) (ad : Nat → Nat) (cI : ClassId) (cJ : ClassId) (cZ : ClassId) (sn : Nat) (bw : Int32) (tkv : Nat → Int64) (opv : Nat → Int64) (shv : Nat → Int64) (ldv : Nat → Int32) (wyv : Nat → Int64) (bdv : Nat → Bool) : va_W := [(nt, .inr (2, [.int (nI sn), .int bw, .ref ((ad 2)), .ref ((ad 3)), .ref ((ad 4)), .ref ((ad 5)), .ref ((ad 6)), .ref ((ad 7))])), (ad 2, .inl (cJ, 21, .inr (.inl tkv))), (ad 3, .inl (cJ, 21, .inr (.inl opv))), (ad 4, .inl (cJ, 21, .inr (.inl shv))), (ad 5, .inl (cI, 21, .inl ldv)), (ad 6, .inl (cJ, 441, .inr (.inl wyv))), (ad 7, .inl (cZ, 441, .inl (bF bdv)))]
def f1_init_lp  : Nat → Nat → (Nat → Int64) → Nat × (Nat → Int64)
  | 0, k, wyv => (k, wyv)
  | n + 1, k, wyv => f1_init_lp  n (k + 1) (va_up wyv k 1000)
set_option maxRecDepth 100000 in
set_option maxHeartbeats 4000000 in
theorem lX1_init_lp {p : Program} {l : Launch} {e : Env} {R : Room} {s : State} {m : MethodId} {args : Array Value} {below : List Frame} {meth : Method} {c : Code} {cells slots : Nat} {Q : State → Prop} {A : Nat → Prop} {D : va_G} (nt : Nat) (ad : Nat → Nat) (cI : ClassId) (cJ : ClassId) (cZ : ClassId) (sn : Nat) (bw : Int32) (tkv : Nat → Int64) (opv : Nat → Int64) (shv : Nat → Int64) (ldv : Nat → Int32) (bdv : Nat → Bool)  (C : gz_C p s m args c cX1_init 2 RX1 D [(cI, .int), (cJ, .long), (cZ, .boolean)] A) : ∀ (n : Nat) (k : Nat) (wyv : Nat → Int64), (k + n = 441) → ((((f1_init_lp  n k wyv).1) + 0 = 441) → GZ p l e R s m args below meth c 2 D A cells slots Q (wN nt ad cI cJ cZ sn bw tkv opv shv ldv ((f1_init_lp  n k wyv).2) bdv) [(0, .ref nt), (1, .int (nI ((f1_init_lp  n k wyv).1)))] [] 90) → GZ p l e R s m args below meth c 2 D A cells slots Q (wN nt ad cI cJ cZ sn bw tkv opv shv ldv wyv bdv) [(0, .ref nt), (1, .int (nI k))] [] 66 := by
  intro n
  induction n with
  | zero =>
    intro k wyv hme  hx
    refine gz_iload_n C 1 dX1_init_66 rfl ?_
    refine gz_aload_n C 0 dX1_init_67 rfl ?_
    refine gz_get (ci := 2) C iwX1 0 rfl rfl 6 (by decide) wk_35 rfl rfl dX1_init_68 ?_
    refine gz_alen C 5 1 rfl rfl dX1_init_71 ?_
    refine gz_ncmp_ge C 90 (by omega) (by omega) dX1_init_72 (by decide) (fun h_1 => ?_) (fun h_1 => ?_)
    · skip
      exact gz_lv [0, 1] rfl (hx hme )
    · have g_1 : ¬ (441 ≤ k) := (Nat.not_le.mpr h_1)
      exfalso; omega
  | succ n ih =>
    intro k wyv hme  hx
    refine gz_iload_n C 1 dX1_init_66 rfl ?_
    refine gz_aload_n C 0 dX1_init_67 rfl ?_
    refine gz_get (ci := 2) C iwX1 0 rfl rfl 6 (by decide) wk_35 rfl rfl dX1_init_68 ?_
    refine gz_alen C 5 1 rfl rfl dX1_init_71 ?_
    refine gz_ncmp_ge C 90 (by omega) (by omega) dX1_init_72 (by decide) (fun h_1 => ?_) (fun h_1 => ?_)
    · skip
      exfalso; omega
    · have g_1 : ¬ (441 ≤ k) := (Nat.not_le.mpr h_1)
      refine gz_aload_n C 0 dX1_init_75 rfl ?_
      refine gz_get (ci := 2) C iwX1 0 rfl rfl 6 (by decide) wk_35 rfl rfl dX1_init_76 ?_
      refine gz_iload_n C 1 dX1_init_79 rfl ?_
      refine gz_ldc2 (v := 1000) C wk_25 dX1_init_80 ?_
      refine gz_last (ws2 := (wN nt ad cI cJ cZ sn bw tkv opv shv ldv (va_up wyv k 1000) bdv)) C 5 1 rfl rfl (by omega) (by decide) rfl dX1_init_83 ?_
      refine gz_iinc (v := nI (k + 1)) (lv2 := [(1, .int (nI (k + 1))), (0, .ref nt)]) (k := 1) C dX1_init_84 rfl (nI_add _ 1) (by decide) rfl ?_
      refine gz_goto C 66 dX1_init_87 (by decide) ?_
      refine gz_lv [1, 0] rfl ?_
      simp only [f1_init_lp, if_neg g_1] at hx
      exact ih (k + 1) (va_up wyv k 1000) (by omega)  hx

set_option maxRecDepth 100000 in
set_option maxHeartbeats 4000000 in
theorem kX1_init (l : Launch) (D : va_G) (nt : Nat) (cI : ClassId) (cJ : ClassId) (cZ : ClassId) : gz_MX l yX1_init cX1_init 2 none ({ frames := 1, cells := 6, slots := 966, locals := 20 } : Room) D [(cI, .int), (cJ, .long), (cZ, .boolean)] [.ref nt] [(nt, .inr (2, [.int 0, .int 0, .null, .null, .null, .null, .null, .null]))] none (fun ad : Nat → Nat => (wN nt ad cI cJ cZ 0 0 ((fun _ => 0)) ((fun _ => 0)) (va_up ((fun _ => 0)) 0 1000000000000000) ((fun _ => 0)) ((f1_init_lp  441 0 ((fun _ => 0))).2) ((fun _ => false)))) 6 966 := by
  refine gz_metX l (by decide) (Nat.le_of_ble_eq_true rfl) [(0, .ref nt)] rfl ?_
  intro sz p e s m args below meth c C hr hk hnm
  have C : gz_C p s m args c cX1_init 2 RX1 D [(cI, .int), (cJ, .long), (cZ, .boolean)] (va_A [(nt, .inr (2, [.int 0, .int 0, .null, .null, .null, .null, .null, .null]))] sz) := C
  refine gz_aload_n C 0 dX1_init_0 rfl ?_
  refine gz_objInit C wk_24 wk_17 wk_18 dX1_init_1 (by decide) (by decide) ?_
  refine gz_aload_n C 0 dX1_init_4 rfl ?_
  refine gz_iconst (v := nI 0) C dX1_init_5 (by decide) ?_
  refine gz_put (ci := 2) (ws2 := [(nt, .inr (2, [.int (nI 0), .int 0, .null, .null, .null, .null, .null, .null]))]) C iwX1 0 rfl rfl 0 (by decide) wk_27 rfl tyX1 tyX1_ok nmX1 rfl rfl rfl rfl (Nat.le_of_ble_eq_true rfl) rfl dX1_init_6 ?_
  refine gz_aload_n C 0 dX1_init_9 rfl ?_
  refine gz_iconst (v := nI 0) C dX1_init_10 (by decide) ?_
  refine gz_put (ci := 2) (ws2 := [(nt, .inr (2, [.int (nI 0), .int (nI 0), .null, .null, .null, .null, .null, .null]))]) C iwX1 0 rfl rfl 1 (by decide) wk_30 rfl tyX1 tyX1_ok nmX1 rfl rfl rfl rfl (Nat.le_of_ble_eq_true rfl) rfl dX1_init_11 ?_
  refine gz_aload_n C 0 dX1_init_14 rfl ?_
  refine gz_bipush (v := nI 21) C dX1_init_15 (by decide) ?_
  refine gz_newa (atype := .long) (N := 21) (a0 := (21, .inr (.inl (fun _ => 0)))) C wk_54 1 rfl (fun _ => rfl) (by decide) (by decide) (by decide) (by decide) dX1_init_17 (fun q1 => ?_)
  refine gz_wse (ws2 := [(nt, .inr (2, [.int (nI 0), .int (nI 0), .null, .null, .null, .null, .null, .null])), (q1, .inl (cJ, 21, .inr (.inl (fun _ => 0))))]) rfl ?_
  refine gz_putF (ci := 2) (ws2 := [(nt, .inr (2, [.int (nI 0), .int (nI 0), .ref q1, .null, .null, .null, .null, .null])), (q1, .inl (cJ, 21, .inr (.inl (fun _ => 0))))]) C iwX1 0 rfl rfl 2 (by decide) wk_31 rfl tyX1 tyX1_ok nmX1 rfl hnm rfl rfl rfl rfl (Nat.le_of_ble_eq_true rfl) rfl dX1_init_19 ?_
  refine gz_aload_n C 0 dX1_init_22 rfl ?_
  refine gz_bipush (v := nI 21) C dX1_init_23 (by decide) ?_
  refine gz_newa (atype := .long) (N := 21) (a0 := (21, .inr (.inl (fun _ => 0)))) C wk_54 1 rfl (fun _ => rfl) (by decide) (by decide) (by decide) (by decide) dX1_init_25 (fun q2 => ?_)
  refine gz_wse (ws2 := [(nt, .inr (2, [.int (nI 0), .int (nI 0), .ref q1, .null, .null, .null, .null, .null])), (q1, .inl (cJ, 21, .inr (.inl (fun _ => 0)))), (q2, .inl (cJ, 21, .inr (.inl (fun _ => 0))))]) rfl ?_
  refine gz_putF (ci := 2) (ws2 := [(nt, .inr (2, [.int (nI 0), .int (nI 0), .ref q1, .ref q2, .null, .null, .null, .null])), (q1, .inl (cJ, 21, .inr (.inl (fun _ => 0)))), (q2, .inl (cJ, 21, .inr (.inl (fun _ => 0))))]) C iwX1 0 rfl rfl 3 (by decide) wk_32 rfl tyX1 tyX1_ok nmX1 rfl hnm rfl rfl rfl rfl (Nat.le_of_ble_eq_true rfl) rfl dX1_init_27 ?_
  refine gz_aload_n C 0 dX1_init_30 rfl ?_
  refine gz_bipush (v := nI 21) C dX1_init_31 (by decide) ?_
  refine gz_newa (atype := .long) (N := 21) (a0 := (21, .inr (.inl (fun _ => 0)))) C wk_54 1 rfl (fun _ => rfl) (by decide) (by decide) (by decide) (by decide) dX1_init_33 (fun q3 => ?_)
  refine gz_wse (ws2 := [(nt, .inr (2, [.int (nI 0), .int (nI 0), .ref q1, .ref q2, .null, .null, .null, .null])), (q1, .inl (cJ, 21, .inr (.inl (fun _ => 0)))), (q2, .inl (cJ, 21, .inr (.inl (fun _ => 0)))), (q3, .inl (cJ, 21, .inr (.inl (fun _ => 0))))]) rfl ?_
  refine gz_putF (ci := 2) (ws2 := [(nt, .inr (2, [.int (nI 0), .int (nI 0), .ref q1, .ref q2, .ref q3, .null, .null, .null])), (q1, .inl (cJ, 21, .inr (.inl (fun _ => 0)))), (q2, .inl (cJ, 21, .inr (.inl (fun _ => 0)))), (q3, .inl (cJ, 21, .inr (.inl (fun _ => 0))))]) C iwX1 0 rfl rfl 4 (by decide) wk_33 rfl tyX1 tyX1_ok nmX1 rfl hnm rfl rfl rfl rfl (Nat.le_of_ble_eq_true rfl) rfl dX1_init_35 ?_
  refine gz_aload_n C 0 dX1_init_38 rfl ?_
  refine gz_bipush (v := nI 21) C dX1_init_39 (by decide) ?_
  refine gz_newa (atype := .int) (N := 21) (a0 := (21, .inl (fun _ => 0))) C wk_55 0 rfl (fun _ => rfl) (by decide) (by decide) (by decide) (by decide) dX1_init_41 (fun q4 => ?_)
  refine gz_wse (ws2 := [(nt, .inr (2, [.int (nI 0), .int (nI 0), .ref q1, .ref q2, .ref q3, .null, .null, .null])), (q1, .inl (cJ, 21, .inr (.inl (fun _ => 0)))), (q2, .inl (cJ, 21, .inr (.inl (fun _ => 0)))), (q3, .inl (cJ, 21, .inr (.inl (fun _ => 0)))), (q4, .inl (cI, 21, .inl (fun _ => 0)))]) rfl ?_
  refine gz_putF (ci := 2) (ws2 := [(nt, .inr (2, [.int (nI 0), .int (nI 0), .ref q1, .ref q2, .ref q3, .ref q4, .null, .null])), (q1, .inl (cJ, 21, .inr (.inl (fun _ => 0)))), (q2, .inl (cJ, 21, .inr (.inl (fun _ => 0)))), (q3, .inl (cJ, 21, .inr (.inl (fun _ => 0)))), (q4, .inl (cI, 21, .inl (fun _ => 0)))]) C iwX1 0 rfl rfl 5 (by decide) wk_34 rfl tyX1 tyX1_ok nmX1 rfl hnm rfl rfl rfl rfl (Nat.le_of_ble_eq_true rfl) rfl dX1_init_43 ?_
  refine gz_aload_n C 0 dX1_init_46 rfl ?_
  refine gz_sipush (v := nI 441) C dX1_init_47 (by decide) ?_
  refine gz_newa (atype := .long) (N := 441) (a0 := (441, .inr (.inl (fun _ => 0)))) C wk_54 1 rfl (fun _ => rfl) (by decide) (by decide) (by decide) (by decide) dX1_init_50 (fun q5 => ?_)
  refine gz_wse (ws2 := [(nt, .inr (2, [.int (nI 0), .int (nI 0), .ref q1, .ref q2, .ref q3, .ref q4, .null, .null])), (q1, .inl (cJ, 21, .inr (.inl (fun _ => 0)))), (q2, .inl (cJ, 21, .inr (.inl (fun _ => 0)))), (q3, .inl (cJ, 21, .inr (.inl (fun _ => 0)))), (q4, .inl (cI, 21, .inl (fun _ => 0))), (q5, .inl (cJ, 441, .inr (.inl (fun _ => 0))))]) rfl ?_
  refine gz_putF (ci := 2) (ws2 := [(nt, .inr (2, [.int (nI 0), .int (nI 0), .ref q1, .ref q2, .ref q3, .ref q4, .ref q5, .null])), (q1, .inl (cJ, 21, .inr (.inl (fun _ => 0)))), (q2, .inl (cJ, 21, .inr (.inl (fun _ => 0)))), (q3, .inl (cJ, 21, .inr (.inl (fun _ => 0)))), (q4, .inl (cI, 21, .inl (fun _ => 0))), (q5, .inl (cJ, 441, .inr (.inl (fun _ => 0))))]) C iwX1 0 rfl rfl 6 (by decide) wk_35 rfl tyX1 tyX1_ok nmX1 rfl hnm rfl rfl rfl rfl (Nat.le_of_ble_eq_true rfl) rfl dX1_init_52 ?_
  refine gz_aload_n C 0 dX1_init_55 rfl ?_
  refine gz_sipush (v := nI 441) C dX1_init_56 (by decide) ?_
  refine gz_newa (atype := .boolean) (N := 441) (a0 := (441, .inl (bF (fun _ => false)))) C wk_56 2 rfl (fun _ => rfl) (by decide) (by decide) (by decide) (by decide) dX1_init_59 (fun q6 => ?_)
  refine gz_wse (ws2 := [(nt, .inr (2, [.int (nI 0), .int (nI 0), .ref q1, .ref q2, .ref q3, .ref q4, .ref q5, .null])), (q1, .inl (cJ, 21, .inr (.inl (fun _ => 0)))), (q2, .inl (cJ, 21, .inr (.inl (fun _ => 0)))), (q3, .inl (cJ, 21, .inr (.inl (fun _ => 0)))), (q4, .inl (cI, 21, .inl (fun _ => 0))), (q5, .inl (cJ, 441, .inr (.inl (fun _ => 0)))), (q6, .inl (cZ, 441, .inl (bF (fun _ => false))))]) rfl ?_
  refine gz_putF (ci := 2) (ws2 := [(nt, .inr (2, [.int (nI 0), .int (nI 0), .ref q1, .ref q2, .ref q3, .ref q4, .ref q5, .ref q6])), (q1, .inl (cJ, 21, .inr (.inl (fun _ => 0)))), (q2, .inl (cJ, 21, .inr (.inl (fun _ => 0)))), (q3, .inl (cJ, 21, .inr (.inl (fun _ => 0)))), (q4, .inl (cI, 21, .inl (fun _ => 0))), (q5, .inl (cJ, 441, .inr (.inl (fun _ => 0)))), (q6, .inl (cZ, 441, .inl (bF (fun _ => false))))]) C iwX1 0 rfl rfl 7 (by decide) wk_36 rfl tyX1 tyX1_ok nmX1 rfl hnm rfl rfl rfl rfl (Nat.le_of_ble_eq_true rfl) rfl dX1_init_61 ?_
  refine gz_wse (ws2 := (wN nt (ctl [0, 0, q1, q2, q3, q4, q5, q6]) cI cJ cZ 0 0 ((fun _ => 0)) ((fun _ => 0)) ((fun _ => 0)) ((fun _ => 0)) ((fun _ => 0)) ((fun _ => false)))) rfl ?_
  generalize ctl [0, 0, q1, q2, q3, q4, q5, q6] = ad
  refine gz_iconst (v := nI 0) C dX1_init_64 (by decide) ?_
  refine gz_istore_n (lv2 := [(1, .int (nI 0)), (0, .ref nt)]) C dX1_init_65 (by decide) rfl ?_
  refine gz_lv (lv2 := [(0, .ref nt), (1, .int (nI 0))]) [1, 0] rfl ?_
  refine lX1_init_lp nt ad cI cJ cZ 0 0 ((fun _ => 0)) ((fun _ => 0)) ((fun _ => 0)) ((fun _ => 0)) ((fun _ => false))  C 441 0 ((fun _ => 0)) (by omega)  ?_
  intro zme_lp
  refine gz_aload_n C 0 dX1_init_90 rfl ?_
  refine gz_get (ci := 2) C iwX1 0 rfl rfl 4 (by decide) wk_33 rfl rfl dX1_init_91 ?_
  refine gz_iconst (v := nI 0) C dX1_init_94 (by decide) ?_
  refine gz_ldc2 (v := 1000000000000000) C wk_26 dX1_init_95 ?_
  refine gz_last (ws2 := (wN nt ad cI cJ cZ 0 0 ((fun _ => 0)) ((fun _ => 0)) (va_up ((fun _ => 0)) 0 1000000000000000) ((fun _ => 0)) ((f1_init_lp  441 0 ((fun _ => 0))).2) ((fun _ => false)))) C 3 1 rfl rfl (by omega) (by decide) rfl dX1_init_98 ?_
  exact gz_vretX C hr hk rfl ad rfl (by decide) (by decide) dX1_init_99

set_option maxRecDepth 100000 in
set_option maxHeartbeats 4000000 in
theorem kX0_init (l : Launch) (D : va_G) (es : Nat) (cI : ClassId) (cJ : ClassId) (cZ : ClassId) : gz_MX l yX0_init cX0_init 1 none ({ frames := 1, cells := 2, slots := 11, locals := 20 } : Room) D [(cI, .int), (cJ, .long), (cZ, .boolean)] [.ref es] [(es, .inr (1, [.null, .int 0, .null, .int 0, .long 0]))] none (fun u : Nat × Nat => [(es, .inr (1, [.ref u.1, .int (nI 0), .ref u.2, .int (nI 0), .long 0])), (u.1, .inl (cI, 11, .inl (nF (fun _ => 0)))), (u.2, .inl (cJ, 0, .inr (.inl (fun _ => 0))))]) 2 11 := by
  refine gz_metX l (by decide) (Nat.le_of_ble_eq_true rfl) [(0, .ref es)] rfl ?_
  intro sz p e s m args below meth c C hr hk hnm
  have C : gz_C p s m args c cX0_init 1 RX0 D [(cI, .int), (cJ, .long), (cZ, .boolean)] (va_A [(es, .inr (1, [.null, .int 0, .null, .int 0, .long 0]))] sz) := C
  refine gz_aload_n C 0 dX0_init_0 rfl ?_
  refine gz_objInit C wk_62 wk_17 wk_18 dX0_init_1 (by decide) (by decide) ?_
  refine gz_aload_n C 0 dX0_init_4 rfl ?_
  refine gz_bipush (v := nI 11) C dX0_init_5 (by decide) ?_
  refine gz_newa (atype := .int) (N := 11) (a0 := (11, .inl (nF (fun _ => 0)))) C wk_55 0 rfl (fun _ => rfl) (by decide) (by decide) (by decide) (by decide) dX0_init_7 (fun q1 => ?_)
  refine gz_wse (ws2 := [(es, .inr (1, [.null, .int 0, .null, .int 0, .long 0])), (q1, .inl (cI, 11, .inl (nF (fun _ => 0))))]) rfl ?_
  refine gz_putF (ci := 1) (ws2 := [(es, .inr (1, [.ref q1, .int 0, .null, .int 0, .long 0])), (q1, .inl (cI, 11, .inl (nF (fun _ => 0))))]) C iwX0 0 rfl rfl 0 (by decide) wk_63 rfl tyX0 tyX0_ok nmX0 rfl hnm rfl rfl rfl rfl (Nat.le_of_ble_eq_true rfl) rfl dX0_init_9 ?_
  refine gz_aload_n C 0 dX0_init_12 rfl ?_
  refine gz_iconst (v := nI 0) C dX0_init_13 (by decide) ?_
  refine gz_put (ci := 1) (ws2 := [(es, .inr (1, [.ref q1, .int (nI 0), .null, .int 0, .long 0])), (q1, .inl (cI, 11, .inl (nF (fun _ => 0))))]) C iwX0 0 rfl rfl 1 (by decide) wk_64 rfl tyX0 tyX0_ok nmX0 rfl rfl rfl rfl (Nat.le_of_ble_eq_true rfl) rfl dX0_init_14 ?_
  refine gz_aload_n C 0 dX0_init_17 rfl ?_
  refine gz_iconst (v := nI 0) C dX0_init_18 (by decide) ?_
  refine gz_newa (atype := .long) (N := 0) (a0 := (0, .inr (.inl (fun _ => 0)))) C wk_54 1 rfl (fun _ => rfl) (by decide) (by decide) (by decide) (by decide) dX0_init_19 (fun q2 => ?_)
  refine gz_wse (ws2 := [(es, .inr (1, [.ref q1, .int (nI 0), .null, .int 0, .long 0])), (q1, .inl (cI, 11, .inl (nF (fun _ => 0)))), (q2, .inl (cJ, 0, .inr (.inl (fun _ => 0))))]) rfl ?_
  refine gz_put (ci := 1) (ws2 := [(es, .inr (1, [.ref q1, .int (nI 0), .ref q2, .int 0, .long 0])), (q1, .inl (cI, 11, .inl (nF (fun _ => 0)))), (q2, .inl (cJ, 0, .inr (.inl (fun _ => 0))))]) C iwX0 0 rfl rfl 2 (by decide) wk_65 rfl tyX0 tyX0_ok nmX0 rfl rfl rfl rfl (Nat.le_of_ble_eq_true rfl) rfl dX0_init_21 ?_
  refine gz_aload_n C 0 dX0_init_24 rfl ?_
  refine gz_iconst (v := nI 0) C dX0_init_25 (by decide) ?_
  refine gz_put (ci := 1) (ws2 := [(es, .inr (1, [.ref q1, .int (nI 0), .ref q2, .int (nI 0), .long 0])), (q1, .inl (cI, 11, .inl (nF (fun _ => 0)))), (q2, .inl (cJ, 0, .inr (.inl (fun _ => 0))))]) C iwX0 0 rfl rfl 3 (by decide) wk_66 rfl tyX0 tyX0_ok nmX0 rfl rfl rfl rfl (Nat.le_of_ble_eq_true rfl) rfl dX0_init_26 ?_
  refine gz_aload_n C 0 dX0_init_29 rfl ?_
  refine gz_lconst (v := 0) C dX0_init_30 (by decide) ?_
  refine gz_put (ci := 1) (ws2 := [(es, .inr (1, [.ref q1, .int (nI 0), .ref q2, .int (nI 0), .long 0])), (q1, .inl (cI, 11, .inl (nF (fun _ => 0)))), (q2, .inl (cJ, 0, .inr (.inl (fun _ => 0))))]) C iwX0 0 rfl rfl 4 (by decide) wk_67 rfl tyX0 tyX0_ok nmX0 rfl rfl rfl rfl (Nat.le_of_ble_eq_true rfl) rfl dX0_init_31 ?_
  exact gz_vretX C hr hk rfl (q1, q2) rfl (by decide) (by decide) dX0_init_34

set_option maxRecDepth 100000 in
set_option maxHeartbeats 4000000 in
theorem kX2_init (l : Launch) (D : va_G) (xo : Nat) (cI : ClassId) (cJ : ClassId) (cZ : ClassId) : gz_MX l yX2_init cX2_init 1 none ({ frames := 2, cells := 11, slots := 1010, locals := 50 } : Room) D [(cI, .int), (cJ, .long), (cZ, .boolean)] [.ref xo] [(xo, .inr (3, [.null, .null, .null, .int 0, .int 0, .int 0, .int 0]))] none (fun u : Nat × Nat × Nat × (Nat → Nat) × Nat => (wC xo u.1 u.2.1 u.2.2.1 u.2.2.2.1 cI cJ cZ ((-1)) 0 false ((-1)) 0 0 ((fun _ => 0)) ((fun _ => 0)) (va_up ((fun _ => 0)) 0 1000000000000000) ((fun _ => 0)) ((f1_init_lp  441 0 ((fun _ => 0))).2) ((fun _ => false)) 0 u.2.2.2.2 u.2.2.2.2 0 0 ((fun _ => 0)) 0 ((fun _ => 0)) ((fun _ => 0)))) 11 1010 := by
  refine gz_metX l (by decide) (Nat.le_of_ble_eq_true rfl) [(0, .ref xo)] rfl ?_
  intro sz p e s m args below meth c C hr hk hnm
  have C : gz_C p s m args c cX2_init 1 RX2 D [(cI, .int), (cJ, .long), (cZ, .boolean)] (va_A [(xo, .inr (3, [.null, .null, .null, .int 0, .int 0, .int 0, .int 0]))] sz) := C
  refine gz_aload_n C 0 dX2_init_0 rfl ?_
  refine gz_objInit C wk_16 wk_17 wk_18 dX2_init_1 (by decide) (by decide) ?_
  refine gz_aload_n C 0 dX2_init_4 rfl ?_
  refine gz_new (ci := 2) (fs := [.int 0, .int 0, .null, .null, .null, .null, .null, .null]) C iwX1 tyX1 tyX1_ok wk_19 wk_20 wk_2 rfl (by decide) (by decide) (by decide) dX2_init_5 (fun nt => ?_)
  refine gz_wse (ws2 := [(xo, .inr (3, [.null, .null, .null, .int 0, .int 0, .int 0, .int 0])), (nt, .inr (2, [.int 0, .int 0, .null, .null, .null, .null, .null, .null]))]) rfl ?_
  refine gz_dup C dX2_init_8 rfl ?_
  refine gz_callIX (wr := [(xo, .inr (3, [.null, .null, .null, .int 0, .int 0, .int 0, .int 0]))]) (n := 0) (As := []) (rest := [.ref nt, .ref xo]) C (kX1_init l D nt cI cJ cZ) wk_23 wk_2 wk_21 wk_22 rfl (by decide +kernel) ⟨⟨rfl, rfl⟩, by decide, by decide⟩ [1] [0] [0, 1, 2] rfl rfl rfl (by decide) rfl rfl (Nat.le_of_ble_eq_true rfl) dX2_init_9 ⟨by decide, by decide⟩ (fun adN => ?_)
  refine gz_wse (ws2 := [(xo, .inr (3, [.null, .null, .null, .int 0, .int 0, .int 0, .int 0])), (nt, .inr (2, [.int (nI 0), .int 0, .ref ((adN 2)), .ref ((adN 3)), .ref ((adN 4)), .ref ((adN 5)), .ref ((adN 6)), .ref ((adN 7))])), (adN 2, .inl (cJ, 21, .inr (.inl ((fun _ => 0))))), (adN 3, .inl (cJ, 21, .inr (.inl ((fun _ => 0))))), (adN 4, .inl (cJ, 21, .inr (.inl (va_up ((fun _ => 0)) 0 1000000000000000)))), (adN 5, .inl (cI, 21, .inl ((fun _ => 0)))), (adN 6, .inl (cJ, 441, .inr (.inl ((f1_init_lp  441 0 ((fun _ => 0))).2)))), (adN 7, .inl (cZ, 441, .inl (bF ((fun _ => false)))))]) rfl ?_
  refine gz_putF (ci := 3) (ws2 := [(xo, .inr (3, [.ref nt, .null, .null, .int 0, .int 0, .int 0, .int 0])), (nt, .inr (2, [.int (nI 0), .int 0, .ref ((adN 2)), .ref ((adN 3)), .ref ((adN 4)), .ref ((adN 5)), .ref ((adN 6)), .ref ((adN 7))])), (adN 2, .inl (cJ, 21, .inr (.inl ((fun _ => 0))))), (adN 3, .inl (cJ, 21, .inr (.inl ((fun _ => 0))))), (adN 4, .inl (cJ, 21, .inr (.inl (va_up ((fun _ => 0)) 0 1000000000000000)))), (adN 5, .inl (cI, 21, .inl ((fun _ => 0)))), (adN 6, .inl (cJ, 441, .inr (.inl ((f1_init_lp  441 0 ((fun _ => 0))).2)))), (adN 7, .inl (cZ, 441, .inl (bF ((fun _ => false)))))]) C iwX2 0 rfl rfl 0 (by decide) wk_79 rfl tyX2 tyX2_ok nmX2 rfl hnm rfl rfl rfl rfl (Nat.le_of_ble_eq_true rfl) rfl dX2_init_12 ?_
  refine gz_aload_n C 0 dX2_init_15 rfl ?_
  refine gz_new (ci := 1) (fs := [.null, .int 0, .null, .int 0, .long 0]) C iwX0 tyX0 tyX0_ok wk_57 wk_58 wk_3 rfl (by decide) (by decide) (by decide) dX2_init_16 (fun es => ?_)
  refine gz_wse (ws2 := [(xo, .inr (3, [.ref nt, .null, .null, .int 0, .int 0, .int 0, .int 0])), (nt, .inr (2, [.int (nI 0), .int 0, .ref ((adN 2)), .ref ((adN 3)), .ref ((adN 4)), .ref ((adN 5)), .ref ((adN 6)), .ref ((adN 7))])), (adN 2, .inl (cJ, 21, .inr (.inl ((fun _ => 0))))), (adN 3, .inl (cJ, 21, .inr (.inl ((fun _ => 0))))), (adN 4, .inl (cJ, 21, .inr (.inl (va_up ((fun _ => 0)) 0 1000000000000000)))), (adN 5, .inl (cI, 21, .inl ((fun _ => 0)))), (adN 6, .inl (cJ, 441, .inr (.inl ((f1_init_lp  441 0 ((fun _ => 0))).2)))), (adN 7, .inl (cZ, 441, .inl (bF ((fun _ => false))))), (es, .inr (1, [.null, .int 0, .null, .int 0, .long 0]))]) rfl ?_
  refine gz_dup C dX2_init_19 rfl ?_
  refine gz_callIN (host := "RoundSearch") (wr := [(xo, .inr (3, [.ref nt, .null, .null, .int 0, .int 0, .int 0, .int 0])), (nt, .inr (2, [.int (nI 0), .int 0, .ref ((adN 2)), .ref ((adN 3)), .ref ((adN 4)), .ref ((adN 5)), .ref ((adN 6)), .ref ((adN 7))])), (adN 2, .inl (cJ, 21, .inr (.inl ((fun _ => 0))))), (adN 3, .inl (cJ, 21, .inr (.inl ((fun _ => 0))))), (adN 4, .inl (cJ, 21, .inr (.inl (va_up ((fun _ => 0)) 0 1000000000000000)))), (adN 5, .inl (cI, 21, .inl ((fun _ => 0)))), (adN 6, .inl (cJ, 441, .inr (.inl ((f1_init_lp  441 0 ((fun _ => 0))).2)))), (adN 7, .inl (cZ, 441, .inl (bF ((fun _ => false)))))]) (n := 0) (As := []) (rest := [.ref es, .ref xo]) C (kX0_init l D es cI cJ cZ) wk_61 wk_3 (nw_2 C.2.2.2.2.2.2.2) wk_60 rfl (by decide +kernel) ⟨⟨rfl, rfl⟩, by decide, by decide⟩ [8] [0, 1, 2, 3, 4, 5, 6, 7] [0, 1, 2] rfl rfl rfl (by decide) rfl rfl (Nat.le_of_ble_eq_true rfl) dX2_init_20 ⟨by decide, by decide⟩ (fun ue => ?_)
  refine gz_wse (ws2 := [(xo, .inr (3, [.ref nt, .null, .null, .int 0, .int 0, .int 0, .int 0])), (nt, .inr (2, [.int (nI 0), .int 0, .ref ((adN 2)), .ref ((adN 3)), .ref ((adN 4)), .ref ((adN 5)), .ref ((adN 6)), .ref ((adN 7))])), (adN 2, .inl (cJ, 21, .inr (.inl ((fun _ => 0))))), (adN 3, .inl (cJ, 21, .inr (.inl ((fun _ => 0))))), (adN 4, .inl (cJ, 21, .inr (.inl (va_up ((fun _ => 0)) 0 1000000000000000)))), (adN 5, .inl (cI, 21, .inl ((fun _ => 0)))), (adN 6, .inl (cJ, 441, .inr (.inl ((f1_init_lp  441 0 ((fun _ => 0))).2)))), (adN 7, .inl (cZ, 441, .inl (bF ((fun _ => false))))), (es, .inr (1, [.ref ue.1, .int (nI 0), .ref ue.2, .int (nI 0), .long 0])), (ue.1, .inl (cI, 11, .inl (nF (fun _ => 0)))), (ue.2, .inl (cJ, 0, .inr (.inl (fun _ => 0))))]) rfl ?_
  refine gz_putF (ci := 3) (ws2 := [(xo, .inr (3, [.ref nt, .ref es, .null, .int 0, .int 0, .int 0, .int 0])), (nt, .inr (2, [.int (nI 0), .int 0, .ref ((adN 2)), .ref ((adN 3)), .ref ((adN 4)), .ref ((adN 5)), .ref ((adN 6)), .ref ((adN 7))])), (adN 2, .inl (cJ, 21, .inr (.inl ((fun _ => 0))))), (adN 3, .inl (cJ, 21, .inr (.inl ((fun _ => 0))))), (adN 4, .inl (cJ, 21, .inr (.inl (va_up ((fun _ => 0)) 0 1000000000000000)))), (adN 5, .inl (cI, 21, .inl ((fun _ => 0)))), (adN 6, .inl (cJ, 441, .inr (.inl ((f1_init_lp  441 0 ((fun _ => 0))).2)))), (adN 7, .inl (cZ, 441, .inl (bF ((fun _ => false))))), (es, .inr (1, [.ref ue.1, .int (nI 0), .ref ue.2, .int (nI 0), .long 0])), (ue.1, .inl (cI, 11, .inl (nF (fun _ => 0)))), (ue.2, .inl (cJ, 0, .inr (.inl (fun _ => 0))))]) C iwX2 0 rfl rfl 1 (by decide) wk_80 rfl tyX2 tyX2_ok nmX2 rfl hnm rfl rfl rfl rfl (Nat.le_of_ble_eq_true rfl) rfl dX2_init_23 ?_
  refine gz_aload_n C 0 dX2_init_26 rfl ?_
  refine gz_bipush (v := nI 20) C dX2_init_27 (by decide) ?_
  refine gz_newa (atype := .int) (N := 20) (a0 := (20, .inl (nF (fun _ => 0)))) C wk_55 0 rfl (fun _ => rfl) (by decide) (by decide) (by decide) (by decide) dX2_init_29 (fun q1 => ?_)
  refine gz_wse (ws2 := [(xo, .inr (3, [.ref nt, .ref es, .null, .int 0, .int 0, .int 0, .int 0])), (nt, .inr (2, [.int (nI 0), .int 0, .ref ((adN 2)), .ref ((adN 3)), .ref ((adN 4)), .ref ((adN 5)), .ref ((adN 6)), .ref ((adN 7))])), (adN 2, .inl (cJ, 21, .inr (.inl ((fun _ => 0))))), (adN 3, .inl (cJ, 21, .inr (.inl ((fun _ => 0))))), (adN 4, .inl (cJ, 21, .inr (.inl (va_up ((fun _ => 0)) 0 1000000000000000)))), (adN 5, .inl (cI, 21, .inl ((fun _ => 0)))), (adN 6, .inl (cJ, 441, .inr (.inl ((f1_init_lp  441 0 ((fun _ => 0))).2)))), (adN 7, .inl (cZ, 441, .inl (bF ((fun _ => false))))), (es, .inr (1, [.ref ue.1, .int (nI 0), .ref ue.2, .int (nI 0), .long 0])), (ue.1, .inl (cI, 11, .inl (nF (fun _ => 0)))), (ue.2, .inl (cJ, 0, .inr (.inl (fun _ => 0)))), (q1, .inl (cI, 20, .inl (nF (fun _ => 0))))]) rfl ?_
  refine gz_putF (ci := 3) (ws2 := [(xo, .inr (3, [.ref nt, .ref es, .ref q1, .int 0, .int 0, .int 0, .int 0])), (nt, .inr (2, [.int (nI 0), .int 0, .ref ((adN 2)), .ref ((adN 3)), .ref ((adN 4)), .ref ((adN 5)), .ref ((adN 6)), .ref ((adN 7))])), (adN 2, .inl (cJ, 21, .inr (.inl ((fun _ => 0))))), (adN 3, .inl (cJ, 21, .inr (.inl ((fun _ => 0))))), (adN 4, .inl (cJ, 21, .inr (.inl (va_up ((fun _ => 0)) 0 1000000000000000)))), (adN 5, .inl (cI, 21, .inl ((fun _ => 0)))), (adN 6, .inl (cJ, 441, .inr (.inl ((f1_init_lp  441 0 ((fun _ => 0))).2)))), (adN 7, .inl (cZ, 441, .inl (bF ((fun _ => false))))), (es, .inr (1, [.ref ue.1, .int (nI 0), .ref ue.2, .int (nI 0), .long 0])), (ue.1, .inl (cI, 11, .inl (nF (fun _ => 0)))), (ue.2, .inl (cJ, 0, .inr (.inl (fun _ => 0)))), (q1, .inl (cI, 20, .inl (nF (fun _ => 0))))]) C iwX2 0 rfl rfl 2 (by decide) wk_81 rfl tyX2 tyX2_ok nmX2 rfl hnm rfl rfl rfl rfl (Nat.le_of_ble_eq_true rfl) rfl dX2_init_31 ?_
  refine gz_aload_n C 0 dX2_init_34 rfl ?_
  refine gz_iconst (v := (-1)) C dX2_init_35 (by decide) ?_
  refine gz_put (ci := 3) (ws2 := [(xo, .inr (3, [.ref nt, .ref es, .ref q1, .int (-1), .int 0, .int 0, .int 0])), (nt, .inr (2, [.int (nI 0), .int 0, .ref ((adN 2)), .ref ((adN 3)), .ref ((adN 4)), .ref ((adN 5)), .ref ((adN 6)), .ref ((adN 7))])), (adN 2, .inl (cJ, 21, .inr (.inl ((fun _ => 0))))), (adN 3, .inl (cJ, 21, .inr (.inl ((fun _ => 0))))), (adN 4, .inl (cJ, 21, .inr (.inl (va_up ((fun _ => 0)) 0 1000000000000000)))), (adN 5, .inl (cI, 21, .inl ((fun _ => 0)))), (adN 6, .inl (cJ, 441, .inr (.inl ((f1_init_lp  441 0 ((fun _ => 0))).2)))), (adN 7, .inl (cZ, 441, .inl (bF ((fun _ => false))))), (es, .inr (1, [.ref ue.1, .int (nI 0), .ref ue.2, .int (nI 0), .long 0])), (ue.1, .inl (cI, 11, .inl (nF (fun _ => 0)))), (ue.2, .inl (cJ, 0, .inr (.inl (fun _ => 0)))), (q1, .inl (cI, 20, .inl (nF (fun _ => 0))))]) C iwX2 0 rfl rfl 3 (by decide) wk_82 rfl tyX2 tyX2_ok nmX2 rfl rfl rfl rfl (Nat.le_of_ble_eq_true rfl) rfl dX2_init_36 ?_
  refine gz_aload_n C 0 dX2_init_39 rfl ?_
  refine gz_iconst (v := nI 0) C dX2_init_40 (by decide) ?_
  refine gz_put (ci := 3) (ws2 := [(xo, .inr (3, [.ref nt, .ref es, .ref q1, .int (-1), .int (nI 0), .int 0, .int 0])), (nt, .inr (2, [.int (nI 0), .int 0, .ref ((adN 2)), .ref ((adN 3)), .ref ((adN 4)), .ref ((adN 5)), .ref ((adN 6)), .ref ((adN 7))])), (adN 2, .inl (cJ, 21, .inr (.inl ((fun _ => 0))))), (adN 3, .inl (cJ, 21, .inr (.inl ((fun _ => 0))))), (adN 4, .inl (cJ, 21, .inr (.inl (va_up ((fun _ => 0)) 0 1000000000000000)))), (adN 5, .inl (cI, 21, .inl ((fun _ => 0)))), (adN 6, .inl (cJ, 441, .inr (.inl ((f1_init_lp  441 0 ((fun _ => 0))).2)))), (adN 7, .inl (cZ, 441, .inl (bF ((fun _ => false))))), (es, .inr (1, [.ref ue.1, .int (nI 0), .ref ue.2, .int (nI 0), .long 0])), (ue.1, .inl (cI, 11, .inl (nF (fun _ => 0)))), (ue.2, .inl (cJ, 0, .inr (.inl (fun _ => 0)))), (q1, .inl (cI, 20, .inl (nF (fun _ => 0))))]) C iwX2 0 rfl rfl 4 (by decide) wk_83 rfl tyX2 tyX2_ok nmX2 rfl rfl rfl rfl (Nat.le_of_ble_eq_true rfl) rfl dX2_init_41 ?_
  refine gz_aload_n C 0 dX2_init_44 rfl ?_
  refine gz_iconst (v := nI 0) C dX2_init_45 (by decide) ?_
  refine gz_sw (v := .int (nI 0)) (w := .int (bI false)) rfl ?_
  refine gz_put (ci := 3) (ws2 := [(xo, .inr (3, [.ref nt, .ref es, .ref q1, .int (-1), .int (nI 0), .int (bI false), .int 0])), (nt, .inr (2, [.int (nI 0), .int 0, .ref ((adN 2)), .ref ((adN 3)), .ref ((adN 4)), .ref ((adN 5)), .ref ((adN 6)), .ref ((adN 7))])), (adN 2, .inl (cJ, 21, .inr (.inl ((fun _ => 0))))), (adN 3, .inl (cJ, 21, .inr (.inl ((fun _ => 0))))), (adN 4, .inl (cJ, 21, .inr (.inl (va_up ((fun _ => 0)) 0 1000000000000000)))), (adN 5, .inl (cI, 21, .inl ((fun _ => 0)))), (adN 6, .inl (cJ, 441, .inr (.inl ((f1_init_lp  441 0 ((fun _ => 0))).2)))), (adN 7, .inl (cZ, 441, .inl (bF ((fun _ => false))))), (es, .inr (1, [.ref ue.1, .int (nI 0), .ref ue.2, .int (nI 0), .long 0])), (ue.1, .inl (cI, 11, .inl (nF (fun _ => 0)))), (ue.2, .inl (cJ, 0, .inr (.inl (fun _ => 0)))), (q1, .inl (cI, 20, .inl (nF (fun _ => 0))))]) C iwX2 0 rfl rfl 5 (by decide) wk_84 rfl tyX2 tyX2_ok nmX2 rfl rfl (bI_nar _) (bI_fit _) (Nat.le_of_ble_eq_true rfl) rfl dX2_init_46 ?_
  refine gz_aload_n C 0 dX2_init_49 rfl ?_
  refine gz_iconst (v := (-1)) C dX2_init_50 (by decide) ?_
  refine gz_put (ci := 3) (ws2 := [(xo, .inr (3, [.ref nt, .ref es, .ref q1, .int (-1), .int (nI 0), .int (bI false), .int (-1)])), (nt, .inr (2, [.int (nI 0), .int 0, .ref ((adN 2)), .ref ((adN 3)), .ref ((adN 4)), .ref ((adN 5)), .ref ((adN 6)), .ref ((adN 7))])), (adN 2, .inl (cJ, 21, .inr (.inl ((fun _ => 0))))), (adN 3, .inl (cJ, 21, .inr (.inl ((fun _ => 0))))), (adN 4, .inl (cJ, 21, .inr (.inl (va_up ((fun _ => 0)) 0 1000000000000000)))), (adN 5, .inl (cI, 21, .inl ((fun _ => 0)))), (adN 6, .inl (cJ, 441, .inr (.inl ((f1_init_lp  441 0 ((fun _ => 0))).2)))), (adN 7, .inl (cZ, 441, .inl (bF ((fun _ => false))))), (es, .inr (1, [.ref ue.1, .int (nI 0), .ref ue.2, .int (nI 0), .long 0])), (ue.1, .inl (cI, 11, .inl (nF (fun _ => 0)))), (ue.2, .inl (cJ, 0, .inr (.inl (fun _ => 0)))), (q1, .inl (cI, 20, .inl (nF (fun _ => 0))))]) C iwX2 0 rfl rfl 6 (by decide) wk_85 rfl tyX2 tyX2_ok nmX2 rfl rfl rfl rfl (Nat.le_of_ble_eq_true rfl) rfl dX2_init_51 ?_
  refine gz_ws (ws2 := (wC xo nt es q1 (ctl [0, 0, adN 2, adN 3, adN 4, adN 5, adN 6, adN 7, 0, ue.1]) cI cJ cZ ((-1)) 0 false ((-1)) 0 0 ((fun _ => 0)) ((fun _ => 0)) (va_up ((fun _ => 0)) 0 1000000000000000) ((fun _ => 0)) ((f1_init_lp  441 0 ((fun _ => 0))).2) ((fun _ => false)) 0 ue.2 ue.2 0 0 ((fun _ => 0)) 0 ((fun _ => 0)) ((fun _ => 0)))) [0, 1, 2, 3, 4, 5, 6, 7, 8, 9, 10, 11] (by decide) rfl ?_
  exact gz_vretX C hr hk rfl (nt, es, q1, (ctl [0, 0, adN 2, adN 3, adN 4, adN 5, adN 6, adN 7, 0, ue.1]), ue.2) rfl (by decide) (by decide) dX2_init_54

