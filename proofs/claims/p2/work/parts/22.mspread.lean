def f3_spread_l1 (tkv : Nat → Int64) (opv : Nat → Int64) (shv : Nat → Int64) (wyv : Nat → Int64) (bdv : Nat → Bool) (icv : Nat → Nat) : Nat → Int64 → Nat → Nat → Int64 × Nat × Nat
  | 0, ck, la, k => (ck, la, k)
  | n + 1, ck, la, k => f3_spread_l1 tkv opv shv wyv bdv icv n (f3_wellDone tkv opv shv wyv bdv la (icv k) ck) (icv k) (k + 1)
set_option maxRecDepth 100000 in
set_option maxHeartbeats 4000000 in
theorem lX3_spread_l1 {p : Program} {l : Launch} {e : Env} {R : Room} {s : State} {m : MethodId} {args : Array Value} {below : List Frame} {meth : Method} {c : Code} {cells slots : Nat} {Q : State → Prop} {A : Nat → Prop} {D : va_G} (h : Nat) (ad : Nat → Nat) (cI : ClassId) (cJ : ClassId) (cZ : ClassId) (thr : Int32) (sn : Nat) (tkv : Nat → Int64) (opv : Nat → Int64) (shv : Nat → Int64) (ldv : Nat → Int32) (lim : Int32) (wyv : Nat → Int64) (bdv : Nat → Bool) (isr : Bool) (rn : Nat) (rdv : Nat → Nat) (fz : Nat) (icv : Nat → Nat) (exa : Bool) (fr : Nat) (fev : Nat → Nat) (eav : Nat → Int64) (rs : Nat) (rov : Nat → Nat) (hfz : fz ≤ 20) (hic : ∀ k, k < fz → icv k ≤ 20) (hR : 1 ≤ R.frames ∧ 26 ≤ R.locals) (hce : cells ≤ R.cells ∧ slots ≤ R.slots) (C : gz_C p s m args c cX3_spread 13 RX3 D [(cI, .int), (cJ, .long), (cZ, .boolean)] A) : ∀ (n : Nat) (ck : Int64) (la : Nat) (k : Nat), (k + n = fz) → (la ≤ 20) → ((((f3_spread_l1 tkv opv shv wyv bdv icv n ck la k).2.2) + 0 = fz) → (((f3_spread_l1 tkv opv shv wyv bdv icv n ck la k).2.1) ≤ 20) → GZ p l e R s m args below meth c 13 D A cells slots Q (wM h ad cI cJ cZ thr sn tkv opv shv ldv lim wyv bdv isr rn rdv fz icv exa fr fev eav rs rov) [(0, .ref h), (1, .long ((f3_spread_l1 tkv opv shv wyv bdv icv n ck la k).1)), (3, .int (nI ((f3_spread_l1 tkv opv shv wyv bdv icv n ck la k).2.1))), (4, .int (nI ((f3_spread_l1 tkv opv shv wyv bdv icv n ck la k).2.2)))] [] 44) → GZ p l e R s m args below meth c 13 D A cells slots Q (wM h ad cI cJ cZ thr sn tkv opv shv ldv lim wyv bdv isr rn rdv fz icv exa fr fev eav rs rov) [(0, .ref h), (1, .long ck), (3, .int (nI la)), (4, .int (nI k))] [] 7 := by
  intro n
  induction n with
  | zero =>
    intro ck la k hme hla hx
    refine gz_iload C 3 dX3_spread_7 rfl ?_
    refine gz_aload_n C 0 dX3_spread_9 rfl ?_
    refine gz_get (ci := 4) C iwX3 0 rfl rfl 12 (by decide) wk_392 rfl rfl dX3_spread_10 ?_
    refine gz_ncmp_ge C 44 (by omega) (by omega) dX3_spread_13 (by decide) (fun h_1 => ?_) (fun h_1 => ?_)
    · skip
      exact gz_lv [0, 1, 2, 3] rfl (hx hme hla)
    · have g_1 : ¬ (fz ≤ k) := (Nat.not_le.mpr h_1)
      exfalso; omega
  | succ n ih =>
    intro ck la k hme hla hx
    refine gz_iload C 3 dX3_spread_7 rfl ?_
    refine gz_aload_n C 0 dX3_spread_9 rfl ?_
    refine gz_get (ci := 4) C iwX3 0 rfl rfl 12 (by decide) wk_392 rfl rfl dX3_spread_10 ?_
    refine gz_ncmp_ge C 44 (by omega) (by omega) dX3_spread_13 (by decide) (fun h_1 => ?_) (fun h_1 => ?_)
    · skip
      exfalso; omega
    · have g_1 : ¬ (fz ≤ k) := (Nat.not_le.mpr h_1)
      have hq := hic k (by omega)
      refine gz_aload_n C 0 dX3_spread_16 rfl ?_
      refine gz_iload_n C 2 dX3_spread_17 rfl ?_
      refine gz_aload_n C 0 dX3_spread_18 rfl ?_
      refine gz_get (ci := 4) C iwX3 0 rfl rfl 13 (by decide) wk_393 rfl rfl dX3_spread_19 ?_
      refine gz_iload C 3 dX3_spread_22 rfl ?_
      refine gz_iald C 8 0 rfl rfl (by omega) (by decide) dX3_spread_24 ?_
      refine gz_lload_n C 1 dX3_spread_25 rfl ?_
      refine gz_callV (wr := []) (n := 3) (ws2 := (wM h ad cI cJ cZ thr sn tkv opv shv ldv lim wyv bdv isr rn rdv fz icv exa fr fev eav rs rov)) (st2 := [.long (f3_wellDone tkv opv shv wyv bdv la (icv k) ck)]) (cells2 := cells) (slots2 := slots) (ci := 4) C (kX3_wellDone l D h ad cI cJ cZ thr sn tkv opv shv ldv lim wyv bdv isr rn rdv fz icv exa fr fev eav rs rov la (icv k) ck (by first | assumption | omega) (by first | assumption | omega)) (WB_V wk_485 wk_487 ws_21 wk_4 wk_488) (by decide +kernel) ⟨⟨rfl, rfl⟩, Nat.le_trans (by decide) hR.1, Nat.le_trans (by decide) hR.2⟩ [0, 1, 2, 3, 4, 5, 6, 7, 8, 9, 10, 11] [] [0, 1, 2] rfl rfl rfl (by decide) rfl 0 rfl rfl rfl rfl (Nat.le_of_ble_eq_true rfl) dX3_spread_26 hce rfl rfl rfl ?_
      refine gz_lstore_n (lv2 := [(1, .long (f3_wellDone tkv opv shv wyv bdv la (icv k) ck)), (0, .ref h), (3, .int (nI la)), (4, .int (nI k))]) C dX3_spread_29 (by decide) rfl ?_
      refine gz_aload_n C 1 dX3_spread_30 rfl ?_
      refine gz_get (ci := 4) C iwX3 0 rfl rfl 13 (by decide) wk_393 rfl rfl dX3_spread_31 ?_
      refine gz_iload C 3 dX3_spread_34 rfl ?_
      refine gz_iald C 8 0 rfl rfl (by omega) (by decide) dX3_spread_36 ?_
      refine gz_istore_n (lv2 := [(3, .int (nI (icv k))), (1, .long (f3_wellDone tkv opv shv wyv bdv la (icv k) ck)), (0, .ref h), (4, .int (nI k))]) C dX3_spread_37 (by decide) rfl ?_
      refine gz_iinc (v := nI (k + 1)) (lv2 := [(4, .int (nI (k + 1))), (3, .int (nI (icv k))), (1, .long (f3_wellDone tkv opv shv wyv bdv la (icv k) ck)), (0, .ref h)]) (k := 3) C dX3_spread_38 rfl (nI_add _ 1) (by decide) rfl ?_
      refine gz_goto C 7 dX3_spread_41 (by decide) ?_
      refine gz_lv [3, 2, 1, 0] rfl ?_
      simp only [f3_spread_l1, if_neg g_1] at hx
      exact ih (f3_wellDone tkv opv shv wyv bdv la (icv k) ck) (icv k) (k + 1) (by omega) (by omega) hx

def f3_spread_l2  : Nat → Nat → (Nat → Int64) → Nat × (Nat → Int64)
  | 0, k, eav => (k, eav)
  | n + 1, k, eav => f3_spread_l2  n (k + 1) (va_up eav k 4000000000000000000)
set_option maxRecDepth 100000 in
set_option maxHeartbeats 4000000 in
theorem lX3_spread_l2 {p : Program} {l : Launch} {e : Env} {R : Room} {s : State} {m : MethodId} {args : Array Value} {below : List Frame} {meth : Method} {c : Code} {cells slots : Nat} {Q : State → Prop} {A : Nat → Prop} {D : va_G} (h : Nat) (ad : Nat → Nat) (cI : ClassId) (cJ : ClassId) (cZ : ClassId) (thr : Int32) (sn : Nat) (tkv : Nat → Int64) (opv : Nat → Int64) (shv : Nat → Int64) (ldv : Nat → Int32) (lim : Int32) (wyv : Nat → Int64) (bdv : Nat → Bool) (isr : Bool) (rn : Nat) (rdv : Nat → Nat) (fz : Nat) (icv : Nat → Nat) (exa : Bool) (fr : Nat) (fev : Nat → Nat) (rs : Nat) (rov : Nat → Nat) (ck : Int64) (la : Nat) (se : Nat)  (C : gz_C p s m args c cX3_spread 13 RX3 D [(cI, .int), (cJ, .long), (cZ, .boolean)] A) : ∀ (n : Nat) (k : Nat) (eav : Nat → Int64), (k + n = 11 * se ∧ se ≤ 2048) → ((((f3_spread_l2  n k eav).1) + 0 = 11 * se ∧ se ≤ 2048) → GZ p l e R s m args below meth c 13 D A cells slots Q (wM h ad cI cJ cZ thr sn tkv opv shv ldv lim wyv bdv isr rn rdv fz icv exa fr fev ((f3_spread_l2  n k eav).2) rs rov) [(0, .ref h), (1, .long ck), (3, .int (nI la)), (4, .int (nI se)), (5, .int (nI ((f3_spread_l2  n k eav).1)))] [] 81) → GZ p l e R s m args below meth c 13 D A cells slots Q (wM h ad cI cJ cZ thr sn tkv opv shv ldv lim wyv bdv isr rn rdv fz icv exa fr fev eav rs rov) [(0, .ref h), (1, .long ck), (3, .int (nI la)), (4, .int (nI se)), (5, .int (nI k))] [] 55 := by
  intro n
  induction n with
  | zero =>
    intro k eav hme  hx
    refine gz_iload C 4 dX3_spread_55 rfl ?_
    refine gz_bipush (v := nI 11) C dX3_spread_57 (by decide) ?_
    refine gz_iload C 3 dX3_spread_59 rfl ?_
    refine gz_imul (v := nI (11 * se)) C dX3_spread_61 (pk_mul _ _) ?_
    refine gz_ncmp_ge C 81 (by omega) (by omega) dX3_spread_62 (by decide) (fun h_1 => ?_) (fun h_1 => ?_)
    · skip
      exact gz_lv [0, 1, 2, 3, 4] rfl (hx hme )
    · have g_1 : ¬ ((11 * se) ≤ k) := (Nat.not_le.mpr h_1)
      exfalso; omega
  | succ n ih =>
    intro k eav hme  hx
    refine gz_iload C 4 dX3_spread_55 rfl ?_
    refine gz_bipush (v := nI 11) C dX3_spread_57 (by decide) ?_
    refine gz_iload C 3 dX3_spread_59 rfl ?_
    refine gz_imul (v := nI (11 * se)) C dX3_spread_61 (pk_mul _ _) ?_
    refine gz_ncmp_ge C 81 (by omega) (by omega) dX3_spread_62 (by decide) (fun h_1 => ?_) (fun h_1 => ?_)
    · skip
      exfalso; omega
    · have g_1 : ¬ ((11 * se) ≤ k) := (Nat.not_le.mpr h_1)
      refine gz_aload_n C 0 dX3_spread_65 rfl ?_
      refine gz_get (ci := 4) C iwX3 0 rfl rfl 17 (by decide) wk_397 rfl rfl dX3_spread_66 ?_
      refine gz_iload C 4 dX3_spread_69 rfl ?_
      refine gz_ldc2 (v := 4000000000000000000) C wk_489 dX3_spread_71 ?_
      refine gz_last (ws2 := (wM h ad cI cJ cZ thr sn tkv opv shv ldv lim wyv bdv isr rn rdv fz icv exa fr fev (va_up eav k 4000000000000000000) rs rov)) C 10 1 rfl rfl (by omega) (by decide) rfl dX3_spread_74 ?_
      refine gz_iinc (v := nI (k + 1)) (lv2 := [(5, .int (nI (k + 1))), (0, .ref h), (1, .long ck), (3, .int (nI la)), (4, .int (nI se))]) (k := 4) C dX3_spread_75 rfl (nI_add _ 1) (by decide) rfl ?_
      refine gz_goto C 55 dX3_spread_78 (by decide) ?_
      refine gz_lv [1, 2, 3, 4, 0] rfl ?_
      simp only [f3_spread_l2, if_neg g_1] at hx
      exact ih (k + 1) (va_up eav k 4000000000000000000) (by omega)  hx

def f3_spread_l3 (tkv : Nat → Int64) (opv : Nat → Int64) (shv : Nat → Int64) (wyv : Nat → Int64) (bdv : Nat → Bool) (fev : Nat → Nat) (ck : Int64) (la : Nat) : Nat → Nat → (Nat → Int64) → Nat × (Nat → Int64)
  | 0, k, eav => (k, eav)
  | n + 1, k, eav => f3_spread_l3 tkv opv shv wyv bdv fev ck la n (k + 1) (va_up eav ((11 * (2 ^ k)) + k) (f3_wellDone tkv opv shv wyv bdv la (fev k) ck))
set_option maxRecDepth 100000 in
set_option maxHeartbeats 4000000 in
theorem lX3_spread_l3 {p : Program} {l : Launch} {e : Env} {R : Room} {s : State} {m : MethodId} {args : Array Value} {below : List Frame} {meth : Method} {c : Code} {cells slots : Nat} {Q : State → Prop} {A : Nat → Prop} {D : va_G} (h : Nat) (ad : Nat → Nat) (cI : ClassId) (cJ : ClassId) (cZ : ClassId) (thr : Int32) (sn : Nat) (tkv : Nat → Int64) (opv : Nat → Int64) (shv : Nat → Int64) (ldv : Nat → Int32) (lim : Int32) (wyv : Nat → Int64) (bdv : Nat → Bool) (isr : Bool) (rn : Nat) (rdv : Nat → Nat) (fz : Nat) (icv : Nat → Nat) (exa : Bool) (fr : Nat) (fev : Nat → Nat) (rs : Nat) (rov : Nat → Nat) (ck : Int64) (la : Nat) (se : Nat) (hfr : fr ≤ 11) (hfe : ∀ k, k < fr → fev k ≤ 20) (hla : la ≤ 20) (hR : 1 ≤ R.frames ∧ 26 ≤ R.locals) (hce : cells ≤ R.cells ∧ slots ≤ R.slots) (C : gz_C p s m args c cX3_spread 13 RX3 D [(cI, .int), (cJ, .long), (cZ, .boolean)] A) : ∀ (n : Nat) (k : Nat) (eav : Nat → Int64), (k + n = fr) → ((((f3_spread_l3 tkv opv shv wyv bdv fev ck la n k eav).1) + 0 = fr) → GZ p l e R s m args below meth c 13 D A cells slots Q (wM h ad cI cJ cZ thr sn tkv opv shv ldv lim wyv bdv isr rn rdv fz icv exa fr fev ((f3_spread_l3 tkv opv shv wyv bdv fev ck la n k eav).2) rs rov) [(0, .ref h), (1, .long ck), (3, .int (nI la)), (4, .int (nI se)), (5, .int (nI ((f3_spread_l3 tkv opv shv wyv bdv fev ck la n k eav).1)))] [] 127) → GZ p l e R s m args below meth c 13 D A cells slots Q (wM h ad cI cJ cZ thr sn tkv opv shv ldv lim wyv bdv isr rn rdv fz icv exa fr fev eav rs rov) [(0, .ref h), (1, .long ck), (3, .int (nI la)), (4, .int (nI se)), (5, .int (nI k))] [] 84 := by
  intro n
  induction n with
  | zero =>
    intro k eav hme  hx
    refine gz_iload C 4 dX3_spread_84 rfl ?_
    refine gz_aload_n C 0 dX3_spread_86 rfl ?_
    refine gz_get (ci := 4) C iwX3 0 rfl rfl 15 (by decide) wk_395 rfl rfl dX3_spread_87 ?_
    refine gz_ncmp_ge C 127 (by omega) (by omega) dX3_spread_90 (by decide) (fun h_1 => ?_) (fun h_1 => ?_)
    · skip
      exact gz_lv [0, 1, 2, 3, 4] rfl (hx hme )
    · have g_1 : ¬ (fr ≤ k) := (Nat.not_le.mpr h_1)
      exfalso; omega
  | succ n ih =>
    intro k eav hme  hx
    refine gz_iload C 4 dX3_spread_84 rfl ?_
    refine gz_aload_n C 0 dX3_spread_86 rfl ?_
    refine gz_get (ci := 4) C iwX3 0 rfl rfl 15 (by decide) wk_395 rfl rfl dX3_spread_87 ?_
    refine gz_ncmp_ge C 127 (by omega) (by omega) dX3_spread_90 (by decide) (fun h_1 => ?_) (fun h_1 => ?_)
    · skip
      exfalso; omega
    · have g_1 : ¬ (fr ≤ k) := (Nat.not_le.mpr h_1)
      have h2 : 2 ^ k ≤ 1024 := bz_pow10 (by omega)
      have hq := hfe k (by omega)
      refine gz_aload_n C 0 dX3_spread_93 rfl ?_
      refine gz_get (ci := 4) C iwX3 0 rfl rfl 17 (by decide) wk_397 rfl rfl dX3_spread_94 ?_
      refine gz_bipush (v := nI 11) C dX3_spread_97 (by decide) ?_
      refine gz_iconst (v := nI 1) C dX3_spread_99 (by decide) ?_
      refine gz_iload C 4 dX3_spread_100 rfl ?_
      refine gz_ishl (v := nI (2 ^ k)) C dX3_spread_102 (bz_shl (by omega)) ?_
      refine gz_imul (v := nI (11 * (2 ^ k))) C dX3_spread_103 (pk_mul _ _) ?_
      refine gz_iload C 4 dX3_spread_104 rfl ?_
      refine gz_iadd (v := nI ((11 * (2 ^ k)) + k)) C dX3_spread_106 (nI_add _ _) ?_
      refine gz_aload_n C 0 dX3_spread_107 rfl ?_
      refine gz_iload_n C 2 dX3_spread_108 rfl ?_
      refine gz_aload_n C 0 dX3_spread_109 rfl ?_
      refine gz_get (ci := 4) C iwX3 0 rfl rfl 16 (by decide) wk_396 rfl rfl dX3_spread_110 ?_
      refine gz_iload C 4 dX3_spread_113 rfl ?_
      refine gz_iald C 9 0 rfl rfl (by omega) (by decide) dX3_spread_115 ?_
      refine gz_lload_n C 1 dX3_spread_116 rfl ?_
      refine gz_callV (wr := []) (n := 3) (ws2 := (wM h ad cI cJ cZ thr sn tkv opv shv ldv lim wyv bdv isr rn rdv fz icv exa fr fev eav rs rov)) (st2 := [.long (f3_wellDone tkv opv shv wyv bdv la (fev k) ck), .int (nI ((11 * (2 ^ k)) + k)), .ref ((ad 17))]) (cells2 := cells) (slots2 := slots) (ci := 4) C (kX3_wellDone l D h ad cI cJ cZ thr sn tkv opv shv ldv lim wyv bdv isr rn rdv fz icv exa fr fev eav rs rov la (fev k) ck (by first | assumption | omega) (by first | assumption | omega)) (WB_V wk_485 wk_487 ws_21 wk_4 wk_488) (by decide +kernel) ⟨⟨rfl, rfl⟩, Nat.le_trans (by decide) hR.1, Nat.le_trans (by decide) hR.2⟩ [0, 1, 2, 3, 4, 5, 6, 7, 8, 9, 10, 11] [] [0, 1, 2] rfl rfl rfl (by decide) rfl 0 rfl rfl rfl rfl (Nat.le_of_ble_eq_true rfl) dX3_spread_117 hce rfl rfl rfl ?_
      refine gz_last (ws2 := (wM h ad cI cJ cZ thr sn tkv opv shv ldv lim wyv bdv isr rn rdv fz icv exa fr fev (va_up eav ((11 * (2 ^ k)) + k) (f3_wellDone tkv opv shv wyv bdv la (fev k) ck)) rs rov)) C 10 1 rfl rfl (by omega) (by decide) rfl dX3_spread_120 ?_
      refine gz_iinc (v := nI (k + 1)) (lv2 := [(5, .int (nI (k + 1))), (0, .ref h), (1, .long ck), (3, .int (nI la)), (4, .int (nI se))]) (k := 4) C dX3_spread_121 rfl (nI_add _ 1) (by decide) rfl ?_
      refine gz_goto C 84 dX3_spread_124 (by decide) ?_
      refine gz_lv [1, 2, 3, 4, 0] rfl ?_
      simp only [f3_spread_l3, if_neg g_1] at hx
      exact ih (k + 1) (va_up eav ((11 * (2 ^ k)) + k) (f3_wellDone tkv opv shv wyv bdv la (fev k) ck)) (by omega)  hx

def f3_spread_l6 (tkv : Nat → Int64) (opv : Nat → Int64) (shv : Nat → Int64) (wyv : Nat → Int64) (bdv : Nat → Bool) (fev : Nat → Nat) (t : Nat) (j : Nat) (tt : Int64) : Nat → Nat → (Nat → Int64) → Nat × (Nat → Int64)
  | 0, k, eav => (k, eav)
  | n + 1, k, eav => if 4000000000000000000 ≤ tt then (k, eav) else f3_spread_l6 tkv opv shv wyv bdv fev t j tt n (k + 1) ((if ((t / 2 ^ k) % 2) = 0 then va_up eav ((11 * (t ||| (2 ^ k))) + k) ((if (eav ((11 * (t ||| (2 ^ k))) + k)) ≤ (f3_wellDone tkv opv shv wyv bdv (fev j) (fev k) tt) then eav ((11 * (t ||| (2 ^ k))) + k) else f3_wellDone tkv opv shv wyv bdv (fev j) (fev k) tt)) else eav))
set_option maxRecDepth 100000 in
set_option maxHeartbeats 4000000 in
theorem lX3_spread_l6 {p : Program} {l : Launch} {e : Env} {R : Room} {s : State} {m : MethodId} {args : Array Value} {below : List Frame} {meth : Method} {c : Code} {cells slots : Nat} {Q : State → Prop} {A : Nat → Prop} {D : va_G} (h : Nat) (ad : Nat → Nat) (cI : ClassId) (cJ : ClassId) (cZ : ClassId) (thr : Int32) (sn : Nat) (tkv : Nat → Int64) (opv : Nat → Int64) (shv : Nat → Int64) (ldv : Nat → Int32) (lim : Int32) (wyv : Nat → Int64) (bdv : Nat → Bool) (isr : Bool) (rn : Nat) (rdv : Nat → Nat) (fz : Nat) (icv : Nat → Nat) (exa : Bool) (fr : Nat) (fev : Nat → Nat) (rs : Nat) (rov : Nat → Nat) (se : Nat) (t : Nat) (j : Nat) (tt : Int64) (hfr : fr ≤ 11) (hfe : ∀ k, k < fr → fev k ≤ 20) (ht : t < 2 ^ fr) (hj : j < fr) (hR : 1 ≤ R.frames ∧ 26 ≤ R.locals) (hce : cells ≤ R.cells ∧ slots ≤ R.slots) (C : gz_C p s m args c cX3_spread 13 RX3 D [(cI, .int), (cJ, .long), (cZ, .boolean)] A) : ∀ (n : Nat) (k : Nat) (eav : Nat → Int64), (k + n = fr) → (GZ p l e R s m args below meth c 13 D A cells slots Q (wM h ad cI cJ cZ thr sn tkv opv shv ldv lim wyv bdv isr rn rdv fz icv exa fr fev ((f3_spread_l6 tkv opv shv wyv bdv fev t j tt n k eav).2) rs rov) [(0, .ref h), (4, .int (nI se)), (5, .int (nI t)), (6, .int (nI j)), (7, .long tt), (9, .int (nI ((f3_spread_l6 tkv opv shv wyv bdv fev t j tt n k eav).1)))] [] 270) → GZ p l e R s m args below meth c 13 D A cells slots Q (wM h ad cI cJ cZ thr sn tkv opv shv ldv lim wyv bdv isr rn rdv fz icv exa fr fev eav rs rov) [(0, .ref h), (4, .int (nI se)), (5, .int (nI t)), (6, .int (nI j)), (7, .long tt), (9, .int (nI k))] [] 167 := by
  intro n
  induction n with
  | zero =>
    intro k eav hme  hx
    refine gz_iload C 5 dX3_spread_167 rfl ?_
    refine gz_aload_n C 0 dX3_spread_169 rfl ?_
    refine gz_get (ci := 4) C iwX3 0 rfl rfl 15 (by decide) wk_395 rfl rfl dX3_spread_170 ?_
    refine gz_ncmp_ge C 270 (by omega) (by omega) dX3_spread_173 (by decide) (fun h_1 => ?_) (fun h_1 => ?_)
    · skip
      exact gz_lv [0, 1, 2, 3, 4, 5] rfl (hx )
    · have g_1 : ¬ (fr ≤ k) := (Nat.not_le.mpr h_1)
      exfalso; omega
  | succ n ih =>
    intro k eav hme  hx
    refine gz_iload C 5 dX3_spread_167 rfl ?_
    refine gz_aload_n C 0 dX3_spread_169 rfl ?_
    refine gz_get (ci := 4) C iwX3 0 rfl rfl 15 (by decide) wk_395 rfl rfl dX3_spread_170 ?_
    refine gz_ncmp_ge C 270 (by omega) (by omega) dX3_spread_173 (by decide) (fun h_1 => ?_) (fun h_1 => ?_)
    · skip
      exfalso; omega
    · have g_1 : ¬ (fr ≤ k) := (Nat.not_le.mpr h_1)
      refine gz_lload C 4 dX3_spread_176 rfl ?_
      refine gz_ldc2 (v := 4000000000000000000) C wk_489 dX3_spread_178 ?_
      refine gz_lcmp_ge C 270 dX3_spread_181 dX3_spread_182 (by decide) (fun h_2 => ?_) (fun h_2 => ?_)
      · skip
        simp only [f3_spread_l6, if_neg g_1, if_pos h_2] at hx
        exact gz_lv [0, 1, 2, 3, 4, 5] rfl (hx )
      · have g_2 : ¬ (4000000000000000000 ≤ tt) := h_2
        have h1 := bz_pow hfr
        have h2 := bz_or_lt ht (show k < fr by omega)
        have hq := hfe k (by omega)
        have hq2 := hfe j hj
        refine gz_iload C 2 dX3_spread_185 rfl ?_
        refine gz_iload C 5 dX3_spread_187 rfl ?_
        refine gz_ishr (v := nI (t / 2 ^ k)) C dX3_spread_189 (bz_shr (by omega) (by omega)) ?_
        refine gz_iconst (v := nI 1) C dX3_spread_190 (by decide) ?_
        refine gz_iand (v := nI ((t / 2 ^ k) % 2)) C dX3_spread_191 (bz_and1 _ (Nat.lt_of_le_of_lt (Nat.div_le_self _ _) (by omega))) ?_
        refine gz_J (ws2 := (wM h ad cI cJ cZ thr sn tkv opv shv ldv lim wyv bdv isr rn rdv fz icv exa fr fev ((if ((t / 2 ^ k) % 2) = 0 then va_up eav ((11 * (t ||| (2 ^ k))) + k) ((if (eav ((11 * (t ||| (2 ^ k))) + k)) ≤ (f3_wellDone tkv opv shv wyv bdv (fev j) (fev k) tt) then eav ((11 * (t ||| (2 ^ k))) + k) else f3_wellDone tkv opv shv wyv bdv (fev j) (fev k) tt)) else eav)) rs rov)) (lv2 := [(0, .ref h), (4, .int (nI se)), (5, .int (nI t)), (6, .int (nI j)), (7, .long tt), (9, .int (nI k))]) (st2 := []) (pc2 := 264) ?_ (fun J_3 => ?_)
        rotate_left
        · refine gz_nif_ne C 264 (by omega) dX3_spread_192 (by decide) (fun h_3 => ?_) (fun h_3 => ?_)
          · have g_3 : ¬ (((t / 2 ^ k) % 2) = 0) := h_3
            simp only [if_neg g_3] at J_3 ⊢
            exact gz_lv [0, 1, 2, 3, 4, 5] rfl J_3
          · skip
            refine gz_bipush (v := nI 11) C dX3_spread_195 (by decide) ?_
            refine gz_iload C 2 dX3_spread_197 rfl ?_
            refine gz_iconst (v := nI 1) C dX3_spread_199 (by decide) ?_
            refine gz_iload C 5 dX3_spread_200 rfl ?_
            refine gz_ishl (v := nI (2 ^ k)) C dX3_spread_202 (bz_shl (by omega)) ?_
            refine gz_ior (v := nI (t ||| (2 ^ k))) C dX3_spread_203 (bz_or _ _) ?_
            refine gz_imul (v := nI (11 * (t ||| (2 ^ k)))) C dX3_spread_204 (pk_mul _ _) ?_
            refine gz_iload C 5 dX3_spread_205 rfl ?_
            refine gz_iadd (v := nI ((11 * (t ||| (2 ^ k))) + k)) C dX3_spread_207 (nI_add _ _) ?_
            refine gz_istore (lv2 := [(10, .int (nI ((11 * (t ||| (2 ^ k))) + k))), (0, .ref h), (4, .int (nI se)), (5, .int (nI t)), (6, .int (nI j)), (7, .long tt), (9, .int (nI k))]) C dX3_spread_208 (by decide) rfl ?_
            refine gz_aload_n C 1 dX3_spread_210 rfl ?_
            refine gz_aload_n C 1 dX3_spread_211 rfl ?_
            refine gz_get (ci := 4) C iwX3 0 rfl rfl 16 (by decide) wk_396 rfl rfl dX3_spread_212 ?_
            refine gz_iload C 4 dX3_spread_215 rfl ?_
            refine gz_iald C 9 0 rfl rfl (by omega) (by decide) dX3_spread_217 ?_
            refine gz_aload_n C 1 dX3_spread_218 rfl ?_
            refine gz_get (ci := 4) C iwX3 0 rfl rfl 16 (by decide) wk_396 rfl rfl dX3_spread_219 ?_
            refine gz_iload C 6 dX3_spread_222 rfl ?_
            refine gz_iald C 9 0 rfl rfl (by omega) (by decide) dX3_spread_224 ?_
            refine gz_lload C 5 dX3_spread_225 rfl ?_
            refine gz_callV (wr := []) (n := 3) (ws2 := (wM h ad cI cJ cZ thr sn tkv opv shv ldv lim wyv bdv isr rn rdv fz icv exa fr fev eav rs rov)) (st2 := [.long (f3_wellDone tkv opv shv wyv bdv (fev j) (fev k) tt)]) (cells2 := cells) (slots2 := slots) (ci := 4) C (kX3_wellDone l D h ad cI cJ cZ thr sn tkv opv shv ldv lim wyv bdv isr rn rdv fz icv exa fr fev eav rs rov (fev j) (fev k) tt (by first | assumption | omega) (by first | assumption | omega)) (WB_V wk_485 wk_487 ws_21 wk_4 wk_488) (by decide +kernel) ⟨⟨rfl, rfl⟩, Nat.le_trans (by decide) hR.1, Nat.le_trans (by decide) hR.2⟩ [0, 1, 2, 3, 4, 5, 6, 7, 8, 9, 10, 11] [] [0, 1, 2] rfl rfl rfl (by decide) rfl 0 rfl rfl rfl rfl (Nat.le_of_ble_eq_true rfl) dX3_spread_227 hce rfl rfl rfl ?_
            refine gz_lstore (lv2 := [(11, .long (f3_wellDone tkv opv shv wyv bdv (fev j) (fev k) tt)), (10, .int (nI ((11 * (t ||| (2 ^ k))) + k))), (0, .ref h), (4, .int (nI se)), (5, .int (nI t)), (6, .int (nI j)), (7, .long tt), (9, .int (nI k))]) C dX3_spread_230 (by decide) rfl ?_
            refine gz_aload_n C 2 dX3_spread_232 rfl ?_
            refine gz_get (ci := 4) C iwX3 0 rfl rfl 17 (by decide) wk_397 rfl rfl dX3_spread_233 ?_
            refine gz_iload C 1 dX3_spread_236 rfl ?_
            refine gz_lload C 0 dX3_spread_238 rfl ?_
            refine gz_aload_n C 2 dX3_spread_240 rfl ?_
            refine gz_get (ci := 4) C iwX3 0 rfl rfl 17 (by decide) wk_397 rfl rfl dX3_spread_241 ?_
            refine gz_iload C 1 dX3_spread_244 rfl ?_
            refine gz_lald C 10 1 rfl rfl (by omega) (by decide) dX3_spread_246 ?_
            refine gz_J (ws2 := (wM h ad cI cJ cZ thr sn tkv opv shv ldv lim wyv bdv isr rn rdv fz icv exa fr fev eav rs rov)) (lv2 := [(11, .long (f3_wellDone tkv opv shv wyv bdv (fev j) (fev k) tt)), (10, .int (nI ((11 * (t ||| (2 ^ k))) + k))), (0, .ref h), (4, .int (nI se)), (5, .int (nI t)), (6, .int (nI j)), (7, .long tt), (9, .int (nI k))]) (st2 := [.long ((if (eav ((11 * (t ||| (2 ^ k))) + k)) ≤ (f3_wellDone tkv opv shv wyv bdv (fev j) (fev k) tt) then eav ((11 * (t ||| (2 ^ k))) + k) else f3_wellDone tkv opv shv wyv bdv (fev j) (fev k) tt)), .int (nI ((11 * (t ||| (2 ^ k))) + k)), .ref ((ad 17))]) (pc2 := 263) ?_ (fun J_4 => ?_)
            rotate_left
            · refine gz_lcmp_ge C 256 dX3_spread_247 dX3_spread_248 (by decide) (fun h_4 => ?_) (fun h_4 => ?_)
              · skip
                refine gz_aload_n C 2 dX3_spread_256 rfl ?_
                refine gz_get (ci := 4) C iwX3 0 rfl rfl 17 (by decide) wk_397 rfl rfl dX3_spread_257 ?_
                refine gz_iload C 1 dX3_spread_260 rfl ?_
                refine gz_lald C 10 1 rfl rfl (by omega) (by decide) dX3_spread_262 ?_
                simp only [if_pos h_4] at J_4 ⊢
                exact gz_lv [0, 1, 2, 3, 4, 5, 6, 7] rfl J_4
              · have g_4 : ¬ ((eav ((11 * (t ||| (2 ^ k))) + k)) ≤ (f3_wellDone tkv opv shv wyv bdv (fev j) (fev k) tt)) := h_4
                refine gz_lload C 0 dX3_spread_251 rfl ?_
                refine gz_goto C 263 dX3_spread_253 (by decide) ?_
                simp only [if_neg g_4] at J_4 ⊢
                exact gz_lv [0, 1, 2, 3, 4, 5, 6, 7] rfl J_4
            refine gz_last (ws2 := (wM h ad cI cJ cZ thr sn tkv opv shv ldv lim wyv bdv isr rn rdv fz icv exa fr fev (va_up eav ((11 * (t ||| (2 ^ k))) + k) ((if (eav ((11 * (t ||| (2 ^ k))) + k)) ≤ (f3_wellDone tkv opv shv wyv bdv (fev j) (fev k) tt) then eav ((11 * (t ||| (2 ^ k))) + k) else f3_wellDone tkv opv shv wyv bdv (fev j) (fev k) tt))) rs rov)) C 10 1 rfl rfl (by omega) (by decide) rfl dX3_spread_263 ?_
            simp only [if_pos h_3] at J_3 ⊢
            exact gz_lv [2, 3, 4, 5, 6, 7] rfl J_3
        refine gz_iinc (v := nI (k + 1)) (lv2 := [(9, .int (nI (k + 1))), (0, .ref h), (4, .int (nI se)), (5, .int (nI t)), (6, .int (nI j)), (7, .long tt)]) (k := 5) C dX3_spread_264 rfl (nI_add _ 1) (by decide) rfl ?_
        refine gz_goto C 167 dX3_spread_267 (by decide) ?_
        refine gz_lv [1, 2, 3, 4, 5, 0] rfl ?_
        simp only [f3_spread_l6, if_neg g_1, if_neg g_2] at hx
        exact ih (k + 1) ((if ((t / 2 ^ k) % 2) = 0 then va_up eav ((11 * (t ||| (2 ^ k))) + k) ((if (eav ((11 * (t ||| (2 ^ k))) + k)) ≤ (f3_wellDone tkv opv shv wyv bdv (fev j) (fev k) tt) then eav ((11 * (t ||| (2 ^ k))) + k) else f3_wellDone tkv opv shv wyv bdv (fev j) (fev k) tt)) else eav)) (by omega)  hx

def f3_spread_l5 (tkv : Nat → Int64) (opv : Nat → Int64) (shv : Nat → Int64) (wyv : Nat → Int64) (bdv : Nat → Bool) (fr : Nat) (fev : Nat → Nat) (t : Nat) : Nat → Nat → (Nat → Int64) → Nat × (Nat → Int64)
  | 0, j, eav => (j, eav)
  | n + 1, j, eav => f3_spread_l5 tkv opv shv wyv bdv fr fev t n (j + 1) ((f3_spread_l6 tkv opv shv wyv bdv fev t j (eav ((11 * t) + j)) fr 0 eav).2)
set_option maxRecDepth 100000 in
set_option maxHeartbeats 4000000 in
theorem lX3_spread_l5 {p : Program} {l : Launch} {e : Env} {R : Room} {s : State} {m : MethodId} {args : Array Value} {below : List Frame} {meth : Method} {c : Code} {cells slots : Nat} {Q : State → Prop} {A : Nat → Prop} {D : va_G} (h : Nat) (ad : Nat → Nat) (cI : ClassId) (cJ : ClassId) (cZ : ClassId) (thr : Int32) (sn : Nat) (tkv : Nat → Int64) (opv : Nat → Int64) (shv : Nat → Int64) (ldv : Nat → Int32) (lim : Int32) (wyv : Nat → Int64) (bdv : Nat → Bool) (isr : Bool) (rn : Nat) (rdv : Nat → Nat) (fz : Nat) (icv : Nat → Nat) (exa : Bool) (fr : Nat) (fev : Nat → Nat) (rs : Nat) (rov : Nat → Nat) (se : Nat) (t : Nat) (hfr : fr ≤ 11) (hfe : ∀ k, k < fr → fev k ≤ 20) (ht : t < 2 ^ fr) (hR : 1 ≤ R.frames ∧ 26 ≤ R.locals) (hce : cells ≤ R.cells ∧ slots ≤ R.slots) (C : gz_C p s m args c cX3_spread 13 RX3 D [(cI, .int), (cJ, .long), (cZ, .boolean)] A) : ∀ (n : Nat) (j : Nat) (eav : Nat → Int64), (j + n = fr) → ((((f3_spread_l5 tkv opv shv wyv bdv fr fev t n j eav).1) + 0 = fr) → GZ p l e R s m args below meth c 13 D A cells slots Q (wM h ad cI cJ cZ thr sn tkv opv shv ldv lim wyv bdv isr rn rdv fz icv exa fr fev ((f3_spread_l5 tkv opv shv wyv bdv fr fev t n j eav).2) rs rov) [(0, .ref h), (4, .int (nI se)), (5, .int (nI t)), (6, .int (nI ((f3_spread_l5 tkv opv shv wyv bdv fr fev t n j eav).1)))] [] 276) → GZ p l e R s m args below meth c 13 D A cells slots Q (wM h ad cI cJ cZ thr sn tkv opv shv ldv lim wyv bdv isr rn rdv fz icv exa fr fev eav rs rov) [(0, .ref h), (4, .int (nI se)), (5, .int (nI t)), (6, .int (nI j))] [] 140 := by
  intro n
  induction n with
  | zero =>
    intro j eav hme  hx
    refine gz_iload C 3 dX3_spread_140 rfl ?_
    refine gz_aload_n C 0 dX3_spread_142 rfl ?_
    refine gz_get (ci := 4) C iwX3 0 rfl rfl 15 (by decide) wk_395 rfl rfl dX3_spread_143 ?_
    refine gz_ncmp_ge C 276 (by omega) (by omega) dX3_spread_146 (by decide) (fun h_1 => ?_) (fun h_1 => ?_)
    · skip
      exact gz_lv [0, 1, 2, 3] rfl (hx hme )
    · have g_1 : ¬ (fr ≤ j) := (Nat.not_le.mpr h_1)
      exfalso; omega
  | succ n ih =>
    intro j eav hme  hx
    refine gz_iload C 3 dX3_spread_140 rfl ?_
    refine gz_aload_n C 0 dX3_spread_142 rfl ?_
    refine gz_get (ci := 4) C iwX3 0 rfl rfl 15 (by decide) wk_395 rfl rfl dX3_spread_143 ?_
    refine gz_ncmp_ge C 276 (by omega) (by omega) dX3_spread_146 (by decide) (fun h_1 => ?_) (fun h_1 => ?_)
    · skip
      exfalso; omega
    · have g_1 : ¬ (fr ≤ j) := (Nat.not_le.mpr h_1)
      have h1 := bz_pow hfr
      refine gz_aload_n C 0 dX3_spread_149 rfl ?_
      refine gz_get (ci := 4) C iwX3 0 rfl rfl 17 (by decide) wk_397 rfl rfl dX3_spread_150 ?_
      refine gz_bipush (v := nI 11) C dX3_spread_153 (by decide) ?_
      refine gz_iload C 2 dX3_spread_155 rfl ?_
      refine gz_imul (v := nI (11 * t)) C dX3_spread_157 (pk_mul _ _) ?_
      refine gz_iload C 3 dX3_spread_158 rfl ?_
      refine gz_iadd (v := nI ((11 * t) + j)) C dX3_spread_160 (nI_add _ _) ?_
      refine gz_lald C 10 1 rfl rfl (by omega) (by decide) dX3_spread_161 ?_
      refine gz_lstore (lv2 := [(7, .long (eav ((11 * t) + j))), (0, .ref h), (4, .int (nI se)), (5, .int (nI t)), (6, .int (nI j))]) C dX3_spread_162 (by decide) rfl ?_
      refine gz_iconst (v := nI 0) C dX3_spread_164 (by decide) ?_
      refine gz_istore (lv2 := [(9, .int (nI 0)), (7, .long (eav ((11 * t) + j))), (0, .ref h), (4, .int (nI se)), (5, .int (nI t)), (6, .int (nI j))]) C dX3_spread_165 (by decide) rfl ?_
      refine gz_lv (lv2 := [(0, .ref h), (4, .int (nI se)), (5, .int (nI t)), (6, .int (nI j)), (7, .long (eav ((11 * t) + j))), (9, .int (nI 0))]) [2, 3, 4, 5, 1, 0] rfl ?_
      refine lX3_spread_l6 h ad cI cJ cZ thr sn tkv opv shv ldv lim wyv bdv isr rn rdv fz icv exa fr fev rs rov se t j (eav ((11 * t) + j)) (by first | assumption | omega) (by first | assumption | omega) (by first | assumption | omega) (by first | assumption | omega) ⟨Nat.le_trans (by decide) hR.1, Nat.le_trans (by decide) hR.2⟩ hce C fr 0 eav (by omega)  ?_
      refine gz_iinc (v := nI (j + 1)) (lv2 := [(6, .int (nI (j + 1))), (0, .ref h), (4, .int (nI se)), (5, .int (nI t)), (7, .long (eav ((11 * t) + j))), (9, .int (nI ((f3_spread_l6 tkv opv shv wyv bdv fev t j (eav ((11 * t) + j)) fr 0 eav).1)))]) (k := 3) C dX3_spread_270 rfl (nI_add _ 1) (by decide) rfl ?_
      refine gz_goto C 140 dX3_spread_273 (by decide) ?_
      refine gz_lv [1, 2, 3, 0] rfl ?_
      simp only [f3_spread_l5, if_neg g_1] at hx
      exact ih (j + 1) ((f3_spread_l6 tkv opv shv wyv bdv fev t j (eav ((11 * t) + j)) fr 0 eav).2) (by omega)  hx

def f3_spread_l4 (tkv : Nat → Int64) (opv : Nat → Int64) (shv : Nat → Int64) (wyv : Nat → Int64) (bdv : Nat → Bool) (fr : Nat) (fev : Nat → Nat) : Nat → Nat → (Nat → Int64) → Nat × (Nat → Int64)
  | 0, t, eav => (t, eav)
  | n + 1, t, eav => f3_spread_l4 tkv opv shv wyv bdv fr fev n (t + 1) ((f3_spread_l5 tkv opv shv wyv bdv fr fev t fr 0 eav).2)
set_option maxRecDepth 100000 in
set_option maxHeartbeats 4000000 in
theorem lX3_spread_l4 {p : Program} {l : Launch} {e : Env} {R : Room} {s : State} {m : MethodId} {args : Array Value} {below : List Frame} {meth : Method} {c : Code} {cells slots : Nat} {Q : State → Prop} {A : Nat → Prop} {D : va_G} (h : Nat) (ad : Nat → Nat) (cI : ClassId) (cJ : ClassId) (cZ : ClassId) (thr : Int32) (sn : Nat) (tkv : Nat → Int64) (opv : Nat → Int64) (shv : Nat → Int64) (ldv : Nat → Int32) (lim : Int32) (wyv : Nat → Int64) (bdv : Nat → Bool) (isr : Bool) (rn : Nat) (rdv : Nat → Nat) (fz : Nat) (icv : Nat → Nat) (exa : Bool) (fr : Nat) (fev : Nat → Nat) (rs : Nat) (rov : Nat → Nat) (se : Nat) (hfr : fr ≤ 11) (hfe : ∀ k, k < fr → fev k ≤ 20) (hse : se = 2 ^ fr) (hR : 1 ≤ R.frames ∧ 26 ≤ R.locals) (hce : cells ≤ R.cells ∧ slots ≤ R.slots) (C : gz_C p s m args c cX3_spread 13 RX3 D [(cI, .int), (cJ, .long), (cZ, .boolean)] A) : ∀ (n : Nat) (t : Nat) (eav : Nat → Int64), (t + n = se) → ((((f3_spread_l4 tkv opv shv wyv bdv fr fev n t eav).1) + 0 = se) → GZ p l e R s m args below meth c 13 D A cells slots Q (wM h ad cI cJ cZ thr sn tkv opv shv ldv lim wyv bdv isr rn rdv fz icv exa fr fev ((f3_spread_l4 tkv opv shv wyv bdv fr fev n t eav).2) rs rov) [(0, .ref h), (4, .int (nI se)), (5, .int (nI ((f3_spread_l4 tkv opv shv wyv bdv fr fev n t eav).1)))] [] 282) → GZ p l e R s m args below meth c 13 D A cells slots Q (wM h ad cI cJ cZ thr sn tkv opv shv ldv lim wyv bdv isr rn rdv fz icv exa fr fev eav rs rov) [(0, .ref h), (4, .int (nI se)), (5, .int (nI t))] [] 130 := by
  intro n
  induction n with
  | zero =>
    intro t eav hme  hx
    have h1 := bz_pow hfr
    refine gz_iload C 2 dX3_spread_130 rfl ?_
    refine gz_iload C 1 dX3_spread_132 rfl ?_
    refine gz_ncmp_ge C 282 (by omega) (by omega) dX3_spread_134 (by decide) (fun h_1 => ?_) (fun h_1 => ?_)
    · skip
      exact gz_lv [0, 1, 2] rfl (hx hme )
    · have g_1 : ¬ (se ≤ t) := (Nat.not_le.mpr h_1)
      exfalso; omega
  | succ n ih =>
    intro t eav hme  hx
    have h1 := bz_pow hfr
    refine gz_iload C 2 dX3_spread_130 rfl ?_
    refine gz_iload C 1 dX3_spread_132 rfl ?_
    refine gz_ncmp_ge C 282 (by omega) (by omega) dX3_spread_134 (by decide) (fun h_1 => ?_) (fun h_1 => ?_)
    · skip
      exfalso; omega
    · have g_1 : ¬ (se ≤ t) := (Nat.not_le.mpr h_1)
      refine gz_iconst (v := nI 0) C dX3_spread_137 (by decide) ?_
      refine gz_istore (lv2 := [(6, .int (nI 0)), (0, .ref h), (4, .int (nI se)), (5, .int (nI t))]) C dX3_spread_138 (by decide) rfl ?_
      refine gz_lv (lv2 := [(0, .ref h), (4, .int (nI se)), (5, .int (nI t)), (6, .int (nI 0))]) [1, 2, 3, 0] rfl ?_
      refine lX3_spread_l5 h ad cI cJ cZ thr sn tkv opv shv ldv lim wyv bdv isr rn rdv fz icv exa fr fev rs rov se t (by first | assumption | omega) (by first | assumption | omega) (by first | assumption | omega) ⟨Nat.le_trans (by decide) hR.1, Nat.le_trans (by decide) hR.2⟩ hce C fr 0 eav (by omega)  ?_
      intro zme_l5
      refine gz_iinc (v := nI (t + 1)) (lv2 := [(5, .int (nI (t + 1))), (0, .ref h), (4, .int (nI se)), (6, .int (nI ((f3_spread_l5 tkv opv shv wyv bdv fr fev t fr 0 eav).1)))]) (k := 2) C dX3_spread_276 rfl (nI_add _ 1) (by decide) rfl ?_
      refine gz_goto C 130 dX3_spread_279 (by decide) ?_
      refine gz_lv [1, 2, 0] rfl ?_
      simp only [f3_spread_l4, if_neg g_1] at hx
      exact ih (t + 1) ((f3_spread_l5 tkv opv shv wyv bdv fr fev t fr 0 eav).2) (by omega)  hx

def f3_spread_eav (tkv : Nat → Int64) (opv : Nat → Int64) (shv : Nat → Int64) (wyv : Nat → Int64) (bdv : Nat → Bool) (fz : Nat) (icv : Nat → Nat) (fr : Nat) (fev : Nat → Nat) (eav : Nat → Int64) : Nat → Int64 := (f3_spread_l4 tkv opv shv wyv bdv fr fev ((2 ^ fr) - 1) 1 ((f3_spread_l3 tkv opv shv wyv bdv fev ((f3_spread_l1 tkv opv shv wyv bdv icv fz 0 0 0).1) ((f3_spread_l1 tkv opv shv wyv bdv icv fz 0 0 0).2.1) fr 0 ((f3_spread_l2  (11 * (2 ^ fr)) 0 eav).2)).2)).2
set_option maxRecDepth 100000 in
set_option maxHeartbeats 4000000 in
theorem kX3_spread (l : Launch) (D : va_G) (h : Nat) (ad : Nat → Nat) (cI : ClassId) (cJ : ClassId) (cZ : ClassId) (thr : Int32) (sn : Nat) (tkv : Nat → Int64) (opv : Nat → Int64) (shv : Nat → Int64) (ldv : Nat → Int32) (lim : Int32) (wyv : Nat → Int64) (bdv : Nat → Bool) (isr : Bool) (rn : Nat) (rdv : Nat → Nat) (fz : Nat) (icv : Nat → Nat) (exa : Bool) (fr : Nat) (fev : Nat → Nat) (eav : Nat → Int64) (rs : Nat) (rov : Nat → Nat) (hfr : fr ≤ 11) (hfe : ∀ k, k < fr → fev k ≤ 20) (hfz : fz ≤ 20) (hic : ∀ k, k < fz → icv k ≤ 20) : gz_M l yX3_spread cX3_spread 13 none ({ frames := 1, cells := 0, slots := 0, locals := 26 } : Room) D [(cI, .int), (cJ, .long), (cZ, .boolean)] [.ref h] (wM h ad cI cJ cZ thr sn tkv opv shv ldv lim wyv bdv isr rn rdv fz icv exa fr fev eav rs rov) (none) (wM h ad cI cJ cZ thr sn tkv opv shv ldv lim wyv bdv isr rn rdv fz icv exa fr fev (f3_spread_eav tkv opv shv wyv bdv fz icv fr fev eav) rs rov) 0 0 := by
  refine gz_met l (by decide) (Nat.le_of_ble_eq_true rfl) [(0, .ref h)] rfl ?_
  intro sz p e s m args below meth c C hr hk hnm
  have C : gz_C p s m args c cX3_spread 13 RX3 D [(cI, .int), (cJ, .long), (cZ, .boolean)] (va_A (wM h ad cI cJ cZ thr sn tkv opv shv ldv lim wyv bdv isr rn rdv fz icv exa fr fev eav rs rov) sz) := C
  refine gz_lconst (v := 0) C dX3_spread_0 (by decide) ?_
  refine gz_lstore_n (lv2 := [(1, .long 0), (0, .ref h)]) C dX3_spread_1 (by decide) rfl ?_
  refine gz_iconst (v := nI 0) C dX3_spread_2 (by decide) ?_
  refine gz_istore_n (lv2 := [(3, .int (nI 0)), (1, .long 0), (0, .ref h)]) C dX3_spread_3 (by decide) rfl ?_
  refine gz_iconst (v := nI 0) C dX3_spread_4 (by decide) ?_
  refine gz_istore (lv2 := [(4, .int (nI 0)), (3, .int (nI 0)), (1, .long 0), (0, .ref h)]) C dX3_spread_5 (by decide) rfl ?_
  refine gz_lv (lv2 := [(0, .ref h), (1, .long 0), (3, .int (nI 0)), (4, .int (nI 0))]) [3, 2, 1, 0] rfl ?_
  refine lX3_spread_l1 h ad cI cJ cZ thr sn tkv opv shv ldv lim wyv bdv isr rn rdv fz icv exa fr fev eav rs rov (by first | assumption | omega) (by first | assumption | omega) ⟨Nat.le_of_ble_eq_true rfl, Nat.le_of_ble_eq_true rfl⟩ ⟨Nat.zero_le _, Nat.zero_le _⟩ C fz 0 0 0 (by omega) (by first | assumption | omega) ?_
  intro zme_l1 zhla_l1
  have h1 := bz_pow hfr
  refine gz_iconst (v := nI 1) C dX3_spread_44 (by decide) ?_
  refine gz_aload_n C 0 dX3_spread_45 rfl ?_
  refine gz_get (ci := 4) C iwX3 0 rfl rfl 15 (by decide) wk_395 rfl rfl dX3_spread_46 ?_
  refine gz_ishl (v := nI (2 ^ fr)) C dX3_spread_49 (bz_shl (by omega)) ?_
  refine gz_istore (lv2 := [(4, .int (nI (2 ^ fr))), (0, .ref h), (1, .long ((f3_spread_l1 tkv opv shv wyv bdv icv fz 0 0 0).1)), (3, .int (nI ((f3_spread_l1 tkv opv shv wyv bdv icv fz 0 0 0).2.1)))]) C dX3_spread_50 (by decide) rfl ?_
  refine gz_iconst (v := nI 0) C dX3_spread_52 (by decide) ?_
  refine gz_istore (lv2 := [(5, .int (nI 0)), (4, .int (nI (2 ^ fr))), (0, .ref h), (1, .long ((f3_spread_l1 tkv opv shv wyv bdv icv fz 0 0 0).1)), (3, .int (nI ((f3_spread_l1 tkv opv shv wyv bdv icv fz 0 0 0).2.1)))]) C dX3_spread_53 (by decide) rfl ?_
  refine gz_lv (lv2 := [(0, .ref h), (1, .long ((f3_spread_l1 tkv opv shv wyv bdv icv fz 0 0 0).1)), (3, .int (nI ((f3_spread_l1 tkv opv shv wyv bdv icv fz 0 0 0).2.1))), (4, .int (nI (2 ^ fr))), (5, .int (nI 0))]) [2, 3, 4, 1, 0] rfl ?_
  refine lX3_spread_l2 h ad cI cJ cZ thr sn tkv opv shv ldv lim wyv bdv isr rn rdv fz icv exa fr fev rs rov ((f3_spread_l1 tkv opv shv wyv bdv icv fz 0 0 0).1) ((f3_spread_l1 tkv opv shv wyv bdv icv fz 0 0 0).2.1) (2 ^ fr)  C (11 * (2 ^ fr)) 0 eav (by have h2 := bz_pow hfr; omega)  ?_
  intro zme_l2
  refine gz_iconst (v := nI 0) C dX3_spread_81 (by decide) ?_
  refine gz_istore (lv2 := [(5, .int (nI 0)), (0, .ref h), (1, .long ((f3_spread_l1 tkv opv shv wyv bdv icv fz 0 0 0).1)), (3, .int (nI ((f3_spread_l1 tkv opv shv wyv bdv icv fz 0 0 0).2.1))), (4, .int (nI (2 ^ fr)))]) C dX3_spread_82 (by decide) rfl ?_
  refine gz_lv (lv2 := [(0, .ref h), (1, .long ((f3_spread_l1 tkv opv shv wyv bdv icv fz 0 0 0).1)), (3, .int (nI ((f3_spread_l1 tkv opv shv wyv bdv icv fz 0 0 0).2.1))), (4, .int (nI (2 ^ fr))), (5, .int (nI 0))]) [1, 2, 3, 4, 0] rfl ?_
  refine lX3_spread_l3 h ad cI cJ cZ thr sn tkv opv shv ldv lim wyv bdv isr rn rdv fz icv exa fr fev rs rov ((f3_spread_l1 tkv opv shv wyv bdv icv fz 0 0 0).1) ((f3_spread_l1 tkv opv shv wyv bdv icv fz 0 0 0).2.1) (2 ^ fr) (by first | assumption | omega) (by first | assumption | omega) (by first | assumption | omega) ⟨Nat.le_of_ble_eq_true rfl, Nat.le_of_ble_eq_true rfl⟩ ⟨Nat.zero_le _, Nat.zero_le _⟩ C fr 0 ((f3_spread_l2  (11 * (2 ^ fr)) 0 eav).2) (by omega)  ?_
  intro zme_l3
  refine gz_iconst (v := nI 1) C dX3_spread_127 (by decide) ?_
  refine gz_istore (lv2 := [(5, .int (nI 1)), (0, .ref h), (1, .long ((f3_spread_l1 tkv opv shv wyv bdv icv fz 0 0 0).1)), (3, .int (nI ((f3_spread_l1 tkv opv shv wyv bdv icv fz 0 0 0).2.1))), (4, .int (nI (2 ^ fr)))]) C dX3_spread_128 (by decide) rfl ?_
  refine gz_lv (lv2 := [(0, .ref h), (4, .int (nI (2 ^ fr))), (5, .int (nI 1))]) [1, 4, 0] rfl ?_
  refine lX3_spread_l4 h ad cI cJ cZ thr sn tkv opv shv ldv lim wyv bdv isr rn rdv fz icv exa fr fev rs rov (2 ^ fr) (by first | assumption | omega) (by first | assumption | omega) rfl ⟨Nat.le_of_ble_eq_true rfl, Nat.le_of_ble_eq_true rfl⟩ ⟨Nat.zero_le _, Nat.zero_le _⟩ C ((2 ^ fr) - 1) 1 ((f3_spread_l3 tkv opv shv wyv bdv fev ((f3_spread_l1 tkv opv shv wyv bdv icv fz 0 0 0).1) ((f3_spread_l1 tkv opv shv wyv bdv icv fz 0 0 0).2.1) fr 0 ((f3_spread_l2  (11 * (2 ^ fr)) 0 eav).2)).2) (by have := bz_pow1 fr; omega)  ?_
  intro zme_l4
  exact gz_vret C hr hk (by first | rfl | (simp only [f3_spread_eav]) | (simp only [f3_spread_eav]; rfl)) (by first | rfl | (simp only [f3_spread_eav]) | (simp only [f3_spread_eav]; rfl)) (Nat.le_refl _) (Nat.le_refl _) dX3_spread_282

