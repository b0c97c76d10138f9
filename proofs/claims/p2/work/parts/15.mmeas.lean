def f3_measure_lp (tkv : Nat → Int64) (opv : Nat → Int64) (shv : Nat → Int64) (wyv : Nat → Int64) (bdv : Nat → Bool) (rov : Nat → Nat) : Nat → Int64 → Int64 → Nat → Nat → Int64 × Int64 × Nat × Nat
  | 0, ck, fa, he, k => (ck, fa, he, k)
  | n + 1, ck, fa, he, k => f3_measure_lp tkv opv shv wyv bdv rov n (((if (opv (rov k)) ≤ (ck + (wyv ((21 * he) + (rov k)))) then ck + (wyv ((21 * he) + (rov k))) else opv (rov k))) + (tkv (rov k))) ((if (bdv ((21 * he) + (rov k))) = true then ((if (ck + (wyv ((21 * he) + (rov k)))) ≤ (shv (rov k)) then fa else fa + 1)) + 1 else (if (ck + (wyv ((21 * he) + (rov k)))) ≤ (shv (rov k)) then fa else fa + 1))) (rov k) (k + 1)
set_option maxRecDepth 100000 in
set_option maxHeartbeats 4000000 in
theorem lX3_measure_lp {p : Program} {l : Launch} {e : Env} {R : Room} {s : State} {m : MethodId} {args : Array Value} {below : List Frame} {meth : Method} {c : Code} {cells slots : Nat} {Q : State → Prop} {A : Nat → Prop} {D : va_G} (h : Nat) (ad : Nat → Nat) (cI : ClassId) (cJ : ClassId) (cZ : ClassId) (thr : Int32) (sn : Nat) (tkv : Nat → Int64) (opv : Nat → Int64) (shv : Nat → Int64) (ldv : Nat → Int32) (lim : Int32) (wyv : Nat → Int64) (bdv : Nat → Bool) (isr : Bool) (rn : Nat) (rdv : Nat → Nat) (fz : Nat) (icv : Nat → Nat) (exa : Bool) (fr : Nat) (fev : Nat → Nat) (eav : Nat → Int64) (rs : Nat) (rov : Nat → Nat) (hrs : rs ≤ 20) (hro : ∀ k, k < rs → rov k ≤ 20) (C : gz_C p s m args c cX3_measure 10 RX3 D [(cI, .int), (cJ, .long), (cZ, .boolean)] A) : ∀ (n : Nat) (ck : Int64) (fa : Int64) (he : Nat) (k : Nat), (k + n = rs) → (he ≤ 20) → ((((f3_measure_lp tkv opv shv wyv bdv rov n ck fa he k).2.2.2) + 0 = rs) → (((f3_measure_lp tkv opv shv wyv bdv rov n ck fa he k).2.2.1) ≤ 20) → GZ p l e R s m args below meth c 10 D A cells slots Q (wM h ad cI cJ cZ thr sn tkv opv shv ldv lim wyv bdv isr rn rdv fz icv exa fr fev eav rs rov) [(0, .ref h), (1, .long ((f3_measure_lp tkv opv shv wyv bdv rov n ck fa he k).1)), (3, .long ((f3_measure_lp tkv opv shv wyv bdv rov n ck fa he k).2.1)), (5, .int (nI ((f3_measure_lp tkv opv shv wyv bdv rov n ck fa he k).2.2.1))), (6, .int (nI ((f3_measure_lp tkv opv shv wyv bdv rov n ck fa he k).2.2.2)))] [] 134) → GZ p l e R s m args below meth c 10 D A cells slots Q (wM h ad cI cJ cZ thr sn tkv opv shv ldv lim wyv bdv isr rn rdv fz icv exa fr fev eav rs rov) [(0, .ref h), (1, .long ck), (3, .long fa), (5, .int (nI he)), (6, .int (nI k))] [] 10 := by
  intro n
  induction n with
  | zero =>
    intro ck fa he k hme hhe hx
    refine gz_iload C 4 dX3_measure_10 rfl ?_
    refine gz_aload_n C 0 dX3_measure_12 rfl ?_
    refine gz_get (ci := 4) C iwX3 0 rfl rfl 18 (by decide) wk_398 rfl rfl dX3_measure_13 ?_
    refine gz_ncmp_ge C 134 (by omega) (by omega) dX3_measure_16 (by decide) (fun h_1 => ?_) (fun h_1 => ?_)
    · skip
      exact gz_lv [0, 1, 2, 3, 4] rfl (hx hme hhe)
    · have g_1 : ¬ (rs ≤ k) := (Nat.not_le.mpr h_1)
      exfalso; omega
  | succ n ih =>
    intro ck fa he k hme hhe hx
    refine gz_iload C 4 dX3_measure_10 rfl ?_
    refine gz_aload_n C 0 dX3_measure_12 rfl ?_
    refine gz_get (ci := 4) C iwX3 0 rfl rfl 18 (by decide) wk_398 rfl rfl dX3_measure_13 ?_
    refine gz_ncmp_ge C 134 (by omega) (by omega) dX3_measure_16 (by decide) (fun h_1 => ?_) (fun h_1 => ?_)
    · skip
      exfalso; omega
    · have g_1 : ¬ (rs ≤ k) := (Nat.not_le.mpr h_1)
      have hq := hro k (by omega)
      refine gz_aload_n C 0 dX3_measure_19 rfl ?_
      refine gz_get (ci := 4) C iwX3 0 rfl rfl 19 (by decide) wk_399 rfl rfl dX3_measure_20 ?_
      refine gz_iload C 4 dX3_measure_23 rfl ?_
      refine gz_iald C 11 0 rfl rfl (by omega) (by decide) dX3_measure_25 ?_
      refine gz_istore (lv2 := [(7, .int (nI (rov k))), (0, .ref h), (1, .long ck), (3, .long fa), (5, .int (nI he)), (6, .int (nI k))]) C dX3_measure_26 (by decide) rfl ?_
      refine gz_lload_n C 2 dX3_measure_28 rfl ?_
      refine gz_aload_n C 1 dX3_measure_29 rfl ?_
      refine gz_get (ci := 4) C iwX3 0 rfl rfl 7 (by decide) wk_387 rfl rfl dX3_measure_30 ?_
      refine gz_bipush (v := nI 21) C dX3_measure_33 (by decide) ?_
      refine gz_iload C 4 dX3_measure_35 rfl ?_
      refine gz_imul (v := nI (21 * he)) C dX3_measure_37 (pk_mul _ _) ?_
      refine gz_iload C 0 dX3_measure_38 rfl ?_
      refine gz_iadd (v := nI ((21 * he) + (rov k))) C dX3_measure_40 (nI_add _ _) ?_
      refine gz_lald C 5 1 rfl rfl (by omega) (by decide) dX3_measure_41 ?_
      refine gz_ladd (v := ck + (wyv ((21 * he) + (rov k)))) C dX3_measure_42 rfl ?_
      refine gz_lstore (lv2 := [(8, .long (ck + (wyv ((21 * he) + (rov k))))), (7, .int (nI (rov k))), (0, .ref h), (1, .long ck), (3, .long fa), (5, .int (nI he)), (6, .int (nI k))]) C dX3_measure_43 (by decide) rfl ?_
      refine gz_lload C 0 dX3_measure_45 rfl ?_
      refine gz_aload_n C 2 dX3_measure_47 rfl ?_
      refine gz_get (ci := 4) C iwX3 0 rfl rfl 4 (by decide) wk_384 rfl rfl dX3_measure_48 ?_
      refine gz_iload C 1 dX3_measure_51 rfl ?_
      refine gz_lald C 3 1 rfl rfl (by omega) (by decide) dX3_measure_53 ?_
      refine gz_J (ws2 := (wM h ad cI cJ cZ thr sn tkv opv shv ldv lim wyv bdv isr rn rdv fz icv exa fr fev eav rs rov)) (lv2 := [(8, .long (ck + (wyv ((21 * he) + (rov k))))), (7, .int (nI (rov k))), (0, .ref h), (1, .long ck), (3, .long fa), (5, .int (nI he)), (6, .int (nI k))]) (st2 := [.long ((if (ck + (wyv ((21 * he) + (rov k)))) ≤ (shv (rov k)) then fa else fa + 1))]) (pc2 := 65) ?_ (fun J_2 => ?_)
      rotate_left
      · refine gz_lcmp_le C 64 dX3_measure_54 dX3_measure_55 (by decide) (fun h_2 => ?_) (fun h_2 => ?_)
        · skip
          refine gz_lload_n C 4 dX3_measure_64 rfl ?_
          simp only [if_pos h_2] at J_2 ⊢
          exact gz_lv [0, 1, 2, 3, 4, 5, 6] rfl J_2
        · have g_2 : ¬ ((ck + (wyv ((21 * he) + (rov k)))) ≤ (shv (rov k))) := h_2
          refine gz_lload_n C 4 dX3_measure_58 rfl ?_
          refine gz_lconst (v := 1) C dX3_measure_59 (by decide) ?_
          refine gz_ladd (v := fa + 1) C dX3_measure_60 rfl ?_
          refine gz_goto C 65 dX3_measure_61 (by decide) ?_
          simp only [if_neg g_2] at J_2 ⊢
          exact gz_lv [0, 1, 2, 3, 4, 5, 6] rfl J_2
      refine gz_lstore_n (lv2 := [(3, .long ((if (ck + (wyv ((21 * he) + (rov k)))) ≤ (shv (rov k)) then fa else fa + 1))), (8, .long (ck + (wyv ((21 * he) + (rov k))))), (7, .int (nI (rov k))), (0, .ref h), (1, .long ck), (5, .int (nI he)), (6, .int (nI k))]) C dX3_measure_65 (by decide) rfl ?_
      refine gz_aload_n C 3 dX3_measure_66 rfl ?_
      refine gz_get (ci := 4) C iwX3 0 rfl rfl 8 (by decide) wk_388 rfl rfl dX3_measure_67 ?_
      refine gz_bipush (v := nI 21) C dX3_measure_70 (by decide) ?_
      refine gz_iload C 5 dX3_measure_72 rfl ?_
      refine gz_imul (v := nI (21 * he)) C dX3_measure_74 (pk_mul _ _) ?_
      refine gz_iload C 2 dX3_measure_75 rfl ?_
      refine gz_iadd (v := nI ((21 * he) + (rov k))) C dX3_measure_77 (nI_add _ _) ?_
      refine gz_zald C 6 2 rfl rfl (by omega) (by decide) dX3_measure_78 ?_
      refine gz_J (ws2 := (wM h ad cI cJ cZ thr sn tkv opv shv ldv lim wyv bdv isr rn rdv fz icv exa fr fev eav rs rov)) (lv2 := [(3, .long ((if (ck + (wyv ((21 * he) + (rov k)))) ≤ (shv (rov k)) then fa else fa + 1))), (8, .long (ck + (wyv ((21 * he) + (rov k))))), (7, .int (nI (rov k))), (0, .ref h), (1, .long ck), (5, .int (nI he)), (6, .int (nI k))]) (st2 := [.long ((if (bdv ((21 * he) + (rov k))) = true then ((if (ck + (wyv ((21 * he) + (rov k)))) ≤ (shv (rov k)) then fa else fa + 1)) + 1 else (if (ck + (wyv ((21 * he) + (rov k)))) ≤ (shv (rov k)) then fa else fa + 1)))]) (pc2 := 89) ?_ (fun J_3 => ?_)
      rotate_left
      · refine gz_bif_eq C 88 dX3_measure_79 (by decide) (fun h_3 => ?_) (fun h_3 => ?_)
        · have g_3 : ¬ ((bdv ((21 * he) + (rov k))) = true) := (by rw [h_3]; decide)
          refine gz_lload_n C 0 dX3_measure_88 rfl ?_
          simp only [if_neg g_3] at J_3 ⊢
          exact gz_lv [0, 1, 2, 3, 4, 5, 6] rfl J_3
        · skip
          refine gz_lload_n C 0 dX3_measure_82 rfl ?_
          refine gz_lconst (v := 1) C dX3_measure_83 (by decide) ?_
          refine gz_ladd (v := ((if (ck + (wyv ((21 * he) + (rov k)))) ≤ (shv (rov k)) then fa else fa + 1)) + 1) C dX3_measure_84 rfl ?_
          refine gz_goto C 89 dX3_measure_85 (by decide) ?_
          simp only [if_pos h_3] at J_3 ⊢
          exact gz_lv [0, 1, 2, 3, 4, 5, 6] rfl J_3
      refine gz_lstore_n (lv2 := [(3, .long ((if (bdv ((21 * he) + (rov k))) = true then ((if (ck + (wyv ((21 * he) + (rov k)))) ≤ (shv (rov k)) then fa else fa + 1)) + 1 else (if (ck + (wyv ((21 * he) + (rov k)))) ≤ (shv (rov k)) then fa else fa + 1)))), (8, .long (ck + (wyv ((21 * he) + (rov k))))), (7, .int (nI (rov k))), (0, .ref h), (1, .long ck), (5, .int (nI he)), (6, .int (nI k))]) C dX3_measure_89 (by decide) rfl ?_
      refine gz_lload C 1 dX3_measure_90 rfl ?_
      refine gz_aload_n C 3 dX3_measure_92 rfl ?_
      refine gz_get (ci := 4) C iwX3 0 rfl rfl 3 (by decide) wk_383 rfl rfl dX3_measure_93 ?_
      refine gz_iload C 2 dX3_measure_96 rfl ?_
      refine gz_lald C 2 1 rfl rfl (by omega) (by decide) dX3_measure_98 ?_
      refine gz_J (ws2 := (wM h ad cI cJ cZ thr sn tkv opv shv ldv lim wyv bdv isr rn rdv fz icv exa fr fev eav rs rov)) (lv2 := [(3, .long ((if (bdv ((21 * he) + (rov k))) = true then ((if (ck + (wyv ((21 * he) + (rov k)))) ≤ (shv (rov k)) then fa else fa + 1)) + 1 else (if (ck + (wyv ((21 * he) + (rov k)))) ≤ (shv (rov k)) then fa else fa + 1)))), (8, .long (ck + (wyv ((21 * he) + (rov k))))), (7, .int (nI (rov k))), (0, .ref h), (1, .long ck), (5, .int (nI he)), (6, .int (nI k))]) (st2 := [.long ((if (opv (rov k)) ≤ (ck + (wyv ((21 * he) + (rov k)))) then ck + (wyv ((21 * he) + (rov k))) else opv (rov k)))]) (pc2 := 115) ?_ (fun J_4 => ?_)
      rotate_left
      · refine gz_lcmp_ge C 113 dX3_measure_99 dX3_measure_100 (by decide) (fun h_4 => ?_) (fun h_4 => ?_)
        · skip
          refine gz_lload C 1 dX3_measure_113 rfl ?_
          simp only [if_pos h_4] at J_4 ⊢
          exact gz_lv [0, 1, 2, 3, 4, 5, 6] rfl J_4
        · have g_4 : ¬ ((opv (rov k)) ≤ (ck + (wyv ((21 * he) + (rov k))))) := h_4
          refine gz_aload_n C 3 dX3_measure_103 rfl ?_
          refine gz_get (ci := 4) C iwX3 0 rfl rfl 3 (by decide) wk_383 rfl rfl dX3_measure_104 ?_
          refine gz_iload C 2 dX3_measure_107 rfl ?_
          refine gz_lald C 2 1 rfl rfl (by omega) (by decide) dX3_measure_109 ?_
          refine gz_goto C 115 dX3_measure_110 (by decide) ?_
          simp only [if_neg g_4] at J_4 ⊢
          exact gz_lv [0, 1, 2, 3, 4, 5, 6] rfl J_4
      refine gz_aload_n C 3 dX3_measure_115 rfl ?_
      refine gz_get (ci := 4) C iwX3 0 rfl rfl 2 (by decide) wk_382 rfl rfl dX3_measure_116 ?_
      refine gz_iload C 2 dX3_measure_119 rfl ?_
      refine gz_lald C 1 1 rfl rfl (by omega) (by decide) dX3_measure_121 ?_
      refine gz_ladd (v := ((if (opv (rov k)) ≤ (ck + (wyv ((21 * he) + (rov k)))) then ck + (wyv ((21 * he) + (rov k))) else opv (rov k))) + (tkv (rov k))) C dX3_measure_122 rfl ?_
      refine gz_lstore_n (lv2 := [(1, .long (((if (opv (rov k)) ≤ (ck + (wyv ((21 * he) + (rov k)))) then ck + (wyv ((21 * he) + (rov k))) else opv (rov k))) + (tkv (rov k)))), (3, .long ((if (bdv ((21 * he) + (rov k))) = true then ((if (ck + (wyv ((21 * he) + (rov k)))) ≤ (shv (rov k)) then fa else fa + 1)) + 1 else (if (ck + (wyv ((21 * he) + (rov k)))) ≤ (shv (rov k)) then fa else fa + 1)))), (8, .long (ck + (wyv ((21 * he) + (rov k))))), (7, .int (nI (rov k))), (0, .ref h), (5, .int (nI he)), (6, .int (nI k))]) C dX3_measure_123 (by decide) rfl ?_
      refine gz_iload C 3 dX3_measure_124 rfl ?_
      refine gz_istore (lv2 := [(5, .int (nI (rov k))), (1, .long (((if (opv (rov k)) ≤ (ck + (wyv ((21 * he) + (rov k)))) then ck + (wyv ((21 * he) + (rov k))) else opv (rov k))) + (tkv (rov k)))), (3, .long ((if (bdv ((21 * he) + (rov k))) = true then ((if (ck + (wyv ((21 * he) + (rov k)))) ≤ (shv (rov k)) then fa else fa + 1)) + 1 else (if (ck + (wyv ((21 * he) + (rov k)))) ≤ (shv (rov k)) then fa else fa + 1)))), (8, .long (ck + (wyv ((21 * he) + (rov k))))), (7, .int (nI (rov k))), (0, .ref h), (6, .int (nI k))]) C dX3_measure_126 (by decide) rfl ?_
      refine gz_iinc (v := nI (k + 1)) (lv2 := [(6, .int (nI (k + 1))), (5, .int (nI (rov k))), (1, .long (((if (opv (rov k)) ≤ (ck + (wyv ((21 * he) + (rov k)))) then ck + (wyv ((21 * he) + (rov k))) else opv (rov k))) + (tkv (rov k)))), (3, .long ((if (bdv ((21 * he) + (rov k))) = true then ((if (ck + (wyv ((21 * he) + (rov k)))) ≤ (shv (rov k)) then fa else fa + 1)) + 1 else (if (ck + (wyv ((21 * he) + (rov k)))) ≤ (shv (rov k)) then fa else fa + 1)))), (8, .long (ck + (wyv ((21 * he) + (rov k))))), (7, .int (nI (rov k))), (0, .ref h)]) (k := 6) C dX3_measure_128 rfl (nI_add _ 1) (by decide) rfl ?_
      refine gz_goto C 10 dX3_measure_131 (by decide) ?_
      refine gz_lv [6, 2, 3, 1, 0] rfl ?_
      simp only [f3_measure_lp, if_neg g_1] at hx
      exact ih (((if (opv (rov k)) ≤ (ck + (wyv ((21 * he) + (rov k)))) then ck + (wyv ((21 * he) + (rov k))) else opv (rov k))) + (tkv (rov k))) ((if (bdv ((21 * he) + (rov k))) = true then ((if (ck + (wyv ((21 * he) + (rov k)))) ≤ (shv (rov k)) then fa else fa + 1)) + 1 else (if (ck + (wyv ((21 * he) + (rov k)))) ≤ (shv (rov k)) then fa else fa + 1))) (rov k) (k + 1) (by omega) (by omega) hx

def f3_measure (tkv : Nat → Int64) (opv : Nat → Int64) (shv : Nat → Int64) (wyv : Nat → Int64) (bdv : Nat → Bool) (rs : Nat) (rov : Nat → Nat) : Int64 := (if rs = 0 then 0 else ((((if (bdv (21 * ((f3_measure_lp tkv opv shv wyv bdv rov rs 0 0 0 0).2.2.1))) = true then ((f3_measure_lp tkv opv shv wyv bdv rov rs 0 0 0 0).2.1) + 1 else (f3_measure_lp tkv opv shv wyv bdv rov rs 0 0 0 0).2.1)) * 1000000000) + ((f3_measure_lp tkv opv shv wyv bdv rov rs 0 0 0 0).1)) + (wyv (21 * ((f3_measure_lp tkv opv shv wyv bdv rov rs 0 0 0 0).2.2.1))))
set_option maxRecDepth 100000 in
set_option maxHeartbeats 4000000 in
theorem kX3_measure (l : Launch) (D : va_G) (h : Nat) (ad : Nat → Nat) (cI : ClassId) (cJ : ClassId) (cZ : ClassId) (thr : Int32) (sn : Nat) (tkv : Nat → Int64) (opv : Nat → Int64) (shv : Nat → Int64) (ldv : Nat → Int32) (lim : Int32) (wyv : Nat → Int64) (bdv : Nat → Bool) (isr : Bool) (rn : Nat) (rdv : Nat → Nat) (fz : Nat) (icv : Nat → Nat) (exa : Bool) (fr : Nat) (fev : Nat → Nat) (eav : Nat → Int64) (rs : Nat) (rov : Nat → Nat) (hrs : rs ≤ 20) (hro : ∀ k, k < rs → rov k ≤ 20) : gz_M l yX3_measure cX3_measure 10 (some .long) ({ frames := 0, cells := 0, slots := 0, locals := 0 } : Room) D [(cI, .int), (cJ, .long), (cZ, .boolean)] [.ref h] (wM h ad cI cJ cZ thr sn tkv opv shv ldv lim wyv bdv isr rn rdv fz icv exa fr fev eav rs rov) (some (.long (f3_measure tkv opv shv wyv bdv rs rov))) (wM h ad cI cJ cZ thr sn tkv opv shv ldv lim wyv bdv isr rn rdv fz icv exa fr fev eav rs rov) 0 0 := by
  refine gz_met l (by decide) (Nat.le_of_ble_eq_true rfl) [(0, .ref h)] rfl ?_
  intro sz p e s m args below meth c C hr hk hnm
  have C : gz_C p s m args c cX3_measure 10 RX3 D [(cI, .int), (cJ, .long), (cZ, .boolean)] (va_A (wM h ad cI cJ cZ thr sn tkv opv shv ldv lim wyv bdv isr rn rdv fz icv exa fr fev eav rs rov) sz) := C
  refine gz_lconst (v := 0) C dX3_measure_0 (by decide) ?_
  refine gz_lstore_n (lv2 := [(1, .long 0), (0, .ref h)]) C dX3_measure_1 (by decide) rfl ?_
  refine gz_lconst (v := 0) C dX3_measure_2 (by decide) ?_
  refine gz_lstore_n (lv2 := [(3, .long 0), (1, .long 0), (0, .ref h)]) C dX3_measure_3 (by decide) rfl ?_
  refine gz_iconst (v := nI 0) C dX3_measure_4 (by decide) ?_
  refine gz_istore (lv2 := [(5, .int (nI 0)), (3, .long 0), (1, .long 0), (0, .ref h)]) C dX3_measure_5 (by decide) rfl ?_
  refine gz_iconst (v := nI 0) C dX3_measure_7 (by decide) ?_
  refine gz_istore (lv2 := [(6, .int (nI 0)), (5, .int (nI 0)), (3, .long 0), (1, .long 0), (0, .ref h)]) C dX3_measure_8 (by decide) rfl ?_
  refine gz_lv (lv2 := [(0, .ref h), (1, .long 0), (3, .long 0), (5, .int (nI 0)), (6, .int (nI 0))]) [4, 3, 2, 1, 0] rfl ?_
  refine lX3_measure_lp h ad cI cJ cZ thr sn tkv opv shv ldv lim wyv bdv isr rn rdv fz icv exa fr fev eav rs rov (by first | assumption | omega) (by first | assumption | omega) C rs 0 0 0 0 (by omega) (by first | assumption | omega) ?_
  intro zme_lp zhhe_lp
  refine gz_aload_n C 0 dX3_measure_134 rfl ?_
  refine gz_get (ci := 4) C iwX3 0 rfl rfl 18 (by decide) wk_398 rfl rfl dX3_measure_135 ?_
  refine gz_nif_ne C 143 (by omega) dX3_measure_138 (by decide) (fun h_1 => ?_) (fun h_1 => ?_)
  · have g_1 : ¬ (rs = 0) := h_1
    refine gz_aload_n C 0 dX3_measure_143 rfl ?_
    refine gz_get (ci := 4) C iwX3 0 rfl rfl 8 (by decide) wk_388 rfl rfl dX3_measure_144 ?_
    refine gz_bipush (v := nI 21) C dX3_measure_147 (by decide) ?_
    refine gz_iload C 3 dX3_measure_149 rfl ?_
    refine gz_imul (v := nI (21 * ((f3_measure_lp tkv opv shv wyv bdv rov rs 0 0 0 0).2.2.1))) C dX3_measure_151 (pk_mul _ _) ?_
    refine gz_zald C 6 2 rfl rfl (by omega) (by decide) dX3_measure_152 ?_
    refine gz_J (ws2 := (wM h ad cI cJ cZ thr sn tkv opv shv ldv lim wyv bdv isr rn rdv fz icv exa fr fev eav rs rov)) (lv2 := [(0, .ref h), (1, .long ((f3_measure_lp tkv opv shv wyv bdv rov rs 0 0 0 0).1)), (3, .long ((f3_measure_lp tkv opv shv wyv bdv rov rs 0 0 0 0).2.1)), (5, .int (nI ((f3_measure_lp tkv opv shv wyv bdv rov rs 0 0 0 0).2.2.1))), (6, .int (nI ((f3_measure_lp tkv opv shv wyv bdv rov rs 0 0 0 0).2.2.2)))]) (st2 := [.long ((if (bdv (21 * ((f3_measure_lp tkv opv shv wyv bdv rov rs 0 0 0 0).2.2.1))) = true then ((f3_measure_lp tkv opv shv wyv bdv rov rs 0 0 0 0).2.1) + 1 else (f3_measure_lp tkv opv shv wyv bdv rov rs 0 0 0 0).2.1))]) (pc2 := 163) ?_ (fun J_2 => ?_)
    rotate_left
    · refine gz_bif_eq C 162 dX3_measure_153 (by decide) (fun h_2 => ?_) (fun h_2 => ?_)
      · have g_2 : ¬ ((bdv (21 * ((f3_measure_lp tkv opv shv wyv bdv rov rs 0 0 0 0).2.2.1))) = true) := (by rw [h_2]; decide)
        refine gz_lload_n C 2 dX3_measure_162 rfl ?_
        simp only [if_neg g_2] at J_2 ⊢
        exact gz_lv [0, 1, 2, 3, 4] rfl J_2
      · skip
        refine gz_lload_n C 2 dX3_measure_156 rfl ?_
        refine gz_lconst (v := 1) C dX3_measure_157 (by decide) ?_
        refine gz_ladd (v := ((f3_measure_lp tkv opv shv wyv bdv rov rs 0 0 0 0).2.1) + 1) C dX3_measure_158 rfl ?_
        refine gz_goto C 163 dX3_measure_159 (by decide) ?_
        simp only [if_pos h_2] at J_2 ⊢
        exact gz_lv [0, 1, 2, 3, 4] rfl J_2
    refine gz_lstore_n (lv2 := [(3, .long ((if (bdv (21 * ((f3_measure_lp tkv opv shv wyv bdv rov rs 0 0 0 0).2.2.1))) = true then ((f3_measure_lp tkv opv shv wyv bdv rov rs 0 0 0 0).2.1) + 1 else (f3_measure_lp tkv opv shv wyv bdv rov rs 0 0 0 0).2.1))), (0, .ref h), (1, .long ((f3_measure_lp tkv opv shv wyv bdv rov rs 0 0 0 0).1)), (5, .int (nI ((f3_measure_lp tkv opv shv wyv bdv rov rs 0 0 0 0).2.2.1))), (6, .int (nI ((f3_measure_lp tkv opv shv wyv bdv rov rs 0 0 0 0).2.2.2)))]) C dX3_measure_163 (by decide) rfl ?_
    refine gz_lload_n C 0 dX3_measure_164 rfl ?_
    refine gz_ldc2 (v := 1000000000) C wk_510 dX3_measure_165 ?_
    refine gz_lmul (v := ((if (bdv (21 * ((f3_measure_lp tkv opv shv wyv bdv rov rs 0 0 0 0).2.2.1))) = true then ((f3_measure_lp tkv opv shv wyv bdv rov rs 0 0 0 0).2.1) + 1 else (f3_measure_lp tkv opv shv wyv bdv rov rs 0 0 0 0).2.1)) * 1000000000) C dX3_measure_168 rfl ?_
    refine gz_lload_n C 2 dX3_measure_169 rfl ?_
    refine gz_ladd (v := (((if (bdv (21 * ((f3_measure_lp tkv opv shv wyv bdv rov rs 0 0 0 0).2.2.1))) = true then ((f3_measure_lp tkv opv shv wyv bdv rov rs 0 0 0 0).2.1) + 1 else (f3_measure_lp tkv opv shv wyv bdv rov rs 0 0 0 0).2.1)) * 1000000000) + ((f3_measure_lp tkv opv shv wyv bdv rov rs 0 0 0 0).1)) C dX3_measure_170 rfl ?_
    refine gz_aload_n C 1 dX3_measure_171 rfl ?_
    refine gz_get (ci := 4) C iwX3 0 rfl rfl 7 (by decide) wk_387 rfl rfl dX3_measure_172 ?_
    refine gz_bipush (v := nI 21) C dX3_measure_175 (by decide) ?_
    refine gz_iload C 3 dX3_measure_177 rfl ?_
    refine gz_imul (v := nI (21 * ((f3_measure_lp tkv opv shv wyv bdv rov rs 0 0 0 0).2.2.1))) C dX3_measure_179 (pk_mul _ _) ?_
    refine gz_lald C 5 1 rfl rfl (by omega) (by decide) dX3_measure_180 ?_
    refine gz_ladd (v := ((((if (bdv (21 * ((f3_measure_lp tkv opv shv wyv bdv rov rs 0 0 0 0).2.2.1))) = true then ((f3_measure_lp tkv opv shv wyv bdv rov rs 0 0 0 0).2.1) + 1 else (f3_measure_lp tkv opv shv wyv bdv rov rs 0 0 0 0).2.1)) * 1000000000) + ((f3_measure_lp tkv opv shv wyv bdv rov rs 0 0 0 0).1)) + (wyv (21 * ((f3_measure_lp tkv opv shv wyv bdv rov rs 0 0 0 0).2.2.1)))) C dX3_measure_181 rfl ?_
    exact gz_lret C hr hk (by first | rfl | (simp only [f3_measure, if_neg g_1]) | (simp only [f3_measure, if_neg g_1]; rfl)) rfl (Nat.le_refl _) (Nat.le_refl _) dX3_measure_182
  · skip
    refine gz_lconst (v := 0) C dX3_measure_141 (by decide) ?_
    exact gz_lret C hr hk (by first | rfl | (simp only [f3_measure, if_pos h_1]) | (simp only [f3_measure, if_pos h_1]; rfl)) rfl (Nat.le_refl _) (Nat.le_refl _) dX3_measure_142

