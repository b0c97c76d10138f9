def f3_wellDone (tkv : Nat → Int64) (opv : Nat → Int64) (shv : Nat → Int64) (wyv : Nat → Int64) (bdv : Nat → Bool) (a : Nat) (b : Nat) (t : Int64) : Int64 := (if t = 4000000000000000000 then 4000000000000000000 else (if (bdv ((21 * a) + b)) = true then 4000000000000000000 else (if (t + (wyv ((21 * a) + b))) ≤ (shv b) then ((if (opv b) ≤ (t + (wyv ((21 * a) + b))) then t + (wyv ((21 * a) + b)) else opv b)) + (tkv b) else 4000000000000000000)))
set_option maxRecDepth 100000 in
set_option maxHeartbeats 4000000 in
theorem kX3_wellDone (l : Launch) (D : va_G) (h : Nat) (ad : Nat → Nat) (cI : ClassId) (cJ : ClassId) (cZ : ClassId) (thr : Int32) (sn : Nat) (tkv : Nat → Int64) (opv : Nat → Int64) (shv : Nat → Int64) (ldv : Nat → Int32) (lim : Int32) (wyv : Nat → Int64) (bdv : Nat → Bool) (isr : Bool) (rn : Nat) (rdv : Nat → Nat) (fz : Nat) (icv : Nat → Nat) (exa : Bool) (fr : Nat) (fev : Nat → Nat) (eav : Nat → Int64) (rs : Nat) (rov : Nat → Nat) (a : Nat) (b : Nat) (t : Int64) (ha : a ≤ 20) (hb : b ≤ 20) : gz_M l yX3_wellDone cX3_wellDone 7 (some .long) ({ frames := 0, cells := 0, slots := 0, locals := 0 } : Room) D [(cI, .int), (cJ, .long), (cZ, .boolean)] [.ref h, .int (nI a), .int (nI b), .long t] (wM h ad cI cJ cZ thr sn tkv opv shv ldv lim wyv bdv isr rn rdv fz icv exa fr fev eav rs rov) (some (.long (f3_wellDone tkv opv shv wyv bdv a b t))) (wM h ad cI cJ cZ thr sn tkv opv shv ldv lim wyv bdv isr rn rdv fz icv exa fr fev eav rs rov) 0 0 := by
  refine gz_met l (by decide) (Nat.le_of_ble_eq_true rfl) [(0, .ref h), (1, .int (nI a)), (2, .int (nI b)), (3, .long t)] rfl ?_
  intro sz p e s m args below meth c C hr hk hnm
  have C : gz_C p s m args c cX3_wellDone 7 RX3 D [(cI, .int), (cJ, .long), (cZ, .boolean)] (va_A (wM h ad cI cJ cZ thr sn tkv opv shv ldv lim wyv bdv isr rn rdv fz icv exa fr fev eav rs rov) sz) := C
  refine gz_lload_n C 3 dX3_wellDone_0 rfl ?_
  refine gz_ldc2 (v := 4000000000000000000) C wk_489 dX3_wellDone_1 ?_
  refine gz_lcmp_eq C 22 dX3_wellDone_4 dX3_wellDone_5 (by decide) (fun h_1 => ?_) (fun h_1 => ?_)
  · skip
    refine gz_ldc2 (v := 4000000000000000000) C wk_489 dX3_wellDone_22 ?_
    exact gz_lret C hr hk (by first | rfl | (simp only [f3_wellDone, if_pos h_1]) | (simp only [f3_wellDone, if_pos h_1]; rfl)) rfl (Nat.le_refl _) (Nat.le_refl _) dX3_wellDone_25
  · have g_1 : ¬ (t = 4000000000000000000) := h_1
    refine gz_aload_n C 0 dX3_wellDone_8 rfl ?_
    refine gz_get (ci := 4) C iwX3 0 rfl rfl 8 (by decide) wk_388 rfl rfl dX3_wellDone_9 ?_
    refine gz_bipush (v := nI 21) C dX3_wellDone_12 (by decide) ?_
    refine gz_iload_n C 1 dX3_wellDone_14 rfl ?_
    refine gz_imul (v := nI (21 * a)) C dX3_wellDone_15 (pk_mul _ _) ?_
    refine gz_iload_n C 2 dX3_wellDone_16 rfl ?_
    refine gz_iadd (v := nI ((21 * a) + b)) C dX3_wellDone_17 (nI_add _ _) ?_
    refine gz_zald C 6 2 rfl rfl (by omega) (by decide) dX3_wellDone_18 ?_
    refine gz_bif_eq C 26 dX3_wellDone_19 (by decide) (fun h_2 => ?_) (fun h_2 => ?_)
    · have g_2 : ¬ ((bdv ((21 * a) + b)) = true) := (by rw [h_2]; decide)
      refine gz_lload_n C 3 dX3_wellDone_26 rfl ?_
      refine gz_aload_n C 0 dX3_wellDone_27 rfl ?_
      refine gz_get (ci := 4) C iwX3 0 rfl rfl 7 (by decide) wk_387 rfl rfl dX3_wellDone_28 ?_
      refine gz_bipush (v := nI 21) C dX3_wellDone_31 (by decide) ?_
      refine gz_iload_n C 1 dX3_wellDone_33 rfl ?_
      refine gz_imul (v := nI (21 * a)) C dX3_wellDone_34 (pk_mul _ _) ?_
      refine gz_iload_n C 2 dX3_wellDone_35 rfl ?_
      refine gz_iadd (v := nI ((21 * a) + b)) C dX3_wellDone_36 (nI_add _ _) ?_
      refine gz_lald C 5 1 rfl rfl (by omega) (by decide) dX3_wellDone_37 ?_
      refine gz_ladd (v := t + (wyv ((21 * a) + b))) C dX3_wellDone_38 rfl ?_
      refine gz_lstore (lv2 := [(5, .long (t + (wyv ((21 * a) + b)))), (0, .ref h), (1, .int (nI a)), (2, .int (nI b)), (3, .long t)]) C dX3_wellDone_39 (by decide) rfl ?_
      refine gz_lload C 0 dX3_wellDone_41 rfl ?_
      refine gz_aload_n C 1 dX3_wellDone_43 rfl ?_
      refine gz_get (ci := 4) C iwX3 0 rfl rfl 4 (by decide) wk_384 rfl rfl dX3_wellDone_44 ?_
      refine gz_iload_n C 3 dX3_wellDone_47 rfl ?_
      refine gz_lald C 3 1 rfl rfl (by omega) (by decide) dX3_wellDone_48 ?_
      refine gz_lcmp_le C 57 dX3_wellDone_49 dX3_wellDone_50 (by decide) (fun h_3 => ?_) (fun h_3 => ?_)
      · skip
        refine gz_lload C 0 dX3_wellDone_57 rfl ?_
        refine gz_aload_n C 1 dX3_wellDone_59 rfl ?_
        refine gz_get (ci := 4) C iwX3 0 rfl rfl 3 (by decide) wk_383 rfl rfl dX3_wellDone_60 ?_
        refine gz_iload_n C 3 dX3_wellDone_63 rfl ?_
        refine gz_lald C 2 1 rfl rfl (by omega) (by decide) dX3_wellDone_64 ?_
        refine gz_J (ws2 := (wM h ad cI cJ cZ thr sn tkv opv shv ldv lim wyv bdv isr rn rdv fz icv exa fr fev eav rs rov)) (lv2 := [(5, .long (t + (wyv ((21 * a) + b)))), (0, .ref h), (1, .int (nI a)), (2, .int (nI b)), (3, .long t)]) (st2 := [.long ((if (opv b) ≤ (t + (wyv ((21 * a) + b))) then t + (wyv ((21 * a) + b)) else opv b))]) (pc2 := 80) ?_ (fun J_4 => ?_)
        rotate_left
        · refine gz_lcmp_ge C 78 dX3_wellDone_65 dX3_wellDone_66 (by decide) (fun h_4 => ?_) (fun h_4 => ?_)
          · skip
            refine gz_lload C 0 dX3_wellDone_78 rfl ?_
            simp only [if_pos h_4] at J_4 ⊢
            exact gz_lv [0, 1, 2, 3, 4] rfl J_4
          · have g_4 : ¬ ((opv b) ≤ (t + (wyv ((21 * a) + b)))) := h_4
            refine gz_aload_n C 1 dX3_wellDone_69 rfl ?_
            refine gz_get (ci := 4) C iwX3 0 rfl rfl 3 (by decide) wk_383 rfl rfl dX3_wellDone_70 ?_
            refine gz_iload_n C 3 dX3_wellDone_73 rfl ?_
            refine gz_lald C 2 1 rfl rfl (by omega) (by decide) dX3_wellDone_74 ?_
            refine gz_goto C 80 dX3_wellDone_75 (by decide) ?_
            simp only [if_neg g_4] at J_4 ⊢
            exact gz_lv [0, 1, 2, 3, 4] rfl J_4
        refine gz_aload_n C 1 dX3_wellDone_80 rfl ?_
        refine gz_get (ci := 4) C iwX3 0 rfl rfl 2 (by decide) wk_382 rfl rfl dX3_wellDone_81 ?_
        refine gz_iload_n C 3 dX3_wellDone_84 rfl ?_
        refine gz_lald C 1 1 rfl rfl (by omega) (by decide) dX3_wellDone_85 ?_
        refine gz_ladd (v := ((if (opv b) ≤ (t + (wyv ((21 * a) + b))) then t + (wyv ((21 * a) + b)) else opv b)) + (tkv b)) C dX3_wellDone_86 rfl ?_
        exact gz_lret C hr hk (by first | rfl | (simp only [f3_wellDone, if_neg g_1, if_neg g_2, if_pos h_3]) | (simp only [f3_wellDone, if_neg g_1, if_neg g_2, if_pos h_3]; rfl)) rfl (Nat.le_refl _) (Nat.le_refl _) dX3_wellDone_87
      · have g_3 : ¬ ((t + (wyv ((21 * a) + b))) ≤ (shv b)) := h_3
        refine gz_ldc2 (v := 4000000000000000000) C wk_489 dX3_wellDone_53 ?_
        exact gz_lret C hr hk (by first | rfl | (simp only [f3_wellDone, if_neg g_1, if_neg g_2, if_neg g_3]) | (simp only [f3_wellDone, if_neg g_1, if_neg g_2, if_neg g_3]; rfl)) rfl (Nat.le_refl _) (Nat.le_refl _) dX3_wellDone_56
    · skip
      refine gz_ldc2 (v := 4000000000000000000) C wk_489 dX3_wellDone_22 ?_
      exact gz_lret C hr hk (by first | rfl | (simp only [f3_wellDone, if_neg g_1, if_pos h_2]) | (simp only [f3_wellDone, if_neg g_1, if_pos h_2]; rfl)) rfl (Nat.le_refl _) (Nat.le_refl _) dX3_wellDone_25

def f3_wellHome (wyv : Nat → Int64) (bdv : Nat → Bool) (a : Nat) (t : Int64) : Int64 := (if t = 4000000000000000000 then 4000000000000000000 else (if (bdv (21 * a)) = true then 4000000000000000000 else t + (wyv (21 * a))))
set_option maxRecDepth 100000 in
set_option maxHeartbeats 4000000 in
theorem kX3_wellHome (l : Launch) (D : va_G) (h : Nat) (ad : Nat → Nat) (cI : ClassId) (cJ : ClassId) (cZ : ClassId) (thr : Int32) (sn : Nat) (tkv : Nat → Int64) (opv : Nat → Int64) (shv : Nat → Int64) (ldv : Nat → Int32) (lim : Int32) (wyv : Nat → Int64) (bdv : Nat → Bool) (isr : Bool) (rn : Nat) (rdv : Nat → Nat) (fz : Nat) (icv : Nat → Nat) (exa : Bool) (fr : Nat) (fev : Nat → Nat) (eav : Nat → Int64) (rs : Nat) (rov : Nat → Nat) (a : Nat) (t : Int64) (ha : a ≤ 20) : gz_M l yX3_wellHome cX3_wellHome 4 (some .long) ({ frames := 0, cells := 0, slots := 0, locals := 0 } : Room) D [(cI, .int), (cJ, .long), (cZ, .boolean)] [.ref h, .int (nI a), .long t] (wM h ad cI cJ cZ thr sn tkv opv shv ldv lim wyv bdv isr rn rdv fz icv exa fr fev eav rs rov) (some (.long (f3_wellHome wyv bdv a t))) (wM h ad cI cJ cZ thr sn tkv opv shv ldv lim wyv bdv isr rn rdv fz icv exa fr fev eav rs rov) 0 0 := by
  refine gz_met l (by decide) (Nat.le_of_ble_eq_true rfl) [(0, .ref h), (1, .int (nI a)), (2, .long t)] rfl ?_
  intro sz p e s m args below meth c C hr hk hnm
  have C : gz_C p s m args c cX3_wellHome 4 RX3 D [(cI, .int), (cJ, .long), (cZ, .boolean)] (va_A (wM h ad cI cJ cZ thr sn tkv opv shv ldv lim wyv bdv isr rn rdv fz icv exa fr fev eav rs rov) sz) := C
  refine gz_lload_n C 2 dX3_wellHome_0 rfl ?_
  refine gz_ldc2 (v := 4000000000000000000) C wk_489 dX3_wellHome_1 ?_
  refine gz_J (ws2 := (wM h ad cI cJ cZ thr sn tkv opv shv ldv lim wyv bdv isr rn rdv fz icv exa fr fev eav rs rov)) (lv2 := [(0, .ref h), (1, .int (nI a)), (2, .long t)]) (st2 := [.long ((if t = 4000000000000000000 then 4000000000000000000 else (if (bdv (21 * a)) = true then 4000000000000000000 else t + (wyv (21 * a)))))]) (pc2 := 37) ?_ (fun J_1 => ?_)
  rotate_left
  · refine gz_lcmp_eq C 20 dX3_wellHome_4 dX3_wellHome_5 (by decide) (fun h_1 => ?_) (fun h_1 => ?_)
    · skip
      refine gz_ldc2 (v := 4000000000000000000) C wk_489 dX3_wellHome_20 ?_
      refine gz_goto C 37 dX3_wellHome_23 (by decide) ?_
      simp only [if_pos h_1] at J_1 ⊢
      exact gz_lv [0, 1, 2] rfl J_1
    · have g_1 : ¬ (t = 4000000000000000000) := h_1
      refine gz_aload_n C 0 dX3_wellHome_8 rfl ?_
      refine gz_get (ci := 4) C iwX3 0 rfl rfl 8 (by decide) wk_388 rfl rfl dX3_wellHome_9 ?_
      refine gz_bipush (v := nI 21) C dX3_wellHome_12 (by decide) ?_
      refine gz_iload_n C 1 dX3_wellHome_14 rfl ?_
      refine gz_imul (v := nI (21 * a)) C dX3_wellHome_15 (pk_mul _ _) ?_
      refine gz_zald C 6 2 rfl rfl (by omega) (by decide) dX3_wellHome_16 ?_
      refine gz_J (ws2 := (wM h ad cI cJ cZ thr sn tkv opv shv ldv lim wyv bdv isr rn rdv fz icv exa fr fev eav rs rov)) (lv2 := [(0, .ref h), (1, .int (nI a)), (2, .long t)]) (st2 := [.long ((if (bdv (21 * a)) = true then 4000000000000000000 else t + (wyv (21 * a))))]) (pc2 := 37) ?_ (fun J_2 => ?_)
      rotate_left
      · refine gz_bif_eq C 26 dX3_wellHome_17 (by decide) (fun h_2 => ?_) (fun h_2 => ?_)
        · have g_2 : ¬ ((bdv (21 * a)) = true) := (by rw [h_2]; decide)
          refine gz_lload_n C 2 dX3_wellHome_26 rfl ?_
          refine gz_aload_n C 0 dX3_wellHome_27 rfl ?_
          refine gz_get (ci := 4) C iwX3 0 rfl rfl 7 (by decide) wk_387 rfl rfl dX3_wellHome_28 ?_
          refine gz_bipush (v := nI 21) C dX3_wellHome_31 (by decide) ?_
          refine gz_iload_n C 1 dX3_wellHome_33 rfl ?_
          refine gz_imul (v := nI (21 * a)) C dX3_wellHome_34 (pk_mul _ _) ?_
          refine gz_lald C 5 1 rfl rfl (by omega) (by decide) dX3_wellHome_35 ?_
          refine gz_ladd (v := t + (wyv (21 * a))) C dX3_wellHome_36 rfl ?_
          simp only [if_neg g_2] at J_2 ⊢
          exact gz_lv [0, 1, 2] rfl J_2
        · skip
          refine gz_ldc2 (v := 4000000000000000000) C wk_489 dX3_wellHome_20 ?_
          refine gz_goto C 37 dX3_wellHome_23 (by decide) ?_
          simp only [if_pos h_2] at J_2 ⊢
          exact gz_lv [0, 1, 2] rfl J_2
      simp only [if_neg g_1] at J_1 ⊢
      exact gz_lv [0, 1, 2] rfl J_1
  exact gz_lret C hr hk (by first | rfl | (simp only [f3_wellHome]) | (simp only [f3_wellHome]; rfl)) rfl (Nat.le_refl _) (Nat.le_refl _) dX3_wellHome_37

def f3_isFrozen_lp (icv : Nat → Nat) (x : Nat) : Nat → Bool → Nat → Bool × Nat
  | 0, is, k => (is, k)
  | n + 1, is, k => f3_isFrozen_lp icv x n ((if is = true then true else (if (icv k) = x then true else false))) (k + 1)
set_option maxRecDepth 100000 in
set_option maxHeartbeats 4000000 in
theorem lX3_isFrozen_lp {p : Program} {l : Launch} {e : Env} {R : Room} {s : State} {m : MethodId} {args : Array Value} {below : List Frame} {meth : Method} {c : Code} {cells slots : Nat} {Q : State → Prop} {A : Nat → Prop} {D : va_G} (h : Nat) (ad : Nat → Nat) (cI : ClassId) (cJ : ClassId) (cZ : ClassId) (thr : Int32) (sn : Nat) (tkv : Nat → Int64) (opv : Nat → Int64) (shv : Nat → Int64) (ldv : Nat → Int32) (lim : Int32) (wyv : Nat → Int64) (bdv : Nat → Bool) (isr : Bool) (rn : Nat) (rdv : Nat → Nat) (fz : Nat) (icv : Nat → Nat) (exa : Bool) (fr : Nat) (fev : Nat → Nat) (eav : Nat → Int64) (rs : Nat) (rov : Nat → Nat) (x : Nat) (hxx : x ≤ 20) (hfz : fz ≤ 20) (hic : ∀ k, k < fz → icv k ≤ 20) (C : gz_C p s m args c cX3_isFrozen 4 RX3 D [(cI, .int), (cJ, .long), (cZ, .boolean)] A) : ∀ (n : Nat) (is : Bool) (k : Nat), (k + n = fz) → ((((f3_isFrozen_lp icv x n is k).2) + 0 = fz) → GZ p l e R s m args below meth c 4 D A cells slots Q (wM h ad cI cJ cZ thr sn tkv opv shv ldv lim wyv bdv isr rn rdv fz icv exa fr fev eav rs rov) [(0, .ref h), (1, .int (nI x)), (2, .int (bI ((f3_isFrozen_lp icv x n is k).1))), (3, .int (nI ((f3_isFrozen_lp icv x n is k).2)))] [] 38) → GZ p l e R s m args below meth c 4 D A cells slots Q (wM h ad cI cJ cZ thr sn tkv opv shv ldv lim wyv bdv isr rn rdv fz icv exa fr fev eav rs rov) [(0, .ref h), (1, .int (nI x)), (2, .int (bI is)), (3, .int (nI k))] [] 4 := by
  intro n
  induction n with
  | zero =>
    intro is k hme  hx
    refine gz_iload_n C 3 dX3_isFrozen_4 rfl ?_
    refine gz_aload_n C 0 dX3_isFrozen_5 rfl ?_
    refine gz_get (ci := 4) C iwX3 0 rfl rfl 12 (by decide) wk_392 rfl rfl dX3_isFrozen_6 ?_
    refine gz_ncmp_ge C 38 (by omega) (by omega) dX3_isFrozen_9 (by decide) (fun h_1 => ?_) (fun h_1 => ?_)
    · skip
      exact gz_lv [0, 1, 2, 3] rfl (hx hme )
    · have g_1 : ¬ (fz ≤ k) := (Nat.not_le.mpr h_1)
      exfalso; omega
  | succ n ih =>
    intro is k hme  hx
    refine gz_iload_n C 3 dX3_isFrozen_4 rfl ?_
    refine gz_aload_n C 0 dX3_isFrozen_5 rfl ?_
    refine gz_get (ci := 4) C iwX3 0 rfl rfl 12 (by decide) wk_392 rfl rfl dX3_isFrozen_6 ?_
    refine gz_ncmp_ge C 38 (by omega) (by omega) dX3_isFrozen_9 (by decide) (fun h_1 => ?_) (fun h_1 => ?_)
    · skip
      exfalso; omega
    · have g_1 : ¬ (fz ≤ k) := (Nat.not_le.mpr h_1)
      refine gz_iload_n C 2 dX3_isFrozen_12 rfl ?_
      refine gz_J (ws2 := (wM h ad cI cJ cZ thr sn tkv opv shv ldv lim wyv bdv isr rn rdv fz icv exa fr fev eav rs rov)) (lv2 := [(0, .ref h), (1, .int (nI x)), (2, .int (bI is)), (3, .int (nI k))]) (st2 := [.int (nI ((if is = true then 1 else (if (icv k) = x then 1 else 0))))]) (pc2 := 31) ?_ (fun J_2 => ?_)
      rotate_left
      · refine gz_bif_ne C 26 dX3_isFrozen_13 (by decide) (fun h_2 => ?_) (fun h_2 => ?_)
        · skip
          refine gz_iconst (v := nI 1) C dX3_isFrozen_26 (by decide) ?_
          refine gz_goto C 31 dX3_isFrozen_27 (by decide) ?_
          simp only [if_pos h_2] at J_2 ⊢
          exact gz_lv [0, 1, 2, 3] rfl J_2
        · have g_2 : ¬ (is = true) := (by rw [h_2]; decide)
          have hq := hic k (by omega)
          refine gz_aload_n C 0 dX3_isFrozen_16 rfl ?_
          refine gz_get (ci := 4) C iwX3 0 rfl rfl 13 (by decide) wk_393 rfl rfl dX3_isFrozen_17 ?_
          refine gz_iload_n C 3 dX3_isFrozen_20 rfl ?_
          refine gz_iald C 8 0 rfl rfl (by omega) (by decide) dX3_isFrozen_21 ?_
          refine gz_iload_n C 1 dX3_isFrozen_22 rfl ?_
          refine gz_J (ws2 := (wM h ad cI cJ cZ thr sn tkv opv shv ldv lim wyv bdv isr rn rdv fz icv exa fr fev eav rs rov)) (lv2 := [(0, .ref h), (1, .int (nI x)), (2, .int (bI is)), (3, .int (nI k))]) (st2 := [.int (nI ((if (icv k) = x then 1 else 0)))]) (pc2 := 31) ?_ (fun J_3 => ?_)
          rotate_left
          · refine gz_ncmp_ne C 30 (by omega) (by omega) dX3_isFrozen_23 (by decide) (fun h_3 => ?_) (fun h_3 => ?_)
            · have g_3 : ¬ ((icv k) = x) := h_3
              refine gz_iconst (v := nI 0) C dX3_isFrozen_30 (by decide) ?_
              simp only [if_neg g_3] at J_3 ⊢
              exact gz_lv [0, 1, 2, 3] rfl J_3
            · skip
              refine gz_iconst (v := nI 1) C dX3_isFrozen_26 (by decide) ?_
              refine gz_goto C 31 dX3_isFrozen_27 (by decide) ?_
              simp only [if_pos h_3] at J_3 ⊢
              exact gz_lv [0, 1, 2, 3] rfl J_3
          simp only [if_neg g_2] at J_2 ⊢
          exact gz_lv [0, 1, 2, 3] rfl J_2
      refine gz_istore_n (lv2 := [(2, .int (nI ((if is = true then 1 else (if (icv k) = x then 1 else 0))))), (0, .ref h), (1, .int (nI x)), (3, .int (nI k))]) C dX3_isFrozen_31 (by decide) rfl ?_
      refine gz_iinc (v := nI (k + 1)) (lv2 := [(3, .int (nI (k + 1))), (2, .int (nI ((if is = true then 1 else (if (icv k) = x then 1 else 0))))), (0, .ref h), (1, .int (nI x))]) (k := 3) C dX3_isFrozen_32 rfl (nI_add _ 1) (by decide) rfl ?_
      refine gz_goto C 4 dX3_isFrozen_35 (by decide) ?_
      refine gz_lve (lv2 := [(3, .int (nI (k + 1))), (2, .int (bI ((if is = true then true else (if (icv k) = x then true else false))))), (0, .ref h), (1, .int (nI x))]) (by rw [show nI ((if is = true then 1 else (if (icv k) = x then 1 else 0))) = bI ((if is = true then true else (if (icv k) = x then true else false))) from (by first | rfl | decide | ((repeat' split) <;> rfl))]) ?_
      refine gz_lv [2, 3, 1, 0] rfl ?_
      simp only [f3_isFrozen_lp, if_neg g_1] at hx
      exact ih ((if is = true then true else (if (icv k) = x then true else false))) (k + 1) (by omega)  hx

def f3_isFrozen (fz : Nat) (icv : Nat → Nat) (x : Nat) : Bool := (f3_isFrozen_lp icv x fz false 0).1
set_option maxRecDepth 100000 in
set_option maxHeartbeats 4000000 in
theorem kX3_isFrozen (l : Launch) (D : va_G) (h : Nat) (ad : Nat → Nat) (cI : ClassId) (cJ : ClassId) (cZ : ClassId) (thr : Int32) (sn : Nat) (tkv : Nat → Int64) (opv : Nat → Int64) (shv : Nat → Int64) (ldv : Nat → Int32) (lim : Int32) (wyv : Nat → Int64) (bdv : Nat → Bool) (isr : Bool) (rn : Nat) (rdv : Nat → Nat) (fz : Nat) (icv : Nat → Nat) (exa : Bool) (fr : Nat) (fev : Nat → Nat) (eav : Nat → Int64) (rs : Nat) (rov : Nat → Nat) (x : Nat) (hxx : x ≤ 20) (hfz : fz ≤ 20) (hic : ∀ k, k < fz → icv k ≤ 20) : gz_M l yX3_isFrozen cX3_isFrozen 4 (some .boolean) ({ frames := 0, cells := 0, slots := 0, locals := 0 } : Room) D [(cI, .int), (cJ, .long), (cZ, .boolean)] [.ref h, .int (nI x)] (wM h ad cI cJ cZ thr sn tkv opv shv ldv lim wyv bdv isr rn rdv fz icv exa fr fev eav rs rov) (some (.int (bI (f3_isFrozen fz icv x)))) (wM h ad cI cJ cZ thr sn tkv opv shv ldv lim wyv bdv isr rn rdv fz icv exa fr fev eav rs rov) 0 0 := by
  refine gz_met l (by decide) (Nat.le_of_ble_eq_true rfl) [(0, .ref h), (1, .int (nI x))] rfl ?_
  intro sz p e s m args below meth c C hr hk hnm
  have C : gz_C p s m args c cX3_isFrozen 4 RX3 D [(cI, .int), (cJ, .long), (cZ, .boolean)] (va_A (wM h ad cI cJ cZ thr sn tkv opv shv ldv lim wyv bdv isr rn rdv fz icv exa fr fev eav rs rov) sz) := C
  refine gz_iconst (v := nI 0) C dX3_isFrozen_0 (by decide) ?_
  refine gz_istore_n (lv2 := [(2, .int (nI 0)), (0, .ref h), (1, .int (nI x))]) C dX3_isFrozen_1 (by decide) rfl ?_
  refine gz_iconst (v := nI 0) C dX3_isFrozen_2 (by decide) ?_
  refine gz_istore_n (lv2 := [(3, .int (nI 0)), (2, .int (nI 0)), (0, .ref h), (1, .int (nI x))]) C dX3_isFrozen_3 (by decide) rfl ?_
  refine gz_lv (lv2 := [(0, .ref h), (1, .int (nI x)), (2, .int (bI false)), (3, .int (nI 0))]) [2, 3, 1, 0] rfl ?_
  refine lX3_isFrozen_lp h ad cI cJ cZ thr sn tkv opv shv ldv lim wyv bdv isr rn rdv fz icv exa fr fev eav rs rov x (by first | assumption | omega) (by first | assumption | omega) (by first | assumption | omega) C fz false 0 (by omega)  ?_
  intro zme_lp
  refine gz_iload_n C 2 dX3_isFrozen_38 rfl ?_
  exact gz_zret C hr hk (bI_nar _) (by first | rfl | (simp only [f3_isFrozen]) | (simp only [f3_isFrozen]; rfl)) rfl (Nat.le_refl _) (Nat.le_refl _) dX3_isFrozen_39

