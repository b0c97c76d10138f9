def f3_at (isr : Bool) (rn : Nat) (rdv : Nat → Nat) (x : Int32) : Int32 := (if isr = true then (if x < 0 then nI 0 else (if (nI rn) ≤ x then nI 0 else nI (rdv (cl x)))) else nI 0)
def f3_at_thr (isr : Bool) (rn : Nat) (x : Int32) : Int32 := (if isr = true then (if x < 0 then nI 1 else (if (nI rn) ≤ x then nI 1 else nI 0)) else nI 1)
set_option maxRecDepth 100000 in
set_option maxHeartbeats 4000000 in
theorem kX3_at (l : Launch) (D : va_G) (h : Nat) (ad : Nat → Nat) (cI : ClassId) (cJ : ClassId) (cZ : ClassId) (thr : Int32) (sn : Nat) (tkv : Nat → Int64) (opv : Nat → Int64) (shv : Nat → Int64) (ldv : Nat → Int32) (lim : Int32) (wyv : Nat → Int64) (bdv : Nat → Bool) (isr : Bool) (rn : Nat) (rdv : Nat → Nat) (fz : Nat) (icv : Nat → Nat) (exa : Bool) (fr : Nat) (fev : Nat → Nat) (eav : Nat → Int64) (rs : Nat) (rov : Nat → Nat) (x : Int32) (hrn : rn ≤ 20) : gz_M l yX3_at cX3_at 2 (some .int) ({ frames := 0, cells := 0, slots := 0, locals := 0 } : Room) D [(cI, .int), (cJ, .long), (cZ, .boolean)] [.ref h, .int x] (wM h ad cI cJ cZ thr sn tkv opv shv ldv lim wyv bdv isr rn rdv fz icv exa fr fev eav rs rov) (some (.int (f3_at isr rn rdv x))) (wM h ad cI cJ cZ (f3_at_thr isr rn x) sn tkv opv shv ldv lim wyv bdv isr rn rdv fz icv exa fr fev eav rs rov) 0 0 := by
  refine gz_met l (by decide) (Nat.le_of_ble_eq_true rfl) [(0, .ref h), (1, .int x)] rfl ?_
  intro sz p e s m args below meth c C hr hk hnm
  have C : gz_C p s m args c cX3_at 2 RX3 D [(cI, .int), (cJ, .long), (cZ, .boolean)] (va_A (wM h ad cI cJ cZ thr sn tkv opv shv ldv lim wyv bdv isr rn rdv fz icv exa fr fev eav rs rov) sz) := C
  refine gz_aload_n C 0 dX3_at_0 rfl ?_
  refine gz_aload_n C 0 dX3_at_1 rfl ?_
  refine gz_get (ci := 4) C iwX3 0 rfl rfl 9 (by decide) wk_389 rfl rfl dX3_at_2 ?_
  refine gz_bif_eq C 24 dX3_at_5 (by decide) (fun h_1 => ?_) (fun h_1 => ?_)
  · have g_1 : ¬ (isr = true) := (by rw [h_1]; decide)
    refine gz_iconst (v := nI 1) C dX3_at_24 (by decide) ?_
    refine gz_put (ci := 4) (ws2 := (wM h ad cI cJ cZ (nI 1) sn tkv opv shv ldv lim wyv bdv isr rn rdv fz icv exa fr fev eav rs rov)) C iwX3 0 rfl rfl 0 (by decide) wk_380 rfl tyX3 tyX3_ok nmX3 rfl rfl rfl rfl (Nat.le_of_ble_eq_true rfl) rfl dX3_at_25 ?_
    refine gz_aload_n C 0 dX3_at_28 rfl ?_
    refine gz_get (ci := 4) C iwX3 0 rfl rfl 0 (by decide) wk_380 rfl rfl dX3_at_29 ?_
    refine gz_if_le C 39 dX3_at_32 (by decide) (fun z => absurd z (by decide)) (fun _ => ?_)
    refine gz_iconst (v := nI 0) C dX3_at_35 (by decide) ?_
    refine gz_goto C 45 dX3_at_36 (by decide) ?_
    exact gz_iret C hr hk (by first | rfl | (simp only [f3_at, f3_at_thr, if_neg g_1]) | (simp only [f3_at, f3_at_thr, if_neg g_1]; rfl)) (by first | rfl | (simp only [f3_at, f3_at_thr, if_neg g_1]) | (simp only [f3_at, f3_at_thr, if_neg g_1]; rfl)) (Nat.le_refl _) (Nat.le_refl _) dX3_at_45
  · skip
    refine gz_iload_n C 1 dX3_at_8 rfl ?_
    refine gz_if_lt C 24 dX3_at_9 (by decide) (fun h_2 => ?_) (fun h_2 => ?_)
    · skip
      refine gz_iconst (v := nI 1) C dX3_at_24 (by decide) ?_
      refine gz_put (ci := 4) (ws2 := (wM h ad cI cJ cZ (nI 1) sn tkv opv shv ldv lim wyv bdv isr rn rdv fz icv exa fr fev eav rs rov)) C iwX3 0 rfl rfl 0 (by decide) wk_380 rfl tyX3 tyX3_ok nmX3 rfl rfl rfl rfl (Nat.le_of_ble_eq_true rfl) rfl dX3_at_25 ?_
      refine gz_aload_n C 0 dX3_at_28 rfl ?_
      refine gz_get (ci := 4) C iwX3 0 rfl rfl 0 (by decide) wk_380 rfl rfl dX3_at_29 ?_
      refine gz_if_le C 39 dX3_at_32 (by decide) (fun z => absurd z (by decide)) (fun _ => ?_)
      refine gz_iconst (v := nI 0) C dX3_at_35 (by decide) ?_
      refine gz_goto C 45 dX3_at_36 (by decide) ?_
      exact gz_iret C hr hk (by first | rfl | (simp only [f3_at, f3_at_thr, if_pos h_1, if_pos h_2]) | (simp only [f3_at, f3_at_thr, if_pos h_1, if_pos h_2]; rfl)) (by first | rfl | (simp only [f3_at, f3_at_thr, if_pos h_1, if_pos h_2]) | (simp only [f3_at, f3_at_thr, if_pos h_1, if_pos h_2]; rfl)) (Nat.le_refl _) (Nat.le_refl _) dX3_at_45
    · have g_2 : ¬ (x < 0) := h_2
      refine gz_iload_n C 1 dX3_at_12 rfl ?_
      refine gz_aload_n C 0 dX3_at_13 rfl ?_
      refine gz_get (ci := 4) C iwX3 0 rfl rfl 10 (by decide) wk_390 rfl rfl dX3_at_14 ?_
      refine gz_icmp_ge C 24 dX3_at_17 (by decide) (fun h_3 => ?_) (fun h_3 => ?_)
      · skip
        refine gz_iconst (v := nI 1) C dX3_at_24 (by decide) ?_
        refine gz_put (ci := 4) (ws2 := (wM h ad cI cJ cZ (nI 1) sn tkv opv shv ldv lim wyv bdv isr rn rdv fz icv exa fr fev eav rs rov)) C iwX3 0 rfl rfl 0 (by decide) wk_380 rfl tyX3 tyX3_ok nmX3 rfl rfl rfl rfl (Nat.le_of_ble_eq_true rfl) rfl dX3_at_25 ?_
        refine gz_aload_n C 0 dX3_at_28 rfl ?_
        refine gz_get (ci := 4) C iwX3 0 rfl rfl 0 (by decide) wk_380 rfl rfl dX3_at_29 ?_
        refine gz_if_le C 39 dX3_at_32 (by decide) (fun z => absurd z (by decide)) (fun _ => ?_)
        refine gz_iconst (v := nI 0) C dX3_at_35 (by decide) ?_
        refine gz_goto C 45 dX3_at_36 (by decide) ?_
        exact gz_iret C hr hk (by first | rfl | (simp only [f3_at, f3_at_thr, if_pos h_1, if_neg g_2, if_pos h_3]) | (simp only [f3_at, f3_at_thr, if_pos h_1, if_neg g_2, if_pos h_3]; rfl)) (by first | rfl | (simp only [f3_at, f3_at_thr, if_pos h_1, if_neg g_2, if_pos h_3]) | (simp only [f3_at, f3_at_thr, if_pos h_1, if_neg g_2, if_pos h_3]; rfl)) (Nat.le_refl _) (Nat.le_refl _) dX3_at_45
      · have g_3 : ¬ ((nI rn) ≤ x) := h_3
        refine gz_iconst (v := nI 0) C dX3_at_20 (by decide) ?_
        refine gz_goto C 25 dX3_at_21 (by decide) ?_
        refine gz_put (ci := 4) (ws2 := (wM h ad cI cJ cZ (nI 0) sn tkv opv shv ldv lim wyv bdv isr rn rdv fz icv exa fr fev eav rs rov)) C iwX3 0 rfl rfl 0 (by decide) wk_380 rfl tyX3 tyX3_ok nmX3 rfl rfl rfl rfl (Nat.le_of_ble_eq_true rfl) rfl dX3_at_25 ?_
        refine gz_aload_n C 0 dX3_at_28 rfl ?_
        refine gz_get (ci := 4) C iwX3 0 rfl rfl 0 (by decide) wk_380 rfl rfl dX3_at_29 ?_
        refine gz_if_le C 39 dX3_at_32 (by decide) (fun _ => ?_) (fun z => absurd (by decide) z)
        have hc1 := cl_of g_2
        have hc2 : cl x < rn := cl_ltn g_2 g_3 (by omega)
        refine gz_lve (lv2 := [(0, .ref h), (1, .int (nI (cl x)))]) (by rw [← hc1]) ?_
        refine gz_aload_n C 0 dX3_at_39 rfl ?_
        refine gz_get (ci := 4) C iwX3 0 rfl rfl 11 (by decide) wk_391 rfl rfl dX3_at_40 ?_
        refine gz_iload_n C 1 dX3_at_43 rfl ?_
        refine gz_iald C 7 0 rfl rfl (by omega) (by decide) dX3_at_44 ?_
        exact gz_iret C hr hk (by first | rfl | (simp only [f3_at, f3_at_thr, if_pos h_1, if_neg g_2, if_neg g_3]) | (simp only [f3_at, f3_at_thr, if_pos h_1, if_neg g_2, if_neg g_3]; rfl)) (by first | rfl | (simp only [f3_at, f3_at_thr, if_pos h_1, if_neg g_2, if_neg g_3]) | (simp only [f3_at, f3_at_thr, if_pos h_1, if_neg g_2, if_neg g_3]; rfl)) (Nat.le_refl _) (Nat.le_refl _) dX3_at_45

def f3_freeze_lp (rdv : Nat → Nat) : Nat → Nat → (Nat → Nat) → Nat × (Nat → Nat)
  | 0, k, icv => (k, icv)
  | n + 1, k, icv => f3_freeze_lp rdv n (k + 1) (va_up icv k (rdv k))
set_option maxRecDepth 100000 in
set_option maxHeartbeats 4000000 in
theorem lX3_freeze_lp {p : Program} {l : Launch} {e : Env} {R : Room} {s : State} {m : MethodId} {args : Array Value} {below : List Frame} {meth : Method} {c : Code} {cells slots : Nat} {Q : State → Prop} {A : Nat → Prop} {D : va_G} (h : Nat) (ad : Nat → Nat) (cI : ClassId) (cJ : ClassId) (cZ : ClassId) (thr : Int32) (sn : Nat) (tkv : Nat → Int64) (opv : Nat → Int64) (shv : Nat → Int64) (ldv : Nat → Int32) (lim : Int32) (wyv : Nat → Int64) (bdv : Nat → Bool) (isr : Bool) (rn : Nat) (rdv : Nat → Nat) (fz : Nat) (exa : Bool) (fr : Nat) (fev : Nat → Nat) (eav : Nat → Int64) (rs : Nat) (rov : Nat → Nat) (z : Nat)  (C : gz_C p s m args c cX3_freeze 3 RX3 D [(cI, .int), (cJ, .long), (cZ, .boolean)] A) : ∀ (n : Nat) (k : Nat) (icv : Nat → Nat), (k + n = z ∧ z ≤ 20) → ((((f3_freeze_lp rdv n k icv).1) + 0 = z ∧ z ≤ 20) → GZ p l e R s m args below meth c 3 D A cells slots Q (wM h ad cI cJ cZ thr sn tkv opv shv ldv lim wyv bdv isr rn rdv fz ((f3_freeze_lp rdv n k icv).2) exa fr fev eav rs rov) [(0, .ref h), (1, .int (nI z)), (2, .int (nI ((f3_freeze_lp rdv n k icv).1)))] [] 67) → GZ p l e R s m args below meth c 3 D A cells slots Q (wM h ad cI cJ cZ thr sn tkv opv shv ldv lim wyv bdv isr rn rdv fz icv exa fr fev eav rs rov) [(0, .ref h), (1, .int (nI z)), (2, .int (nI k))] [] 44 := by
  intro n
  induction n with
  | zero =>
    intro k icv hme  hx
    refine gz_iload_n C 2 dX3_freeze_44 rfl ?_
    refine gz_iload_n C 1 dX3_freeze_45 rfl ?_
    refine gz_ncmp_ge C 67 (by omega) (by omega) dX3_freeze_46 (by decide) (fun h_1 => ?_) (fun h_1 => ?_)
    · skip
      exact gz_lv [0, 1, 2] rfl (hx hme )
    · have g_1 : ¬ (z ≤ k) := (Nat.not_le.mpr h_1)
      exfalso; omega
  | succ n ih =>
    intro k icv hme  hx
    refine gz_iload_n C 2 dX3_freeze_44 rfl ?_
    refine gz_iload_n C 1 dX3_freeze_45 rfl ?_
    refine gz_ncmp_ge C 67 (by omega) (by omega) dX3_freeze_46 (by decide) (fun h_1 => ?_) (fun h_1 => ?_)
    · skip
      exfalso; omega
    · have g_1 : ¬ (z ≤ k) := (Nat.not_le.mpr h_1)
      refine gz_aload_n C 0 dX3_freeze_49 rfl ?_
      refine gz_get (ci := 4) C iwX3 0 rfl rfl 13 (by decide) wk_393 rfl rfl dX3_freeze_50 ?_
      refine gz_iload_n C 2 dX3_freeze_53 rfl ?_
      refine gz_aload_n C 0 dX3_freeze_54 rfl ?_
      refine gz_get (ci := 4) C iwX3 0 rfl rfl 11 (by decide) wk_391 rfl rfl dX3_freeze_55 ?_
      refine gz_iload_n C 2 dX3_freeze_58 rfl ?_
      refine gz_iald C 7 0 rfl rfl (by omega) (by decide) dX3_freeze_59 ?_
      refine gz_iast (ws2 := (wM h ad cI cJ cZ thr sn tkv opv shv ldv lim wyv bdv isr rn rdv fz (va_up icv k (rdv k)) exa fr fev eav rs rov)) C 8 0 rfl rfl (by omega) (by decide) rfl dX3_freeze_60 ?_
      refine gz_iinc (v := nI (k + 1)) (lv2 := [(2, .int (nI (k + 1))), (0, .ref h), (1, .int (nI z))]) (k := 2) C dX3_freeze_61 rfl (nI_add _ 1) (by decide) rfl ?_
      refine gz_goto C 44 dX3_freeze_64 (by decide) ?_
      refine gz_lv [1, 2, 0] rfl ?_
      simp only [f3_freeze_lp, if_neg g_1] at hx
      exact ih (k + 1) (va_up icv k (rdv k)) (by omega)  hx

def f3_freeze (isr : Bool) (rn : Nat) (y : Int32) : Int32 := (if y < 0 then (-11) else (if isr = true then (if y ≤ (nI rn) then nI (cl y) else (-11)) else (-13)))
def f3_freeze_thr (isr : Bool) (rn : Nat) (y : Int32) : Int32 := (if y < 0 then nI 0 else (if isr = true then (if y ≤ (nI rn) then nI 0 else nI 0) else nI 0))
def f3_freeze_fz (isr : Bool) (rn : Nat) (fz : Nat) (y : Int32) : Nat := (if y < 0 then fz else (if isr = true then (if y ≤ (nI rn) then cl y else fz) else fz))
def f3_freeze_icv (isr : Bool) (rn : Nat) (rdv : Nat → Nat) (icv : Nat → Nat) (y : Int32) : Nat → Nat := (if y < 0 then icv else (if isr = true then (if y ≤ (nI rn) then (f3_freeze_lp rdv (cl y) 0 icv).2 else icv) else icv))
set_option maxRecDepth 100000 in
set_option maxHeartbeats 4000000 in
theorem kX3_freeze (l : Launch) (D : va_G) (h : Nat) (ad : Nat → Nat) (cI : ClassId) (cJ : ClassId) (cZ : ClassId) (thr : Int32) (sn : Nat) (tkv : Nat → Int64) (opv : Nat → Int64) (shv : Nat → Int64) (ldv : Nat → Int32) (lim : Int32) (wyv : Nat → Int64) (bdv : Nat → Bool) (isr : Bool) (rn : Nat) (rdv : Nat → Nat) (fz : Nat) (icv : Nat → Nat) (exa : Bool) (fr : Nat) (fev : Nat → Nat) (eav : Nat → Int64) (rs : Nat) (rov : Nat → Nat) (y : Int32) (hrn : rn ≤ 20) : gz_M l yX3_freeze cX3_freeze 3 (some .int) ({ frames := 0, cells := 0, slots := 0, locals := 0 } : Room) D [(cI, .int), (cJ, .long), (cZ, .boolean)] [.ref h, .int y] (wM h ad cI cJ cZ thr sn tkv opv shv ldv lim wyv bdv isr rn rdv fz icv exa fr fev eav rs rov) (some (.int (f3_freeze isr rn y))) (wM h ad cI cJ cZ (f3_freeze_thr isr rn y) sn tkv opv shv ldv lim wyv bdv isr rn rdv (f3_freeze_fz isr rn fz y) (f3_freeze_icv isr rn rdv icv y) exa fr fev eav rs rov) 0 0 := by
  refine gz_met l (by decide) (Nat.le_of_ble_eq_true rfl) [(0, .ref h), (1, .int y)] rfl ?_
  intro sz p e s m args below meth c C hr hk hnm
  have C : gz_C p s m args c cX3_freeze 3 RX3 D [(cI, .int), (cJ, .long), (cZ, .boolean)] (va_A (wM h ad cI cJ cZ thr sn tkv opv shv ldv lim wyv bdv isr rn rdv fz icv exa fr fev eav rs rov) sz) := C
  refine gz_aload_n C 0 dX3_freeze_0 rfl ?_
  refine gz_iconst (v := nI 0) C dX3_freeze_1 (by decide) ?_
  refine gz_put (ci := 4) (ws2 := (wM h ad cI cJ cZ (nI 0) sn tkv opv shv ldv lim wyv bdv isr rn rdv fz icv exa fr fev eav rs rov)) C iwX3 0 rfl rfl 0 (by decide) wk_380 rfl tyX3 tyX3_ok nmX3 rfl rfl rfl rfl (Nat.le_of_ble_eq_true rfl) rfl dX3_freeze_2 ?_
  refine gz_iload_n C 1 dX3_freeze_5 rfl ?_
  refine gz_if_lt C 24 dX3_freeze_6 (by decide) (fun h_1 => ?_) (fun h_1 => ?_)
  · skip
    refine gz_bipush (v := ((-11))) C dX3_freeze_24 (by decide) ?_
    exact gz_iret C hr hk (by first | rfl | (simp only [f3_freeze, f3_freeze_thr, f3_freeze_fz, f3_freeze_icv, if_pos h_1]) | (simp only [f3_freeze, f3_freeze_thr, f3_freeze_fz, f3_freeze_icv, if_pos h_1]; rfl)) (by first | rfl | (simp only [f3_freeze, f3_freeze_thr, f3_freeze_fz, f3_freeze_icv, if_pos h_1]) | (simp only [f3_freeze, f3_freeze_thr, f3_freeze_fz, f3_freeze_icv, if_pos h_1]; rfl)) (Nat.le_refl _) (Nat.le_refl _) dX3_freeze_26
  · have g_1 : ¬ (y < 0) := h_1
    refine gz_aload_n C 0 dX3_freeze_9 rfl ?_
    refine gz_get (ci := 4) C iwX3 0 rfl rfl 9 (by decide) wk_389 rfl rfl dX3_freeze_10 ?_
    refine gz_bif_eq C 27 dX3_freeze_13 (by decide) (fun h_2 => ?_) (fun h_2 => ?_)
    · have g_2 : ¬ (isr = true) := (by rw [h_2]; decide)
      refine gz_aload_n C 0 dX3_freeze_27 rfl ?_
      refine gz_get (ci := 4) C iwX3 0 rfl rfl 9 (by decide) wk_389 rfl rfl dX3_freeze_28 ?_
      refine gz_bif_ne C 37 dX3_freeze_31 (by decide) (fun z => absurd (h_2.symm.trans z) (by decide)) (fun _ => ?_)
      refine gz_bipush (v := ((-13))) C dX3_freeze_34 (by decide) ?_
      exact gz_iret C hr hk (by first | rfl | (simp only [f3_freeze, f3_freeze_thr, f3_freeze_fz, f3_freeze_icv, if_neg g_1, if_neg g_2]) | (simp only [f3_freeze, f3_freeze_thr, f3_freeze_fz, f3_freeze_icv, if_neg g_1, if_neg g_2]; rfl)) (by first | rfl | (simp only [f3_freeze, f3_freeze_thr, f3_freeze_fz, f3_freeze_icv, if_neg g_1, if_neg g_2]) | (simp only [f3_freeze, f3_freeze_thr, f3_freeze_fz, f3_freeze_icv, if_neg g_1, if_neg g_2]; rfl)) (Nat.le_refl _) (Nat.le_refl _) dX3_freeze_36
    · skip
      refine gz_iload_n C 1 dX3_freeze_16 rfl ?_
      refine gz_aload_n C 0 dX3_freeze_17 rfl ?_
      refine gz_get (ci := 4) C iwX3 0 rfl rfl 10 (by decide) wk_390 rfl rfl dX3_freeze_18 ?_
      refine gz_icmp_le C 27 dX3_freeze_21 (by decide) (fun h_3 => ?_) (fun h_3 => ?_)
      · skip
        refine gz_aload_n C 0 dX3_freeze_27 rfl ?_
        refine gz_get (ci := 4) C iwX3 0 rfl rfl 9 (by decide) wk_389 rfl rfl dX3_freeze_28 ?_
        refine gz_bif_ne C 37 dX3_freeze_31 (by decide) (fun _ => ?_) (fun z => absurd (h_2.symm.trans z) (by decide))
        have hc1 := cl_of g_1
        have hc2 : cl y ≤ rn := cl_lep g_1 h_3 (by omega)
        refine gz_lve (lv2 := [(0, .ref h), (1, .int (nI (cl y)))]) (by rw [← hc1]) ?_
        refine gz_aload_n C 0 dX3_freeze_37 rfl ?_
        refine gz_iload_n C 1 dX3_freeze_38 rfl ?_
        refine gz_put (ci := 4) (ws2 := (wM h ad cI cJ cZ (nI 0) sn tkv opv shv ldv lim wyv bdv isr rn rdv (cl y) icv exa fr fev eav rs rov)) C iwX3 0 rfl rfl 12 (by decide) wk_392 rfl tyX3 tyX3_ok nmX3 rfl rfl rfl rfl (Nat.le_of_ble_eq_true rfl) rfl dX3_freeze_39 ?_
        refine gz_iconst (v := nI 0) C dX3_freeze_42 (by decide) ?_
        refine gz_istore_n (lv2 := [(2, .int (nI 0)), (0, .ref h), (1, .int (nI (cl y)))]) C dX3_freeze_43 (by decide) rfl ?_
        refine gz_lv (lv2 := [(0, .ref h), (1, .int (nI (cl y))), (2, .int (nI 0))]) [1, 2, 0] rfl ?_
        refine lX3_freeze_lp h ad cI cJ cZ (nI 0) sn tkv opv shv ldv lim wyv bdv isr rn rdv (cl y) exa fr fev eav rs rov (cl y)  C (cl y) 0 icv (by omega)  ?_
        intro zme_lp
        refine gz_iload_n C 1 dX3_freeze_67 rfl ?_
        exact gz_iret C hr hk (by first | rfl | (simp only [f3_freeze, f3_freeze_thr, f3_freeze_fz, f3_freeze_icv, if_neg g_1, if_pos h_2, if_pos h_3]) | (simp only [f3_freeze, f3_freeze_thr, f3_freeze_fz, f3_freeze_icv, if_neg g_1, if_pos h_2, if_pos h_3]; rfl)) (by first | rfl | (simp only [f3_freeze, f3_freeze_thr, f3_freeze_fz, f3_freeze_icv, if_neg g_1, if_pos h_2, if_pos h_3]) | (simp only [f3_freeze, f3_freeze_thr, f3_freeze_fz, f3_freeze_icv, if_neg g_1, if_pos h_2, if_pos h_3]; rfl)) (Nat.le_refl _) (Nat.le_refl _) dX3_freeze_68
      · have g_3 : ¬ (y ≤ (nI rn)) := h_3
        refine gz_bipush (v := ((-11))) C dX3_freeze_24 (by decide) ?_
        exact gz_iret C hr hk (by first | rfl | (simp only [f3_freeze, f3_freeze_thr, f3_freeze_fz, f3_freeze_icv, if_neg g_1, if_pos h_2, if_neg g_3]) | (simp only [f3_freeze, f3_freeze_thr, f3_freeze_fz, f3_freeze_icv, if_neg g_1, if_pos h_2, if_neg g_3]; rfl)) (by first | rfl | (simp only [f3_freeze, f3_freeze_thr, f3_freeze_fz, f3_freeze_icv, if_neg g_1, if_pos h_2, if_neg g_3]) | (simp only [f3_freeze, f3_freeze_thr, f3_freeze_fz, f3_freeze_icv, if_neg g_1, if_pos h_2, if_neg g_3]; rfl)) (Nat.le_refl _) (Nat.le_refl _) dX3_freeze_26

def f3_late_lp (tkv : Nat → Int64) (opv : Nat → Int64) (shv : Nat → Int64) (wyv : Nat → Int64) (rdv : Nat → Nat) (y : Int32) : Nat → Int64 → Nat → Nat → Nat → Int32
  | 0, ck, he, u, k => nI 0
  | n + 1, ck, he, u, k => if (ck + (wyv ((21 * he) + (rdv k)))) ≤ (shv (rdv k)) then f3_late_lp tkv opv shv wyv rdv y n (((if (opv (rdv k)) ≤ (ck + (wyv ((21 * he) + (rdv k)))) then ck + (wyv ((21 * he) + (rdv k))) else opv (rdv k))) + (tkv (rdv k))) (rdv k) u (k + 1) else if (nI u) = y then nI (rdv k) else f3_late_lp tkv opv shv wyv rdv y n (((if (opv (rdv k)) ≤ (ck + (wyv ((21 * he) + (rdv k)))) then ck + (wyv ((21 * he) + (rdv k))) else opv (rdv k))) + (tkv (rdv k))) (rdv k) (u + 1) (k + 1)
set_option maxRecDepth 100000 in
set_option maxHeartbeats 4000000 in
theorem lX3_late_lp {p : Program} {l : Launch} {e : Env} {R : Room} {s : State} {m : MethodId} {args : Array Value} {below : List Frame} {meth : Method} {c : Code} {cells slots mc ms : Nat} {A : Nat → Prop} {ov : Option Value} {D : va_G} (h : Nat) (ad : Nat → Nat) (cI : ClassId) (cJ : ClassId) (cZ : ClassId) (thr : Int32) (sn : Nat) (tkv : Nat → Int64) (opv : Nat → Int64) (shv : Nat → Int64) (ldv : Nat → Int32) (lim : Int32) (wyv : Nat → Int64) (bdv : Nat → Bool) (isr : Bool) (rn : Nat) (rdv : Nat → Nat) (fz : Nat) (icv : Nat → Nat) (exa : Bool) (fr : Nat) (fev : Nat → Nat) (eav : Nat → Int64) (rs : Nat) (rov : Nat → Nat) (y : Int32) (hrn : rn ≤ 20) (hrd : ∀ k, k < rn → rdv k ≤ 20) (C : gz_C p s m args c cX3_late 10 RX3 D [(cI, .int), (cJ, .long), (cZ, .boolean)] A) (hr : meth.sig.returnType = (some .int)) (hk : meth.locks = false) (hcm : cells ≤ mc) (hsm : slots ≤ ms) : ∀ (n : Nat) (ck : Int64) (he : Nat) (u : Nat) (k : Nat), (k + n = rn) → (he ≤ 20) → some (.int (f3_late_lp tkv opv shv wyv rdv y n ck he u k)) = ov → GZ p l e R s m args below meth c 10 D A cells slots (MQ below (gz_Q D [(cI, .int), (cJ, .long), (cZ, .boolean)] ov (wM h ad cI cJ cZ thr sn tkv opv shv ldv lim wyv bdv isr rn rdv fz icv exa fr fev eav rs rov) A) args s mc ms A) (wM h ad cI cJ cZ thr sn tkv opv shv ldv lim wyv bdv isr rn rdv fz icv exa fr fev eav rs rov) [(0, .ref h), (1, .int y), (2, .long ck), (4, .int (nI he)), (5, .int (nI u)), (6, .int (nI k))] [] 25 := by
  intro n
  induction n with
  | zero =>
    intro ck he u k hme hhe hov
    refine gz_iload C 5 dX3_late_25 rfl ?_
    refine gz_aload_n C 0 dX3_late_27 rfl ?_
    refine gz_get (ci := 4) C iwX3 0 rfl rfl 10 (by decide) wk_390 rfl rfl dX3_late_28 ?_
    refine gz_ncmp_ge C 129 (by omega) (by omega) dX3_late_31 (by decide) (fun h_1 => ?_) (fun h_1 => ?_)
    · skip
      refine gz_iconst (v := nI 0) C dX3_late_129 (by decide) ?_
      exact gz_iret C hr hk (by rw [← hov]; first | rfl | (simp only [f3_late_lp, if_pos h_1])) rfl hcm hsm dX3_late_130
    · have g_1 : ¬ (rn ≤ k) := (Nat.not_le.mpr h_1)
      exfalso; omega
  | succ n ih =>
    intro ck he u k hme hhe hov
    refine gz_iload C 5 dX3_late_25 rfl ?_
    refine gz_aload_n C 0 dX3_late_27 rfl ?_
    refine gz_get (ci := 4) C iwX3 0 rfl rfl 10 (by decide) wk_390 rfl rfl dX3_late_28 ?_
    refine gz_ncmp_ge C 129 (by omega) (by omega) dX3_late_31 (by decide) (fun h_1 => ?_) (fun h_1 => ?_)
    · skip
      exfalso; omega
    · have g_1 : ¬ (rn ≤ k) := (Nat.not_le.mpr h_1)
      have hq := hrd k (by omega)
      refine gz_aload_n C 0 dX3_late_34 rfl ?_
      refine gz_get (ci := 4) C iwX3 0 rfl rfl 11 (by decide) wk_391 rfl rfl dX3_late_35 ?_
      refine gz_iload C 5 dX3_late_38 rfl ?_
      refine gz_iald C 7 0 rfl rfl (by omega) (by decide) dX3_late_40 ?_
      refine gz_istore (lv2 := [(7, .int (nI (rdv k))), (0, .ref h), (1, .int y), (2, .long ck), (4, .int (nI he)), (5, .int (nI u)), (6, .int (nI k))]) C dX3_late_41 (by decide) rfl ?_
      refine gz_lload_n C 3 dX3_late_43 rfl ?_
      refine gz_aload_n C 1 dX3_late_44 rfl ?_
      refine gz_get (ci := 4) C iwX3 0 rfl rfl 7 (by decide) wk_387 rfl rfl dX3_late_45 ?_
      refine gz_bipush (v := nI 21) C dX3_late_48 (by decide) ?_
      refine gz_iload C 4 dX3_late_50 rfl ?_
      refine gz_imul (v := nI (21 * he)) C dX3_late_52 (pk_mul _ _) ?_
      refine gz_iload C 0 dX3_late_53 rfl ?_
      refine gz_iadd (v := nI ((21 * he) + (rdv k))) C dX3_late_55 (nI_add _ _) ?_
      refine gz_lald C 5 1 rfl rfl (by omega) (by decide) dX3_late_56 ?_
      refine gz_ladd (v := ck + (wyv ((21 * he) + (rdv k)))) C dX3_late_57 rfl ?_
      refine gz_lstore (lv2 := [(8, .long (ck + (wyv ((21 * he) + (rdv k))))), (7, .int (nI (rdv k))), (0, .ref h), (1, .int y), (2, .long ck), (4, .int (nI he)), (5, .int (nI u)), (6, .int (nI k))]) C dX3_late_58 (by decide) rfl ?_
      refine gz_lload C 0 dX3_late_60 rfl ?_
      refine gz_aload_n C 2 dX3_late_62 rfl ?_
      refine gz_get (ci := 4) C iwX3 0 rfl rfl 4 (by decide) wk_384 rfl rfl dX3_late_63 ?_
      refine gz_iload C 1 dX3_late_66 rfl ?_
      refine gz_lald C 3 1 rfl rfl (by omega) (by decide) dX3_late_68 ?_
      refine gz_lcmp_le C 85 dX3_late_69 dX3_late_70 (by decide) (fun h_2 => ?_) (fun h_2 => ?_)
      · skip
        refine gz_lload C 0 dX3_late_85 rfl ?_
        refine gz_aload_n C 2 dX3_late_87 rfl ?_
        refine gz_get (ci := 4) C iwX3 0 rfl rfl 3 (by decide) wk_383 rfl rfl dX3_late_88 ?_
        refine gz_iload C 1 dX3_late_91 rfl ?_
        refine gz_lald C 2 1 rfl rfl (by omega) (by decide) dX3_late_93 ?_
        refine gz_J (ws2 := (wM h ad cI cJ cZ thr sn tkv opv shv ldv lim wyv bdv isr rn rdv fz icv exa fr fev eav rs rov)) (lv2 := [(8, .long (ck + (wyv ((21 * he) + (rdv k))))), (7, .int (nI (rdv k))), (0, .ref h), (1, .int y), (2, .long ck), (4, .int (nI he)), (5, .int (nI u)), (6, .int (nI k))]) (st2 := [.long ((if (opv (rdv k)) ≤ (ck + (wyv ((21 * he) + (rdv k)))) then ck + (wyv ((21 * he) + (rdv k))) else opv (rdv k)))]) (pc2 := 110) ?_ (fun J_3 => ?_)
        rotate_left
        · refine gz_lcmp_ge C 108 dX3_late_94 dX3_late_95 (by decide) (fun h_3 => ?_) (fun h_3 => ?_)
          · skip
            refine gz_lload C 0 dX3_late_108 rfl ?_
            simp only [if_pos h_3] at J_3 ⊢
            exact gz_lv [0, 1, 2, 3, 4, 5, 6, 7] rfl J_3
          · have g_3 : ¬ ((opv (rdv k)) ≤ (ck + (wyv ((21 * he) + (rdv k))))) := h_3
            refine gz_aload_n C 2 dX3_late_98 rfl ?_
            refine gz_get (ci := 4) C iwX3 0 rfl rfl 3 (by decide) wk_383 rfl rfl dX3_late_99 ?_
            refine gz_iload C 1 dX3_late_102 rfl ?_
            refine gz_lald C 2 1 rfl rfl (by omega) (by decide) dX3_late_104 ?_
            refine gz_goto C 110 dX3_late_105 (by decide) ?_
            simp only [if_neg g_3] at J_3 ⊢
            exact gz_lv [0, 1, 2, 3, 4, 5, 6, 7] rfl J_3
        refine gz_aload_n C 2 dX3_late_110 rfl ?_
        refine gz_get (ci := 4) C iwX3 0 rfl rfl 2 (by decide) wk_382 rfl rfl dX3_late_111 ?_
        refine gz_iload C 1 dX3_late_114 rfl ?_
        refine gz_lald C 1 1 rfl rfl (by omega) (by decide) dX3_late_116 ?_
        refine gz_ladd (v := ((if (opv (rdv k)) ≤ (ck + (wyv ((21 * he) + (rdv k)))) then ck + (wyv ((21 * he) + (rdv k))) else opv (rdv k))) + (tkv (rdv k))) C dX3_late_117 rfl ?_
        refine gz_lstore_n (lv2 := [(2, .long (((if (opv (rdv k)) ≤ (ck + (wyv ((21 * he) + (rdv k)))) then ck + (wyv ((21 * he) + (rdv k))) else opv (rdv k))) + (tkv (rdv k)))), (8, .long (ck + (wyv ((21 * he) + (rdv k))))), (7, .int (nI (rdv k))), (0, .ref h), (1, .int y), (4, .int (nI he)), (5, .int (nI u)), (6, .int (nI k))]) C dX3_late_118 (by decide) rfl ?_
        refine gz_iload C 2 dX3_late_119 rfl ?_
        refine gz_istore (lv2 := [(4, .int (nI (rdv k))), (2, .long (((if (opv (rdv k)) ≤ (ck + (wyv ((21 * he) + (rdv k)))) then ck + (wyv ((21 * he) + (rdv k))) else opv (rdv k))) + (tkv (rdv k)))), (8, .long (ck + (wyv ((21 * he) + (rdv k))))), (7, .int (nI (rdv k))), (0, .ref h), (1, .int y), (5, .int (nI u)), (6, .int (nI k))]) C dX3_late_121 (by decide) rfl ?_
        refine gz_iinc (v := nI (k + 1)) (lv2 := [(6, .int (nI (k + 1))), (4, .int (nI (rdv k))), (2, .long (((if (opv (rdv k)) ≤ (ck + (wyv ((21 * he) + (rdv k)))) then ck + (wyv ((21 * he) + (rdv k))) else opv (rdv k))) + (tkv (rdv k)))), (8, .long (ck + (wyv ((21 * he) + (rdv k))))), (7, .int (nI (rdv k))), (0, .ref h), (1, .int y), (5, .int (nI u))]) (k := 7) C dX3_late_123 rfl (nI_add _ 1) (by decide) rfl ?_
        refine gz_goto C 25 dX3_late_126 (by decide) ?_
        refine gz_lv [5, 6, 2, 1, 7, 0] rfl ?_
        simp only [f3_late_lp, if_neg g_1, if_pos h_2] at hov
        exact ih (((if (opv (rdv k)) ≤ (ck + (wyv ((21 * he) + (rdv k)))) then ck + (wyv ((21 * he) + (rdv k))) else opv (rdv k))) + (tkv (rdv k))) (rdv k) u (k + 1) (by omega) (by omega) hov
      · have g_2 : ¬ ((ck + (wyv ((21 * he) + (rdv k)))) ≤ (shv (rdv k))) := h_2
        refine gz_iload C 6 dX3_late_73 rfl ?_
        refine gz_iload_n C 3 dX3_late_75 rfl ?_
        refine gz_icmp_ne C 82 dX3_late_76 (by decide) (fun h_4 => ?_) (fun h_4 => ?_)
        · have g_4 : ¬ ((nI u) = y) := h_4
          refine gz_iinc (v := nI (u + 1)) (lv2 := [(5, .int (nI (u + 1))), (8, .long (ck + (wyv ((21 * he) + (rdv k))))), (7, .int (nI (rdv k))), (0, .ref h), (1, .int y), (2, .long ck), (4, .int (nI he)), (6, .int (nI k))]) (k := 6) C dX3_late_82 rfl (nI_add _ 1) (by decide) rfl ?_
          refine gz_lload C 1 dX3_late_85 rfl ?_
          refine gz_aload_n C 3 dX3_late_87 rfl ?_
          refine gz_get (ci := 4) C iwX3 0 rfl rfl 3 (by decide) wk_383 rfl rfl dX3_late_88 ?_
          refine gz_iload C 2 dX3_late_91 rfl ?_
          refine gz_lald C 2 1 rfl rfl (by omega) (by decide) dX3_late_93 ?_
          refine gz_J (ws2 := (wM h ad cI cJ cZ thr sn tkv opv shv ldv lim wyv bdv isr rn rdv fz icv exa fr fev eav rs rov)) (lv2 := [(5, .int (nI (u + 1))), (8, .long (ck + (wyv ((21 * he) + (rdv k))))), (7, .int (nI (rdv k))), (0, .ref h), (1, .int y), (2, .long ck), (4, .int (nI he)), (6, .int (nI k))]) (st2 := [.long ((if (opv (rdv k)) ≤ (ck + (wyv ((21 * he) + (rdv k)))) then ck + (wyv ((21 * he) + (rdv k))) else opv (rdv k)))]) (pc2 := 110) ?_ (fun J_5 => ?_)
          rotate_left
          · refine gz_lcmp_ge C 108 dX3_late_94 dX3_late_95 (by decide) (fun h_5 => ?_) (fun h_5 => ?_)
            · skip
              refine gz_lload C 1 dX3_late_108 rfl ?_
              simp only [if_pos h_5] at J_5 ⊢
              exact gz_lv [0, 1, 2, 3, 4, 5, 6, 7] rfl J_5
            · have g_5 : ¬ ((opv (rdv k)) ≤ (ck + (wyv ((21 * he) + (rdv k))))) := h_5
              refine gz_aload_n C 3 dX3_late_98 rfl ?_
              refine gz_get (ci := 4) C iwX3 0 rfl rfl 3 (by decide) wk_383 rfl rfl dX3_late_99 ?_
              refine gz_iload C 2 dX3_late_102 rfl ?_
              refine gz_lald C 2 1 rfl rfl (by omega) (by decide) dX3_late_104 ?_
              refine gz_goto C 110 dX3_late_105 (by decide) ?_
              simp only [if_neg g_5] at J_5 ⊢
              exact gz_lv [0, 1, 2, 3, 4, 5, 6, 7] rfl J_5
          refine gz_aload_n C 3 dX3_late_110 rfl ?_
          refine gz_get (ci := 4) C iwX3 0 rfl rfl 2 (by decide) wk_382 rfl rfl dX3_late_111 ?_
          refine gz_iload C 2 dX3_late_114 rfl ?_
          refine gz_lald C 1 1 rfl rfl (by omega) (by decide) dX3_late_116 ?_
          refine gz_ladd (v := ((if (opv (rdv k)) ≤ (ck + (wyv ((21 * he) + (rdv k)))) then ck + (wyv ((21 * he) + (rdv k))) else opv (rdv k))) + (tkv (rdv k))) C dX3_late_117 rfl ?_
          refine gz_lstore_n (lv2 := [(2, .long (((if (opv (rdv k)) ≤ (ck + (wyv ((21 * he) + (rdv k)))) then ck + (wyv ((21 * he) + (rdv k))) else opv (rdv k))) + (tkv (rdv k)))), (5, .int (nI (u + 1))), (8, .long (ck + (wyv ((21 * he) + (rdv k))))), (7, .int (nI (rdv k))), (0, .ref h), (1, .int y), (4, .int (nI he)), (6, .int (nI k))]) C dX3_late_118 (by decide) rfl ?_
          refine gz_iload C 3 dX3_late_119 rfl ?_
          refine gz_istore (lv2 := [(4, .int (nI (rdv k))), (2, .long (((if (opv (rdv k)) ≤ (ck + (wyv ((21 * he) + (rdv k)))) then ck + (wyv ((21 * he) + (rdv k))) else opv (rdv k))) + (tkv (rdv k)))), (5, .int (nI (u + 1))), (8, .long (ck + (wyv ((21 * he) + (rdv k))))), (7, .int (nI (rdv k))), (0, .ref h), (1, .int y), (6, .int (nI k))]) C dX3_late_121 (by decide) rfl ?_
          refine gz_iinc (v := nI (k + 1)) (lv2 := [(6, .int (nI (k + 1))), (4, .int (nI (rdv k))), (2, .long (((if (opv (rdv k)) ≤ (ck + (wyv ((21 * he) + (rdv k)))) then ck + (wyv ((21 * he) + (rdv k))) else opv (rdv k))) + (tkv (rdv k)))), (5, .int (nI (u + 1))), (8, .long (ck + (wyv ((21 * he) + (rdv k))))), (7, .int (nI (rdv k))), (0, .ref h), (1, .int y)]) (k := 7) C dX3_late_123 rfl (nI_add _ 1) (by decide) rfl ?_
          refine gz_goto C 25 dX3_late_126 (by decide) ?_
          refine gz_lv [6, 7, 2, 1, 3, 0] rfl ?_
          simp only [f3_late_lp, if_neg g_1, if_neg g_2, if_neg g_4] at hov
          exact ih (((if (opv (rdv k)) ≤ (ck + (wyv ((21 * he) + (rdv k)))) then ck + (wyv ((21 * he) + (rdv k))) else opv (rdv k))) + (tkv (rdv k))) (rdv k) (u + 1) (k + 1) (by omega) (by omega) hov
        · skip
          refine gz_iload C 1 dX3_late_79 rfl ?_
          exact gz_iret C hr hk (by rw [← hov]; first | rfl | (simp only [f3_late_lp, if_neg g_1, if_neg g_2, if_pos h_4])) rfl hcm hsm dX3_late_81

def f3_late (tkv : Nat → Int64) (opv : Nat → Int64) (shv : Nat → Int64) (wyv : Nat → Int64) (isr : Bool) (rn : Nat) (rdv : Nat → Nat) (y : Int32) : Int32 := (if isr = true then f3_late_lp tkv opv shv wyv rdv y rn 0 0 0 0 else nI 0)
def f3_late_thr (isr : Bool) : Int32 := (if isr = true then nI 0 else nI 0)
set_option maxRecDepth 100000 in
set_option maxHeartbeats 4000000 in
theorem kX3_late (l : Launch) (D : va_G) (h : Nat) (ad : Nat → Nat) (cI : ClassId) (cJ : ClassId) (cZ : ClassId) (thr : Int32) (sn : Nat) (tkv : Nat → Int64) (opv : Nat → Int64) (shv : Nat → Int64) (ldv : Nat → Int32) (lim : Int32) (wyv : Nat → Int64) (bdv : Nat → Bool) (isr : Bool) (rn : Nat) (rdv : Nat → Nat) (fz : Nat) (icv : Nat → Nat) (exa : Bool) (fr : Nat) (fev : Nat → Nat) (eav : Nat → Int64) (rs : Nat) (rov : Nat → Nat) (y : Int32) (hrn : rn ≤ 20) (hrd : ∀ k, k < rn → rdv k ≤ 20) : gz_M l yX3_late cX3_late 10 (some .int) ({ frames := 0, cells := 0, slots := 0, locals := 0 } : Room) D [(cI, .int), (cJ, .long), (cZ, .boolean)] [.ref h, .int y] (wM h ad cI cJ cZ thr sn tkv opv shv ldv lim wyv bdv isr rn rdv fz icv exa fr fev eav rs rov) (some (.int (f3_late tkv opv shv wyv isr rn rdv y))) (wM h ad cI cJ cZ (f3_late_thr isr) sn tkv opv shv ldv lim wyv bdv isr rn rdv fz icv exa fr fev eav rs rov) 0 0 := by
  refine gz_met l (by decide) (Nat.le_of_ble_eq_true rfl) [(0, .ref h), (1, .int y)] rfl ?_
  intro sz p e s m args below meth c C hr hk hnm
  have C : gz_C p s m args c cX3_late 10 RX3 D [(cI, .int), (cJ, .long), (cZ, .boolean)] (va_A (wM h ad cI cJ cZ thr sn tkv opv shv ldv lim wyv bdv isr rn rdv fz icv exa fr fev eav rs rov) sz) := C
  refine gz_aload_n C 0 dX3_late_0 rfl ?_
  refine gz_iconst (v := nI 0) C dX3_late_1 (by decide) ?_
  refine gz_put (ci := 4) (ws2 := (wM h ad cI cJ cZ (nI 0) sn tkv opv shv ldv lim wyv bdv isr rn rdv fz icv exa fr fev eav rs rov)) C iwX3 0 rfl rfl 0 (by decide) wk_380 rfl tyX3 tyX3_ok nmX3 rfl rfl rfl rfl (Nat.le_of_ble_eq_true rfl) rfl dX3_late_2 ?_
  refine gz_aload_n C 0 dX3_late_5 rfl ?_
  refine gz_get (ci := 4) C iwX3 0 rfl rfl 9 (by decide) wk_389 rfl rfl dX3_late_6 ?_
  refine gz_bif_ne C 14 dX3_late_9 (by decide) (fun h_1 => ?_) (fun h_1 => ?_)
  · skip
    refine gz_lconst (v := 0) C dX3_late_14 (by decide) ?_
    refine gz_lstore_n (lv2 := [(2, .long 0), (0, .ref h), (1, .int y)]) C dX3_late_15 (by decide) rfl ?_
    refine gz_iconst (v := nI 0) C dX3_late_16 (by decide) ?_
    refine gz_istore (lv2 := [(4, .int (nI 0)), (2, .long 0), (0, .ref h), (1, .int y)]) C dX3_late_17 (by decide) rfl ?_
    refine gz_iconst (v := nI 0) C dX3_late_19 (by decide) ?_
    refine gz_istore (lv2 := [(5, .int (nI 0)), (4, .int (nI 0)), (2, .long 0), (0, .ref h), (1, .int y)]) C dX3_late_20 (by decide) rfl ?_
    refine gz_iconst (v := nI 0) C dX3_late_22 (by decide) ?_
    refine gz_istore (lv2 := [(6, .int (nI 0)), (5, .int (nI 0)), (4, .int (nI 0)), (2, .long 0), (0, .ref h), (1, .int y)]) C dX3_late_23 (by decide) rfl ?_
    refine gz_lv (lv2 := [(0, .ref h), (1, .int y), (2, .long 0), (4, .int (nI 0)), (5, .int (nI 0)), (6, .int (nI 0))]) [4, 5, 3, 2, 1, 0] rfl ?_
    refine gz_end (ws2 := (wM h ad cI cJ cZ (nI 0) sn tkv opv shv ldv lim wyv bdv isr rn rdv fz icv exa fr fev eav rs rov)) (by first | rfl | (simp only [f3_late, f3_late_thr, if_pos h_1]) | (simp only [f3_late, f3_late_thr, if_pos h_1]; rfl)) ?_
    exact lX3_late_lp h ad cI cJ cZ (nI 0) sn tkv opv shv ldv lim wyv bdv isr rn rdv fz icv exa fr fev eav rs rov y (by first | assumption | omega) (by first | assumption | omega) C hr hk (Nat.le_refl _) (Nat.le_refl _) rn 0 0 0 0 (by omega) (by first | assumption | omega) (by first | rfl | (simp only [f3_late, f3_late_thr, if_pos h_1]) | (simp only [f3_late, f3_late_thr, if_pos h_1]; rfl))
  · have g_1 : ¬ (isr = true) := (by rw [h_1]; decide)
    refine gz_iconst (v := nI 0) C dX3_late_12 (by decide) ?_
    exact gz_iret C hr hk (by first | rfl | (simp only [f3_late, f3_late_thr, if_neg g_1]) | (simp only [f3_late, f3_late_thr, if_neg g_1]; rfl)) (by first | rfl | (simp only [f3_late, f3_late_thr, if_neg g_1]) | (simp only [f3_late, f3_late_thr, if_neg g_1]; rfl)) (Nat.le_refl _) (Nat.le_refl _) dX3_late_13

def f3_arc_lp (bdv : Nat → Bool) : Nat → Nat → Nat → Nat × Nat
  | 0, u, k => (u, k)
  | n + 1, u, k => f3_arc_lp bdv n ((if (bdv k) = true then u + 1 else u)) (k + 1)
set_option maxRecDepth 100000 in
set_option maxHeartbeats 4000000 in
theorem lX3_arc_lp {p : Program} {l : Launch} {e : Env} {R : Room} {s : State} {m : MethodId} {args : Array Value} {below : List Frame} {meth : Method} {c : Code} {cells slots : Nat} {Q : State → Prop} {A : Nat → Prop} {D : va_G} (h : Nat) (ad : Nat → Nat) (cI : ClassId) (cJ : ClassId) (cZ : ClassId) (thr : Int32) (sn : Nat) (tkv : Nat → Int64) (opv : Nat → Int64) (shv : Nat → Int64) (ldv : Nat → Int32) (lim : Int32) (wyv : Nat → Int64) (bdv : Nat → Bool) (isr : Bool) (rn : Nat) (rdv : Nat → Nat) (fz : Nat) (icv : Nat → Nat) (exa : Bool) (fr : Nat) (fev : Nat → Nat) (eav : Nat → Int64) (rs : Nat) (rov : Nat → Nat)  (C : gz_C p s m args c cX3_arc 6 RX3 D [(cI, .int), (cJ, .long), (cZ, .boolean)] A) : ∀ (n : Nat) (u : Nat) (k : Nat), (k + n = 441) → ((((f3_arc_lp bdv n u k).2) + 0 = 441) → GZ p l e R s m args below meth c 6 D A cells slots Q (wM h ad cI cJ cZ thr sn tkv opv shv ldv lim wyv bdv isr rn rdv fz icv exa fr fev eav rs rov) [(0, .ref h), (4, .int (nI ((f3_arc_lp bdv n u k).1))), (5, .int (nI ((f3_arc_lp bdv n u k).2)))] [] 107) → GZ p l e R s m args below meth c 6 D A cells slots Q (wM h ad cI cJ cZ thr sn tkv opv shv ldv lim wyv bdv isr rn rdv fz icv exa fr fev eav rs rov) [(0, .ref h), (4, .int (nI u)), (5, .int (nI k))] [] 72 := by
  intro n
  induction n with
  | zero =>
    intro u k hme  hx
    refine gz_iload C 2 dX3_arc_72 rfl ?_
    refine gz_sipush (v := nI 441) C dX3_arc_74 (by decide) ?_
    refine gz_ncmp_ge C 107 (by omega) (by omega) dX3_arc_77 (by decide) (fun h_1 => ?_) (fun h_1 => ?_)
    · skip
      exact gz_lv [0, 1, 2] rfl (hx hme )
    · have g_1 : ¬ (441 ≤ k) := (Nat.not_le.mpr h_1)
      exfalso; omega
  | succ n ih =>
    intro u k hme  hx
    refine gz_iload C 2 dX3_arc_72 rfl ?_
    refine gz_sipush (v := nI 441) C dX3_arc_74 (by decide) ?_
    refine gz_ncmp_ge C 107 (by omega) (by omega) dX3_arc_77 (by decide) (fun h_1 => ?_) (fun h_1 => ?_)
    · skip
      exfalso; omega
    · have g_1 : ¬ (441 ≤ k) := (Nat.not_le.mpr h_1)
      refine gz_aload_n C 0 dX3_arc_80 rfl ?_
      refine gz_get (ci := 4) C iwX3 0 rfl rfl 8 (by decide) wk_388 rfl rfl dX3_arc_81 ?_
      refine gz_iload C 2 dX3_arc_84 rfl ?_
      refine gz_zald C 6 2 rfl rfl (by omega) (by decide) dX3_arc_86 ?_
      refine gz_J (ws2 := (wM h ad cI cJ cZ thr sn tkv opv shv ldv lim wyv bdv isr rn rdv fz icv exa fr fev eav rs rov)) (lv2 := [(0, .ref h), (4, .int (nI u)), (5, .int (nI k))]) (st2 := [.int (nI ((if (bdv k) = true then u + 1 else u)))]) (pc2 := 99) ?_ (fun J_2 => ?_)
      rotate_left
      · refine gz_bif_eq C 97 dX3_arc_87 (by decide) (fun h_2 => ?_) (fun h_2 => ?_)
        · have g_2 : ¬ ((bdv k) = true) := (by rw [h_2]; decide)
          refine gz_iload C 1 dX3_arc_97 rfl ?_
          simp only [if_neg g_2] at J_2 ⊢
          exact gz_lv [0, 1, 2] rfl J_2
        · skip
          refine gz_iload C 1 dX3_arc_90 rfl ?_
          refine gz_iconst (v := nI 1) C dX3_arc_92 (by decide) ?_
          refine gz_iadd (v := nI (u + 1)) C dX3_arc_93 (nI_add _ _) ?_
          refine gz_goto C 99 dX3_arc_94 (by decide) ?_
          simp only [if_pos h_2] at J_2 ⊢
          exact gz_lv [0, 1, 2] rfl J_2
      refine gz_istore (lv2 := [(4, .int (nI ((if (bdv k) = true then u + 1 else u)))), (0, .ref h), (5, .int (nI k))]) C dX3_arc_99 (by decide) rfl ?_
      refine gz_iinc (v := nI (k + 1)) (lv2 := [(5, .int (nI (k + 1))), (4, .int (nI ((if (bdv k) = true then u + 1 else u)))), (0, .ref h)]) (k := 2) C dX3_arc_101 rfl (nI_add _ 1) (by decide) rfl ?_
      refine gz_goto C 72 dX3_arc_104 (by decide) ?_
      refine gz_lv [2, 1, 0] rfl ?_
      simp only [f3_arc_lp, if_neg g_1] at hx
      exact ih ((if (bdv k) = true then u + 1 else u)) (k + 1) (by omega)  hx

def f3_arc (sn : Nat) (bdv : Nat → Bool) (a : Int32) (b : Int32) (y : Int32) : Int32 := (if (f3_isPlace sn a) = true then (if (f3_isPlace sn b) = true then (if y < 0 then (-12) else (if (nI 1) < y then (-12) else (if (cl a) = (cl b) then (-12) else nI ((f3_arc_lp (va_up bdv ((21 * (cl a)) + (cl b)) ((if y = 0 then true else false))) 441 0 0).1)))) else (-11)) else (-11))
def f3_arc_thr (sn : Nat) (a : Int32) (b : Int32) (y : Int32) : Int32 := (if (f3_isPlace sn a) = true then (if (f3_isPlace sn b) = true then (if y < 0 then nI 0 else (if (nI 1) < y then nI 0 else (if (cl a) = (cl b) then nI 0 else nI 0))) else nI 0) else nI 0)
def f3_arc_bdv (sn : Nat) (bdv : Nat → Bool) (a : Int32) (b : Int32) (y : Int32) : Nat → Bool := (if (f3_isPlace sn a) = true then (if (f3_isPlace sn b) = true then (if y < 0 then bdv else (if (nI 1) < y then bdv else (if (cl a) = (cl b) then bdv else va_up bdv ((21 * (cl a)) + (cl b)) ((if y = 0 then true else false))))) else bdv) else bdv)
def f3_arc_exa (sn : Nat) (exa : Bool) (a : Int32) (b : Int32) (y : Int32) : Bool := (if (f3_isPlace sn a) = true then (if (f3_isPlace sn b) = true then (if y < 0 then exa else (if (nI 1) < y then exa else (if (cl a) = (cl b) then exa else false))) else exa) else exa)
set_option maxRecDepth 100000 in
set_option maxHeartbeats 4000000 in
theorem kX3_arc (l : Launch) (D : va_G) (h : Nat) (ad : Nat → Nat) (cI : ClassId) (cJ : ClassId) (cZ : ClassId) (thr : Int32) (sn : Nat) (tkv : Nat → Int64) (opv : Nat → Int64) (shv : Nat → Int64) (ldv : Nat → Int32) (lim : Int32) (wyv : Nat → Int64) (bdv : Nat → Bool) (isr : Bool) (rn : Nat) (rdv : Nat → Nat) (fz : Nat) (icv : Nat → Nat) (exa : Bool) (fr : Nat) (fev : Nat → Nat) (eav : Nat → Int64) (rs : Nat) (rov : Nat → Nat) (a : Int32) (b : Int32) (y : Int32) (hsn : sn ≤ 20) : gz_M l yX3_arc cX3_arc 6 (some .int) ({ frames := 1, cells := 0, slots := 0, locals := 21 } : Room) D [(cI, .int), (cJ, .long), (cZ, .boolean)] [.ref h, .int a, .int b, .int y] (wM h ad cI cJ cZ thr sn tkv opv shv ldv lim wyv bdv isr rn rdv fz icv exa fr fev eav rs rov) (some (.int (f3_arc sn bdv a b y))) (wM h ad cI cJ cZ (f3_arc_thr sn a b y) sn tkv opv shv ldv lim wyv (f3_arc_bdv sn bdv a b y) isr rn rdv fz icv (f3_arc_exa sn exa a b y) fr fev eav rs rov) 0 0 := by
  refine gz_met l (by decide) (Nat.le_of_ble_eq_true rfl) [(0, .ref h), (1, .int a), (2, .int b), (3, .int y)] rfl ?_
  intro sz p e s m args below meth c C hr hk hnm
  have C : gz_C p s m args c cX3_arc 6 RX3 D [(cI, .int), (cJ, .long), (cZ, .boolean)] (va_A (wM h ad cI cJ cZ thr sn tkv opv shv ldv lim wyv bdv isr rn rdv fz icv exa fr fev eav rs rov) sz) := C
  refine gz_aload_n C 0 dX3_arc_0 rfl ?_
  refine gz_iconst (v := nI 0) C dX3_arc_1 (by decide) ?_
  refine gz_put (ci := 4) (ws2 := (wM h ad cI cJ cZ (nI 0) sn tkv opv shv ldv lim wyv bdv isr rn rdv fz icv exa fr fev eav rs rov)) C iwX3 0 rfl rfl 0 (by decide) wk_380 rfl tyX3 tyX3_ok nmX3 rfl rfl rfl rfl (Nat.le_of_ble_eq_true rfl) rfl dX3_arc_2 ?_
  refine gz_aload_n C 0 dX3_arc_5 rfl ?_
  refine gz_iload_n C 1 dX3_arc_6 rfl ?_
  refine gz_callV (wr := []) (n := 1) (ws2 := (wM h ad cI cJ cZ (nI 0) sn tkv opv shv ldv lim wyv bdv isr rn rdv fz icv exa fr fev eav rs rov)) (st2 := [.int (bI (f3_isPlace sn a))]) (cells2 := 0) (slots2 := 0) (ci := 4) C (kX3_isPlace l D h ad cI cJ cZ (nI 0) sn tkv opv shv ldv lim wyv bdv isr rn rdv fz icv exa fr fev eav rs rov a (by first | assumption | omega)) (WB_V wk_455 wk_457 ws_16 wk_4 wk_458) (by decide +kernel) ⟨⟨rfl, rfl⟩, Nat.le_of_ble_eq_true rfl, Nat.le_of_ble_eq_true rfl⟩ [0, 1, 2, 3, 4, 5, 6, 7, 8, 9, 10, 11] [] [0, 1, 2] rfl rfl rfl (by decide) rfl 0 rfl rfl rfl rfl (Nat.le_of_ble_eq_true rfl) dX3_arc_7 ⟨Nat.zero_le _, Nat.zero_le _⟩ rfl rfl rfl ?_
  refine gz_bif_eq C 21 dX3_arc_10 (by decide) (fun h_1 => ?_) (fun h_1 => ?_)
  · have g_1 : ¬ ((f3_isPlace sn a) = true) := (by rw [h_1]; decide)
    refine gz_bipush (v := ((-11))) C dX3_arc_21 (by decide) ?_
    exact gz_iret C hr hk (by first | rfl | (simp only [f3_arc, f3_arc_thr, f3_arc_bdv, f3_arc_exa, if_neg g_1]) | (simp only [f3_arc, f3_arc_thr, f3_arc_bdv, f3_arc_exa, if_neg g_1]; rfl)) (by first | rfl | (simp only [f3_arc, f3_arc_thr, f3_arc_bdv, f3_arc_exa, if_neg g_1]) | (simp only [f3_arc, f3_arc_thr, f3_arc_bdv, f3_arc_exa, if_neg g_1]; rfl)) (Nat.le_refl _) (Nat.le_refl _) dX3_arc_23
  · skip
    obtain ⟨ha1, ha2⟩ := q3_place h_1 hsn
    refine gz_lve (lv2 := [(0, .ref h), (1, .int (nI (cl a))), (2, .int b), (3, .int y)]) (by rw [← ha1]) ?_
    refine gz_aload_n C 0 dX3_arc_13 rfl ?_
    refine gz_iload_n C 2 dX3_arc_14 rfl ?_
    refine gz_callV (wr := []) (n := 1) (ws2 := (wM h ad cI cJ cZ (nI 0) sn tkv opv shv ldv lim wyv bdv isr rn rdv fz icv exa fr fev eav rs rov)) (st2 := [.int (bI (f3_isPlace sn b))]) (cells2 := 0) (slots2 := 0) (ci := 4) C (kX3_isPlace l D h ad cI cJ cZ (nI 0) sn tkv opv shv ldv lim wyv bdv isr rn rdv fz icv exa fr fev eav rs rov b (by first | assumption | omega)) (WB_V wk_455 wk_457 ws_16 wk_4 wk_458) (by decide +kernel) ⟨⟨rfl, rfl⟩, Nat.le_of_ble_eq_true rfl, Nat.le_of_ble_eq_true rfl⟩ [0, 1, 2, 3, 4, 5, 6, 7, 8, 9, 10, 11] [] [0, 1, 2] rfl rfl rfl (by decide) rfl 0 rfl rfl rfl rfl (Nat.le_of_ble_eq_true rfl) dX3_arc_15 ⟨Nat.zero_le _, Nat.zero_le _⟩ rfl rfl rfl ?_
    refine gz_bif_ne C 24 dX3_arc_18 (by decide) (fun h_2 => ?_) (fun h_2 => ?_)
    · skip
      obtain ⟨hb1, hb2⟩ := q3_place h_2 hsn
      refine gz_lve (lv2 := [(0, .ref h), (1, .int (nI (cl a))), (2, .int (nI (cl b))), (3, .int y)]) (by rw [← hb1]) ?_
      refine gz_iload_n C 3 dX3_arc_24 rfl ?_
      refine gz_if_lt C 38 dX3_arc_25 (by decide) (fun h_3 => ?_) (fun h_3 => ?_)
      · skip
        refine gz_bipush (v := ((-12))) C dX3_arc_38 (by decide) ?_
        exact gz_iret C hr hk (by first | rfl | (simp only [f3_arc, f3_arc_thr, f3_arc_bdv, f3_arc_exa, if_pos h_1, if_pos h_2, if_pos h_3]) | (simp only [f3_arc, f3_arc_thr, f3_arc_bdv, f3_arc_exa, if_pos h_1, if_pos h_2, if_pos h_3]; rfl)) (by first | rfl | (simp only [f3_arc, f3_arc_thr, f3_arc_bdv, f3_arc_exa, if_pos h_1, if_pos h_2, if_pos h_3]) | (simp only [f3_arc, f3_arc_thr, f3_arc_bdv, f3_arc_exa, if_pos h_1, if_pos h_2, if_pos h_3]; rfl)) (Nat.le_refl _) (Nat.le_refl _) dX3_arc_40
      · have g_3 : ¬ (y < 0) := h_3
        refine gz_iload_n C 3 dX3_arc_28 rfl ?_
        refine gz_iconst (v := nI 1) C dX3_arc_29 (by decide) ?_
        refine gz_icmp_gt C 38 dX3_arc_30 (by decide) (fun h_4 => ?_) (fun h_4 => ?_)
        · skip
          refine gz_bipush (v := ((-12))) C dX3_arc_38 (by decide) ?_
          exact gz_iret C hr hk (by first | rfl | (simp only [f3_arc, f3_arc_thr, f3_arc_bdv, f3_arc_exa, if_pos h_1, if_pos h_2, if_neg g_3, if_pos h_4]) | (simp only [f3_arc, f3_arc_thr, f3_arc_bdv, f3_arc_exa, if_pos h_1, if_pos h_2, if_neg g_3, if_pos h_4]; rfl)) (by first | rfl | (simp only [f3_arc, f3_arc_thr, f3_arc_bdv, f3_arc_exa, if_pos h_1, if_pos h_2, if_neg g_3, if_pos h_4]) | (simp only [f3_arc, f3_arc_thr, f3_arc_bdv, f3_arc_exa, if_pos h_1, if_pos h_2, if_neg g_3, if_pos h_4]; rfl)) (Nat.le_refl _) (Nat.le_refl _) dX3_arc_40
        · have g_4 : ¬ ((nI 1) < y) := h_4
          refine gz_iload_n C 1 dX3_arc_33 rfl ?_
          refine gz_iload_n C 2 dX3_arc_34 rfl ?_
          refine gz_ncmp_ne C 41 (by omega) (by omega) dX3_arc_35 (by decide) (fun h_5 => ?_) (fun h_5 => ?_)
          · have g_5 : ¬ ((cl a) = (cl b)) := h_5
            refine gz_aload_n C 0 dX3_arc_41 rfl ?_
            refine gz_get (ci := 4) C iwX3 0 rfl rfl 8 (by decide) wk_388 rfl rfl dX3_arc_42 ?_
            refine gz_bipush (v := nI 21) C dX3_arc_45 (by decide) ?_
            refine gz_iload_n C 1 dX3_arc_47 rfl ?_
            refine gz_imul (v := nI (21 * (cl a))) C dX3_arc_48 (pk_mul _ _) ?_
            refine gz_iload_n C 2 dX3_arc_49 rfl ?_
            refine gz_iadd (v := nI ((21 * (cl a)) + (cl b))) C dX3_arc_50 (nI_add _ _) ?_
            refine gz_iload_n C 3 dX3_arc_51 rfl ?_
            refine gz_J (ws2 := (wM h ad cI cJ cZ (nI 0) sn tkv opv shv ldv lim wyv bdv isr rn rdv fz icv exa fr fev eav rs rov)) (lv2 := [(0, .ref h), (1, .int (nI (cl a))), (2, .int (nI (cl b))), (3, .int y)]) (st2 := [.int (nI ((if y = 0 then 1 else 0))), .int (nI ((21 * (cl a)) + (cl b))), .ref ((ad 8))]) (pc2 := 60) ?_ (fun J_6 => ?_)
            rotate_left
            · refine gz_if_ne C 59 dX3_arc_52 (by decide) (fun h_6 => ?_) (fun h_6 => ?_)
              · have g_6 : ¬ (y = 0) := h_6
                refine gz_iconst (v := nI 0) C dX3_arc_59 (by decide) ?_
                simp only [if_neg g_6] at J_6 ⊢
                exact gz_lv [0, 1, 2, 3] rfl J_6
              · skip
                refine gz_iconst (v := nI 1) C dX3_arc_55 (by decide) ?_
                refine gz_goto C 60 dX3_arc_56 (by decide) ?_
                simp only [if_pos h_6] at J_6 ⊢
                exact gz_lv [0, 1, 2, 3] rfl J_6
            refine gz_sw (v := .int (nI ((if y = 0 then 1 else 0)))) (w := .int (bI ((if y = 0 then true else false)))) (by rw [show nI ((if y = 0 then 1 else 0)) = bI ((if y = 0 then true else false)) from (by first | rfl | decide | ((repeat' split) <;> rfl))]) ?_
            refine gz_zast (ws2 := (wM h ad cI cJ cZ (nI 0) sn tkv opv shv ldv lim wyv (va_up bdv ((21 * (cl a)) + (cl b)) ((if y = 0 then true else false))) isr rn rdv fz icv exa fr fev eav rs rov)) C 6 2 rfl rfl (by omega) (by decide) rfl dX3_arc_60 ?_
            refine gz_aload_n C 0 dX3_arc_61 rfl ?_
            refine gz_iconst (v := nI 0) C dX3_arc_62 (by decide) ?_
            refine gz_sw (v := .int (nI 0)) (w := .int (bI false)) (by rw [show nI 0 = bI false from (by first | rfl | decide | ((repeat' split) <;> rfl))]) ?_
            refine gz_put (ci := 4) (ws2 := (wM h ad cI cJ cZ (nI 0) sn tkv opv shv ldv lim wyv (va_up bdv ((21 * (cl a)) + (cl b)) ((if y = 0 then true else false))) isr rn rdv fz icv false fr fev eav rs rov)) C iwX3 0 rfl rfl 14 (by decide) wk_394 rfl tyX3 tyX3_ok nmX3 rfl rfl (bI_nar _) (bI_fit _) (Nat.le_of_ble_eq_true rfl) rfl dX3_arc_63 ?_
            refine gz_iconst (v := nI 0) C dX3_arc_66 (by decide) ?_
            refine gz_istore (lv2 := [(4, .int (nI 0)), (0, .ref h), (1, .int (nI (cl a))), (2, .int (nI (cl b))), (3, .int y)]) C dX3_arc_67 (by decide) rfl ?_
            refine gz_iconst (v := nI 0) C dX3_arc_69 (by decide) ?_
            refine gz_istore (lv2 := [(5, .int (nI 0)), (4, .int (nI 0)), (0, .ref h), (1, .int (nI (cl a))), (2, .int (nI (cl b))), (3, .int y)]) C dX3_arc_70 (by decide) rfl ?_
            refine gz_lv (lv2 := [(0, .ref h), (4, .int (nI 0)), (5, .int (nI 0))]) [2, 1, 0] rfl ?_
            refine lX3_arc_lp h ad cI cJ cZ (nI 0) sn tkv opv shv ldv lim wyv (va_up bdv ((21 * (cl a)) + (cl b)) ((if y = 0 then true else false))) isr rn rdv fz icv false fr fev eav rs rov  C 441 0 0 (by omega)  ?_
            intro zme_lp
            refine gz_iload C 1 dX3_arc_107 rfl ?_
            exact gz_iret C hr hk (by first | rfl | (simp only [f3_arc, f3_arc_thr, f3_arc_bdv, f3_arc_exa, if_pos h_1, if_pos h_2, if_neg g_3, if_neg g_4, if_neg g_5]) | (simp only [f3_arc, f3_arc_thr, f3_arc_bdv, f3_arc_exa, if_pos h_1, if_pos h_2, if_neg g_3, if_neg g_4, if_neg g_5]; rfl)) (by first | rfl | (simp only [f3_arc, f3_arc_thr, f3_arc_bdv, f3_arc_exa, if_pos h_1, if_pos h_2, if_neg g_3, if_neg g_4, if_neg g_5]) | (simp only [f3_arc, f3_arc_thr, f3_arc_bdv, f3_arc_exa, if_pos h_1, if_pos h_2, if_neg g_3, if_neg g_4, if_neg g_5]; rfl)) (Nat.le_refl _) (Nat.le_refl _) dX3_arc_109
          · skip
            refine gz_bipush (v := ((-12))) C dX3_arc_38 (by decide) ?_
            exact gz_iret C hr hk (by first | rfl | (simp only [f3_arc, f3_arc_thr, f3_arc_bdv, f3_arc_exa, if_pos h_1, if_pos h_2, if_neg g_3, if_neg g_4, if_pos h_5]) | (simp only [f3_arc, f3_arc_thr, f3_arc_bdv, f3_arc_exa, if_pos h_1, if_pos h_2, if_neg g_3, if_neg g_4, if_pos h_5]; rfl)) (by first | rfl | (simp only [f3_arc, f3_arc_thr, f3_arc_bdv, f3_arc_exa, if_pos h_1, if_pos h_2, if_neg g_3, if_neg g_4, if_pos h_5]) | (simp only [f3_arc, f3_arc_thr, f3_arc_bdv, f3_arc_exa, if_pos h_1, if_pos h_2, if_neg g_3, if_neg g_4, if_pos h_5]; rfl)) (Nat.le_refl _) (Nat.le_refl _) dX3_arc_40
    · have g_2 : ¬ ((f3_isPlace sn b) = true) := (by rw [h_2]; decide)
      refine gz_bipush (v := ((-11))) C dX3_arc_21 (by decide) ?_
      exact gz_iret C hr hk (by first | rfl | (simp only [f3_arc, f3_arc_thr, f3_arc_bdv, f3_arc_exa, if_pos h_1, if_neg g_2]) | (simp only [f3_arc, f3_arc_thr, f3_arc_bdv, f3_arc_exa, if_pos h_1, if_neg g_2]; rfl)) (by first | rfl | (simp only [f3_arc, f3_arc_thr, f3_arc_bdv, f3_arc_exa, if_pos h_1, if_neg g_2]) | (simp only [f3_arc, f3_arc_thr, f3_arc_bdv, f3_arc_exa, if_pos h_1, if_neg g_2]; rfl)) (Nat.le_refl _) (Nat.le_refl _) dX3_arc_23

def f3_bound_lpa (wyv : Nat → Int64) (bdv : Nat → Bool) (b : Nat) : Nat → Int64 → Nat → Int64 × Nat
  | 0, le, a => (le, a)
  | n + 1, le, a => f3_bound_lpa wyv bdv b n ((if a = b then le else (if (bdv ((21 * a) + b)) = true then le else (if le ≤ (wyv ((21 * a) + b)) then le else wyv ((21 * a) + b))))) (a + 1)
set_option maxRecDepth 100000 in
set_option maxHeartbeats 4000000 in
theorem lX3_bound_lpa {p : Program} {l : Launch} {e : Env} {R : Room} {s : State} {m : MethodId} {args : Array Value} {below : List Frame} {meth : Method} {c : Code} {cells slots : Nat} {Q : State → Prop} {A : Nat → Prop} {D : va_G} (h : Nat) (ad : Nat → Nat) (cI : ClassId) (cJ : ClassId) (cZ : ClassId) (thr : Int32) (sn : Nat) (tkv : Nat → Int64) (opv : Nat → Int64) (shv : Nat → Int64) (ldv : Nat → Int32) (lim : Int32) (wyv : Nat → Int64) (bdv : Nat → Bool) (isr : Bool) (rn : Nat) (rdv : Nat → Nat) (fz : Nat) (icv : Nat → Nat) (exa : Bool) (fr : Nat) (fev : Nat → Nat) (eav : Nat → Int64) (rs : Nat) (rov : Nat → Nat) (su : Int64) (b : Nat) (hsn : sn ≤ 20) (hb : b ≤ 20) (C : gz_C p s m args c cX3_bound 7 RX3 D [(cI, .int), (cJ, .long), (cZ, .boolean)] A) : ∀ (n : Nat) (le : Int64) (a : Nat), (a + n = sn + 1) → ((((f3_bound_lpa wyv bdv b n le a).2) + 0 = sn + 1) → GZ p l e R s m args below meth c 7 D A cells slots Q (wM h ad cI cJ cZ thr sn tkv opv shv ldv lim wyv bdv isr rn rdv fz icv exa fr fev eav rs rov) [(0, .ref h), (1, .long su), (3, .int (nI b)), (4, .long ((f3_bound_lpa wyv bdv b n le a).1)), (6, .int (nI ((f3_bound_lpa wyv bdv b n le a).2)))] [] 102) → GZ p l e R s m args below meth c 7 D A cells slots Q (wM h ad cI cJ cZ thr sn tkv opv shv ldv lim wyv bdv isr rn rdv fz icv exa fr fev eav rs rov) [(0, .ref h), (1, .long su), (3, .int (nI b)), (4, .long le), (6, .int (nI a))] [] 34 := by
  intro n
  induction n with
  | zero =>
    intro le a hme  hx
    refine gz_iload C 4 dX3_bound_34 rfl ?_
    refine gz_aload_n C 0 dX3_bound_36 rfl ?_
    refine gz_get (ci := 4) C iwX3 0 rfl rfl 1 (by decide) wk_381 rfl rfl dX3_bound_37 ?_
    refine gz_ncmp_gt C 102 (by omega) (by omega) dX3_bound_40 (by decide) (fun h_1 => ?_) (fun h_1 => ?_)
    · skip
      exact gz_lv [0, 1, 2, 3, 4] rfl (hx hme )
    · have g_1 : ¬ (sn < a) := (Nat.not_lt.mpr h_1)
      exfalso; omega
  | succ n ih =>
    intro le a hme  hx
    refine gz_iload C 4 dX3_bound_34 rfl ?_
    refine gz_aload_n C 0 dX3_bound_36 rfl ?_
    refine gz_get (ci := 4) C iwX3 0 rfl rfl 1 (by decide) wk_381 rfl rfl dX3_bound_37 ?_
    refine gz_ncmp_gt C 102 (by omega) (by omega) dX3_bound_40 (by decide) (fun h_1 => ?_) (fun h_1 => ?_)
    · skip
      exfalso; omega
    · have g_1 : ¬ (sn < a) := (Nat.not_lt.mpr h_1)
      refine gz_iload C 4 dX3_bound_43 rfl ?_
      refine gz_iload_n C 2 dX3_bound_45 rfl ?_
      refine gz_J (ws2 := (wM h ad cI cJ cZ thr sn tkv opv shv ldv lim wyv bdv isr rn rdv fz icv exa fr fev eav rs rov)) (lv2 := [(0, .ref h), (1, .long su), (3, .int (nI b)), (4, .long ((if a = b then le else (if (bdv ((21 * a) + b)) = true then le else (if le ≤ (wyv ((21 * a) + b)) then le else wyv ((21 * a) + b)))))), (6, .int (nI a))]) (st2 := []) (pc2 := 96) ?_ (fun J_2 => ?_)
      rotate_left
      · refine gz_ncmp_eq C 96 (by omega) (by omega) dX3_bound_46 (by decide) (fun h_2 => ?_) (fun h_2 => ?_)
        · skip
          simp only [if_pos h_2] at J_2 ⊢
          exact gz_lv [0, 1, 2, 3, 4] rfl J_2
        · have g_2 : ¬ (a = b) := h_2
          refine gz_aload_n C 0 dX3_bound_49 rfl ?_
          refine gz_get (ci := 4) C iwX3 0 rfl rfl 8 (by decide) wk_388 rfl rfl dX3_bound_50 ?_
          refine gz_bipush (v := nI 21) C dX3_bound_53 (by decide) ?_
          refine gz_iload C 4 dX3_bound_55 rfl ?_
          refine gz_imul (v := nI (21 * a)) C dX3_bound_57 (pk_mul _ _) ?_
          refine gz_iload_n C 2 dX3_bound_58 rfl ?_
          refine gz_iadd (v := nI ((21 * a) + b)) C dX3_bound_59 (nI_add _ _) ?_
          refine gz_zald C 6 2 rfl rfl (by omega) (by decide) dX3_bound_60 ?_
          refine gz_J (ws2 := (wM h ad cI cJ cZ thr sn tkv opv shv ldv lim wyv bdv isr rn rdv fz icv exa fr fev eav rs rov)) (lv2 := [(0, .ref h), (1, .long su), (3, .int (nI b)), (4, .long ((if (bdv ((21 * a) + b)) = true then le else (if le ≤ (wyv ((21 * a) + b)) then le else wyv ((21 * a) + b))))), (6, .int (nI a))]) (st2 := []) (pc2 := 96) ?_ (fun J_3 => ?_)
          rotate_left
          · refine gz_bif_ne C 96 dX3_bound_61 (by decide) (fun h_3 => ?_) (fun h_3 => ?_)
            · skip
              simp only [if_pos h_3] at J_3 ⊢
              exact gz_lv [0, 1, 2, 3, 4] rfl J_3
            · have g_3 : ¬ ((bdv ((21 * a) + b)) = true) := (by rw [h_3]; decide)
              refine gz_aload_n C 0 dX3_bound_64 rfl ?_
              refine gz_get (ci := 4) C iwX3 0 rfl rfl 7 (by decide) wk_387 rfl rfl dX3_bound_65 ?_
              refine gz_bipush (v := nI 21) C dX3_bound_68 (by decide) ?_
              refine gz_iload C 4 dX3_bound_70 rfl ?_
              refine gz_imul (v := nI (21 * a)) C dX3_bound_72 (pk_mul _ _) ?_
              refine gz_iload_n C 2 dX3_bound_73 rfl ?_
              refine gz_iadd (v := nI ((21 * a) + b)) C dX3_bound_74 (nI_add _ _) ?_
              refine gz_lald C 5 1 rfl rfl (by omega) (by decide) dX3_bound_75 ?_
              refine gz_lload C 3 dX3_bound_76 rfl ?_
              refine gz_J (ws2 := (wM h ad cI cJ cZ thr sn tkv opv shv ldv lim wyv bdv isr rn rdv fz icv exa fr fev eav rs rov)) (lv2 := [(0, .ref h), (1, .long su), (3, .int (nI b)), (4, .long ((if le ≤ (wyv ((21 * a) + b)) then le else wyv ((21 * a) + b)))), (6, .int (nI a))]) (st2 := []) (pc2 := 96) ?_ (fun J_4 => ?_)
              rotate_left
              · refine gz_lcmp_ge C 96 dX3_bound_78 dX3_bound_79 (by decide) (fun h_4 => ?_) (fun h_4 => ?_)
                · skip
                  simp only [if_pos h_4] at J_4 ⊢
                  exact gz_lv [0, 1, 2, 3, 4] rfl J_4
                · have g_4 : ¬ (le ≤ (wyv ((21 * a) + b))) := h_4
                  refine gz_aload_n C 0 dX3_bound_82 rfl ?_
                  refine gz_get (ci := 4) C iwX3 0 rfl rfl 7 (by decide) wk_387 rfl rfl dX3_bound_83 ?_
                  refine gz_bipush (v := nI 21) C dX3_bound_86 (by decide) ?_
                  refine gz_iload C 4 dX3_bound_88 rfl ?_
                  refine gz_imul (v := nI (21 * a)) C dX3_bound_90 (pk_mul _ _) ?_
                  refine gz_iload_n C 2 dX3_bound_91 rfl ?_
                  refine gz_iadd (v := nI ((21 * a) + b)) C dX3_bound_92 (nI_add _ _) ?_
                  refine gz_lald C 5 1 rfl rfl (by omega) (by decide) dX3_bound_93 ?_
                  refine gz_lstore (lv2 := [(4, .long (wyv ((21 * a) + b))), (0, .ref h), (1, .long su), (3, .int (nI b)), (6, .int (nI a))]) C dX3_bound_94 (by decide) rfl ?_
                  simp only [if_neg g_4] at J_4 ⊢
                  exact gz_lv [1, 2, 3, 0, 4] rfl J_4
              simp only [if_neg g_3] at J_3 ⊢
              exact gz_lv [0, 1, 2, 3, 4] rfl J_3
          simp only [if_neg g_2] at J_2 ⊢
          exact gz_lv [0, 1, 2, 3, 4] rfl J_2
      refine gz_iinc (v := nI (a + 1)) (lv2 := [(6, .int (nI (a + 1))), (0, .ref h), (1, .long su), (3, .int (nI b)), (4, .long ((if a = b then le else (if (bdv ((21 * a) + b)) = true then le else (if le ≤ (wyv ((21 * a) + b)) then le else wyv ((21 * a) + b))))))]) (k := 4) C dX3_bound_96 rfl (nI_add _ 1) (by decide) rfl ?_
      refine gz_goto C 34 dX3_bound_99 (by decide) ?_
      refine gz_lv [1, 2, 3, 4, 0] rfl ?_
      simp only [f3_bound_lpa, if_neg g_1] at hx
      exact ih ((if a = b then le else (if (bdv ((21 * a) + b)) = true then le else (if le ≤ (wyv ((21 * a) + b)) then le else wyv ((21 * a) + b))))) (a + 1) (by omega)  hx

def f3_bound_lpb (sn : Nat) (tkv : Nat → Int64) (wyv : Nat → Int64) (bdv : Nat → Bool) : Nat → Int64 → Nat → Int64
  | 0, su, b => su
  | n + 1, su, b => if ((f3_bound_lpa wyv bdv b (sn + 1) 4000000000000000000 0).1) = 4000000000000000000 then (-1) else f3_bound_lpb sn tkv wyv bdv n ((su + ((f3_bound_lpa wyv bdv b (sn + 1) 4000000000000000000 0).1)) + (tkv b)) (b + 1)
set_option maxRecDepth 100000 in
set_option maxHeartbeats 4000000 in
theorem lX3_bound_lpb {p : Program} {l : Launch} {e : Env} {R : Room} {s : State} {m : MethodId} {args : Array Value} {below : List Frame} {meth : Method} {c : Code} {cells slots mc ms : Nat} {A : Nat → Prop} {ov : Option Value} {D : va_G} (h : Nat) (ad : Nat → Nat) (cI : ClassId) (cJ : ClassId) (cZ : ClassId) (thr : Int32) (sn : Nat) (tkv : Nat → Int64) (opv : Nat → Int64) (shv : Nat → Int64) (ldv : Nat → Int32) (lim : Int32) (wyv : Nat → Int64) (bdv : Nat → Bool) (isr : Bool) (rn : Nat) (rdv : Nat → Nat) (fz : Nat) (icv : Nat → Nat) (exa : Bool) (fr : Nat) (fev : Nat → Nat) (eav : Nat → Int64) (rs : Nat) (rov : Nat → Nat) (hsn : sn ≤ 20) (C : gz_C p s m args c cX3_bound 7 RX3 D [(cI, .int), (cJ, .long), (cZ, .boolean)] A) (hr : meth.sig.returnType = (some .long)) (hk : meth.locks = false) (hcm : cells ≤ mc) (hsm : slots ≤ ms) : ∀ (n : Nat) (su : Int64) (b : Nat), (b + n = sn + 1) → some (.long (f3_bound_lpb sn tkv wyv bdv n su b)) = ov → GZ p l e R s m args below meth c 7 D A cells slots (MQ below (gz_Q D [(cI, .int), (cJ, .long), (cZ, .boolean)] ov (wM h ad cI cJ cZ thr sn tkv opv shv ldv lim wyv bdv isr rn rdv fz icv exa fr fev eav rs rov) A) args s mc ms A) (wM h ad cI cJ cZ thr sn tkv opv shv ldv lim wyv bdv isr rn rdv fz icv exa fr fev eav rs rov) [(0, .ref h), (1, .long su), (3, .int (nI b))] [] 18 := by
  intro n
  induction n with
  | zero =>
    intro su b hme  hov
    refine gz_iload_n C 2 dX3_bound_18 rfl ?_
    refine gz_aload_n C 0 dX3_bound_19 rfl ?_
    refine gz_get (ci := 4) C iwX3 0 rfl rfl 1 (by decide) wk_381 rfl rfl dX3_bound_20 ?_
    refine gz_ncmp_gt C 133 (by omega) (by omega) dX3_bound_23 (by decide) (fun h_1 => ?_) (fun h_1 => ?_)
    · skip
      refine gz_lload_n C 1 dX3_bound_133 rfl ?_
      exact gz_lret C hr hk (by rw [← hov]; first | rfl | (simp only [f3_bound_lpb, if_pos h_1])) rfl hcm hsm dX3_bound_134
    · have g_1 : ¬ (sn < b) := (Nat.not_lt.mpr h_1)
      exfalso; omega
  | succ n ih =>
    intro su b hme  hov
    refine gz_iload_n C 2 dX3_bound_18 rfl ?_
    refine gz_aload_n C 0 dX3_bound_19 rfl ?_
    refine gz_get (ci := 4) C iwX3 0 rfl rfl 1 (by decide) wk_381 rfl rfl dX3_bound_20 ?_
    refine gz_ncmp_gt C 133 (by omega) (by omega) dX3_bound_23 (by decide) (fun h_1 => ?_) (fun h_1 => ?_)
    · skip
      exfalso; omega
    · have g_1 : ¬ (sn < b) := (Nat.not_lt.mpr h_1)
      refine gz_ldc2 (v := 4000000000000000000) C wk_493 dX3_bound_26 ?_
      refine gz_lstore (lv2 := [(4, .long 4000000000000000000), (0, .ref h), (1, .long su), (3, .int (nI b))]) C dX3_bound_29 (by decide) rfl ?_
      refine gz_iconst (v := nI 0) C dX3_bound_31 (by decide) ?_
      refine gz_istore (lv2 := [(6, .int (nI 0)), (4, .long 4000000000000000000), (0, .ref h), (1, .long su), (3, .int (nI b))]) C dX3_bound_32 (by decide) rfl ?_
      refine gz_lv (lv2 := [(0, .ref h), (1, .long su), (3, .int (nI b)), (4, .long 4000000000000000000), (6, .int (nI 0))]) [2, 3, 4, 1, 0] rfl ?_
      refine lX3_bound_lpa h ad cI cJ cZ thr sn tkv opv shv ldv lim wyv bdv isr rn rdv fz icv exa fr fev eav rs rov su b (by first | assumption | omega) (by first | assumption | omega) C (sn + 1) 4000000000000000000 0 (by omega)  ?_
      intro zme_lpa
      refine gz_lload C 3 dX3_bound_102 rfl ?_
      refine gz_ldc2 (v := 4000000000000000000) C wk_493 dX3_bound_104 ?_
      refine gz_lcmp_ne C 115 dX3_bound_107 dX3_bound_108 (by decide) (fun h_2 => ?_) (fun h_2 => ?_)
      · have g_2 : ¬ (((f3_bound_lpa wyv bdv b (sn + 1) 4000000000000000000 0).1) = 4000000000000000000) := h_2
        refine gz_lload_n C 1 dX3_bound_115 rfl ?_
        refine gz_lload C 3 dX3_bound_116 rfl ?_
        refine gz_ladd (v := su + ((f3_bound_lpa wyv bdv b (sn + 1) 4000000000000000000 0).1)) C dX3_bound_118 rfl ?_
        refine gz_aload_n C 0 dX3_bound_119 rfl ?_
        refine gz_get (ci := 4) C iwX3 0 rfl rfl 2 (by decide) wk_382 rfl rfl dX3_bound_120 ?_
        refine gz_iload_n C 2 dX3_bound_123 rfl ?_
        refine gz_lald C 1 1 rfl rfl (by omega) (by decide) dX3_bound_124 ?_
        refine gz_ladd (v := (su + ((f3_bound_lpa wyv bdv b (sn + 1) 4000000000000000000 0).1)) + (tkv b)) C dX3_bound_125 rfl ?_
        refine gz_lstore_n (lv2 := [(1, .long ((su + ((f3_bound_lpa wyv bdv b (sn + 1) 4000000000000000000 0).1)) + (tkv b))), (0, .ref h), (3, .int (nI b)), (4, .long ((f3_bound_lpa wyv bdv b (sn + 1) 4000000000000000000 0).1)), (6, .int (nI ((f3_bound_lpa wyv bdv b (sn + 1) 4000000000000000000 0).2)))]) C dX3_bound_126 (by decide) rfl ?_
        refine gz_iinc (v := nI (b + 1)) (lv2 := [(3, .int (nI (b + 1))), (1, .long ((su + ((f3_bound_lpa wyv bdv b (sn + 1) 4000000000000000000 0).1)) + (tkv b))), (0, .ref h), (4, .long ((f3_bound_lpa wyv bdv b (sn + 1) 4000000000000000000 0).1)), (6, .int (nI ((f3_bound_lpa wyv bdv b (sn + 1) 4000000000000000000 0).2)))]) (k := 2) C dX3_bound_127 rfl (nI_add _ 1) (by decide) rfl ?_
        refine gz_goto C 18 dX3_bound_130 (by decide) ?_
        refine gz_lv [2, 1, 0] rfl ?_
        simp only [f3_bound_lpb, if_neg g_1, if_neg g_2] at hov
        exact ih ((su + ((f3_bound_lpa wyv bdv b (sn + 1) 4000000000000000000 0).1)) + (tkv b)) (b + 1) (by omega)  hov
      · skip
        refine gz_ldc2 (v := (-1)) C wk_571 dX3_bound_111 ?_
        exact gz_lret C hr hk (by rw [← hov]; first | rfl | (simp only [f3_bound_lpb, if_neg g_1, if_pos h_2])) rfl hcm hsm dX3_bound_114

def f3_bound (sn : Nat) (tkv : Nat → Int64) (wyv : Nat → Int64) (bdv : Nat → Bool) : Int64 := (if sn = 0 then 0 else f3_bound_lpb sn tkv wyv bdv (sn + 1) 0 0)
def f3_bound_thr (sn : Nat) : Int32 := (if sn = 0 then nI 0 else nI 0)
set_option maxRecDepth 100000 in
set_option maxHeartbeats 4000000 in
theorem kX3_bound (l : Launch) (D : va_G) (h : Nat) (ad : Nat → Nat) (cI : ClassId) (cJ : ClassId) (cZ : ClassId) (thr : Int32) (sn : Nat) (tkv : Nat → Int64) (opv : Nat → Int64) (shv : Nat → Int64) (ldv : Nat → Int32) (lim : Int32) (wyv : Nat → Int64) (bdv : Nat → Bool) (isr : Bool) (rn : Nat) (rdv : Nat → Nat) (fz : Nat) (icv : Nat → Nat) (exa : Bool) (fr : Nat) (fev : Nat → Nat) (eav : Nat → Int64) (rs : Nat) (rov : Nat → Nat) (hsn : sn ≤ 20) : gz_M l yX3_bound cX3_bound 7 (some .long) ({ frames := 0, cells := 0, slots := 0, locals := 0 } : Room) D [(cI, .int), (cJ, .long), (cZ, .boolean)] [.ref h] (wM h ad cI cJ cZ thr sn tkv opv shv ldv lim wyv bdv isr rn rdv fz icv exa fr fev eav rs rov) (some (.long (f3_bound sn tkv wyv bdv))) (wM h ad cI cJ cZ (f3_bound_thr sn) sn tkv opv shv ldv lim wyv bdv isr rn rdv fz icv exa fr fev eav rs rov) 0 0 := by
  refine gz_met l (by decide) (Nat.le_of_ble_eq_true rfl) [(0, .ref h)] rfl ?_
  intro sz p e s m args below meth c C hr hk hnm
  have C : gz_C p s m args c cX3_bound 7 RX3 D [(cI, .int), (cJ, .long), (cZ, .boolean)] (va_A (wM h ad cI cJ cZ thr sn tkv opv shv ldv lim wyv bdv isr rn rdv fz icv exa fr fev eav rs rov) sz) := C
  refine gz_aload_n C 0 dX3_bound_0 rfl ?_
  refine gz_iconst (v := nI 0) C dX3_bound_1 (by decide) ?_
  refine gz_put (ci := 4) (ws2 := (wM h ad cI cJ cZ (nI 0) sn tkv opv shv ldv lim wyv bdv isr rn rdv fz icv exa fr fev eav rs rov)) C iwX3 0 rfl rfl 0 (by decide) wk_380 rfl tyX3 tyX3_ok nmX3 rfl rfl rfl rfl (Nat.le_of_ble_eq_true rfl) rfl dX3_bound_2 ?_
  refine gz_aload_n C 0 dX3_bound_5 rfl ?_
  refine gz_get (ci := 4) C iwX3 0 rfl rfl 1 (by decide) wk_381 rfl rfl dX3_bound_6 ?_
  refine gz_nif_ne C 14 (by omega) dX3_bound_9 (by decide) (fun h_1 => ?_) (fun h_1 => ?_)
  · have g_1 : ¬ (sn = 0) := h_1
    refine gz_lconst (v := 0) C dX3_bound_14 (by decide) ?_
    refine gz_lstore_n (lv2 := [(1, .long 0), (0, .ref h)]) C dX3_bound_15 (by decide) rfl ?_
    refine gz_iconst (v := nI 0) C dX3_bound_16 (by decide) ?_
    refine gz_istore_n (lv2 := [(3, .int (nI 0)), (1, .long 0), (0, .ref h)]) C dX3_bound_17 (by decide) rfl ?_
    refine gz_lv (lv2 := [(0, .ref h), (1, .long 0), (3, .int (nI 0))]) [2, 1, 0] rfl ?_
    refine gz_end (ws2 := (wM h ad cI cJ cZ (nI 0) sn tkv opv shv ldv lim wyv bdv isr rn rdv fz icv exa fr fev eav rs rov)) (by first | rfl | (simp only [f3_bound, f3_bound_thr, if_neg g_1]) | (simp only [f3_bound, f3_bound_thr, if_neg g_1]; rfl)) ?_
    exact lX3_bound_lpb h ad cI cJ cZ (nI 0) sn tkv opv shv ldv lim wyv bdv isr rn rdv fz icv exa fr fev eav rs rov (by first | assumption | omega) C hr hk (Nat.le_refl _) (Nat.le_refl _) (sn + 1) 0 0 (by omega)  (by first | rfl | (simp only [f3_bound, f3_bound_thr, if_neg g_1]) | (simp only [f3_bound, f3_bound_thr, if_neg g_1]; rfl))
  · skip
    refine gz_lconst (v := 0) C dX3_bound_12 (by decide) ?_
    exact gz_lret C hr hk (by first | rfl | (simp only [f3_bound, f3_bound_thr, if_pos h_1]) | (simp only [f3_bound, f3_bound_thr, if_pos h_1]; rfl)) (by first | rfl | (simp only [f3_bound, f3_bound_thr, if_pos h_1]) | (simp only [f3_bound, f3_bound_thr, if_pos h_1]; rfl)) (Nat.le_refl _) (Nat.le_refl _) dX3_bound_13


theorem q3_fetch_lp {rdv : Nat → Nat} : ∀ (n k : Nat) (rov : Nat → Nat) (j : Nat), (f3_fetch_lp rdv n k rov).2 j = if k ≤ j ∧ j < k + n then rdv j else rov j := by
  intro n
  induction n with
  | zero =>
    intro k rov j
    rw [if_neg (by omega)]; rfl
  | succ n ih =>
    intro k rov j
    show (f3_fetch_lp rdv n (k + 1) (va_up rov k (rdv k))).2 j = _
    rw [ih]
    by_cases h1 : k + 1 ≤ j ∧ j < k + 1 + n
    · rw [if_pos h1, if_pos (by omega)]
    · rw [if_neg h1]
      by_cases h2 : j = k
      · subst h2; rw [if_pos (by omega), va_up_self]
      · rw [if_neg (by omega), va_up_ne _ _ h2]
theorem q3_fetch {rn : Nat} {rdv rov : Nat → Nat} (j : Nat) : f3_fetch_rov rn rdv rov j = if j < rn then rdv j else rov j := by
  unfold f3_fetch_rov
  rw [q3_fetch_lp]
  by_cases h : j < rn
  · rw [if_pos (by omega), if_pos h]
  · rw [if_neg (by omega), if_neg h]
theorem q3_fetch_le {rn B : Nat} {rdv rov : Nat → Nat} (h : ∀ k, k < rn → rdv k ≤ B) : ∀ k, k < rn → f3_fetch_rov rn rdv rov k ≤ B := by
  intro k hk
  rw [q3_fetch, if_pos hk]
  exact h k hk

def f3_add_lp (rdv : Nat → Nat) (z : Nat) : Nat → Nat → Nat → Nat × Nat
  | 0, pl, k => (pl, k)
  | n + 1, pl, k => f3_add_lp rdv z n ((if (rdv k) = z then k else pl)) (k + 1)
set_option maxRecDepth 100000 in
set_option maxHeartbeats 4000000 in
theorem lX3_add_lp {p : Program} {l : Launch} {e : Env} {R : Room} {s : State} {m : MethodId} {args : Array Value} {below : List Frame} {meth : Method} {c : Code} {cells slots : Nat} {Q : State → Prop} {A : Nat → Prop} {D : va_G} (h : Nat) (ad : Nat → Nat) (cI : ClassId) (cJ : ClassId) (cZ : ClassId) (thr : Int32) (sn : Nat) (tkv : Nat → Int64) (opv : Nat → Int64) (shv : Nat → Int64) (ldv : Nat → Int32) (lim : Int32) (wyv : Nat → Int64) (bdv : Nat → Bool) (isr : Bool) (rn : Nat) (rdv : Nat → Nat) (fz : Nat) (icv : Nat → Nat) (exa : Bool) (fr : Nat) (fev : Nat → Nat) (eav : Nat → Int64) (rs : Nat) (rov : Nat → Nat) (z : Nat) (hrn : rn ≤ 20) (hrd : ∀ k, k < rn → rdv k ≤ 20) (hz : z ≤ 20) (C : gz_C p s m args c cX3_add 4 RX3 D [(cI, .int), (cJ, .long), (cZ, .boolean)] A) : ∀ (n : Nat) (pl : Nat) (k : Nat), (k + n = rn) → (pl = 0 ∨ pl < rn) → ((((f3_add_lp rdv z n pl k).2) + 0 = rn) → (((f3_add_lp rdv z n pl k).1) = 0 ∨ ((f3_add_lp rdv z n pl k).1) < rn) → GZ p l e R s m args below meth c 4 D A cells slots Q (wM h ad cI cJ cZ thr sn tkv opv shv ldv lim wyv bdv isr rn rdv fz icv exa fr fev eav rs rov) [(0, .ref h), (1, .int (nI z)), (2, .int (nI ((f3_add_lp rdv z n pl k).1))), (3, .int (nI ((f3_add_lp rdv z n pl k).2)))] [] 60) → GZ p l e R s m args below meth c 4 D A cells slots Q (wM h ad cI cJ cZ thr sn tkv opv shv ldv lim wyv bdv isr rn rdv fz icv exa fr fev eav rs rov) [(0, .ref h), (1, .int (nI z)), (2, .int (nI pl)), (3, .int (nI k))] [] 30 := by
  intro n
  induction n with
  | zero =>
    intro pl k hme hpp hx
    refine gz_iload_n C 3 dX3_add_30 rfl ?_
    refine gz_aload_n C 0 dX3_add_31 rfl ?_
    refine gz_get (ci := 4) C iwX3 0 rfl rfl 10 (by decide) wk_390 rfl rfl dX3_add_32 ?_
    refine gz_ncmp_ge C 60 (by omega) (by omega) dX3_add_35 (by decide) (fun h_1 => ?_) (fun h_1 => ?_)
    · skip
      exact gz_lv [0, 1, 2, 3] rfl (hx hme hpp)
    · have g_1 : ¬ (rn ≤ k) := (Nat.not_le.mpr h_1)
      exfalso; omega
  | succ n ih =>
    intro pl k hme hpp hx
    refine gz_iload_n C 3 dX3_add_30 rfl ?_
    refine gz_aload_n C 0 dX3_add_31 rfl ?_
    refine gz_get (ci := 4) C iwX3 0 rfl rfl 10 (by decide) wk_390 rfl rfl dX3_add_32 ?_
    refine gz_ncmp_ge C 60 (by omega) (by omega) dX3_add_35 (by decide) (fun h_1 => ?_) (fun h_1 => ?_)
    · skip
      exfalso; omega
    · have g_1 : ¬ (rn ≤ k) := (Nat.not_le.mpr h_1)
      have hq := hrd k (by omega)
      refine gz_aload_n C 0 dX3_add_38 rfl ?_
      refine gz_get (ci := 4) C iwX3 0 rfl rfl 11 (by decide) wk_391 rfl rfl dX3_add_39 ?_
      refine gz_iload_n C 3 dX3_add_42 rfl ?_
      refine gz_iald C 7 0 rfl rfl (by omega) (by decide) dX3_add_43 ?_
      refine gz_iload_n C 1 dX3_add_44 rfl ?_
      refine gz_J (ws2 := (wM h ad cI cJ cZ thr sn tkv opv shv ldv lim wyv bdv isr rn rdv fz icv exa fr fev eav rs rov)) (lv2 := [(0, .ref h), (1, .int (nI z)), (2, .int (nI pl)), (3, .int (nI k))]) (st2 := [.int (nI ((if (rdv k) = z then k else pl)))]) (pc2 := 53) ?_ (fun J_2 => ?_)
      rotate_left
      · refine gz_ncmp_ne C 52 (by omega) (by omega) dX3_add_45 (by decide) (fun h_2 => ?_) (fun h_2 => ?_)
        · have g_2 : ¬ ((rdv k) = z) := h_2
          refine gz_iload_n C 2 dX3_add_52 rfl ?_
          simp only [if_neg g_2] at J_2 ⊢
          exact gz_lv [0, 1, 2, 3] rfl J_2
        · skip
          refine gz_iload_n C 3 dX3_add_48 rfl ?_
          refine gz_goto C 53 dX3_add_49 (by decide) ?_
          simp only [if_pos h_2] at J_2 ⊢
          exact gz_lv [0, 1, 2, 3] rfl J_2
      refine gz_istore_n (lv2 := [(2, .int (nI ((if (rdv k) = z then k else pl)))), (0, .ref h), (1, .int (nI z)), (3, .int (nI k))]) C dX3_add_53 (by decide) rfl ?_
      refine gz_iinc (v := nI (k + 1)) (lv2 := [(3, .int (nI (k + 1))), (2, .int (nI ((if (rdv k) = z then k else pl)))), (0, .ref h), (1, .int (nI z))]) (k := 3) C dX3_add_54 rfl (nI_add _ 1) (by decide) rfl ?_
      refine gz_goto C 30 dX3_add_57 (by decide) ?_
      refine gz_lv [2, 3, 1, 0] rfl ?_
      simp only [f3_add_lp, if_neg g_1] at hx
      exact ih ((if (rdv k) = z then k else pl)) (k + 1) (by omega) (by first | omega | (split <;> omega)) hx

def f3_add (sn : Nat) (tkv : Nat → Int64) (opv : Nat → Int64) (shv : Nat → Int64) (wyv : Nat → Int64) (bdv : Nat → Bool) (isr : Bool) (rn : Nat) (rdv : Nat → Nat) (fz : Nat) (rov : Nat → Nat) (x : Int32) : Int32 := (if (f3_isStop sn x) = true then (if isr = true then (if fz ≤ ((f3_add_lp rdv (cl x) rn 0 0).1) then f3_insert tkv opv shv wyv bdv fz (rn - 1) (f3_takeOut_rov rn (f3_fetch_rov rn rdv rov) ((f3_add_lp rdv (cl x) rn 0 0).1)) (cl x) else (-13)) else (-13)) else (-11))
def f3_add_thr (sn : Nat) (isr : Bool) (rn : Nat) (rdv : Nat → Nat) (fz : Nat) (x : Int32) : Int32 := (if (f3_isStop sn x) = true then (if isr = true then (if fz ≤ ((f3_add_lp rdv (cl x) rn 0 0).1) then nI 0 else nI 0) else nI 0) else nI 0)
def f3_add_isr (sn : Nat) (isr : Bool) (rn : Nat) (rdv : Nat → Nat) (fz : Nat) (x : Int32) : Bool := (if (f3_isStop sn x) = true then (if isr = true then (if fz ≤ ((f3_add_lp rdv (cl x) rn 0 0).1) then f3_keep_isr else isr) else isr) else isr)
def f3_add_rn (sn : Nat) (isr : Bool) (rn : Nat) (rdv : Nat → Nat) (fz : Nat) (x : Int32) : Nat := (if (f3_isStop sn x) = true then (if isr = true then (if fz ≤ ((f3_add_lp rdv (cl x) rn 0 0).1) then f3_keep_rn (f3_insert_rs (rn - 1)) else rn) else rn) else rn)
def f3_add_rdv (sn : Nat) (tkv : Nat → Int64) (opv : Nat → Int64) (shv : Nat → Int64) (wyv : Nat → Int64) (bdv : Nat → Bool) (isr : Bool) (rn : Nat) (rdv : Nat → Nat) (fz : Nat) (rov : Nat → Nat) (x : Int32) : Nat → Nat := (if (f3_isStop sn x) = true then (if isr = true then (if fz ≤ ((f3_add_lp rdv (cl x) rn 0 0).1) then f3_keep_rdv rdv (f3_insert_rs (rn - 1)) (f3_insert_rov tkv opv shv wyv bdv fz (rn - 1) (f3_takeOut_rov rn (f3_fetch_rov rn rdv rov) ((f3_add_lp rdv (cl x) rn 0 0).1)) (cl x)) else rdv) else rdv) else rdv)
def f3_add_exa (sn : Nat) (isr : Bool) (rn : Nat) (rdv : Nat → Nat) (fz : Nat) (exa : Bool) (x : Int32) : Bool := (if (f3_isStop sn x) = true then (if isr = true then (if fz ≤ ((f3_add_lp rdv (cl x) rn 0 0).1) then false else exa) else exa) else exa)
def f3_add_rs (sn : Nat) (isr : Bool) (rn : Nat) (rdv : Nat → Nat) (fz : Nat) (rs : Nat) (x : Int32) : Nat := (if (f3_isStop sn x) = true then (if isr = true then (if fz ≤ ((f3_add_lp rdv (cl x) rn 0 0).1) then f3_insert_rs (rn - 1) else rs) else rs) else rs)
def f3_add_rov (sn : Nat) (tkv : Nat → Int64) (opv : Nat → Int64) (shv : Nat → Int64) (wyv : Nat → Int64) (bdv : Nat → Bool) (isr : Bool) (rn : Nat) (rdv : Nat → Nat) (fz : Nat) (rov : Nat → Nat) (x : Int32) : Nat → Nat := (if (f3_isStop sn x) = true then (if isr = true then (if fz ≤ ((f3_add_lp rdv (cl x) rn 0 0).1) then f3_insert_rov tkv opv shv wyv bdv fz (rn - 1) (f3_takeOut_rov rn (f3_fetch_rov rn rdv rov) ((f3_add_lp rdv (cl x) rn 0 0).1)) (cl x) else rov) else rov) else rov)
set_option maxRecDepth 100000 in
set_option maxHeartbeats 4000000 in
theorem kX3_add (l : Launch) (D : va_G) (h : Nat) (ad : Nat → Nat) (cI : ClassId) (cJ : ClassId) (cZ : ClassId) (thr : Int32) (sn : Nat) (tkv : Nat → Int64) (opv : Nat → Int64) (shv : Nat → Int64) (ldv : Nat → Int32) (lim : Int32) (wyv : Nat → Int64) (bdv : Nat → Bool) (isr : Bool) (rn : Nat) (rdv : Nat → Nat) (fz : Nat) (icv : Nat → Nat) (exa : Bool) (fr : Nat) (fev : Nat → Nat) (eav : Nat → Int64) (rs : Nat) (rov : Nat → Nat) (x : Int32) (hsn : sn ≤ 20) (hrn : rn ≤ 20) (hrd : ∀ k, k < rn → rdv k ≤ 20) (hir : isr = true → rn = sn) (hfz : fz ≤ 20) : gz_M l yX3_add cX3_add 4 (some .int) ({ frames := 2, cells := 0, slots := 0, locals := 56 } : Room) D [(cI, .int), (cJ, .long), (cZ, .boolean)] [.ref h, .int x] (wM h ad cI cJ cZ thr sn tkv opv shv ldv lim wyv bdv isr rn rdv fz icv exa fr fev eav rs rov) (some (.int (f3_add sn tkv opv shv wyv bdv isr rn rdv fz rov x))) (wM h ad cI cJ cZ (f3_add_thr sn isr rn rdv fz x) sn tkv opv shv ldv lim wyv bdv (f3_add_isr sn isr rn rdv fz x) (f3_add_rn sn isr rn rdv fz x) (f3_add_rdv sn tkv opv shv wyv bdv isr rn rdv fz rov x) fz icv (f3_add_exa sn isr rn rdv fz exa x) fr fev eav (f3_add_rs sn isr rn rdv fz rs x) (f3_add_rov sn tkv opv shv wyv bdv isr rn rdv fz rov x)) 0 0 := by
  refine gz_met l (by decide) (Nat.le_of_ble_eq_true rfl) [(0, .ref h), (1, .int x)] rfl ?_
  intro sz p e s m args below meth c C hr hk hnm
  have C : gz_C p s m args c cX3_add 4 RX3 D [(cI, .int), (cJ, .long), (cZ, .boolean)] (va_A (wM h ad cI cJ cZ thr sn tkv opv shv ldv lim wyv bdv isr rn rdv fz icv exa fr fev eav rs rov) sz) := C
  refine gz_aload_n C 0 dX3_add_0 rfl ?_
  refine gz_iconst (v := nI 0) C dX3_add_1 (by decide) ?_
  refine gz_put (ci := 4) (ws2 := (wM h ad cI cJ cZ (nI 0) sn tkv opv shv ldv lim wyv bdv isr rn rdv fz icv exa fr fev eav rs rov)) C iwX3 0 rfl rfl 0 (by decide) wk_380 rfl tyX3 tyX3_ok nmX3 rfl rfl rfl rfl (Nat.le_of_ble_eq_true rfl) rfl dX3_add_2 ?_
  refine gz_aload_n C 0 dX3_add_5 rfl ?_
  refine gz_iload_n C 1 dX3_add_6 rfl ?_
  refine gz_callV (wr := []) (n := 1) (ws2 := (wM h ad cI cJ cZ (nI 0) sn tkv opv shv ldv lim wyv bdv isr rn rdv fz icv exa fr fev eav rs rov)) (st2 := [.int (bI (f3_isStop sn x))]) (cells2 := 0) (slots2 := 0) (ci := 4) C (kX3_isStop l D h ad cI cJ cZ (nI 0) sn tkv opv shv ldv lim wyv bdv isr rn rdv fz icv exa fr fev eav rs rov x (by first | assumption | omega)) (WB_V wk_463 wk_465 ws_17 wk_4 wk_466) (by decide +kernel) ⟨⟨rfl, rfl⟩, Nat.le_of_ble_eq_true rfl, Nat.le_of_ble_eq_true rfl⟩ [0, 1, 2, 3, 4, 5, 6, 7, 8, 9, 10, 11] [] [0, 1, 2] rfl rfl rfl (by decide) rfl 0 rfl rfl rfl rfl (Nat.le_of_ble_eq_true rfl) dX3_add_7 ⟨Nat.zero_le _, Nat.zero_le _⟩ rfl rfl rfl ?_
  refine gz_bif_ne C 16 dX3_add_10 (by decide) (fun h_1 => ?_) (fun h_1 => ?_)
  · skip
    obtain ⟨hx1, hx2, hx3⟩ := q3_stop h_1 hsn
    refine gz_lve (lv2 := [(0, .ref h), (1, .int (nI (cl x)))]) (by rw [← hx1]) ?_
    refine gz_aload_n C 0 dX3_add_16 rfl ?_
    refine gz_get (ci := 4) C iwX3 0 rfl rfl 9 (by decide) wk_389 rfl rfl dX3_add_17 ?_
    refine gz_bif_ne C 26 dX3_add_20 (by decide) (fun h_2 => ?_) (fun h_2 => ?_)
    · skip
      have hrs9 : rn = sn := hir h_2
      refine gz_iconst (v := nI 0) C dX3_add_26 (by decide) ?_
      refine gz_istore_n (lv2 := [(2, .int (nI 0)), (0, .ref h), (1, .int (nI (cl x)))]) C dX3_add_27 (by decide) rfl ?_
      refine gz_iconst (v := nI 0) C dX3_add_28 (by decide) ?_
      refine gz_istore_n (lv2 := [(3, .int (nI 0)), (2, .int (nI 0)), (0, .ref h), (1, .int (nI (cl x)))]) C dX3_add_29 (by decide) rfl ?_
      refine gz_lv (lv2 := [(0, .ref h), (1, .int (nI (cl x))), (2, .int (nI 0)), (3, .int (nI 0))]) [2, 3, 1, 0] rfl ?_
      refine lX3_add_lp h ad cI cJ cZ (nI 0) sn tkv opv shv ldv lim wyv bdv isr rn rdv fz icv exa fr fev eav rs rov (cl x) (by first | assumption | omega) (by first | assumption | omega) (by first | assumption | omega) C rn 0 0 (by omega) (by first | assumption | omega) ?_
      intro zme_lp zhpp_lp
      refine gz_iload_n C 2 dX3_add_60 rfl ?_
      refine gz_aload_n C 0 dX3_add_61 rfl ?_
      refine gz_get (ci := 4) C iwX3 0 rfl rfl 12 (by decide) wk_392 rfl rfl dX3_add_62 ?_
      refine gz_ncmp_ge C 71 (by omega) (by omega) dX3_add_65 (by decide) (fun h_3 => ?_) (fun h_3 => ?_)
      · skip
        refine gz_aload_n C 0 dX3_add_71 rfl ?_
        refine gz_callV (wr := []) (n := 0) (ws2 := (wM h ad cI cJ cZ (nI 0) sn tkv opv shv ldv lim wyv bdv isr rn rdv fz icv exa fr fev eav (f3_fetch_rs rn) (f3_fetch_rov rn rdv rov))) (st2 := []) (cells2 := 0) (slots2 := 0) (ci := 4) C (kX3_fetch l D h ad cI cJ cZ (nI 0) sn tkv opv shv ldv lim wyv bdv isr rn rdv fz icv exa fr fev eav rs rov (by first | assumption | omega)) (WB_V wk_555 wk_557 ws_32 wk_4 wk_558) (by decide +kernel) ⟨⟨rfl, rfl⟩, Nat.le_of_ble_eq_true rfl, Nat.le_of_ble_eq_true rfl⟩ [0, 1, 2, 3, 4, 5, 6, 7, 8, 9, 10, 11] [] [0, 1, 2] rfl rfl rfl (by decide) rfl 0 rfl rfl rfl rfl (Nat.le_of_ble_eq_true rfl) dX3_add_72 ⟨Nat.zero_le _, Nat.zero_le _⟩ rfl rfl rfl ?_
        refine gz_wse (ws2 := (wM h ad cI cJ cZ (nI 0) sn tkv opv shv ldv lim wyv bdv isr rn rdv fz icv exa fr fev eav rn (f3_fetch_rov rn rdv rov))) rfl ?_
        refine gz_aload_n C 0 dX3_add_75 rfl ?_
        refine gz_iload_n C 2 dX3_add_76 rfl ?_
        refine gz_callV (wr := []) (n := 1) (ws2 := (wM h ad cI cJ cZ (nI 0) sn tkv opv shv ldv lim wyv bdv isr rn rdv fz icv exa fr fev eav (f3_takeOut_rs rn) (f3_takeOut_rov rn (f3_fetch_rov rn rdv rov) ((f3_add_lp rdv (cl x) rn 0 0).1)))) (st2 := []) (cells2 := 0) (slots2 := 0) (ci := 4) C (kX3_takeOut l D h ad cI cJ cZ (nI 0) sn tkv opv shv ldv lim wyv bdv isr rn rdv fz icv exa fr fev eav rn (f3_fetch_rov rn rdv rov) ((f3_add_lp rdv (cl x) rn 0 0).1) (by first | assumption | omega) (by first | assumption | omega)) (WB_V wk_515 wk_517 ws_27 wk_4 wk_518) (by decide +kernel) ⟨⟨rfl, rfl⟩, Nat.le_of_ble_eq_true rfl, Nat.le_of_ble_eq_true rfl⟩ [0, 1, 2, 3, 4, 5, 6, 7, 8, 9, 10, 11] [] [0, 1, 2] rfl rfl rfl (by decide) rfl 0 rfl rfl rfl rfl (Nat.le_of_ble_eq_true rfl) dX3_add_77 ⟨Nat.zero_le _, Nat.zero_le _⟩ rfl rfl rfl ?_
        refine gz_wse (ws2 := (wM h ad cI cJ cZ (nI 0) sn tkv opv shv ldv lim wyv bdv isr rn rdv fz icv exa fr fev eav (rn - 1) (f3_takeOut_rov rn (f3_fetch_rov rn rdv rov) ((f3_add_lp rdv (cl x) rn 0 0).1)))) rfl ?_
        refine gz_aload_n C 0 dX3_add_80 rfl ?_
        refine gz_iload_n C 1 dX3_add_81 rfl ?_
        refine gz_callV (wr := []) (n := 1) (ws2 := (wM h ad cI cJ cZ (nI 0) sn tkv opv shv ldv lim wyv bdv isr rn rdv fz icv exa fr fev eav (f3_insert_rs (rn - 1)) (f3_insert_rov tkv opv shv wyv bdv fz (rn - 1) (f3_takeOut_rov rn (f3_fetch_rov rn rdv rov) ((f3_add_lp rdv (cl x) rn 0 0).1)) (cl x)))) (st2 := [.int (f3_insert tkv opv shv wyv bdv fz (rn - 1) (f3_takeOut_rov rn (f3_fetch_rov rn rdv rov) ((f3_add_lp rdv (cl x) rn 0 0).1)) (cl x))]) (cells2 := 0) (slots2 := 0) (ci := 4) C (kX3_insert l D h ad cI cJ cZ (nI 0) sn tkv opv shv ldv lim wyv bdv isr rn rdv fz icv exa fr fev eav (rn - 1) (f3_takeOut_rov rn (f3_fetch_rov rn rdv rov) ((f3_add_lp rdv (cl x) rn 0 0).1)) (cl x) (by first | assumption | omega) (by first | assumption | omega) (by first | assumption | omega) (q3_takeOut_le (by omega) (q3_fetch_le hrd))) (WB_V wk_502 wk_504 ws_24 wk_4 wk_505) (by decide +kernel) ⟨⟨rfl, rfl⟩, Nat.le_of_ble_eq_true rfl, Nat.le_of_ble_eq_true rfl⟩ [0, 1, 2, 3, 4, 5, 6, 7, 8, 9, 10, 11] [] [0, 1, 2] rfl rfl rfl (by decide) rfl 0 rfl rfl rfl rfl (Nat.le_of_ble_eq_true rfl) dX3_add_82 ⟨Nat.zero_le _, Nat.zero_le _⟩ rfl rfl rfl ?_
        refine gz_istore_n (lv2 := [(3, .int (f3_insert tkv opv shv wyv bdv fz (rn - 1) (f3_takeOut_rov rn (f3_fetch_rov rn rdv rov) ((f3_add_lp rdv (cl x) rn 0 0).1)) (cl x))), (0, .ref h), (1, .int (nI (cl x))), (2, .int (nI ((f3_add_lp rdv (cl x) rn 0 0).1)))]) C dX3_add_85 (by decide) rfl ?_
        refine gz_aload_n C 1 dX3_add_86 rfl ?_
        refine gz_callV (wr := []) (n := 0) (ws2 := (wM h ad cI cJ cZ (nI 0) sn tkv opv shv ldv lim wyv bdv f3_keep_isr (f3_keep_rn (f3_insert_rs (rn - 1))) (f3_keep_rdv rdv (f3_insert_rs (rn - 1)) (f3_insert_rov tkv opv shv wyv bdv fz (rn - 1) (f3_takeOut_rov rn (f3_fetch_rov rn rdv rov) ((f3_add_lp rdv (cl x) rn 0 0).1)) (cl x))) fz icv exa fr fev eav (f3_insert_rs (rn - 1)) (f3_insert_rov tkv opv shv wyv bdv fz (rn - 1) (f3_takeOut_rov rn (f3_fetch_rov rn rdv rov) ((f3_add_lp rdv (cl x) rn 0 0).1)) (cl x)))) (st2 := []) (cells2 := 0) (slots2 := 0) (ci := 4) C (kX3_keep l D h ad cI cJ cZ (nI 0) sn tkv opv shv ldv lim wyv bdv isr rn rdv fz icv exa fr fev eav (f3_insert_rs (rn - 1)) (f3_insert_rov tkv opv shv wyv bdv fz (rn - 1) (f3_takeOut_rov rn (f3_fetch_rov rn rdv rov) ((f3_add_lp rdv (cl x) rn 0 0).1)) (cl x)) (by show rn - 1 + 1 ≤ 20; omega)) (WB_V wk_531 wk_533 ws_31 wk_4 wk_534) (by decide +kernel) ⟨⟨rfl, rfl⟩, Nat.le_of_ble_eq_true rfl, Nat.le_of_ble_eq_true rfl⟩ [0, 1, 2, 3, 4, 5, 6, 7, 8, 9, 10, 11] [] [0, 1, 2] rfl rfl rfl (by decide) rfl 0 rfl rfl rfl rfl (Nat.le_of_ble_eq_true rfl) dX3_add_87 ⟨Nat.zero_le _, Nat.zero_le _⟩ rfl rfl rfl ?_
        refine gz_aload_n C 1 dX3_add_90 rfl ?_
        refine gz_iconst (v := nI 0) C dX3_add_91 (by decide) ?_
        refine gz_sw (v := .int (nI 0)) (w := .int (bI false)) (by rw [show nI 0 = bI false from (by first | rfl | decide | ((repeat' split) <;> rfl))]) ?_
        refine gz_put (ci := 4) (ws2 := (wM h ad cI cJ cZ (nI 0) sn tkv opv shv ldv lim wyv bdv f3_keep_isr (f3_keep_rn (f3_insert_rs (rn - 1))) (f3_keep_rdv rdv (f3_insert_rs (rn - 1)) (f3_insert_rov tkv opv shv wyv bdv fz (rn - 1) (f3_takeOut_rov rn (f3_fetch_rov rn rdv rov) ((f3_add_lp rdv (cl x) rn 0 0).1)) (cl x))) fz icv false fr fev eav (f3_insert_rs (rn - 1)) (f3_insert_rov tkv opv shv wyv bdv fz (rn - 1) (f3_takeOut_rov rn (f3_fetch_rov rn rdv rov) ((f3_add_lp rdv (cl x) rn 0 0).1)) (cl x)))) C iwX3 0 rfl rfl 14 (by decide) wk_394 rfl tyX3 tyX3_ok nmX3 rfl rfl (bI_nar _) (bI_fit _) (Nat.le_of_ble_eq_true rfl) rfl dX3_add_92 ?_
        refine gz_iload_n C 0 dX3_add_95 rfl ?_
        exact gz_iret C hr hk (by first | rfl | (simp only [f3_add, f3_add_thr, f3_add_isr, f3_add_rn, f3_add_rdv, f3_add_exa, f3_add_rs, f3_add_rov, if_pos h_1, if_pos h_2, if_pos h_3]) | (simp only [f3_add, f3_add_thr, f3_add_isr, f3_add_rn, f3_add_rdv, f3_add_exa, f3_add_rs, f3_add_rov, if_pos h_1, if_pos h_2, if_pos h_3]; rfl)) (by first | rfl | (simp only [f3_add, f3_add_thr, f3_add_isr, f3_add_rn, f3_add_rdv, f3_add_exa, f3_add_rs, f3_add_rov, if_pos h_1, if_pos h_2, if_pos h_3]) | (simp only [f3_add, f3_add_thr, f3_add_isr, f3_add_rn, f3_add_rdv, f3_add_exa, f3_add_rs, f3_add_rov, if_pos h_1, if_pos h_2, if_pos h_3]; rfl)) (Nat.le_refl _) (Nat.le_refl _) dX3_add_96
      · have g_3 : ¬ (fz ≤ ((f3_add_lp rdv (cl x) rn 0 0).1)) := (Nat.not_le.mpr h_3)
        refine gz_bipush (v := ((-13))) C dX3_add_68 (by decide) ?_
        exact gz_iret C hr hk (by first | rfl | (simp only [f3_add, f3_add_thr, f3_add_isr, f3_add_rn, f3_add_rdv, f3_add_exa, f3_add_rs, f3_add_rov, if_pos h_1, if_pos h_2, if_neg g_3]) | (simp only [f3_add, f3_add_thr, f3_add_isr, f3_add_rn, f3_add_rdv, f3_add_exa, f3_add_rs, f3_add_rov, if_pos h_1, if_pos h_2, if_neg g_3]; rfl)) (by first | rfl | (simp only [f3_add, f3_add_thr, f3_add_isr, f3_add_rn, f3_add_rdv, f3_add_exa, f3_add_rs, f3_add_rov, if_pos h_1, if_pos h_2, if_neg g_3]) | (simp only [f3_add, f3_add_thr, f3_add_isr, f3_add_rn, f3_add_rdv, f3_add_exa, f3_add_rs, f3_add_rov, if_pos h_1, if_pos h_2, if_neg g_3]; rfl)) (Nat.le_refl _) (Nat.le_refl _) dX3_add_70
    · have g_2 : ¬ (isr = true) := (by rw [h_2]; decide)
      refine gz_bipush (v := ((-13))) C dX3_add_23 (by decide) ?_
      exact gz_iret C hr hk (by first | rfl | (simp only [f3_add, f3_add_thr, f3_add_isr, f3_add_rn, f3_add_rdv, f3_add_exa, f3_add_rs, f3_add_rov, if_pos h_1, if_neg g_2]) | (simp only [f3_add, f3_add_thr, f3_add_isr, f3_add_rn, f3_add_rdv, f3_add_exa, f3_add_rs, f3_add_rov, if_pos h_1, if_neg g_2]; rfl)) (by first | rfl | (simp only [f3_add, f3_add_thr, f3_add_isr, f3_add_rn, f3_add_rdv, f3_add_exa, f3_add_rs, f3_add_rov, if_pos h_1, if_neg g_2]) | (simp only [f3_add, f3_add_thr, f3_add_isr, f3_add_rn, f3_add_rdv, f3_add_exa, f3_add_rs, f3_add_rov, if_pos h_1, if_neg g_2]; rfl)) (Nat.le_refl _) (Nat.le_refl _) dX3_add_25
  · have g_1 : ¬ ((f3_isStop sn x) = true) := (by rw [h_1]; decide)
    refine gz_bipush (v := ((-11))) C dX3_add_13 (by decide) ?_
    exact gz_iret C hr hk (by first | rfl | (simp only [f3_add, f3_add_thr, f3_add_isr, f3_add_rn, f3_add_rdv, f3_add_exa, f3_add_rs, f3_add_rov, if_neg g_1]) | (simp only [f3_add, f3_add_thr, f3_add_isr, f3_add_rn, f3_add_rdv, f3_add_exa, f3_add_rs, f3_add_rov, if_neg g_1]; rfl)) (by first | rfl | (simp only [f3_add, f3_add_thr, f3_add_isr, f3_add_rn, f3_add_rdv, f3_add_exa, f3_add_rs, f3_add_rov, if_neg g_1]) | (simp only [f3_add, f3_add_thr, f3_add_isr, f3_add_rn, f3_add_rdv, f3_add_exa, f3_add_rs, f3_add_rov, if_neg g_1]; rfl)) (Nat.le_refl _) (Nat.le_refl _) dX3_add_15

def f3_exchange (tkv : Nat → Int64) (opv : Nat → Int64) (shv : Nat → Int64) (wyv : Nat → Int64) (bdv : Nat → Bool) (isr : Bool) (rn : Nat) (rdv : Nat → Nat) (fz : Nat) (rov : Nat → Nat) (x : Int32) (y : Int32) : Int32 := (if x < 0 then (-11) else (if 0 ≤ y then (if isr = true then (if (nI rn) ≤ x then (-11) else (if y < (nI rn) then (if (cl x) = (cl y) then (-13) else (if (cl x) < fz then (-13) else (if fz ≤ (cl y) then (if (f3_better tkv opv shv wyv bdv rn (f3_fetch_rov rn rdv rov) (cl x) (cl y)) = true then nI 1 else nI 0) else (-13)))) else (-11))) else (-13)) else (-11)))
def f3_exchange_thr (tkv : Nat → Int64) (opv : Nat → Int64) (shv : Nat → Int64) (wyv : Nat → Int64) (bdv : Nat → Bool) (isr : Bool) (rn : Nat) (rdv : Nat → Nat) (fz : Nat) (rov : Nat → Nat) (x : Int32) (y : Int32) : Int32 := (if x < 0 then nI 0 else (if 0 ≤ y then (if isr = true then (if (nI rn) ≤ x then nI 0 else (if y < (nI rn) then (if (cl x) = (cl y) then nI 0 else (if (cl x) < fz then nI 0 else (if fz ≤ (cl y) then (if (f3_better tkv opv shv wyv bdv rn (f3_fetch_rov rn rdv rov) (cl x) (cl y)) = true then nI 0 else nI 0) else nI 0))) else nI 0)) else nI 0) else nI 0))
def f3_exchange_isr (tkv : Nat → Int64) (opv : Nat → Int64) (shv : Nat → Int64) (wyv : Nat → Int64) (bdv : Nat → Bool) (isr : Bool) (rn : Nat) (rdv : Nat → Nat) (fz : Nat) (rov : Nat → Nat) (x : Int32) (y : Int32) : Bool := (if x < 0 then isr else (if 0 ≤ y then (if isr = true then (if (nI rn) ≤ x then isr else (if y < (nI rn) then (if (cl x) = (cl y) then isr else (if (cl x) < fz then isr else (if fz ≤ (cl y) then (if (f3_better tkv opv shv wyv bdv rn (f3_fetch_rov rn rdv rov) (cl x) (cl y)) = true then f3_keep_isr else isr) else isr))) else isr)) else isr) else isr))
def f3_exchange_rn (tkv : Nat → Int64) (opv : Nat → Int64) (shv : Nat → Int64) (wyv : Nat → Int64) (bdv : Nat → Bool) (isr : Bool) (rn : Nat) (rdv : Nat → Nat) (fz : Nat) (rov : Nat → Nat) (x : Int32) (y : Int32) : Nat := (if x < 0 then rn else (if 0 ≤ y then (if isr = true then (if (nI rn) ≤ x then rn else (if y < (nI rn) then (if (cl x) = (cl y) then rn else (if (cl x) < fz then rn else (if fz ≤ (cl y) then (if (f3_better tkv opv shv wyv bdv rn (f3_fetch_rov rn rdv rov) (cl x) (cl y)) = true then f3_keep_rn rn else rn) else rn))) else rn)) else rn) else rn))
def f3_exchange_rdv (tkv : Nat → Int64) (opv : Nat → Int64) (shv : Nat → Int64) (wyv : Nat → Int64) (bdv : Nat → Bool) (isr : Bool) (rn : Nat) (rdv : Nat → Nat) (fz : Nat) (rov : Nat → Nat) (x : Int32) (y : Int32) : Nat → Nat := (if x < 0 then rdv else (if 0 ≤ y then (if isr = true then (if (nI rn) ≤ x then rdv else (if y < (nI rn) then (if (cl x) = (cl y) then rdv else (if (cl x) < fz then rdv else (if fz ≤ (cl y) then (if (f3_better tkv opv shv wyv bdv rn (f3_fetch_rov rn rdv rov) (cl x) (cl y)) = true then f3_keep_rdv rdv rn (f3_better_rov tkv opv shv wyv bdv rn (f3_fetch_rov rn rdv rov) (cl x) (cl y)) else rdv) else rdv))) else rdv)) else rdv) else rdv))
def f3_exchange_exa (tkv : Nat → Int64) (opv : Nat → Int64) (shv : Nat → Int64) (wyv : Nat → Int64) (bdv : Nat → Bool) (isr : Bool) (rn : Nat) (rdv : Nat → Nat) (fz : Nat) (exa : Bool) (rov : Nat → Nat) (x : Int32) (y : Int32) : Bool := (if x < 0 then exa else (if 0 ≤ y then (if isr = true then (if (nI rn) ≤ x then exa else (if y < (nI rn) then (if (cl x) = (cl y) then exa else (if (cl x) < fz then exa else (if fz ≤ (cl y) then (if (f3_better tkv opv shv wyv bdv rn (f3_fetch_rov rn rdv rov) (cl x) (cl y)) = true then false else exa) else exa))) else exa)) else exa) else exa))
def f3_exchange_rs (tkv : Nat → Int64) (opv : Nat → Int64) (shv : Nat → Int64) (wyv : Nat → Int64) (bdv : Nat → Bool) (isr : Bool) (rn : Nat) (rdv : Nat → Nat) (fz : Nat) (rs : Nat) (rov : Nat → Nat) (x : Int32) (y : Int32) : Nat := (if x < 0 then rs else (if 0 ≤ y then (if isr = true then (if (nI rn) ≤ x then rs else (if y < (nI rn) then (if (cl x) = (cl y) then rs else (if (cl x) < fz then rs else (if fz ≤ (cl y) then (if (f3_better tkv opv shv wyv bdv rn (f3_fetch_rov rn rdv rov) (cl x) (cl y)) = true then rn else rn) else rs))) else rs)) else rs) else rs))
def f3_exchange_rov (tkv : Nat → Int64) (opv : Nat → Int64) (shv : Nat → Int64) (wyv : Nat → Int64) (bdv : Nat → Bool) (isr : Bool) (rn : Nat) (rdv : Nat → Nat) (fz : Nat) (rov : Nat → Nat) (x : Int32) (y : Int32) : Nat → Nat := (if x < 0 then rov else (if 0 ≤ y then (if isr = true then (if (nI rn) ≤ x then rov else (if y < (nI rn) then (if (cl x) = (cl y) then rov else (if (cl x) < fz then rov else (if fz ≤ (cl y) then (if (f3_better tkv opv shv wyv bdv rn (f3_fetch_rov rn rdv rov) (cl x) (cl y)) = true then f3_better_rov tkv opv shv wyv bdv rn (f3_fetch_rov rn rdv rov) (cl x) (cl y) else f3_better_rov tkv opv shv wyv bdv rn (f3_fetch_rov rn rdv rov) (cl x) (cl y)) else rov))) else rov)) else rov) else rov))
set_option maxRecDepth 100000 in
set_option maxHeartbeats 4000000 in
theorem kX3_exchange (l : Launch) (D : va_G) (h : Nat) (ad : Nat → Nat) (cI : ClassId) (cJ : ClassId) (cZ : ClassId) (thr : Int32) (sn : Nat) (tkv : Nat → Int64) (opv : Nat → Int64) (shv : Nat → Int64) (ldv : Nat → Int32) (lim : Int32) (wyv : Nat → Int64) (bdv : Nat → Bool) (isr : Bool) (rn : Nat) (rdv : Nat → Nat) (fz : Nat) (icv : Nat → Nat) (exa : Bool) (fr : Nat) (fev : Nat → Nat) (eav : Nat → Int64) (rs : Nat) (rov : Nat → Nat) (x : Int32) (y : Int32) (hrn : rn ≤ 20) (hrd : ∀ k, k < rn → rdv k ≤ 20) (hfz : fz ≤ 20) : gz_M l yX3_exchange cX3_exchange 3 (some .int) ({ frames := 2, cells := 0, slots := 0, locals := 54 } : Room) D [(cI, .int), (cJ, .long), (cZ, .boolean)] [.ref h, .int x, .int y] (wM h ad cI cJ cZ thr sn tkv opv shv ldv lim wyv bdv isr rn rdv fz icv exa fr fev eav rs rov) (some (.int (f3_exchange tkv opv shv wyv bdv isr rn rdv fz rov x y))) (wM h ad cI cJ cZ (f3_exchange_thr tkv opv shv wyv bdv isr rn rdv fz rov x y) sn tkv opv shv ldv lim wyv bdv (f3_exchange_isr tkv opv shv wyv bdv isr rn rdv fz rov x y) (f3_exchange_rn tkv opv shv wyv bdv isr rn rdv fz rov x y) (f3_exchange_rdv tkv opv shv wyv bdv isr rn rdv fz rov x y) fz icv (f3_exchange_exa tkv opv shv wyv bdv isr rn rdv fz exa rov x y) fr fev eav (f3_exchange_rs tkv opv shv wyv bdv isr rn rdv fz rs rov x y) (f3_exchange_rov tkv opv shv wyv bdv isr rn rdv fz rov x y)) 0 0 := by
  refine gz_met l (by decide) (Nat.le_of_ble_eq_true rfl) [(0, .ref h), (1, .int x), (2, .int y)] rfl ?_
  intro sz p e s m args below meth c C hr hk hnm
  have C : gz_C p s m args c cX3_exchange 3 RX3 D [(cI, .int), (cJ, .long), (cZ, .boolean)] (va_A (wM h ad cI cJ cZ thr sn tkv opv shv ldv lim wyv bdv isr rn rdv fz icv exa fr fev eav rs rov) sz) := C
  refine gz_aload_n C 0 dX3_exchange_0 rfl ?_
  refine gz_iconst (v := nI 0) C dX3_exchange_1 (by decide) ?_
  refine gz_put (ci := 4) (ws2 := (wM h ad cI cJ cZ (nI 0) sn tkv opv shv ldv lim wyv bdv isr rn rdv fz icv exa fr fev eav rs rov)) C iwX3 0 rfl rfl 0 (by decide) wk_380 rfl tyX3 tyX3_ok nmX3 rfl rfl rfl rfl (Nat.le_of_ble_eq_true rfl) rfl dX3_exchange_2 ?_
  refine gz_iload_n C 1 dX3_exchange_5 rfl ?_
  refine gz_if_lt C 13 dX3_exchange_6 (by decide) (fun h_1 => ?_) (fun h_1 => ?_)
  · skip
    refine gz_bipush (v := ((-11))) C dX3_exchange_13 (by decide) ?_
    exact gz_iret C hr hk (by first | rfl | (simp only [f3_exchange, f3_exchange_thr, f3_exchange_isr, f3_exchange_rn, f3_exchange_rdv, f3_exchange_exa, f3_exchange_rs, f3_exchange_rov, if_pos h_1]) | (simp only [f3_exchange, f3_exchange_thr, f3_exchange_isr, f3_exchange_rn, f3_exchange_rdv, f3_exchange_exa, f3_exchange_rs, f3_exchange_rov, if_pos h_1]; rfl)) (by first | rfl | (simp only [f3_exchange, f3_exchange_thr, f3_exchange_isr, f3_exchange_rn, f3_exchange_rdv, f3_exchange_exa, f3_exchange_rs, f3_exchange_rov, if_pos h_1]) | (simp only [f3_exchange, f3_exchange_thr, f3_exchange_isr, f3_exchange_rn, f3_exchange_rdv, f3_exchange_exa, f3_exchange_rs, f3_exchange_rov, if_pos h_1]; rfl)) (Nat.le_refl _) (Nat.le_refl _) dX3_exchange_15
  · have g_1 : ¬ (x < 0) := h_1
    refine gz_iload_n C 2 dX3_exchange_9 rfl ?_
    refine gz_if_ge C 16 dX3_exchange_10 (by decide) (fun h_2 => ?_) (fun h_2 => ?_)
    · skip
      refine gz_aload_n C 0 dX3_exchange_16 rfl ?_
      refine gz_get (ci := 4) C iwX3 0 rfl rfl 9 (by decide) wk_389 rfl rfl dX3_exchange_17 ?_
      refine gz_bif_ne C 26 dX3_exchange_20 (by decide) (fun h_3 => ?_) (fun h_3 => ?_)
      · skip
        refine gz_iload_n C 1 dX3_exchange_26 rfl ?_
        refine gz_aload_n C 0 dX3_exchange_27 rfl ?_
        refine gz_get (ci := 4) C iwX3 0 rfl rfl 10 (by decide) wk_390 rfl rfl dX3_exchange_28 ?_
        refine gz_icmp_ge C 42 dX3_exchange_31 (by decide) (fun h_4 => ?_) (fun h_4 => ?_)
        · skip
          refine gz_bipush (v := ((-11))) C dX3_exchange_42 (by decide) ?_
          exact gz_iret C hr hk (by first | rfl | (simp only [f3_exchange, f3_exchange_thr, f3_exchange_isr, f3_exchange_rn, f3_exchange_rdv, f3_exchange_exa, f3_exchange_rs, f3_exchange_rov, if_neg g_1, if_pos h_2, if_pos h_3, if_pos h_4]) | (simp only [f3_exchange, f3_exchange_thr, f3_exchange_isr, f3_exchange_rn, f3_exchange_rdv, f3_exchange_exa, f3_exchange_rs, f3_exchange_rov, if_neg g_1, if_pos h_2, if_pos h_3, if_pos h_4]; rfl)) (by first | rfl | (simp only [f3_exchange, f3_exchange_thr, f3_exchange_isr, f3_exchange_rn, f3_exchange_rdv, f3_exchange_exa, f3_exchange_rs, f3_exchange_rov, if_neg g_1, if_pos h_2, if_pos h_3, if_pos h_4]) | (simp only [f3_exchange, f3_exchange_thr, f3_exchange_isr, f3_exchange_rn, f3_exchange_rdv, f3_exchange_exa, f3_exchange_rs, f3_exchange_rov, if_neg g_1, if_pos h_2, if_pos h_3, if_pos h_4]; rfl)) (Nat.le_refl _) (Nat.le_refl _) dX3_exchange_44
        · have g_4 : ¬ ((nI rn) ≤ x) := h_4
          refine gz_iload_n C 2 dX3_exchange_34 rfl ?_
          refine gz_aload_n C 0 dX3_exchange_35 rfl ?_
          refine gz_get (ci := 4) C iwX3 0 rfl rfl 10 (by decide) wk_390 rfl rfl dX3_exchange_36 ?_
          refine gz_icmp_lt C 45 dX3_exchange_39 (by decide) (fun h_5 => ?_) (fun h_5 => ?_)
          · skip
            have hy0 : ¬ y < 0 := Int32.not_lt.mpr h_2
            have hc1 := cl_of g_1
            have hc2 : cl x < rn := cl_ltn g_1 g_4 (by omega)
            have hd1 := cl_of hy0
            have hd2 : cl y < rn := cl_ltp hy0 h_5 (by omega)
            refine gz_lve (lv2 := [(0, .ref h), (1, .int (nI (cl x))), (2, .int y)]) (by rw [← hc1]) ?_
            refine gz_lve (lv2 := [(0, .ref h), (1, .int (nI (cl x))), (2, .int (nI (cl y)))]) (by rw [← hd1]) ?_
            refine gz_iload_n C 1 dX3_exchange_45 rfl ?_
            refine gz_iload_n C 2 dX3_exchange_46 rfl ?_
            refine gz_ncmp_eq C 66 (by omega) (by omega) dX3_exchange_47 (by decide) (fun h_6 => ?_) (fun h_6 => ?_)
            · skip
              refine gz_bipush (v := ((-13))) C dX3_exchange_66 (by decide) ?_
              exact gz_iret C hr hk (by first | rfl | (simp only [f3_exchange, f3_exchange_thr, f3_exchange_isr, f3_exchange_rn, f3_exchange_rdv, f3_exchange_exa, f3_exchange_rs, f3_exchange_rov, if_neg g_1, if_pos h_2, if_pos h_3, if_neg g_4, if_pos h_5, if_pos h_6]) | (simp only [f3_exchange, f3_exchange_thr, f3_exchange_isr, f3_exchange_rn, f3_exchange_rdv, f3_exchange_exa, f3_exchange_rs, f3_exchange_rov, if_neg g_1, if_pos h_2, if_pos h_3, if_neg g_4, if_pos h_5, if_pos h_6]; rfl)) (by first | rfl | (simp only [f3_exchange, f3_exchange_thr, f3_exchange_isr, f3_exchange_rn, f3_exchange_rdv, f3_exchange_exa, f3_exchange_rs, f3_exchange_rov, if_neg g_1, if_pos h_2, if_pos h_3, if_neg g_4, if_pos h_5, if_pos h_6]) | (simp only [f3_exchange, f3_exchange_thr, f3_exchange_isr, f3_exchange_rn, f3_exchange_rdv, f3_exchange_exa, f3_exchange_rs, f3_exchange_rov, if_neg g_1, if_pos h_2, if_pos h_3, if_neg g_4, if_pos h_5, if_pos h_6]; rfl)) (Nat.le_refl _) (Nat.le_refl _) dX3_exchange_68
            · have g_6 : ¬ ((cl x) = (cl y)) := h_6
              refine gz_iload_n C 1 dX3_exchange_50 rfl ?_
              refine gz_aload_n C 0 dX3_exchange_51 rfl ?_
              refine gz_get (ci := 4) C iwX3 0 rfl rfl 12 (by decide) wk_392 rfl rfl dX3_exchange_52 ?_
              refine gz_ncmp_lt C 66 (by omega) (by omega) dX3_exchange_55 (by decide) (fun h_7 => ?_) (fun h_7 => ?_)
              · skip
                refine gz_bipush (v := ((-13))) C dX3_exchange_66 (by decide) ?_
                exact gz_iret C hr hk (by first | rfl | (simp only [f3_exchange, f3_exchange_thr, f3_exchange_isr, f3_exchange_rn, f3_exchange_rdv, f3_exchange_exa, f3_exchange_rs, f3_exchange_rov, if_neg g_1, if_pos h_2, if_pos h_3, if_neg g_4, if_pos h_5, if_neg g_6, if_pos h_7]) | (simp only [f3_exchange, f3_exchange_thr, f3_exchange_isr, f3_exchange_rn, f3_exchange_rdv, f3_exchange_exa, f3_exchange_rs, f3_exchange_rov, if_neg g_1, if_pos h_2, if_pos h_3, if_neg g_4, if_pos h_5, if_neg g_6, if_pos h_7]; rfl)) (by first | rfl | (simp only [f3_exchange, f3_exchange_thr, f3_exchange_isr, f3_exchange_rn, f3_exchange_rdv, f3_exchange_exa, f3_exchange_rs, f3_exchange_rov, if_neg g_1, if_pos h_2, if_pos h_3, if_neg g_4, if_pos h_5, if_neg g_6, if_pos h_7]) | (simp only [f3_exchange, f3_exchange_thr, f3_exchange_isr, f3_exchange_rn, f3_exchange_rdv, f3_exchange_exa, f3_exchange_rs, f3_exchange_rov, if_neg g_1, if_pos h_2, if_pos h_3, if_neg g_4, if_pos h_5, if_neg g_6, if_pos h_7]; rfl)) (Nat.le_refl _) (Nat.le_refl _) dX3_exchange_68
              · have g_7 : ¬ ((cl x) < fz) := (Nat.not_lt.mpr h_7)
                refine gz_iload_n C 2 dX3_exchange_58 rfl ?_
                refine gz_aload_n C 0 dX3_exchange_59 rfl ?_
                refine gz_get (ci := 4) C iwX3 0 rfl rfl 12 (by decide) wk_392 rfl rfl dX3_exchange_60 ?_
                refine gz_ncmp_ge C 69 (by omega) (by omega) dX3_exchange_63 (by decide) (fun h_8 => ?_) (fun h_8 => ?_)
                · skip
                  refine gz_aload_n C 0 dX3_exchange_69 rfl ?_
                  refine gz_callV (wr := []) (n := 0) (ws2 := (wM h ad cI cJ cZ (nI 0) sn tkv opv shv ldv lim wyv bdv isr rn rdv fz icv exa fr fev eav (f3_fetch_rs rn) (f3_fetch_rov rn rdv rov))) (st2 := []) (cells2 := 0) (slots2 := 0) (ci := 4) C (kX3_fetch l D h ad cI cJ cZ (nI 0) sn tkv opv shv ldv lim wyv bdv isr rn rdv fz icv exa fr fev eav rs rov (by first | assumption | omega)) (WB_V wk_555 wk_557 ws_32 wk_4 wk_558) (by decide +kernel) ⟨⟨rfl, rfl⟩, Nat.le_of_ble_eq_true rfl, Nat.le_of_ble_eq_true rfl⟩ [0, 1, 2, 3, 4, 5, 6, 7, 8, 9, 10, 11] [] [0, 1, 2] rfl rfl rfl (by decide) rfl 0 rfl rfl rfl rfl (Nat.le_of_ble_eq_true rfl) dX3_exchange_70 ⟨Nat.zero_le _, Nat.zero_le _⟩ rfl rfl rfl ?_
                  refine gz_wse (ws2 := (wM h ad cI cJ cZ (nI 0) sn tkv opv shv ldv lim wyv bdv isr rn rdv fz icv exa fr fev eav rn (f3_fetch_rov rn rdv rov))) rfl ?_
                  refine gz_aload_n C 0 dX3_exchange_73 rfl ?_
                  refine gz_iload_n C 1 dX3_exchange_74 rfl ?_
                  refine gz_iload_n C 2 dX3_exchange_75 rfl ?_
                  refine gz_callV (wr := []) (n := 2) (ws2 := (wM h ad cI cJ cZ (nI 0) sn tkv opv shv ldv lim wyv bdv isr rn rdv fz icv exa fr fev eav rn (f3_better_rov tkv opv shv wyv bdv rn (f3_fetch_rov rn rdv rov) (cl x) (cl y)))) (st2 := [.int (bI (f3_better tkv opv shv wyv bdv rn (f3_fetch_rov rn rdv rov) (cl x) (cl y)))]) (cells2 := 0) (slots2 := 0) (ci := 4) C (kX3_better l D h ad cI cJ cZ (nI 0) sn tkv opv shv ldv lim wyv bdv isr rn rdv fz icv exa fr fev eav rn (f3_fetch_rov rn rdv rov) (cl x) (cl y) (by first | assumption | omega) (q3_fetch_le hrd) (by first | assumption | omega) (by first | assumption | omega)) (WB_V wk_523 wk_525 ws_29 wk_4 wk_526) (by decide +kernel) ⟨⟨rfl, rfl⟩, Nat.le_of_ble_eq_true rfl, Nat.le_of_ble_eq_true rfl⟩ [0, 1, 2, 3, 4, 5, 6, 7, 8, 9, 10, 11] [] [0, 1, 2] rfl rfl rfl (by decide) rfl 0 rfl rfl rfl rfl (Nat.le_of_ble_eq_true rfl) dX3_exchange_76 ⟨Nat.zero_le _, Nat.zero_le _⟩ rfl rfl rfl ?_
                  refine gz_bif_ne C 84 dX3_exchange_79 (by decide) (fun h_9 => ?_) (fun h_9 => ?_)
                  · skip
                    refine gz_aload_n C 0 dX3_exchange_84 rfl ?_
                    refine gz_callV (wr := []) (n := 0) (ws2 := (wM h ad cI cJ cZ (nI 0) sn tkv opv shv ldv lim wyv bdv f3_keep_isr (f3_keep_rn rn) (f3_keep_rdv rdv rn (f3_better_rov tkv opv shv wyv bdv rn (f3_fetch_rov rn rdv rov) (cl x) (cl y))) fz icv exa fr fev eav rn (f3_better_rov tkv opv shv wyv bdv rn (f3_fetch_rov rn rdv rov) (cl x) (cl y)))) (st2 := []) (cells2 := 0) (slots2 := 0) (ci := 4) C (kX3_keep l D h ad cI cJ cZ (nI 0) sn tkv opv shv ldv lim wyv bdv isr rn rdv fz icv exa fr fev eav rn (f3_better_rov tkv opv shv wyv bdv rn (f3_fetch_rov rn rdv rov) (cl x) (cl y)) (by first | assumption | omega)) (WB_V wk_531 wk_533 ws_31 wk_4 wk_534) (by decide +kernel) ⟨⟨rfl, rfl⟩, Nat.le_of_ble_eq_true rfl, Nat.le_of_ble_eq_true rfl⟩ [0, 1, 2, 3, 4, 5, 6, 7, 8, 9, 10, 11] [] [0, 1, 2] rfl rfl rfl (by decide) rfl 0 rfl rfl rfl rfl (Nat.le_of_ble_eq_true rfl) dX3_exchange_85 ⟨Nat.zero_le _, Nat.zero_le _⟩ rfl rfl rfl ?_
                    refine gz_aload_n C 0 dX3_exchange_88 rfl ?_
                    refine gz_iconst (v := nI 0) C dX3_exchange_89 (by decide) ?_
                    refine gz_sw (v := .int (nI 0)) (w := .int (bI false)) (by rw [show nI 0 = bI false from (by first | rfl | decide | ((repeat' split) <;> rfl))]) ?_
                    refine gz_put (ci := 4) (ws2 := (wM h ad cI cJ cZ (nI 0) sn tkv opv shv ldv lim wyv bdv f3_keep_isr (f3_keep_rn rn) (f3_keep_rdv rdv rn (f3_better_rov tkv opv shv wyv bdv rn (f3_fetch_rov rn rdv rov) (cl x) (cl y))) fz icv false fr fev eav rn (f3_better_rov tkv opv shv wyv bdv rn (f3_fetch_rov rn rdv rov) (cl x) (cl y)))) C iwX3 0 rfl rfl 14 (by decide) wk_394 rfl tyX3 tyX3_ok nmX3 rfl rfl (bI_nar _) (bI_fit _) (Nat.le_of_ble_eq_true rfl) rfl dX3_exchange_90 ?_
                    refine gz_iconst (v := nI 1) C dX3_exchange_93 (by decide) ?_
                    exact gz_iret C hr hk (by first | rfl | (simp only [f3_exchange, f3_exchange_thr, f3_exchange_isr, f3_exchange_rn, f3_exchange_rdv, f3_exchange_exa, f3_exchange_rs, f3_exchange_rov, if_neg g_1, if_pos h_2, if_pos h_3, if_neg g_4, if_pos h_5, if_neg g_6, if_neg g_7, if_pos h_8, if_pos h_9]) | (simp only [f3_exchange, f3_exchange_thr, f3_exchange_isr, f3_exchange_rn, f3_exchange_rdv, f3_exchange_exa, f3_exchange_rs, f3_exchange_rov, if_neg g_1, if_pos h_2, if_pos h_3, if_neg g_4, if_pos h_5, if_neg g_6, if_neg g_7, if_pos h_8, if_pos h_9]; rfl)) (by first | rfl | (simp only [f3_exchange, f3_exchange_thr, f3_exchange_isr, f3_exchange_rn, f3_exchange_rdv, f3_exchange_exa, f3_exchange_rs, f3_exchange_rov, if_neg g_1, if_pos h_2, if_pos h_3, if_neg g_4, if_pos h_5, if_neg g_6, if_neg g_7, if_pos h_8, if_pos h_9]) | (simp only [f3_exchange, f3_exchange_thr, f3_exchange_isr, f3_exchange_rn, f3_exchange_rdv, f3_exchange_exa, f3_exchange_rs, f3_exchange_rov, if_neg g_1, if_pos h_2, if_pos h_3, if_neg g_4, if_pos h_5, if_neg g_6, if_neg g_7, if_pos h_8, if_pos h_9]; rfl)) (Nat.le_refl _) (Nat.le_refl _) dX3_exchange_94
                  · have g_9 : ¬ ((f3_better tkv opv shv wyv bdv rn (f3_fetch_rov rn rdv rov) (cl x) (cl y)) = true) := (by rw [h_9]; decide)
                    refine gz_iconst (v := nI 0) C dX3_exchange_82 (by decide) ?_
                    exact gz_iret C hr hk (by first | rfl | (simp only [f3_exchange, f3_exchange_thr, f3_exchange_isr, f3_exchange_rn, f3_exchange_rdv, f3_exchange_exa, f3_exchange_rs, f3_exchange_rov, if_neg g_1, if_pos h_2, if_pos h_3, if_neg g_4, if_pos h_5, if_neg g_6, if_neg g_7, if_pos h_8, if_neg g_9]) | (simp only [f3_exchange, f3_exchange_thr, f3_exchange_isr, f3_exchange_rn, f3_exchange_rdv, f3_exchange_exa, f3_exchange_rs, f3_exchange_rov, if_neg g_1, if_pos h_2, if_pos h_3, if_neg g_4, if_pos h_5, if_neg g_6, if_neg g_7, if_pos h_8, if_neg g_9]; rfl)) (by first | rfl | (simp only [f3_exchange, f3_exchange_thr, f3_exchange_isr, f3_exchange_rn, f3_exchange_rdv, f3_exchange_exa, f3_exchange_rs, f3_exchange_rov, if_neg g_1, if_pos h_2, if_pos h_3, if_neg g_4, if_pos h_5, if_neg g_6, if_neg g_7, if_pos h_8, if_neg g_9]) | (simp only [f3_exchange, f3_exchange_thr, f3_exchange_isr, f3_exchange_rn, f3_exchange_rdv, f3_exchange_exa, f3_exchange_rs, f3_exchange_rov, if_neg g_1, if_pos h_2, if_pos h_3, if_neg g_4, if_pos h_5, if_neg g_6, if_neg g_7, if_pos h_8, if_neg g_9]; rfl)) (Nat.le_refl _) (Nat.le_refl _) dX3_exchange_83
                · have g_8 : ¬ (fz ≤ (cl y)) := (Nat.not_le.mpr h_8)
                  refine gz_bipush (v := ((-13))) C dX3_exchange_66 (by decide) ?_
                  exact gz_iret C hr hk (by first | rfl | (simp only [f3_exchange, f3_exchange_thr, f3_exchange_isr, f3_exchange_rn, f3_exchange_rdv, f3_exchange_exa, f3_exchange_rs, f3_exchange_rov, if_neg g_1, if_pos h_2, if_pos h_3, if_neg g_4, if_pos h_5, if_neg g_6, if_neg g_7, if_neg g_8]) | (simp only [f3_exchange, f3_exchange_thr, f3_exchange_isr, f3_exchange_rn, f3_exchange_rdv, f3_exchange_exa, f3_exchange_rs, f3_exchange_rov, if_neg g_1, if_pos h_2, if_pos h_3, if_neg g_4, if_pos h_5, if_neg g_6, if_neg g_7, if_neg g_8]; rfl)) (by first | rfl | (simp only [f3_exchange, f3_exchange_thr, f3_exchange_isr, f3_exchange_rn, f3_exchange_rdv, f3_exchange_exa, f3_exchange_rs, f3_exchange_rov, if_neg g_1, if_pos h_2, if_pos h_3, if_neg g_4, if_pos h_5, if_neg g_6, if_neg g_7, if_neg g_8]) | (simp only [f3_exchange, f3_exchange_thr, f3_exchange_isr, f3_exchange_rn, f3_exchange_rdv, f3_exchange_exa, f3_exchange_rs, f3_exchange_rov, if_neg g_1, if_pos h_2, if_pos h_3, if_neg g_4, if_pos h_5, if_neg g_6, if_neg g_7, if_neg g_8]; rfl)) (Nat.le_refl _) (Nat.le_refl _) dX3_exchange_68
          · have g_5 : ¬ (y < (nI rn)) := h_5
            refine gz_bipush (v := ((-11))) C dX3_exchange_42 (by decide) ?_
            exact gz_iret C hr hk (by first | rfl | (simp only [f3_exchange, f3_exchange_thr, f3_exchange_isr, f3_exchange_rn, f3_exchange_rdv, f3_exchange_exa, f3_exchange_rs, f3_exchange_rov, if_neg g_1, if_pos h_2, if_pos h_3, if_neg g_4, if_neg g_5]) | (simp only [f3_exchange, f3_exchange_thr, f3_exchange_isr, f3_exchange_rn, f3_exchange_rdv, f3_exchange_exa, f3_exchange_rs, f3_exchange_rov, if_neg g_1, if_pos h_2, if_pos h_3, if_neg g_4, if_neg g_5]; rfl)) (by first | rfl | (simp only [f3_exchange, f3_exchange_thr, f3_exchange_isr, f3_exchange_rn, f3_exchange_rdv, f3_exchange_exa, f3_exchange_rs, f3_exchange_rov, if_neg g_1, if_pos h_2, if_pos h_3, if_neg g_4, if_neg g_5]) | (simp only [f3_exchange, f3_exchange_thr, f3_exchange_isr, f3_exchange_rn, f3_exchange_rdv, f3_exchange_exa, f3_exchange_rs, f3_exchange_rov, if_neg g_1, if_pos h_2, if_pos h_3, if_neg g_4, if_neg g_5]; rfl)) (Nat.le_refl _) (Nat.le_refl _) dX3_exchange_44
      · have g_3 : ¬ (isr = true) := (by rw [h_3]; decide)
        refine gz_bipush (v := ((-13))) C dX3_exchange_23 (by decide) ?_
        exact gz_iret C hr hk (by first | rfl | (simp only [f3_exchange, f3_exchange_thr, f3_exchange_isr, f3_exchange_rn, f3_exchange_rdv, f3_exchange_exa, f3_exchange_rs, f3_exchange_rov, if_neg g_1, if_pos h_2, if_neg g_3]) | (simp only [f3_exchange, f3_exchange_thr, f3_exchange_isr, f3_exchange_rn, f3_exchange_rdv, f3_exchange_exa, f3_exchange_rs, f3_exchange_rov, if_neg g_1, if_pos h_2, if_neg g_3]; rfl)) (by first | rfl | (simp only [f3_exchange, f3_exchange_thr, f3_exchange_isr, f3_exchange_rn, f3_exchange_rdv, f3_exchange_exa, f3_exchange_rs, f3_exchange_rov, if_neg g_1, if_pos h_2, if_neg g_3]) | (simp only [f3_exchange, f3_exchange_thr, f3_exchange_isr, f3_exchange_rn, f3_exchange_rdv, f3_exchange_exa, f3_exchange_rs, f3_exchange_rov, if_neg g_1, if_pos h_2, if_neg g_3]; rfl)) (Nat.le_refl _) (Nat.le_refl _) dX3_exchange_25
    · have g_2 : ¬ (0 ≤ y) := h_2
      refine gz_bipush (v := ((-11))) C dX3_exchange_13 (by decide) ?_
      exact gz_iret C hr hk (by first | rfl | (simp only [f3_exchange, f3_exchange_thr, f3_exchange_isr, f3_exchange_rn, f3_exchange_rdv, f3_exchange_exa, f3_exchange_rs, f3_exchange_rov, if_neg g_1, if_neg g_2]) | (simp only [f3_exchange, f3_exchange_thr, f3_exchange_isr, f3_exchange_rn, f3_exchange_rdv, f3_exchange_exa, f3_exchange_rs, f3_exchange_rov, if_neg g_1, if_neg g_2]; rfl)) (by first | rfl | (simp only [f3_exchange, f3_exchange_thr, f3_exchange_isr, f3_exchange_rn, f3_exchange_rdv, f3_exchange_exa, f3_exchange_rs, f3_exchange_rov, if_neg g_1, if_neg g_2]) | (simp only [f3_exchange, f3_exchange_thr, f3_exchange_isr, f3_exchange_rn, f3_exchange_rdv, f3_exchange_exa, f3_exchange_rs, f3_exchange_rov, if_neg g_1, if_neg g_2]; rfl)) (Nat.le_refl _) (Nat.le_refl _) dX3_exchange_15


def f3_spread_l1 (tkv : Nat → Int64) (opv : Nat → Int64) (shv : Nat → Int64) (wyv : Nat → Int64) (bdv : Nat → Bool) (icv : Nat → Nat) : Nat → Int64 → Nat → Nat → Int64 × Nat × Nat
  | 0, ck, la, k => (ck, la, k)
  | n + 1, ck, la, k => f3_spread_l1 tkv opv shv wyv bdv icv n (f3_wellDone tkv opv shv wyv bdv la (icv k) ck) (icv k) (k + 1)
set_option maxRecDepth 100000 in
set_option maxHeartbeats 4000000 in
theorem lX3_spread_l1 {p : Program} {l : Launch} {e : Env} {R : Room} {s : State} {m : MethodId} {args : Array Value} {below : List Frame} {meth : Method} {c : Code} {cells slots : Nat} {Q : State → Prop} {A : Nat → Prop} {D : va_G} (h : Nat) (ad : Nat → Nat) (cI : ClassId) (cJ : ClassId) (cZ : ClassId) (thr : Int32) (sn : Nat) (tkv : Nat → Int64) (opv : Nat → Int64) (shv : Nat → Int64) (ldv : Nat → Int32) (lim : Int32) (wyv : Nat → Int64) (bdv : Nat → Bool) (isr : Bool) (rn : Nat) (rdv : Nat → Nat) (fz : Nat) (icv : Nat → Nat) (exa : Bool) (fr : Nat) (fev : Nat → Nat) (eav : Nat → Int64) (rs : Nat) (rov : Nat → Nat) (hfz : fz ≤ 20) (hic : ∀ k, k < fz → icv k ≤ 20) (hR : 1 ≤ R.frames ∧ 26 ≤ R.locals) (hce : cells ≤ R.cells ∧ slots ≤ R.slots) (C : gz_C p s m args c cX3_spread 13 RX3 D [(cI, .int), (cJ, .long), (cZ, .boolean)] A) : ∀ (n : Nat) (ck : Int64) (la : Nat) (k : Nat), (k + n = fz) → (la ≤ 20) → ((((f3_spread_l1 tkv opv shv wyv bdv icv n ck la k).2.2) + 0 = fz) → (((f3_spread_l1 tkv opv shv wyv bdv icv n ck la k).2.1) ≤ 20) → GZ p l e R s m args below meth c 13 D A cells slots Q (wM h ad cI cJ cZ thr sn tkv opv shv ldv lim wyv bdv isr rn rdv fz icv exa fr fev eav rs rov) [(0, .ref h), (1, .long ((f3_spread_l1 tkv opv shv wyv bdv icv n ck la k).1)), (3, .int (nI ((f3_spread_l1 tkv opv shv wyv bdv icv n ck la k).2.1))), (4, .int (nI ((f3_spread_l1 tkv opv shv wyv bdv icv n ck la k).2.2)))] [] 44) → GZ p l e R s m args below meth c 13 D A cells slots Q (wM h ad cI cJ cZ thr sn tkv opv shv ldv lim wyv bdv isr rn rdv fz icv exa fr fev eav rs rov) [(0, .ref h), (1, .long ck), (3, .int (nI la)), (4, .int (nI k))] [] 7 := by
  intro n
  induction n with
  | zero =>
    intro ck la k hme hla hx
    refine gz_iload C 3 dX3_spread_7 rfl ?_
    refine gz_aload_n C 0 dX3_spread_9 rfl ?_
    refine gz_get (ci := 4) C iwX3 0 rfl rfl 12 (by decide) wk_392 rfl rfl dX3_spread_10 ?_
    refine gz_ncmp_ge C 44 (by omega) (by omega) dX3_spread_13 (by decide) (fun h_1 => ?_) (fun h_1 => ?_)
    · skip
      exact gz_lv [0, 1, 2, 3] rfl (hx hme hla)
    · have g_1 : ¬ (fz ≤ k) := (Nat.not_le.mpr h_1)
      exfalso; omega
  | succ n ih =>
    intro ck la k hme hla hx
    refine gz_iload C 3 dX3_spread_7 rfl ?_
    refine gz_aload_n C 0 dX3_spread_9 rfl ?_
    refine gz_get (ci := 4) C iwX3 0 rfl rfl 12 (by decide) wk_392 rfl rfl dX3_spread_10 ?_
    refine gz_ncmp_ge C 44 (by omega) (by omega) dX3_spread_13 (by decide) (fun h_1 => ?_) (fun h_1 => ?_)
    · skip
      exfalso; omega
    · have g_1 : ¬ (fz ≤ k) := (Nat.not_le.mpr h_1)
      have hq := hic k (by omega)
      refine gz_aload_n C 0 dX3_spread_16 rfl ?_
      refine gz_iload_n C 2 dX3_spread_17 rfl ?_
      refine gz_aload_n C 0 dX3_spread_18 rfl ?_
      refine gz_get (ci := 4) C iwX3 0 rfl rfl 13 (by decide) wk_393 rfl rfl dX3_spread_19 ?_
      refine gz_iload C 3 dX3_spread_22 rfl ?_
      refine gz_iald C 8 0 rfl rfl (by omega) (by decide) dX3_spread_24 ?_
      refine gz_lload_n C 1 dX3_spread_25 rfl ?_
      refine gz_callV (wr := []) (n := 3) (ws2 := (wM h ad cI cJ cZ thr sn tkv opv shv ldv lim wyv bdv isr rn rdv fz icv exa fr fev eav rs rov)) (st2 := [.long (f3_wellDone tkv opv shv wyv bdv la (icv k) ck)]) (cells2 := cells) (slots2 := slots) (ci := 4) C (kX3_wellDone l D h ad cI cJ cZ thr sn tkv opv shv ldv lim wyv bdv isr rn rdv fz icv exa fr fev eav rs rov la (icv k) ck (by first | assumption | omega) (by first | assumption | omega)) (WB_V wk_489 wk_491 ws_21 wk_4 wk_492) (by decide +kernel) ⟨⟨rfl, rfl⟩, Nat.le_trans (by decide) hR.1, Nat.le_trans (by decide) hR.2⟩ [0, 1, 2, 3, 4, 5, 6, 7, 8, 9, 10, 11] [] [0, 1, 2] rfl rfl rfl (by decide) rfl 0 rfl rfl rfl rfl (Nat.le_of_ble_eq_true rfl) dX3_spread_26 hce rfl rfl rfl ?_
      refine gz_lstore_n (lv2 := [(1, .long (f3_wellDone tkv opv shv wyv bdv la (icv k) ck)), (0, .ref h), (3, .int (nI la)), (4, .int (nI k))]) C dX3_spread_29 (by decide) rfl ?_
      refine gz_aload_n C 1 dX3_spread_30 rfl ?_
      refine gz_get (ci := 4) C iwX3 0 rfl rfl 13 (by decide) wk_393 rfl rfl dX3_spread_31 ?_
      refine gz_iload C 3 dX3_spread_34 rfl ?_
      refine gz_iald C 8 0 rfl rfl (by omega) (by decide) dX3_spread_36 ?_
      refine gz_istore_n (lv2 := [(3, .int (nI (icv k))), (1, .long (f3_wellDone tkv opv shv wyv bdv la (icv k) ck)), (0, .ref h), (4, .int (nI k))]) C dX3_spread_37 (by decide) rfl ?_
      refine gz_iinc (v := nI (k + 1)) (lv2 := [(4, .int (nI (k + 1))), (3, .int (nI (icv k))), (1, .long (f3_wellDone tkv opv shv wyv bdv la (icv k) ck)), (0, .ref h)]) (k := 3) C dX3_spread_38 rfl (nI_add _ 1) (by decide) rfl ?_
      refine gz_goto C 7 dX3_spread_41 (by decide) ?_
      refine gz_lv [3, 2, 1, 0] rfl ?_
      simp only [f3_spread_l1, if_neg g_1] at hx
      exact ih (f3_wellDone tkv opv shv wyv bdv la (icv k) ck) (icv k) (k + 1) (by omega) (by omega) hx

def f3_spread_l2  : Nat → Nat → (Nat → Int64) → Nat × (Nat → Int64)
  | 0, k, eav => (k, eav)
  | n + 1, k, eav => f3_spread_l2  n (k + 1) (va_up eav k 4000000000000000000)
set_option maxRecDepth 100000 in
set_option maxHeartbeats 4000000 in
theorem lX3_spread_l2 {p : Program} {l : Launch} {e : Env} {R : Room} {s : State} {m : MethodId} {args : Array Value} {below : List Frame} {meth : Method} {c : Code} {cells slots : Nat} {Q : State → Prop} {A : Nat → Prop} {D : va_G} (h : Nat) (ad : Nat → Nat) (cI : ClassId) (cJ : ClassId) (cZ : ClassId) (thr : Int32) (sn : Nat) (tkv : Nat → Int64) (opv : Nat → Int64) (shv : Nat → Int64) (ldv : Nat → Int32) (lim : Int32) (wyv : Nat → Int64) (bdv : Nat → Bool) (isr : Bool) (rn : Nat) (rdv : Nat → Nat) (fz : Nat) (icv : Nat → Nat) (exa : Bool) (fr : Nat) (fev : Nat → Nat) (rs : Nat) (rov : Nat → Nat) (ck : Int64) (la : Nat) (se : Nat)  (C : gz_C p s m args c cX3_spread 13 RX3 D [(cI, .int), (cJ, .long), (cZ, .boolean)] A) : ∀ (n : Nat) (k : Nat) (eav : Nat → Int64), (k + n = 11 * se ∧ se ≤ 2048) → ((((f3_spread_l2  n k eav).1) + 0 = 11 * se ∧ se ≤ 2048) → GZ p l e R s m args below meth c 13 D A cells slots Q (wM h ad cI cJ cZ thr sn tkv opv shv ldv lim wyv bdv isr rn rdv fz icv exa fr fev ((f3_spread_l2  n k eav).2) rs rov) [(0, .ref h), (1, .long ck), (3, .int (nI la)), (4, .int (nI se)), (5, .int (nI ((f3_spread_l2  n k eav).1)))] [] 81) → GZ p l e R s m args below meth c 13 D A cells slots Q (wM h ad cI cJ cZ thr sn tkv opv shv ldv lim wyv bdv isr rn rdv fz icv exa fr fev eav rs rov) [(0, .ref h), (1, .long ck), (3, .int (nI la)), (4, .int (nI se)), (5, .int (nI k))] [] 55 := by
  intro n
  induction n with
  | zero =>
    intro k eav hme  hx
    refine gz_iload C 4 dX3_spread_55 rfl ?_
    refine gz_bipush (v := nI 11) C dX3_spread_57 (by decide) ?_
    refine gz_iload C 3 dX3_spread_59 rfl ?_
    refine gz_imul (v := nI (11 * se)) C dX3_spread_61 (pk_mul _ _) ?_
    refine gz_ncmp_ge C 81 (by omega) (by omega) dX3_spread_62 (by decide) (fun h_1 => ?_) (fun h_1 => ?_)
    · skip
      exact gz_lv [0, 1, 2, 3, 4] rfl (hx hme )
    · have g_1 : ¬ ((11 * se) ≤ k) := (Nat.not_le.mpr h_1)
      exfalso; omega
  | succ n ih =>
    intro k eav hme  hx
    refine gz_iload C 4 dX3_spread_55 rfl ?_
    refine gz_bipush (v := nI 11) C dX3_spread_57 (by decide) ?_
    refine gz_iload C 3 dX3_spread_59 rfl ?_
    refine gz_imul (v := nI (11 * se)) C dX3_spread_61 (pk_mul _ _) ?_
    refine gz_ncmp_ge C 81 (by omega) (by omega) dX3_spread_62 (by decide) (fun h_1 => ?_) (fun h_1 => ?_)
    · skip
      exfalso; omega
    · have g_1 : ¬ ((11 * se) ≤ k) := (Nat.not_le.mpr h_1)
      refine gz_aload_n C 0 dX3_spread_65 rfl ?_
      refine gz_get (ci := 4) C iwX3 0 rfl rfl 17 (by decide) wk_397 rfl rfl dX3_spread_66 ?_
      refine gz_iload C 4 dX3_spread_69 rfl ?_
      refine gz_ldc2 (v := 4000000000000000000) C wk_493 dX3_spread_71 ?_
      refine gz_last (ws2 := (wM h ad cI cJ cZ thr sn tkv opv shv ldv lim wyv bdv isr rn rdv fz icv exa fr fev (va_up eav k 4000000000000000000) rs rov)) C 10 1 rfl rfl (by omega) (by decide) rfl dX3_spread_74 ?_
      refine gz_iinc (v := nI (k + 1)) (lv2 := [(5, .int (nI (k + 1))), (0, .ref h), (1, .long ck), (3, .int (nI la)), (4, .int (nI se))]) (k := 4) C dX3_spread_75 rfl (nI_add _ 1) (by decide) rfl ?_
      refine gz_goto C 55 dX3_spread_78 (by decide) ?_
      refine gz_lv [1, 2, 3, 4, 0] rfl ?_
      simp only [f3_spread_l2, if_neg g_1] at hx
      exact ih (k + 1) (va_up eav k 4000000000000000000) (by omega)  hx

def f3_spread_l3 (tkv : Nat → Int64) (opv : Nat → Int64) (shv : Nat → Int64) (wyv : Nat → Int64) (bdv : Nat → Bool) (fev : Nat → Nat) (ck : Int64) (la : Nat) : Nat → Nat → (Nat → Int64) → Nat × (Nat → Int64)
  | 0, k, eav => (k, eav)
  | n + 1, k, eav => f3_spread_l3 tkv opv shv wyv bdv fev ck la n (k + 1) (va_up eav ((11 * (2 ^ k)) + k) (f3_wellDone tkv opv shv wyv bdv la (fev k) ck))
set_option maxRecDepth 100000 in
set_option maxHeartbeats 4000000 in
theorem lX3_spread_l3 {p : Program} {l : Launch} {e : Env} {R : Room} {s : State} {m : MethodId} {args : Array Value} {below : List Frame} {meth : Method} {c : Code} {cells slots : Nat} {Q : State → Prop} {A : Nat → Prop} {D : va_G} (h : Nat) (ad : Nat → Nat) (cI : ClassId) (cJ : ClassId) (cZ : ClassId) (thr : Int32) (sn : Nat) (tkv : Nat → Int64) (opv : Nat → Int64) (shv : Nat → Int64) (ldv : Nat → Int32) (lim : Int32) (wyv : Nat → Int64) (bdv : Nat → Bool) (isr : Bool) (rn : Nat) (rdv : Nat → Nat) (fz : Nat) (icv : Nat → Nat) (exa : Bool) (fr : Nat) (fev : Nat → Nat) (rs : Nat) (rov : Nat → Nat) (ck : Int64) (la : Nat) (se : Nat) (hfr : fr ≤ 11) (hfe : ∀ k, k < fr → fev k ≤ 20) (hla : la ≤ 20) (hR : 1 ≤ R.frames ∧ 26 ≤ R.locals) (hce : cells ≤ R.cells ∧ slots ≤ R.slots) (C : gz_C p s m args c cX3_spread 13 RX3 D [(cI, .int), (cJ, .long), (cZ, .boolean)] A) : ∀ (n : Nat) (k : Nat) (eav : Nat → Int64), (k + n = fr) → ((((f3_spread_l3 tkv opv shv wyv bdv fev ck la n k eav).1) + 0 = fr) → GZ p l e R s m args below meth c 13 D A cells slots Q (wM h ad cI cJ cZ thr sn tkv opv shv ldv lim wyv bdv isr rn rdv fz icv exa fr fev ((f3_spread_l3 tkv opv shv wyv bdv fev ck la n k eav).2) rs rov) [(0, .ref h), (1, .long ck), (3, .int (nI la)), (4, .int (nI se)), (5, .int (nI ((f3_spread_l3 tkv opv shv wyv bdv fev ck la n k eav).1)))] [] 127) → GZ p l e R s m args below meth c 13 D A cells slots Q (wM h ad cI cJ cZ thr sn tkv opv shv ldv lim wyv bdv isr rn rdv fz icv exa fr fev eav rs rov) [(0, .ref h), (1, .long ck), (3, .int (nI la)), (4, .int (nI se)), (5, .int (nI k))] [] 84 := by
  intro n
  induction n with
  | zero =>
    intro k eav hme  hx
    refine gz_iload C 4 dX3_spread_84 rfl ?_
    refine gz_aload_n C 0 dX3_spread_86 rfl ?_
    refine gz_get (ci := 4) C iwX3 0 rfl rfl 15 (by decide) wk_395 rfl rfl dX3_spread_87 ?_
    refine gz_ncmp_ge C 127 (by omega) (by omega) dX3_spread_90 (by decide) (fun h_1 => ?_) (fun h_1 => ?_)
    · skip
      exact gz_lv [0, 1, 2, 3, 4] rfl (hx hme )
    · have g_1 : ¬ (fr ≤ k) := (Nat.not_le.mpr h_1)
      exfalso; omega
  | succ n ih =>
    intro k eav hme  hx
    refine gz_iload C 4 dX3_spread_84 rfl ?_
    refine gz_aload_n C 0 dX3_spread_86 rfl ?_
    refine gz_get (ci := 4) C iwX3 0 rfl rfl 15 (by decide) wk_395 rfl rfl dX3_spread_87 ?_
    refine gz_ncmp_ge C 127 (by omega) (by omega) dX3_spread_90 (by decide) (fun h_1 => ?_) (fun h_1 => ?_)
    · skip
      exfalso; omega
    · have g_1 : ¬ (fr ≤ k) := (Nat.not_le.mpr h_1)
      have h2 : 2 ^ k ≤ 1024 := bz_pow10 (by omega)
      have hq := hfe k (by omega)
      refine gz_aload_n C 0 dX3_spread_93 rfl ?_
      refine gz_get (ci := 4) C iwX3 0 rfl rfl 17 (by decide) wk_397 rfl rfl dX3_spread_94 ?_
      refine gz_bipush (v := nI 11) C dX3_spread_97 (by decide) ?_
      refine gz_iconst (v := nI 1) C dX3_spread_99 (by decide) ?_
      refine gz_iload C 4 dX3_spread_100 rfl ?_
      refine gz_ishl (v := nI (2 ^ k)) C dX3_spread_102 (bz_shl (by omega)) ?_
      refine gz_imul (v := nI (11 * (2 ^ k))) C dX3_spread_103 (pk_mul _ _) ?_
      refine gz_iload C 4 dX3_spread_104 rfl ?_
      refine gz_iadd (v := nI ((11 * (2 ^ k)) + k)) C dX3_spread_106 (nI_add _ _) ?_
      refine gz_aload_n C 0 dX3_spread_107 rfl ?_
      refine gz_iload_n C 2 dX3_spread_108 rfl ?_
      refine gz_aload_n C 0 dX3_spread_109 rfl ?_
      refine gz_get (ci := 4) C iwX3 0 rfl rfl 16 (by decide) wk_396 rfl rfl dX3_spread_110 ?_
      refine gz_iload C 4 dX3_spread_113 rfl ?_
      refine gz_iald C 9 0 rfl rfl (by omega) (by decide) dX3_spread_115 ?_
      refine gz_lload_n C 1 dX3_spread_116 rfl ?_
      refine gz_callV (wr := []) (n := 3) (ws2 := (wM h ad cI cJ cZ thr sn tkv opv shv ldv lim wyv bdv isr rn rdv fz icv exa fr fev eav rs rov)) (st2 := [.long (f3_wellDone tkv opv shv wyv bdv la (fev k) ck), .int (nI ((11 * (2 ^ k)) + k)), .ref ((ad 17))]) (cells2 := cells) (slots2 := slots) (ci := 4) C (kX3_wellDone l D h ad cI cJ cZ thr sn tkv opv shv ldv lim wyv bdv isr rn rdv fz icv exa fr fev eav rs rov la (fev k) ck (by first | assumption | omega) (by first | assumption | omega)) (WB_V wk_489 wk_491 ws_21 wk_4 wk_492) (by decide +kernel) ⟨⟨rfl, rfl⟩, Nat.le_trans (by decide) hR.1, Nat.le_trans (by decide) hR.2⟩ [0, 1, 2, 3, 4, 5, 6, 7, 8, 9, 10, 11] [] [0, 1, 2] rfl rfl rfl (by decide) rfl 0 rfl rfl rfl rfl (Nat.le_of_ble_eq_true rfl) dX3_spread_117 hce rfl rfl rfl ?_
      refine gz_last (ws2 := (wM h ad cI cJ cZ thr sn tkv opv shv ldv lim wyv bdv isr rn rdv fz icv exa fr fev (va_up eav ((11 * (2 ^ k)) + k) (f3_wellDone tkv opv shv wyv bdv la (fev k) ck)) rs rov)) C 10 1 rfl rfl (by omega) (by decide) rfl dX3_spread_120 ?_
      refine gz_iinc (v := nI (k + 1)) (lv2 := [(5, .int (nI (k + 1))), (0, .ref h), (1, .long ck), (3, .int (nI la)), (4, .int (nI se))]) (k := 4) C dX3_spread_121 rfl (nI_add _ 1) (by decide) rfl ?_
      refine gz_goto C 84 dX3_spread_124 (by decide) ?_
      refine gz_lv [1, 2, 3, 4, 0] rfl ?_
      simp only [f3_spread_l3, if_neg g_1] at hx
      exact ih (k + 1) (va_up eav ((11 * (2 ^ k)) + k) (f3_wellDone tkv opv shv wyv bdv la (fev k) ck)) (by omega)  hx

def f3_spread_l6 (tkv : Nat → Int64) (opv : Nat → Int64) (shv : Nat → Int64) (wyv : Nat → Int64) (bdv : Nat → Bool) (fev : Nat → Nat) (t : Nat) (j : Nat) (tt : Int64) : Nat → Nat → (Nat → Int64) → Nat × (Nat → Int64)
  | 0, k, eav => (k, eav)
  | n + 1, k, eav => if 4000000000000000000 ≤ tt then (k, eav) else f3_spread_l6 tkv opv shv wyv bdv fev t j tt n (k + 1) ((if ((t / 2 ^ k) % 2) = 0 then va_up eav ((11 * (t ||| (2 ^ k))) + k) ((if (eav ((11 * (t ||| (2 ^ k))) + k)) ≤ (f3_wellDone tkv opv shv wyv bdv (fev j) (fev k) tt) then eav ((11 * (t ||| (2 ^ k))) + k) else f3_wellDone tkv opv shv wyv bdv (fev j) (fev k) tt)) else eav))
set_option maxRecDepth 100000 in
set_option maxHeartbeats 4000000 in
theorem lX3_spread_l6 {p : Program} {l : Launch} {e : Env} {R : Room} {s : State} {m : MethodId} {args : Array Value} {below : List Frame} {meth : Method} {c : Code} {cells slots : Nat} {Q : State → Prop} {A : Nat → Prop} {D : va_G} (h : Nat) (ad : Nat → Nat) (cI : ClassId) (cJ : ClassId) (cZ : ClassId) (thr : Int32) (sn : Nat) (tkv : Nat → Int64) (opv : Nat → Int64) (shv : Nat → Int64) (ldv : Nat → Int32) (lim : Int32) (wyv : Nat → Int64) (bdv : Nat → Bool) (isr : Bool) (rn : Nat) (rdv : Nat → Nat) (fz : Nat) (icv : Nat → Nat) (exa : Bool) (fr : Nat) (fev : Nat → Nat) (rs : Nat) (rov : Nat → Nat) (se : Nat) (t : Nat) (j : Nat) (tt : Int64) (hfr : fr ≤ 11) (hfe : ∀ k, k < fr → fev k ≤ 20) (ht : t < 2 ^ fr) (hj : j < fr) (hR : 1 ≤ R.frames ∧ 26 ≤ R.locals) (hce : cells ≤ R.cells ∧ slots ≤ R.slots) (C : gz_C p s m args c cX3_spread 13 RX3 D [(cI, .int), (cJ, .long), (cZ, .boolean)] A) : ∀ (n : Nat) (k : Nat) (eav : Nat → Int64), (k + n = fr) → (GZ p l e R s m args below meth c 13 D A cells slots Q (wM h ad cI cJ cZ thr sn tkv opv shv ldv lim wyv bdv isr rn rdv fz icv exa fr fev ((f3_spread_l6 tkv opv shv wyv bdv fev t j tt n k eav).2) rs rov) [(0, .ref h), (4, .int (nI se)), (5, .int (nI t)), (6, .int (nI j)), (7, .long tt), (9, .int (nI ((f3_spread_l6 tkv opv shv wyv bdv fev t j tt n k eav).1)))] [] 270) → GZ p l e R s m args below meth c 13 D A cells slots Q (wM h ad cI cJ cZ thr sn tkv opv shv ldv lim wyv bdv isr rn rdv fz icv exa fr fev eav rs rov) [(0, .ref h), (4, .int (nI se)), (5, .int (nI t)), (6, .int (nI j)), (7, .long tt), (9, .int (nI k))] [] 167 := by
  intro n
  induction n with
  | zero =>
    intro k eav hme  hx
    refine gz_iload C 5 dX3_spread_167 rfl ?_
    refine gz_aload_n C 0 dX3_spread_169 rfl ?_
    refine gz_get (ci := 4) C iwX3 0 rfl rfl 15 (by decide) wk_395 rfl rfl dX3_spread_170 ?_
    refine gz_ncmp_ge C 270 (by omega) (by omega) dX3_spread_173 (by decide) (fun h_1 => ?_) (fun h_1 => ?_)
    · skip
      exact gz_lv [0, 1, 2, 3, 4, 5] rfl (hx )
    · have g_1 : ¬ (fr ≤ k) := (Nat.not_le.mpr h_1)
      exfalso; omega
  | succ n ih =>
    intro k eav hme  hx
    refine gz_iload C 5 dX3_spread_167 rfl ?_
    refine gz_aload_n C 0 dX3_spread_169 rfl ?_
    refine gz_get (ci := 4) C iwX3 0 rfl rfl 15 (by decide) wk_395 rfl rfl dX3_spread_170 ?_
    refine gz_ncmp_ge C 270 (by omega) (by omega) dX3_spread_173 (by decide) (fun h_1 => ?_) (fun h_1 => ?_)
    · skip
      exfalso; omega
    · have g_1 : ¬ (fr ≤ k) := (Nat.not_le.mpr h_1)
      refine gz_lload C 4 dX3_spread_176 rfl ?_
      refine gz_ldc2 (v := 4000000000000000000) C wk_493 dX3_spread_178 ?_
      refine gz_lcmp_ge C 270 dX3_spread_181 dX3_spread_182 (by decide) (fun h_2 => ?_) (fun h_2 => ?_)
      · skip
        simp only [f3_spread_l6, if_neg g_1, if_pos h_2] at hx
        exact gz_lv [0, 1, 2, 3, 4, 5] rfl (hx )
      · have g_2 : ¬ (4000000000000000000 ≤ tt) := h_2
        have h1 := bz_pow hfr
        have h2 := bz_or_lt ht (show k < fr by omega)
        have hq := hfe k (by omega)
        have hq2 := hfe j hj
        refine gz_iload C 2 dX3_spread_185 rfl ?_
        refine gz_iload C 5 dX3_spread_187 rfl ?_
        refine gz_ishr (v := nI (t / 2 ^ k)) C dX3_spread_189 (bz_shr (by omega) (by omega)) ?_
        refine gz_iconst (v := nI 1) C dX3_spread_190 (by decide) ?_
        refine gz_iand (v := nI ((t / 2 ^ k) % 2)) C dX3_spread_191 (bz_and1 _ (Nat.lt_of_le_of_lt (Nat.div_le_self _ _) (by omega))) ?_
        refine gz_J (ws2 := (wM h ad cI cJ cZ thr sn tkv opv shv ldv lim wyv bdv isr rn rdv fz icv exa fr fev ((if ((t / 2 ^ k) % 2) = 0 then va_up eav ((11 * (t ||| (2 ^ k))) + k) ((if (eav ((11 * (t ||| (2 ^ k))) + k)) ≤ (f3_wellDone tkv opv shv wyv bdv (fev j) (fev k) tt) then eav ((11 * (t ||| (2 ^ k))) + k) else f3_wellDone tkv opv shv wyv bdv (fev j) (fev k) tt)) else eav)) rs rov)) (lv2 := [(0, .ref h), (4, .int (nI se)), (5, .int (nI t)), (6, .int (nI j)), (7, .long tt), (9, .int (nI k))]) (st2 := []) (pc2 := 264) ?_ (fun J_3 => ?_)
        rotate_left
        · refine gz_nif_ne C 264 (by omega) dX3_spread_192 (by decide) (fun h_3 => ?_) (fun h_3 => ?_)
          · have g_3 : ¬ (((t / 2 ^ k) % 2) = 0) := h_3
            simp only [if_neg g_3] at J_3 ⊢
            exact gz_lv [0, 1, 2, 3, 4, 5] rfl J_3
          · skip
            refine gz_bipush (v := nI 11) C dX3_spread_195 (by decide) ?_
            refine gz_iload C 2 dX3_spread_197 rfl ?_
            refine gz_iconst (v := nI 1) C dX3_spread_199 (by decide) ?_
            refine gz_iload C 5 dX3_spread_200 rfl ?_
            refine gz_ishl (v := nI (2 ^ k)) C dX3_spread_202 (bz_shl (by omega)) ?_
            refine gz_ior (v := nI (t ||| (2 ^ k))) C dX3_spread_203 (bz_or _ _) ?_
            refine gz_imul (v := nI (11 * (t ||| (2 ^ k)))) C dX3_spread_204 (pk_mul _ _) ?_
            refine gz_iload C 5 dX3_spread_205 rfl ?_
            refine gz_iadd (v := nI ((11 * (t ||| (2 ^ k))) + k)) C dX3_spread_207 (nI_add _ _) ?_
            refine gz_istore (lv2 := [(10, .int (nI ((11 * (t ||| (2 ^ k))) + k))), (0, .ref h), (4, .int (nI se)), (5, .int (nI t)), (6, .int (nI j)), (7, .long tt), (9, .int (nI k))]) C dX3_spread_208 (by decide) rfl ?_
            refine gz_aload_n C 1 dX3_spread_210 rfl ?_
            refine gz_aload_n C 1 dX3_spread_211 rfl ?_
            refine gz_get (ci := 4) C iwX3 0 rfl rfl 16 (by decide) wk_396 rfl rfl dX3_spread_212 ?_
            refine gz_iload C 4 dX3_spread_215 rfl ?_
            refine gz_iald C 9 0 rfl rfl (by omega) (by decide) dX3_spread_217 ?_
            refine gz_aload_n C 1 dX3_spread_218 rfl ?_
            refine gz_get (ci := 4) C iwX3 0 rfl rfl 16 (by decide) wk_396 rfl rfl dX3_spread_219 ?_
            refine gz_iload C 6 dX3_spread_222 rfl ?_
            refine gz_iald C 9 0 rfl rfl (by omega) (by decide) dX3_spread_224 ?_
            refine gz_lload C 5 dX3_spread_225 rfl ?_
            refine gz_callV (wr := []) (n := 3) (ws2 := (wM h ad cI cJ cZ thr sn tkv opv shv ldv lim wyv bdv isr rn rdv fz icv exa fr fev eav rs rov)) (st2 := [.long (f3_wellDone tkv opv shv wyv bdv (fev j) (fev k) tt)]) (cells2 := cells) (slots2 := slots) (ci := 4) C (kX3_wellDone l D h ad cI cJ cZ thr sn tkv opv shv ldv lim wyv bdv isr rn rdv fz icv exa fr fev eav rs rov (fev j) (fev k) tt (by first | assumption | omega) (by first | assumption | omega)) (WB_V wk_489 wk_491 ws_21 wk_4 wk_492) (by decide +kernel) ⟨⟨rfl, rfl⟩, Nat.le_trans (by decide) hR.1, Nat.le_trans (by decide) hR.2⟩ [0, 1, 2, 3, 4, 5, 6, 7, 8, 9, 10, 11] [] [0, 1, 2] rfl rfl rfl (by decide) rfl 0 rfl rfl rfl rfl (Nat.le_of_ble_eq_true rfl) dX3_spread_227 hce rfl rfl rfl ?_
            refine gz_lstore (lv2 := [(11, .long (f3_wellDone tkv opv shv wyv bdv (fev j) (fev k) tt)), (10, .int (nI ((11 * (t ||| (2 ^ k))) + k))), (0, .ref h), (4, .int (nI se)), (5, .int (nI t)), (6, .int (nI j)), (7, .long tt), (9, .int (nI k))]) C dX3_spread_230 (by decide) rfl ?_
            refine gz_aload_n C 2 dX3_spread_232 rfl ?_
            refine gz_get (ci := 4) C iwX3 0 rfl rfl 17 (by decide) wk_397 rfl rfl dX3_spread_233 ?_
            refine gz_iload C 1 dX3_spread_236 rfl ?_
            refine gz_lload C 0 dX3_spread_238 rfl ?_
            refine gz_aload_n C 2 dX3_spread_240 rfl ?_
            refine gz_get (ci := 4) C iwX3 0 rfl rfl 17 (by decide) wk_397 rfl rfl dX3_spread_241 ?_
            refine gz_iload C 1 dX3_spread_244 rfl ?_
            refine gz_lald C 10 1 rfl rfl (by omega) (by decide) dX3_spread_246 ?_
            refine gz_J (ws2 := (wM h ad cI cJ cZ thr sn tkv opv shv ldv lim wyv bdv isr rn rdv fz icv exa fr fev eav rs rov)) (lv2 := [(11, .long (f3_wellDone tkv opv shv wyv bdv (fev j) (fev k) tt)), (10, .int (nI ((11 * (t ||| (2 ^ k))) + k))), (0, .ref h), (4, .int (nI se)), (5, .int (nI t)), (6, .int (nI j)), (7, .long tt), (9, .int (nI k))]) (st2 := [.long ((if (eav ((11 * (t ||| (2 ^ k))) + k)) ≤ (f3_wellDone tkv opv shv wyv bdv (fev j) (fev k) tt) then eav ((11 * (t ||| (2 ^ k))) + k) else f3_wellDone tkv opv shv wyv bdv (fev j) (fev k) tt)), .int (nI ((11 * (t ||| (2 ^ k))) + k)), .ref ((ad 17))]) (pc2 := 263) ?_ (fun J_4 => ?_)
            rotate_left
            · refine gz_lcmp_ge C 256 dX3_spread_247 dX3_spread_248 (by decide) (fun h_4 => ?_) (fun h_4 => ?_)
              · skip
                refine gz_aload_n C 2 dX3_spread_256 rfl ?_
                refine gz_get (ci := 4) C iwX3 0 rfl rfl 17 (by decide) wk_397 rfl rfl dX3_spread_257 ?_
                refine gz_iload C 1 dX3_spread_260 rfl ?_
                refine gz_lald C 10 1 rfl rfl (by omega) (by decide) dX3_spread_262 ?_
                simp only [if_pos h_4] at J_4 ⊢
                exact gz_lv [0, 1, 2, 3, 4, 5, 6, 7] rfl J_4
              · have g_4 : ¬ ((eav ((11 * (t ||| (2 ^ k))) + k)) ≤ (f3_wellDone tkv opv shv wyv bdv (fev j) (fev k) tt)) := h_4
                refine gz_lload C 0 dX3_spread_251 rfl ?_
                refine gz_goto C 263 dX3_spread_253 (by decide) ?_
                simp only [if_neg g_4] at J_4 ⊢
                exact gz_lv [0, 1, 2, 3, 4, 5, 6, 7] rfl J_4
            refine gz_last (ws2 := (wM h ad cI cJ cZ thr sn tkv opv shv ldv lim wyv bdv isr rn rdv fz icv exa fr fev (va_up eav ((11 * (t ||| (2 ^ k))) + k) ((if (eav ((11 * (t ||| (2 ^ k))) + k)) ≤ (f3_wellDone tkv opv shv wyv bdv (fev j) (fev k) tt) then eav ((11 * (t ||| (2 ^ k))) + k) else f3_wellDone tkv opv shv wyv bdv (fev j) (fev k) tt))) rs rov)) C 10 1 rfl rfl (by omega) (by decide) rfl dX3_spread_263 ?_
            simp only [if_pos h_3] at J_3 ⊢
            exact gz_lv [2, 3, 4, 5, 6, 7] rfl J_3
        refine gz_iinc (v := nI (k + 1)) (lv2 := [(9, .int (nI (k + 1))), (0, .ref h), (4, .int (nI se)), (5, .int (nI t)), (6, .int (nI j)), (7, .long tt)]) (k := 5) C dX3_spread_264 rfl (nI_add _ 1) (by decide) rfl ?_
        refine gz_goto C 167 dX3_spread_267 (by decide) ?_
        refine gz_lv [1, 2, 3, 4, 5, 0] rfl ?_
        simp only [f3_spread_l6, if_neg g_1, if_neg g_2] at hx
        exact ih (k + 1) ((if ((t / 2 ^ k) % 2) = 0 then va_up eav ((11 * (t ||| (2 ^ k))) + k) ((if (eav ((11 * (t ||| (2 ^ k))) + k)) ≤ (f3_wellDone tkv opv shv wyv bdv (fev j) (fev k) tt) then eav ((11 * (t ||| (2 ^ k))) + k) else f3_wellDone tkv opv shv wyv bdv (fev j) (fev k) tt)) else eav)) (by omega)  hx

def f3_spread_l5 (tkv : Nat → Int64) (opv : Nat → Int64) (shv : Nat → Int64) (wyv : Nat → Int64) (bdv : Nat → Bool) (fr : Nat) (fev : Nat → Nat) (t : Nat) : Nat → Nat → (Nat → Int64) → Nat × (Nat → Int64)
  | 0, j, eav => (j, eav)
  | n + 1, j, eav => f3_spread_l5 tkv opv shv wyv bdv fr fev t n (j + 1) ((f3_spread_l6 tkv opv shv wyv bdv fev t j (eav ((11 * t) + j)) fr 0 eav).2)
set_option maxRecDepth 100000 in
set_option maxHeartbeats 4000000 in
theorem lX3_spread_l5 {p : Program} {l : Launch} {e : Env} {R : Room} {s : State} {m : MethodId} {args : Array Value} {below : List Frame} {meth : Method} {c : Code} {cells slots : Nat} {Q : State → Prop} {A : Nat → Prop} {D : va_G} (h : Nat) (ad : Nat → Nat) (cI : ClassId) (cJ : ClassId) (cZ : ClassId) (thr : Int32) (sn : Nat) (tkv : Nat → Int64) (opv : Nat → Int64) (shv : Nat → Int64) (ldv : Nat → Int32) (lim : Int32) (wyv : Nat → Int64) (bdv : Nat → Bool) (isr : Bool) (rn : Nat) (rdv : Nat → Nat) (fz : Nat) (icv : Nat → Nat) (exa : Bool) (fr : Nat) (fev : Nat → Nat) (rs : Nat) (rov : Nat → Nat) (se : Nat) (t : Nat) (hfr : fr ≤ 11) (hfe : ∀ k, k < fr → fev k ≤ 20) (ht : t < 2 ^ fr) (hR : 1 ≤ R.frames ∧ 26 ≤ R.locals) (hce : cells ≤ R.cells ∧ slots ≤ R.slots) (C : gz_C p s m args c cX3_spread 13 RX3 D [(cI, .int), (cJ, .long), (cZ, .boolean)] A) : ∀ (n : Nat) (j : Nat) (eav : Nat → Int64), (j + n = fr) → ((((f3_spread_l5 tkv opv shv wyv bdv fr fev t n j eav).1) + 0 = fr) → GZ p l e R s m args below meth c 13 D A cells slots Q (wM h ad cI cJ cZ thr sn tkv opv shv ldv lim wyv bdv isr rn rdv fz icv exa fr fev ((f3_spread_l5 tkv opv shv wyv bdv fr fev t n j eav).2) rs rov) [(0, .ref h), (4, .int (nI se)), (5, .int (nI t)), (6, .int (nI ((f3_spread_l5 tkv opv shv wyv bdv fr fev t n j eav).1)))] [] 276) → GZ p l e R s m args below meth c 13 D A cells slots Q (wM h ad cI cJ cZ thr sn tkv opv shv ldv lim wyv bdv isr rn rdv fz icv exa fr fev eav rs rov) [(0, .ref h), (4, .int (nI se)), (5, .int (nI t)), (6, .int (nI j))] [] 140 := by
  intro n
  induction n with
  | zero =>
    intro j eav hme  hx
    refine gz_iload C 3 dX3_spread_140 rfl ?_
    refine gz_aload_n C 0 dX3_spread_142 rfl ?_
    refine gz_get (ci := 4) C iwX3 0 rfl rfl 15 (by decide) wk_395 rfl rfl dX3_spread_143 ?_
    refine gz_ncmp_ge C 276 (by omega) (by omega) dX3_spread_146 (by decide) (fun h_1 => ?_) (fun h_1 => ?_)
    · skip
      exact gz_lv [0, 1, 2, 3] rfl (hx hme )
    · have g_1 : ¬ (fr ≤ j) := (Nat.not_le.mpr h_1)
      exfalso; omega
  | succ n ih =>
    intro j eav hme  hx
    refine gz_iload C 3 dX3_spread_140 rfl ?_
    refine gz_aload_n C 0 dX3_spread_142 rfl ?_
    refine gz_get (ci := 4) C iwX3 0 rfl rfl 15 (by decide) wk_395 rfl rfl dX3_spread_143 ?_
    refine gz_ncmp_ge C 276 (by omega) (by omega) dX3_spread_146 (by decide) (fun h_1 => ?_) (fun h_1 => ?_)
    · skip
      exfalso; omega
    · have g_1 : ¬ (fr ≤ j) := (Nat.not_le.mpr h_1)
      have h1 := bz_pow hfr
      refine gz_aload_n C 0 dX3_spread_149 rfl ?_
      refine gz_get (ci := 4) C iwX3 0 rfl rfl 17 (by decide) wk_397 rfl rfl dX3_spread_150 ?_
      refine gz_bipush (v := nI 11) C dX3_spread_153 (by decide) ?_
      refine gz_iload C 2 dX3_spread_155 rfl ?_
      refine gz_imul (v := nI (11 * t)) C dX3_spread_157 (pk_mul _ _) ?_
      refine gz_iload C 3 dX3_spread_158 rfl ?_
      refine gz_iadd (v := nI ((11 * t) + j)) C dX3_spread_160 (nI_add _ _) ?_
      refine gz_lald C 10 1 rfl rfl (by omega) (by decide) dX3_spread_161 ?_
      refine gz_lstore (lv2 := [(7, .long (eav ((11 * t) + j))), (0, .ref h), (4, .int (nI se)), (5, .int (nI t)), (6, .int (nI j))]) C dX3_spread_162 (by decide) rfl ?_
      refine gz_iconst (v := nI 0) C dX3_spread_164 (by decide) ?_
      refine gz_istore (lv2 := [(9, .int (nI 0)), (7, .long (eav ((11 * t) + j))), (0, .ref h), (4, .int (nI se)), (5, .int (nI t)), (6, .int (nI j))]) C dX3_spread_165 (by decide) rfl ?_
      refine gz_lv (lv2 := [(0, .ref h), (4, .int (nI se)), (5, .int (nI t)), (6, .int (nI j)), (7, .long (eav ((11 * t) + j))), (9, .int (nI 0))]) [2, 3, 4, 5, 1, 0] rfl ?_
      refine lX3_spread_l6 h ad cI cJ cZ thr sn tkv opv shv ldv lim wyv bdv isr rn rdv fz icv exa fr fev rs rov se t j (eav ((11 * t) + j)) (by first | assumption | omega) (by first | assumption | omega) (by first | assumption | omega) (by first | assumption | omega) ⟨Nat.le_trans (by decide) hR.1, Nat.le_trans (by decide) hR.2⟩ hce C fr 0 eav (by omega)  ?_
      refine gz_iinc (v := nI (j + 1)) (lv2 := [(6, .int (nI (j + 1))), (0, .ref h), (4, .int (nI se)), (5, .int (nI t)), (7, .long (eav ((11 * t) + j))), (9, .int (nI ((f3_spread_l6 tkv opv shv wyv bdv fev t j (eav ((11 * t) + j)) fr 0 eav).1)))]) (k := 3) C dX3_spread_270 rfl (nI_add _ 1) (by decide) rfl ?_
      refine gz_goto C 140 dX3_spread_273 (by decide) ?_
      refine gz_lv [1, 2, 3, 0] rfl ?_
      simp only [f3_spread_l5, if_neg g_1] at hx
      exact ih (j + 1) ((f3_spread_l6 tkv opv shv wyv bdv fev t j (eav ((11 * t) + j)) fr 0 eav).2) (by omega)  hx

def f3_spread_l4 (tkv : Nat → Int64) (opv : Nat → Int64) (shv : Nat → Int64) (wyv : Nat → Int64) (bdv : Nat → Bool) (fr : Nat) (fev : Nat → Nat) : Nat → Nat → (Nat → Int64) → Nat × (Nat → Int64)
  | 0, t, eav => (t, eav)
  | n + 1, t, eav => f3_spread_l4 tkv opv shv wyv bdv fr fev n (t + 1) ((f3_spread_l5 tkv opv shv wyv bdv fr fev t fr 0 eav).2)
set_option maxRecDepth 100000 in
set_option maxHeartbeats 4000000 in
theorem lX3_spread_l4 {p : Program} {l : Launch} {e : Env} {R : Room} {s : State} {m : MethodId} {args : Array Value} {below : List Frame} {meth : Method} {c : Code} {cells slots : Nat} {Q : State → Prop} {A : Nat → Prop} {D : va_G} (h : Nat) (ad : Nat → Nat) (cI : ClassId) (cJ : ClassId) (cZ : ClassId) (thr : Int32) (sn : Nat) (tkv : Nat → Int64) (opv : Nat → Int64) (shv : Nat → Int64) (ldv : Nat → Int32) (lim : Int32) (wyv : Nat → Int64) (bdv : Nat → Bool) (isr : Bool) (rn : Nat) (rdv : Nat → Nat) (fz : Nat) (icv : Nat → Nat) (exa : Bool) (fr : Nat) (fev : Nat → Nat) (rs : Nat) (rov : Nat → Nat) (se : Nat) (hfr : fr ≤ 11) (hfe : ∀ k, k < fr → fev k ≤ 20) (hse : se = 2 ^ fr) (hR : 1 ≤ R.frames ∧ 26 ≤ R.locals) (hce : cells ≤ R.cells ∧ slots ≤ R.slots) (C : gz_C p s m args c cX3_spread 13 RX3 D [(cI, .int), (cJ, .long), (cZ, .boolean)] A) : ∀ (n : Nat) (t : Nat) (eav : Nat → Int64), (t + n = se) → ((((f3_spread_l4 tkv opv shv wyv bdv fr fev n t eav).1) + 0 = se) → GZ p l e R s m args below meth c 13 D A cells slots Q (wM h ad cI cJ cZ thr sn tkv opv shv ldv lim wyv bdv isr rn rdv fz icv exa fr fev ((f3_spread_l4 tkv opv shv wyv bdv fr fev n t eav).2) rs rov) [(0, .ref h), (4, .int (nI se)), (5, .int (nI ((f3_spread_l4 tkv opv shv wyv bdv fr fev n t eav).1)))] [] 282) → GZ p l e R s m args below meth c 13 D A cells slots Q (wM h ad cI cJ cZ thr sn tkv opv shv ldv lim wyv bdv isr rn rdv fz icv exa fr fev eav rs rov) [(0, .ref h), (4, .int (nI se)), (5, .int (nI t))] [] 130 := by
  intro n
  induction n with
  | zero =>
    intro t eav hme  hx
    have h1 := bz_pow hfr
    refine gz_iload C 2 dX3_spread_130 rfl ?_
    refine gz_iload C 1 dX3_spread_132 rfl ?_
    refine gz_ncmp_ge C 282 (by omega) (by omega) dX3_spread_134 (by decide) (fun h_1 => ?_) (fun h_1 => ?_)
    · skip
      exact gz_lv [0, 1, 2] rfl (hx hme )
    · have g_1 : ¬ (se ≤ t) := (Nat.not_le.mpr h_1)
      exfalso; omega
  | succ n ih =>
    intro t eav hme  hx
    have h1 := bz_pow hfr
    refine gz_iload C 2 dX3_spread_130 rfl ?_
    refine gz_iload C 1 dX3_spread_132 rfl ?_
    refine gz_ncmp_ge C 282 (by omega) (by omega) dX3_spread_134 (by decide) (fun h_1 => ?_) (fun h_1 => ?_)
    · skip
      exfalso; omega
    · have g_1 : ¬ (se ≤ t) := (Nat.not_le.mpr h_1)
      refine gz_iconst (v := nI 0) C dX3_spread_137 (by decide) ?_
      refine gz_istore (lv2 := [(6, .int (nI 0)), (0, .ref h), (4, .int (nI se)), (5, .int (nI t))]) C dX3_spread_138 (by decide) rfl ?_
      refine gz_lv (lv2 := [(0, .ref h), (4, .int (nI se)), (5, .int (nI t)), (6, .int (nI 0))]) [1, 2, 3, 0] rfl ?_
      refine lX3_spread_l5 h ad cI cJ cZ thr sn tkv opv shv ldv lim wyv bdv isr rn rdv fz icv exa fr fev rs rov se t (by first | assumption | omega) (by first | assumption | omega) (by first | assumption | omega) ⟨Nat.le_trans (by decide) hR.1, Nat.le_trans (by decide) hR.2⟩ hce C fr 0 eav (by omega)  ?_
      intro zme_l5
      refine gz_iinc (v := nI (t + 1)) (lv2 := [(5, .int (nI (t + 1))), (0, .ref h), (4, .int (nI se)), (6, .int (nI ((f3_spread_l5 tkv opv shv wyv bdv fr fev t fr 0 eav).1)))]) (k := 2) C dX3_spread_276 rfl (nI_add _ 1) (by decide) rfl ?_
      refine gz_goto C 130 dX3_spread_279 (by decide) ?_
      refine gz_lv [1, 2, 0] rfl ?_
      simp only [f3_spread_l4, if_neg g_1] at hx
      exact ih (t + 1) ((f3_spread_l5 tkv opv shv wyv bdv fr fev t fr 0 eav).2) (by omega)  hx

def f3_spread_eav (tkv : Nat → Int64) (opv : Nat → Int64) (shv : Nat → Int64) (wyv : Nat → Int64) (bdv : Nat → Bool) (fz : Nat) (icv : Nat → Nat) (fr : Nat) (fev : Nat → Nat) (eav : Nat → Int64) : Nat → Int64 := (f3_spread_l4 tkv opv shv wyv bdv fr fev ((2 ^ fr) - 1) 1 ((f3_spread_l3 tkv opv shv wyv bdv fev ((f3_spread_l1 tkv opv shv wyv bdv icv fz 0 0 0).1) ((f3_spread_l1 tkv opv shv wyv bdv icv fz 0 0 0).2.1) fr 0 ((f3_spread_l2  (11 * (2 ^ fr)) 0 eav).2)).2)).2
set_option maxRecDepth 100000 in
set_option maxHeartbeats 4000000 in
theorem kX3_spread (l : Launch) (D : va_G) (h : Nat) (ad : Nat → Nat) (cI : ClassId) (cJ : ClassId) (cZ : ClassId) (thr : Int32) (sn : Nat) (tkv : Nat → Int64) (opv : Nat → Int64) (shv : Nat → Int64) (ldv : Nat → Int32) (lim : Int32) (wyv : Nat → Int64) (bdv : Nat → Bool) (isr : Bool) (rn : Nat) (rdv : Nat → Nat) (fz : Nat) (icv : Nat → Nat) (exa : Bool) (fr : Nat) (fev : Nat → Nat) (eav : Nat → Int64) (rs : Nat) (rov : Nat → Nat) (hfr : fr ≤ 11) (hfe : ∀ k, k < fr → fev k ≤ 20) (hfz : fz ≤ 20) (hic : ∀ k, k < fz → icv k ≤ 20) : gz_M l yX3_spread cX3_spread 13 none ({ frames := 1, cells := 0, slots := 0, locals := 26 } : Room) D [(cI, .int), (cJ, .long), (cZ, .boolean)] [.ref h] (wM h ad cI cJ cZ thr sn tkv opv shv ldv lim wyv bdv isr rn rdv fz icv exa fr fev eav rs rov) (none) (wM h ad cI cJ cZ thr sn tkv opv shv ldv lim wyv bdv isr rn rdv fz icv exa fr fev (f3_spread_eav tkv opv shv wyv bdv fz icv fr fev eav) rs rov) 0 0 := by
  refine gz_met l (by decide) (Nat.le_of_ble_eq_true rfl) [(0, .ref h)] rfl ?_
  intro sz p e s m args below meth c C hr hk hnm
  have C : gz_C p s m args c cX3_spread 13 RX3 D [(cI, .int), (cJ, .long), (cZ, .boolean)] (va_A (wM h ad cI cJ cZ thr sn tkv opv shv ldv lim wyv bdv isr rn rdv fz icv exa fr fev eav rs rov) sz) := C
  refine gz_lconst (v := 0) C dX3_spread_0 (by decide) ?_
  refine gz_lstore_n (lv2 := [(1, .long 0), (0, .ref h)]) C dX3_spread_1 (by decide) rfl ?_
  refine gz_iconst (v := nI 0) C dX3_spread_2 (by decide) ?_
  refine gz_istore_n (lv2 := [(3, .int (nI 0)), (1, .long 0), (0, .ref h)]) C dX3_spread_3 (by decide) rfl ?_
  refine gz_iconst (v := nI 0) C dX3_spread_4 (by decide) ?_
  refine gz_istore (lv2 := [(4, .int (nI 0)), (3, .int (nI 0)), (1, .long 0), (0, .ref h)]) C dX3_spread_5 (by decide) rfl ?_
  refine gz_lv (lv2 := [(0, .ref h), (1, .long 0), (3, .int (nI 0)), (4, .int (nI 0))]) [3, 2, 1, 0] rfl ?_
  refine lX3_spread_l1 h ad cI cJ cZ thr sn tkv opv shv ldv lim wyv bdv isr rn rdv fz icv exa fr fev eav rs rov (by first | assumption | omega) (by first | assumption | omega) ⟨Nat.le_of_ble_eq_true rfl, Nat.le_of_ble_eq_true rfl⟩ ⟨Nat.zero_le _, Nat.zero_le _⟩ C fz 0 0 0 (by omega) (by first | assumption | omega) ?_
  intro zme_l1 zhla_l1
  have h1 := bz_pow hfr
  refine gz_iconst (v := nI 1) C dX3_spread_44 (by decide) ?_
  refine gz_aload_n C 0 dX3_spread_45 rfl ?_
  refine gz_get (ci := 4) C iwX3 0 rfl rfl 15 (by decide) wk_395 rfl rfl dX3_spread_46 ?_
  refine gz_ishl (v := nI (2 ^ fr)) C dX3_spread_49 (bz_shl (by omega)) ?_
  refine gz_istore (lv2 := [(4, .int (nI (2 ^ fr))), (0, .ref h), (1, .long ((f3_spread_l1 tkv opv shv wyv bdv icv fz 0 0 0).1)), (3, .int (nI ((f3_spread_l1 tkv opv shv wyv bdv icv fz 0 0 0).2.1)))]) C dX3_spread_50 (by decide) rfl ?_
  refine gz_iconst (v := nI 0) C dX3_spread_52 (by decide) ?_
  refine gz_istore (lv2 := [(5, .int (nI 0)), (4, .int (nI (2 ^ fr))), (0, .ref h), (1, .long ((f3_spread_l1 tkv opv shv wyv bdv icv fz 0 0 0).1)), (3, .int (nI ((f3_spread_l1 tkv opv shv wyv bdv icv fz 0 0 0).2.1)))]) C dX3_spread_53 (by decide) rfl ?_
  refine gz_lv (lv2 := [(0, .ref h), (1, .long ((f3_spread_l1 tkv opv shv wyv bdv icv fz 0 0 0).1)), (3, .int (nI ((f3_spread_l1 tkv opv shv wyv bdv icv fz 0 0 0).2.1))), (4, .int (nI (2 ^ fr))), (5, .int (nI 0))]) [2, 3, 4, 1, 0] rfl ?_
  refine lX3_spread_l2 h ad cI cJ cZ thr sn tkv opv shv ldv lim wyv bdv isr rn rdv fz icv exa fr fev rs rov ((f3_spread_l1 tkv opv shv wyv bdv icv fz 0 0 0).1) ((f3_spread_l1 tkv opv shv wyv bdv icv fz 0 0 0).2.1) (2 ^ fr)  C (11 * (2 ^ fr)) 0 eav (by have h2 := bz_pow hfr; omega)  ?_
  intro zme_l2
  refine gz_iconst (v := nI 0) C dX3_spread_81 (by decide) ?_
  refine gz_istore (lv2 := [(5, .int (nI 0)), (0, .ref h), (1, .long ((f3_spread_l1 tkv opv shv wyv bdv icv fz 0 0 0).1)), (3, .int (nI ((f3_spread_l1 tkv opv shv wyv bdv icv fz 0 0 0).2.1))), (4, .int (nI (2 ^ fr)))]) C dX3_spread_82 (by decide) rfl ?_
  refine gz_lv (lv2 := [(0, .ref h), (1, .long ((f3_spread_l1 tkv opv shv wyv bdv icv fz 0 0 0).1)), (3, .int (nI ((f3_spread_l1 tkv opv shv wyv bdv icv fz 0 0 0).2.1))), (4, .int (nI (2 ^ fr))), (5, .int (nI 0))]) [1, 2, 3, 4, 0] rfl ?_
  refine lX3_spread_l3 h ad cI cJ cZ thr sn tkv opv shv ldv lim wyv bdv isr rn rdv fz icv exa fr fev rs rov ((f3_spread_l1 tkv opv shv wyv bdv icv fz 0 0 0).1) ((f3_spread_l1 tkv opv shv wyv bdv icv fz 0 0 0).2.1) (2 ^ fr) (by first | assumption | omega) (by first | assumption | omega) (by first | assumption | omega) ⟨Nat.le_of_ble_eq_true rfl, Nat.le_of_ble_eq_true rfl⟩ ⟨Nat.zero_le _, Nat.zero_le _⟩ C fr 0 ((f3_spread_l2  (11 * (2 ^ fr)) 0 eav).2) (by omega)  ?_
  intro zme_l3
  refine gz_iconst (v := nI 1) C dX3_spread_127 (by decide) ?_
  refine gz_istore (lv2 := [(5, .int (nI 1)), (0, .ref h), (1, .long ((f3_spread_l1 tkv opv shv wyv bdv icv fz 0 0 0).1)), (3, .int (nI ((f3_spread_l1 tkv opv shv wyv bdv icv fz 0 0 0).2.1))), (4, .int (nI (2 ^ fr)))]) C dX3_spread_128 (by decide) rfl ?_
  refine gz_lv (lv2 := [(0, .ref h), (4, .int (nI (2 ^ fr))), (5, .int (nI 1))]) [1, 4, 0] rfl ?_
  refine lX3_spread_l4 h ad cI cJ cZ thr sn tkv opv shv ldv lim wyv bdv isr rn rdv fz icv exa fr fev rs rov (2 ^ fr) (by first | assumption | omega) (by first | assumption | omega) rfl ⟨Nat.le_of_ble_eq_true rfl, Nat.le_of_ble_eq_true rfl⟩ ⟨Nat.zero_le _, Nat.zero_le _⟩ C ((2 ^ fr) - 1) 1 ((f3_spread_l3 tkv opv shv wyv bdv fev ((f3_spread_l1 tkv opv shv wyv bdv icv fz 0 0 0).1) ((f3_spread_l1 tkv opv shv wyv bdv icv fz 0 0 0).2.1) fr 0 ((f3_spread_l2  (11 * (2 ^ fr)) 0 eav).2)).2) (by have := bz_pow1 fr; omega)  ?_
  intro zme_l4
  exact gz_vret C hr hk (by first | rfl | (simp only [f3_spread_eav]) | (simp only [f3_spread_eav]; rfl)) (by first | rfl | (simp only [f3_spread_eav]) | (simp only [f3_spread_eav]; rfl)) (Nat.le_refl _) (Nat.le_refl _) dX3_spread_282


def q3_fit (tkv opv shv wyv : Nat → Int64) (bdv : Nat → Bool) (fev : Nat → Nat) (eav : Nat → Int64) (ls se aa j : Nat) : Prop := ls / 2 ^ j % 2 = 1 ∧ f3_wellDone tkv opv shv wyv bdv (fev j) (fev aa) (eav (11 * ls + j)) = eav (11 * se + aa)
def q3_clr (se a : Nat) : Nat := se &&& (2 ^ a ^^^ 4294967295)
theorem q3_clr_le (se a : Nat) : q3_clr se a ≤ se := Nat.and_le_left
def q3_av (fr : Nat) (P : Nat → Prop) (z : Int32) : Prop := z < 0 ∨ (z = nI (cl z) ∧ cl z < fr ∧ P (cl z))
theorem q3_av_n {fr k : Nat} {P : Nat → Prop} (hk : k < fr) (hf : fr ≤ 20) (h : P k) : q3_av fr P (nI k) := by
  right
  rw [cl_nI (by omega)]
  exact ⟨rfl, hk, h⟩
theorem q3_av_s {fr k : Nat} {P : Nat → Prop} {z : Int32} {t fi N : Int64} (h : q3_av fr P z) (hk : k < fr) (hf : fr ≤ 20) (hP : t < N → P k) : q3_av fr P (if N ≤ t then z else (if fi < t then z else nI k)) := by
  split
  · exact h
  · split
    · exact h
    · rename_i a b
      exact q3_av_n hk hf (hP (Int64.not_le.mp a))
theorem q3_bfs {fr v : Nat} {P : Nat → Prop} {z : Int32} {b : Bool} (h : q3_av fr P z) (hk : v < fr) (hf : fr ≤ 20) (hb : b = true → P v) : q3_av fr P (if b = true then nI v else z) := by
  split
  · rename_i e; exact q3_av_n hk hf (hb e)
  · exact h
theorem q3_bcs {fr v : Nat} {P : Nat → Prop} {z : Int32} {b : Bool} (h : ∀ j, v ≤ j → j < fr → P j → ¬ z < 0) (hv : 0 < v) (hk : v - 1 < fr) (hf : fr ≤ 20) (hb : P (v - 1) → b = true) : ∀ j, v - 1 ≤ j → j < fr → P j → ¬ (if b = true then nI (v - 1) else z) < 0 := by
  intro j h1 h2 h3
  split
  · exact nI_pos (by omega)
  · rename_i e
    by_cases hj : j = v - 1
    · subst hj; exact absurd (hb h3) e
    · exact h j (by omega) h2 h3
theorem q3_b2 {c1 c2 : Prop} [Decidable c1] [Decidable c2] : (if c1 then (if c2 then true else false) else false) = true ↔ c1 ∧ c2 := by
  by_cases h1 : c1 <;> by_cases h2 : c2 <;> simp [h1, h2]

def f3_findExact_l1 (tkv : Nat → Int64) (opv : Nat → Int64) (shv : Nat → Int64) (wyv : Nat → Int64) (bdv : Nat → Bool) (icv : Nat → Nat) : Nat → Int64 → Nat → Nat → (Nat → Nat) → Int64 × Nat × Nat × (Nat → Nat)
  | 0, ck, la, k, rov => (ck, la, k, rov)
  | n + 1, ck, la, k, rov => f3_findExact_l1 tkv opv shv wyv bdv icv n (f3_wellDone tkv opv shv wyv bdv la (icv k) ck) (icv k) (k + 1) (va_up rov k (icv k))
set_option maxRecDepth 100000 in
set_option maxHeartbeats 4000000 in
theorem lX3_findExact_l1 {p : Program} {l : Launch} {e : Env} {R : Room} {s : State} {m : MethodId} {args : Array Value} {below : List Frame} {meth : Method} {c : Code} {cells slots : Nat} {Q : State → Prop} {A : Nat → Prop} {D : va_G} (h : Nat) (ad : Nat → Nat) (cI : ClassId) (cJ : ClassId) (cZ : ClassId) (thr : Int32) (sn : Nat) (tkv : Nat → Int64) (opv : Nat → Int64) (shv : Nat → Int64) (ldv : Nat → Int32) (lim : Int32) (wyv : Nat → Int64) (bdv : Nat → Bool) (isr : Bool) (rn : Nat) (rdv : Nat → Nat) (fz : Nat) (icv : Nat → Nat) (exa : Bool) (fr : Nat) (fev : Nat → Nat) (eav : Nat → Int64) (rs : Nat) (hfz : fz ≤ 20) (hic : ∀ k, k < fz → icv k ≤ 20) (hR : 1 ≤ R.frames ∧ 26 ≤ R.locals) (hce : cells ≤ R.cells ∧ slots ≤ R.slots) (C : gz_C p s m args c cX3_findExact 13 RX3 D [(cI, .int), (cJ, .long), (cZ, .boolean)] A) : ∀ (n : Nat) (ck : Int64) (la : Nat) (k : Nat) (rov : Nat → Nat), (k + n = fz) → (la ≤ 20) → ((((f3_findExact_l1 tkv opv shv wyv bdv icv n ck la k rov).2.2.1) + 0 = fz) → (((f3_findExact_l1 tkv opv shv wyv bdv icv n ck la k rov).2.1) ≤ 20) → GZ p l e R s m args below meth c 13 D A cells slots Q (wM h ad cI cJ cZ thr sn tkv opv shv ldv lim wyv bdv isr rn rdv fz icv exa fr fev eav rs ((f3_findExact_l1 tkv opv shv wyv bdv icv n ck la k rov).2.2.2)) [(0, .ref h), (1, .long ((f3_findExact_l1 tkv opv shv wyv bdv icv n ck la k rov).1)), (3, .int (nI ((f3_findExact_l1 tkv opv shv wyv bdv icv n ck la k rov).2.1))), (4, .int (nI ((f3_findExact_l1 tkv opv shv wyv bdv icv n ck la k rov).2.2.1)))] [] 58) → GZ p l e R s m args below meth c 13 D A cells slots Q (wM h ad cI cJ cZ thr sn tkv opv shv ldv lim wyv bdv isr rn rdv fz icv exa fr fev eav rs rov) [(0, .ref h), (1, .long ck), (3, .int (nI la)), (4, .int (nI k))] [] 7 := by
  intro n
  induction n with
  | zero =>
    intro ck la k rov hme hla hx
    refine gz_iload C 3 dX3_findExact_7 rfl ?_
    refine gz_aload_n C 0 dX3_findExact_9 rfl ?_
    refine gz_get (ci := 4) C iwX3 0 rfl rfl 12 (by decide) wk_392 rfl rfl dX3_findExact_10 ?_
    refine gz_ncmp_ge C 58 (by omega) (by omega) dX3_findExact_13 (by decide) (fun h_1 => ?_) (fun h_1 => ?_)
    · skip
      exact gz_lv [0, 1, 2, 3] rfl (hx hme hla)
    · have g_1 : ¬ (fz ≤ k) := (Nat.not_le.mpr h_1)
      exfalso; omega
  | succ n ih =>
    intro ck la k rov hme hla hx
    refine gz_iload C 3 dX3_findExact_7 rfl ?_
    refine gz_aload_n C 0 dX3_findExact_9 rfl ?_
    refine gz_get (ci := 4) C iwX3 0 rfl rfl 12 (by decide) wk_392 rfl rfl dX3_findExact_10 ?_
    refine gz_ncmp_ge C 58 (by omega) (by omega) dX3_findExact_13 (by decide) (fun h_1 => ?_) (fun h_1 => ?_)
    · skip
      exfalso; omega
    · have g_1 : ¬ (fz ≤ k) := (Nat.not_le.mpr h_1)
      have hq := hic k (by omega)
      refine gz_aload_n C 0 dX3_findExact_16 rfl ?_
      refine gz_iload_n C 2 dX3_findExact_17 rfl ?_
      refine gz_aload_n C 0 dX3_findExact_18 rfl ?_
      refine gz_get (ci := 4) C iwX3 0 rfl rfl 13 (by decide) wk_393 rfl rfl dX3_findExact_19 ?_
      refine gz_iload C 3 dX3_findExact_22 rfl ?_
      refine gz_iald C 8 0 rfl rfl (by omega) (by decide) dX3_findExact_24 ?_
      refine gz_lload_n C 1 dX3_findExact_25 rfl ?_
      refine gz_callV (wr := []) (n := 3) (ws2 := (wM h ad cI cJ cZ thr sn tkv opv shv ldv lim wyv bdv isr rn rdv fz icv exa fr fev eav rs rov)) (st2 := [.long (f3_wellDone tkv opv shv wyv bdv la (icv k) ck)]) (cells2 := cells) (slots2 := slots) (ci := 4) C (kX3_wellDone l D h ad cI cJ cZ thr sn tkv opv shv ldv lim wyv bdv isr rn rdv fz icv exa fr fev eav rs rov la (icv k) ck (by first | assumption | omega) (by first | assumption | omega)) (WB_V wk_489 wk_491 ws_21 wk_4 wk_492) (by decide +kernel) ⟨⟨rfl, rfl⟩, Nat.le_trans (by decide) hR.1, Nat.le_trans (by decide) hR.2⟩ [0, 1, 2, 3, 4, 5, 6, 7, 8, 9, 10, 11] [] [0, 1, 2] rfl rfl rfl (by decide) rfl 0 rfl rfl rfl rfl (Nat.le_of_ble_eq_true rfl) dX3_findExact_26 hce rfl rfl rfl ?_
      refine gz_lstore_n (lv2 := [(1, .long (f3_wellDone tkv opv shv wyv bdv la (icv k) ck)), (0, .ref h), (3, .int (nI la)), (4, .int (nI k))]) C dX3_findExact_29 (by decide) rfl ?_
      refine gz_aload_n C 1 dX3_findExact_30 rfl ?_
      refine gz_get (ci := 4) C iwX3 0 rfl rfl 13 (by decide) wk_393 rfl rfl dX3_findExact_31 ?_
      refine gz_iload C 3 dX3_findExact_34 rfl ?_
      refine gz_iald C 8 0 rfl rfl (by omega) (by decide) dX3_findExact_36 ?_
      refine gz_istore_n (lv2 := [(3, .int (nI (icv k))), (1, .long (f3_wellDone tkv opv shv wyv bdv la (icv k) ck)), (0, .ref h), (4, .int (nI k))]) C dX3_findExact_37 (by decide) rfl ?_
      refine gz_aload_n C 2 dX3_findExact_38 rfl ?_
      refine gz_get (ci := 4) C iwX3 0 rfl rfl 19 (by decide) wk_399 rfl rfl dX3_findExact_39 ?_
      refine gz_iload C 3 dX3_findExact_42 rfl ?_
      refine gz_aload_n C 2 dX3_findExact_44 rfl ?_
      refine gz_get (ci := 4) C iwX3 0 rfl rfl 13 (by decide) wk_393 rfl rfl dX3_findExact_45 ?_
      refine gz_iload C 3 dX3_findExact_48 rfl ?_
      refine gz_iald C 8 0 rfl rfl (by omega) (by decide) dX3_findExact_50 ?_
      refine gz_iast (ws2 := (wM h ad cI cJ cZ thr sn tkv opv shv ldv lim wyv bdv isr rn rdv fz icv exa fr fev eav rs (va_up rov k (icv k)))) C 11 0 rfl rfl (by omega) (by decide) rfl dX3_findExact_51 ?_
      refine gz_iinc (v := nI (k + 1)) (lv2 := [(4, .int (nI (k + 1))), (3, .int (nI (icv k))), (1, .long (f3_wellDone tkv opv shv wyv bdv la (icv k) ck)), (0, .ref h)]) (k := 3) C dX3_findExact_52 rfl (nI_add _ 1) (by decide) rfl ?_
      refine gz_goto C 7 dX3_findExact_55 (by decide) ?_
      refine gz_lv [3, 2, 1, 0] rfl ?_
      simp only [f3_findExact_l1, if_neg g_1] at hx
      exact ih (f3_wellDone tkv opv shv wyv bdv la (icv k) ck) (icv k) (k + 1) (va_up rov k (icv k)) (by omega) (by omega) hx

def f3_findExact_l2 (wyv : Nat → Int64) (bdv : Nat → Bool) (fev : Nat → Nat) (eav : Nat → Int64) (se : Nat) : Nat → Int32 → Int64 → Nat → Int32 × Int64 × Nat
  | 0, at_, fi, u => (at_, fi, u)
  | n + 1, at_, fi, u => f3_findExact_l2 wyv bdv fev eav se n ((if 4000000000000000000 ≤ (f3_wellHome wyv bdv (fev (u - 1)) (eav ((11 * se) + (u - 1)))) then at_ else (if fi < (f3_wellHome wyv bdv (fev (u - 1)) (eav ((11 * se) + (u - 1)))) then at_ else nI (u - 1)))) ((if 4000000000000000000 ≤ (f3_wellHome wyv bdv (fev (u - 1)) (eav ((11 * se) + (u - 1)))) then fi else (if fi < (f3_wellHome wyv bdv (fev (u - 1)) (eav ((11 * se) + (u - 1)))) then fi else f3_wellHome wyv bdv (fev (u - 1)) (eav ((11 * se) + (u - 1)))))) ((u - 1))
set_option maxRecDepth 100000 in
set_option maxHeartbeats 4000000 in
theorem lX3_findExact_l2 {p : Program} {l : Launch} {e : Env} {R : Room} {s : State} {m : MethodId} {args : Array Value} {below : List Frame} {meth : Method} {c : Code} {cells slots : Nat} {Q : State → Prop} {A : Nat → Prop} {D : va_G} (h : Nat) (ad : Nat → Nat) (cI : ClassId) (cJ : ClassId) (cZ : ClassId) (thr : Int32) (sn : Nat) (tkv : Nat → Int64) (opv : Nat → Int64) (shv : Nat → Int64) (ldv : Nat → Int32) (lim : Int32) (wyv : Nat → Int64) (bdv : Nat → Bool) (isr : Bool) (rn : Nat) (rdv : Nat → Nat) (fz : Nat) (icv : Nat → Nat) (exa : Bool) (fr : Nat) (fev : Nat → Nat) (eav : Nat → Int64) (rs : Nat) (rov : Nat → Nat) (se : Nat) (hfr : fr ≤ 11) (hfe : ∀ k, k < fr → fev k ≤ 20) (hse : se < 2048) (hR : 1 ≤ R.frames ∧ 23 ≤ R.locals) (hce : cells ≤ R.cells ∧ slots ≤ R.slots) (C : gz_C p s m args c cX3_findExact 13 RX3 D [(cI, .int), (cJ, .long), (cZ, .boolean)] A) : ∀ (n : Nat) (at_ : Int32) (fi : Int64) (u : Nat), (u = n ∧ n ≤ 11) → (u ≤ fr) → (q3_av fr (fun k => f3_wellHome wyv bdv (fev k) (eav (11 * se + k)) < 4000000000000000000) at_) → ((((f3_findExact_l2 wyv bdv fev eav se n at_ fi u).2.2) = 0 ∧ 0 ≤ 11) → (((f3_findExact_l2 wyv bdv fev eav se n at_ fi u).2.2) ≤ fr) → (q3_av fr (fun k => f3_wellHome wyv bdv (fev k) (eav (11 * se + k)) < 4000000000000000000) ((f3_findExact_l2 wyv bdv fev eav se n at_ fi u).1)) → GZ p l e R s m args below meth c 13 D A cells slots Q (wM h ad cI cJ cZ thr sn tkv opv shv ldv lim wyv bdv isr rn rdv fz icv exa fr fev eav rs rov) [(0, .ref h), (4, .int (nI se)), (5, .int ((f3_findExact_l2 wyv bdv fev eav se n at_ fi u).1)), (6, .long ((f3_findExact_l2 wyv bdv fev eav se n at_ fi u).2.1)), (8, .int (nI ((f3_findExact_l2 wyv bdv fev eav se n at_ fi u).2.2) - 1))] [] 198) → GZ p l e R s m args below meth c 13 D A cells slots Q (wM h ad cI cJ cZ thr sn tkv opv shv ldv lim wyv bdv isr rn rdv fz icv exa fr fev eav rs rov) [(0, .ref h), (4, .int (nI se)), (5, .int at_), (6, .long fi), (8, .int (nI u - 1))] [] 136 := by
  intro n
  induction n with
  | zero =>
    intro at_ fi u hme hu hat hx
    refine gz_iload C 4 dX3_findExact_136 rfl ?_
    refine gz_if_lt C 198 dX3_findExact_138 (by decide) (fun h_1 => ?_) (fun h_1 => ?_)
    · skip
      exact gz_lv [0, 1, 2, 3, 4] rfl (hx hme hu hat)
    · have g_1 : ¬ (((nI u - 1)) < 0) := h_1
      exact absurd ((bz_ltz (by omega)).mpr (by omega)) g_1
  | succ n ih =>
    intro at_ fi u hme hu hat hx
    refine gz_iload C 4 dX3_findExact_136 rfl ?_
    refine gz_if_lt C 198 dX3_findExact_138 (by decide) (fun h_1 => ?_) (fun h_1 => ?_)
    · skip
      exact absurd ((bz_ltz (by omega)).mp h_1) (by omega)
    · have g_1 : ¬ (((nI u - 1)) < 0) := h_1
      have hcv := bz_pd (u := u) (by omega)
      refine gz_lve (lv2 := [(0, .ref h), (4, .int (nI se)), (5, .int at_), (6, .long fi), (8, .int (nI (u - 1)))]) (by rw [hcv]) ?_
      have hq := hfe (u - 1) (by omega)
      refine gz_aload_n C 0 dX3_findExact_141 rfl ?_
      refine gz_aload_n C 0 dX3_findExact_142 rfl ?_
      refine gz_get (ci := 4) C iwX3 0 rfl rfl 16 (by decide) wk_396 rfl rfl dX3_findExact_143 ?_
      refine gz_iload C 4 dX3_findExact_146 rfl ?_
      refine gz_iald C 9 0 rfl rfl (by omega) (by decide) dX3_findExact_148 ?_
      refine gz_aload_n C 0 dX3_findExact_149 rfl ?_
      refine gz_get (ci := 4) C iwX3 0 rfl rfl 17 (by decide) wk_397 rfl rfl dX3_findExact_150 ?_
      refine gz_bipush (v := nI 11) C dX3_findExact_153 (by decide) ?_
      refine gz_iload C 1 dX3_findExact_155 rfl ?_
      refine gz_imul (v := nI (11 * se)) C dX3_findExact_157 (pk_mul _ _) ?_
      refine gz_iload C 4 dX3_findExact_158 rfl ?_
      refine gz_iadd (v := nI ((11 * se) + (u - 1))) C dX3_findExact_160 (nI_add _ _) ?_
      refine gz_lald C 10 1 rfl rfl (by omega) (by decide) dX3_findExact_161 ?_
      refine gz_callV (wr := []) (n := 2) (ws2 := (wM h ad cI cJ cZ thr sn tkv opv shv ldv lim wyv bdv isr rn rdv fz icv exa fr fev eav rs rov)) (st2 := [.long (f3_wellHome wyv bdv (fev (u - 1)) (eav ((11 * se) + (u - 1))))]) (cells2 := cells) (slots2 := slots) (ci := 4) C (kX3_wellHome l D h ad cI cJ cZ thr sn tkv opv shv ldv lim wyv bdv isr rn rdv fz icv exa fr fev eav rs rov (fev (u - 1)) (eav ((11 * se) + (u - 1))) (by first | assumption | omega)) (WB_V wk_498 wk_500 ws_23 wk_4 wk_501) (by decide +kernel) ⟨⟨rfl, rfl⟩, Nat.le_trans (by decide) hR.1, Nat.le_trans (by decide) hR.2⟩ [0, 1, 2, 3, 4, 5, 6, 7, 8, 9, 10, 11] [] [0, 1, 2] rfl rfl rfl (by decide) rfl 0 rfl rfl rfl rfl (Nat.le_of_ble_eq_true rfl) dX3_findExact_162 hce rfl rfl rfl ?_
      refine gz_lstore (lv2 := [(9, .long (f3_wellHome wyv bdv (fev (u - 1)) (eav ((11 * se) + (u - 1))))), (0, .ref h), (4, .int (nI se)), (5, .int at_), (6, .long fi), (8, .int (nI (u - 1)))]) C dX3_findExact_165 (by decide) rfl ?_
      refine gz_lload C 0 dX3_findExact_167 rfl ?_
      refine gz_ldc2 (v := 4000000000000000000) C wk_493 dX3_findExact_169 ?_
      refine gz_J (ws2 := (wM h ad cI cJ cZ thr sn tkv opv shv ldv lim wyv bdv isr rn rdv fz icv exa fr fev eav rs rov)) (lv2 := [(9, .long (f3_wellHome wyv bdv (fev (u - 1)) (eav ((11 * se) + (u - 1))))), (0, .ref h), (4, .int (nI se)), (5, .int ((if 4000000000000000000 ≤ (f3_wellHome wyv bdv (fev (u - 1)) (eav ((11 * se) + (u - 1)))) then at_ else (if fi < (f3_wellHome wyv bdv (fev (u - 1)) (eav ((11 * se) + (u - 1)))) then at_ else nI (u - 1))))), (6, .long ((if 4000000000000000000 ≤ (f3_wellHome wyv bdv (fev (u - 1)) (eav ((11 * se) + (u - 1)))) then fi else (if fi < (f3_wellHome wyv bdv (fev (u - 1)) (eav ((11 * se) + (u - 1)))) then fi else f3_wellHome wyv bdv (fev (u - 1)) (eav ((11 * se) + (u - 1))))))), (8, .int (nI (u - 1)))]) (st2 := []) (pc2 := 192) ?_ (fun J_2 => ?_)
      rotate_left
      · refine gz_lcmp_ge C 192 dX3_findExact_172 dX3_findExact_173 (by decide) (fun h_2 => ?_) (fun h_2 => ?_)
        · skip
          simp only [if_pos h_2] at J_2 ⊢
          exact gz_lv [0, 1, 2, 3, 4, 5] rfl J_2
        · have g_2 : ¬ (4000000000000000000 ≤ (f3_wellHome wyv bdv (fev (u - 1)) (eav ((11 * se) + (u - 1))))) := h_2
          refine gz_lload C 0 dX3_findExact_176 rfl ?_
          refine gz_lload C 4 dX3_findExact_178 rfl ?_
          refine gz_J (ws2 := (wM h ad cI cJ cZ thr sn tkv opv shv ldv lim wyv bdv isr rn rdv fz icv exa fr fev eav rs rov)) (lv2 := [(9, .long (f3_wellHome wyv bdv (fev (u - 1)) (eav ((11 * se) + (u - 1))))), (0, .ref h), (4, .int (nI se)), (5, .int ((if fi < (f3_wellHome wyv bdv (fev (u - 1)) (eav ((11 * se) + (u - 1)))) then at_ else nI (u - 1)))), (6, .long ((if fi < (f3_wellHome wyv bdv (fev (u - 1)) (eav ((11 * se) + (u - 1)))) then fi else f3_wellHome wyv bdv (fev (u - 1)) (eav ((11 * se) + (u - 1)))))), (8, .int (nI (u - 1)))]) (st2 := []) (pc2 := 192) ?_ (fun J_3 => ?_)
          rotate_left
          · refine gz_lcmp_gt C 192 dX3_findExact_180 dX3_findExact_181 (by decide) (fun h_3 => ?_) (fun h_3 => ?_)
            · skip
              simp only [if_pos h_3] at J_3 ⊢
              exact gz_lv [0, 1, 2, 3, 4, 5] rfl J_3
            · have g_3 : ¬ (fi < (f3_wellHome wyv bdv (fev (u - 1)) (eav ((11 * se) + (u - 1))))) := h_3
              refine gz_lload C 0 dX3_findExact_184 rfl ?_
              refine gz_lstore (lv2 := [(6, .long (f3_wellHome wyv bdv (fev (u - 1)) (eav ((11 * se) + (u - 1))))), (9, .long (f3_wellHome wyv bdv (fev (u - 1)) (eav ((11 * se) + (u - 1))))), (0, .ref h), (4, .int (nI se)), (5, .int at_), (8, .int (nI (u - 1)))]) C dX3_findExact_186 (by decide) rfl ?_
              refine gz_iload C 5 dX3_findExact_188 rfl ?_
              refine gz_istore (lv2 := [(5, .int (nI (u - 1))), (6, .long (f3_wellHome wyv bdv (fev (u - 1)) (eav ((11 * se) + (u - 1))))), (9, .long (f3_wellHome wyv bdv (fev (u - 1)) (eav ((11 * se) + (u - 1))))), (0, .ref h), (4, .int (nI se)), (8, .int (nI (u - 1)))]) C dX3_findExact_190 (by decide) rfl ?_
              simp only [if_neg g_3] at J_3 ⊢
              exact gz_lv [2, 3, 4, 0, 1, 5] rfl J_3
          simp only [if_neg g_2] at J_2 ⊢
          exact gz_lv [0, 1, 2, 3, 4, 5] rfl J_2
      refine gz_iinc (v := (nI (u - 1) - 1)) (lv2 := [(8, .int (nI (u - 1) - 1)), (9, .long (f3_wellHome wyv bdv (fev (u - 1)) (eav ((11 * se) + (u - 1))))), (0, .ref h), (4, .int (nI se)), (5, .int ((if 4000000000000000000 ≤ (f3_wellHome wyv bdv (fev (u - 1)) (eav ((11 * se) + (u - 1)))) then at_ else (if fi < (f3_wellHome wyv bdv (fev (u - 1)) (eav ((11 * se) + (u - 1)))) then at_ else nI (u - 1))))), (6, .long ((if 4000000000000000000 ≤ (f3_wellHome wyv bdv (fev (u - 1)) (eav ((11 * se) + (u - 1)))) then fi else (if fi < (f3_wellHome wyv bdv (fev (u - 1)) (eav ((11 * se) + (u - 1)))) then fi else f3_wellHome wyv bdv (fev (u - 1)) (eav ((11 * se) + (u - 1)))))))]) (k := 5) C dX3_findExact_192 rfl (bz_dec _) (by decide) rfl ?_
      refine gz_goto C 136 dX3_findExact_195 (by decide) ?_
      refine gz_lv [2, 3, 4, 5, 0] rfl ?_
      simp only [f3_findExact_l2, if_neg g_1] at hx
      exact ih ((if 4000000000000000000 ≤ (f3_wellHome wyv bdv (fev (u - 1)) (eav ((11 * se) + (u - 1)))) then at_ else (if fi < (f3_wellHome wyv bdv (fev (u - 1)) (eav ((11 * se) + (u - 1)))) then at_ else nI (u - 1)))) ((if 4000000000000000000 ≤ (f3_wellHome wyv bdv (fev (u - 1)) (eav ((11 * se) + (u - 1)))) then fi else (if fi < (f3_wellHome wyv bdv (fev (u - 1)) (eav ((11 * se) + (u - 1)))) then fi else f3_wellHome wyv bdv (fev (u - 1)) (eav ((11 * se) + (u - 1)))))) ((u - 1)) (by omega) (by omega) (q3_av_s hat (by omega) (by omega) (fun z => z)) hx

def f3_findExact_l4 (tkv : Nat → Int64) (opv : Nat → Int64) (shv : Nat → Int64) (wyv : Nat → Int64) (bdv : Nat → Bool) (fev : Nat → Nat) (eav : Nat → Int64) (se : Nat) (aa : Nat) (ls : Nat) : Nat → Int32 → Nat → Int32 × Nat
  | 0, bf, v => (bf, v)
  | n + 1, bf, v => f3_findExact_l4 tkv opv shv wyv bdv fev eav se aa ls n ((if ((if ((ls / 2 ^ (v - 1)) % 2) = 1 then (if (f3_wellDone tkv opv shv wyv bdv (fev (v - 1)) (fev aa) (eav ((11 * ls) + (v - 1)))) = (eav ((11 * se) + aa)) then true else false) else false)) = true then nI (v - 1) else bf)) ((v - 1))
set_option maxRecDepth 100000 in
set_option maxHeartbeats 4000000 in
theorem lX3_findExact_l4 {p : Program} {l : Launch} {e : Env} {R : Room} {s : State} {m : MethodId} {args : Array Value} {below : List Frame} {meth : Method} {c : Code} {cells slots : Nat} {Q : State → Prop} {A : Nat → Prop} {D : va_G} (h : Nat) (ad : Nat → Nat) (cI : ClassId) (cJ : ClassId) (cZ : ClassId) (thr : Int32) (sn : Nat) (tkv : Nat → Int64) (opv : Nat → Int64) (shv : Nat → Int64) (ldv : Nat → Int32) (lim : Int32) (wyv : Nat → Int64) (bdv : Nat → Bool) (isr : Bool) (rn : Nat) (rdv : Nat → Nat) (fz : Nat) (icv : Nat → Nat) (exa : Bool) (fr : Nat) (fev : Nat → Nat) (eav : Nat → Int64) (rs : Nat) (rov : Nat → Nat) (se : Nat) (aa : Nat) (pp : Nat) (ls : Nat) (hfr : fr ≤ 11) (hfe : ∀ k, k < fr → fev k ≤ 20) (hse : se < 2048) (hls : ls < 2048) (haa : aa < fr) (hR : 1 ≤ R.frames ∧ 26 ≤ R.locals) (hce : cells ≤ R.cells ∧ slots ≤ R.slots) (C : gz_C p s m args c cX3_findExact 13 RX3 D [(cI, .int), (cJ, .long), (cZ, .boolean)] A) : ∀ (n : Nat) (bf : Int32) (v : Nat), (v = n ∧ n ≤ 11) → (v ≤ fr) → (q3_av fr (q3_fit tkv opv shv wyv bdv fev eav ls se aa) bf) → (∀ j, v ≤ j → j < fr → q3_fit tkv opv shv wyv bdv fev eav ls se aa j → ¬ bf < 0) → ((((f3_findExact_l4 tkv opv shv wyv bdv fev eav se aa ls n bf v).2) = 0 ∧ 0 ≤ 11) → (((f3_findExact_l4 tkv opv shv wyv bdv fev eav se aa ls n bf v).2) ≤ fr) → (q3_av fr (q3_fit tkv opv shv wyv bdv fev eav ls se aa) ((f3_findExact_l4 tkv opv shv wyv bdv fev eav se aa ls n bf v).1)) → (∀ j, ((f3_findExact_l4 tkv opv shv wyv bdv fev eav se aa ls n bf v).2) ≤ j → j < fr → q3_fit tkv opv shv wyv bdv fev eav ls se aa j → ¬ ((f3_findExact_l4 tkv opv shv wyv bdv fev eav se aa ls n bf v).1) < 0) → GZ p l e R s m args below meth c 13 D A cells slots Q (wM h ad cI cJ cZ thr sn tkv opv shv ldv lim wyv bdv isr rn rdv fz icv exa fr fev eav rs rov) [(0, .ref h), (4, .int (nI se)), (5, .int (nI aa)), (8, .int (nI pp)), (9, .int (nI ls)), (10, .int ((f3_findExact_l4 tkv opv shv wyv bdv fev eav se aa ls n bf v).1)), (11, .int (nI ((f3_findExact_l4 tkv opv shv wyv bdv fev eav se aa ls n bf v).2) - 1))] [] 349) → GZ p l e R s m args below meth c 13 D A cells slots Q (wM h ad cI cJ cZ thr sn tkv opv shv ldv lim wyv bdv isr rn rdv fz icv exa fr fev eav rs rov) [(0, .ref h), (4, .int (nI se)), (5, .int (nI aa)), (8, .int (nI pp)), (9, .int (nI ls)), (10, .int bf), (11, .int (nI v - 1))] [] 258 := by
  intro n
  induction n with
  | zero =>
    intro bf v hme hv hbf hbc hx
    refine gz_iload C 6 dX3_findExact_258 rfl ?_
    refine gz_if_lt C 349 dX3_findExact_260 (by decide) (fun h_1 => ?_) (fun h_1 => ?_)
    · skip
      exact gz_lv [0, 1, 2, 3, 4, 5, 6] rfl (hx hme hv hbf hbc)
    · have g_1 : ¬ (((nI v - 1)) < 0) := h_1
      exact absurd ((bz_ltz (by omega)).mpr (by omega)) g_1
  | succ n ih =>
    intro bf v hme hv hbf hbc hx
    refine gz_iload C 6 dX3_findExact_258 rfl ?_
    refine gz_if_lt C 349 dX3_findExact_260 (by decide) (fun h_1 => ?_) (fun h_1 => ?_)
    · skip
      exact absurd ((bz_ltz (by omega)).mp h_1) (by omega)
    · have g_1 : ¬ (((nI v - 1)) < 0) := h_1
      have hcv := bz_pd (u := v) (by omega)
      refine gz_lve (lv2 := [(0, .ref h), (4, .int (nI se)), (5, .int (nI aa)), (8, .int (nI pp)), (9, .int (nI ls)), (10, .int bf), (11, .int (nI (v - 1)))]) (by rw [hcv]) ?_
      have hq := hfe (v - 1) (by omega)
      have hq2 := hfe aa haa
      refine gz_iload C 4 dX3_findExact_263 rfl ?_
      refine gz_iload C 6 dX3_findExact_265 rfl ?_
      refine gz_ishr (v := nI (ls / 2 ^ (v - 1))) C dX3_findExact_267 (bz_shr (by omega) (by omega)) ?_
      refine gz_iconst (v := nI 1) C dX3_findExact_268 (by decide) ?_
      refine gz_iand (v := nI ((ls / 2 ^ (v - 1)) % 2)) C dX3_findExact_269 (bz_and1 _ (Nat.lt_of_le_of_lt (Nat.div_le_self _ _) (by omega))) ?_
      refine gz_iconst (v := nI 1) C dX3_findExact_270 (by decide) ?_
      refine gz_J (ws2 := (wM h ad cI cJ cZ thr sn tkv opv shv ldv lim wyv bdv isr rn rdv fz icv exa fr fev eav rs rov)) (lv2 := [(0, .ref h), (4, .int (nI se)), (5, .int (nI aa)), (8, .int (nI pp)), (9, .int (nI ls)), (10, .int bf), (11, .int (nI (v - 1)))]) (st2 := [.int (nI ((if ((ls / 2 ^ (v - 1)) % 2) = 1 then (if (f3_wellDone tkv opv shv wyv bdv (fev (v - 1)) (fev aa) (eav ((11 * ls) + (v - 1)))) = (eav ((11 * se) + aa)) then 1 else 0) else 0)))]) (pc2 := 327) ?_ (fun J_2 => ?_)
      rotate_left
      · refine gz_ncmp_ne C 326 (by omega) (by omega) dX3_findExact_271 (by decide) (fun h_2 => ?_) (fun h_2 => ?_)
        · have g_2 : ¬ (((ls / 2 ^ (v - 1)) % 2) = 1) := h_2
          refine gz_iconst (v := nI 0) C dX3_findExact_326 (by decide) ?_
          simp only [if_neg g_2] at J_2 ⊢
          exact gz_lv [0, 1, 2, 3, 4, 5, 6] rfl J_2
        · skip
          refine gz_aload_n C 0 dX3_findExact_274 rfl ?_
          refine gz_aload_n C 0 dX3_findExact_275 rfl ?_
          refine gz_get (ci := 4) C iwX3 0 rfl rfl 16 (by decide) wk_396 rfl rfl dX3_findExact_276 ?_
          refine gz_iload C 6 dX3_findExact_279 rfl ?_
          refine gz_iald C 9 0 rfl rfl (by omega) (by decide) dX3_findExact_281 ?_
          refine gz_aload_n C 0 dX3_findExact_282 rfl ?_
          refine gz_get (ci := 4) C iwX3 0 rfl rfl 16 (by decide) wk_396 rfl rfl dX3_findExact_283 ?_
          refine gz_iload C 2 dX3_findExact_286 rfl ?_
          refine gz_iald C 9 0 rfl rfl (by omega) (by decide) dX3_findExact_288 ?_
          refine gz_aload_n C 0 dX3_findExact_289 rfl ?_
          refine gz_get (ci := 4) C iwX3 0 rfl rfl 17 (by decide) wk_397 rfl rfl dX3_findExact_290 ?_
          refine gz_bipush (v := nI 11) C dX3_findExact_293 (by decide) ?_
          refine gz_iload C 4 dX3_findExact_295 rfl ?_
          refine gz_imul (v := nI (11 * ls)) C dX3_findExact_297 (pk_mul _ _) ?_
          refine gz_iload C 6 dX3_findExact_298 rfl ?_
          refine gz_iadd (v := nI ((11 * ls) + (v - 1))) C dX3_findExact_300 (nI_add _ _) ?_
          refine gz_lald C 10 1 rfl rfl (by omega) (by decide) dX3_findExact_301 ?_
          refine gz_callV (wr := []) (n := 3) (ws2 := (wM h ad cI cJ cZ thr sn tkv opv shv ldv lim wyv bdv isr rn rdv fz icv exa fr fev eav rs rov)) (st2 := [.long (f3_wellDone tkv opv shv wyv bdv (fev (v - 1)) (fev aa) (eav ((11 * ls) + (v - 1))))]) (cells2 := cells) (slots2 := slots) (ci := 4) C (kX3_wellDone l D h ad cI cJ cZ thr sn tkv opv shv ldv lim wyv bdv isr rn rdv fz icv exa fr fev eav rs rov (fev (v - 1)) (fev aa) (eav ((11 * ls) + (v - 1))) (by first | assumption | omega) (by first | assumption | omega)) (WB_V wk_489 wk_491 ws_21 wk_4 wk_492) (by decide +kernel) ⟨⟨rfl, rfl⟩, Nat.le_trans (by decide) hR.1, Nat.le_trans (by decide) hR.2⟩ [0, 1, 2, 3, 4, 5, 6, 7, 8, 9, 10, 11] [] [0, 1, 2] rfl rfl rfl (by decide) rfl 0 rfl rfl rfl rfl (Nat.le_of_ble_eq_true rfl) dX3_findExact_302 hce rfl rfl rfl ?_
          refine gz_aload_n C 0 dX3_findExact_305 rfl ?_
          refine gz_get (ci := 4) C iwX3 0 rfl rfl 17 (by decide) wk_397 rfl rfl dX3_findExact_306 ?_
          refine gz_bipush (v := nI 11) C dX3_findExact_309 (by decide) ?_
          refine gz_iload C 1 dX3_findExact_311 rfl ?_
          refine gz_imul (v := nI (11 * se)) C dX3_findExact_313 (pk_mul _ _) ?_
          refine gz_iload C 2 dX3_findExact_314 rfl ?_
          refine gz_iadd (v := nI ((11 * se) + aa)) C dX3_findExact_316 (nI_add _ _) ?_
          refine gz_lald C 10 1 rfl rfl (by omega) (by decide) dX3_findExact_317 ?_
          refine gz_J (ws2 := (wM h ad cI cJ cZ thr sn tkv opv shv ldv lim wyv bdv isr rn rdv fz icv exa fr fev eav rs rov)) (lv2 := [(0, .ref h), (4, .int (nI se)), (5, .int (nI aa)), (8, .int (nI pp)), (9, .int (nI ls)), (10, .int bf), (11, .int (nI (v - 1)))]) (st2 := [.int (nI ((if (f3_wellDone tkv opv shv wyv bdv (fev (v - 1)) (fev aa) (eav ((11 * ls) + (v - 1)))) = (eav ((11 * se) + aa)) then 1 else 0)))]) (pc2 := 327) ?_ (fun J_3 => ?_)
          rotate_left
          · refine gz_lcmp_ne C 326 dX3_findExact_318 dX3_findExact_319 (by decide) (fun h_3 => ?_) (fun h_3 => ?_)
            · have g_3 : ¬ ((f3_wellDone tkv opv shv wyv bdv (fev (v - 1)) (fev aa) (eav ((11 * ls) + (v - 1)))) = (eav ((11 * se) + aa))) := h_3
              refine gz_iconst (v := nI 0) C dX3_findExact_326 (by decide) ?_
              simp only [if_neg g_3] at J_3 ⊢
              exact gz_lv [0, 1, 2, 3, 4, 5, 6] rfl J_3
            · skip
              refine gz_iconst (v := nI 1) C dX3_findExact_322 (by decide) ?_
              refine gz_goto C 327 dX3_findExact_323 (by decide) ?_
              simp only [if_pos h_3] at J_3 ⊢
              exact gz_lv [0, 1, 2, 3, 4, 5, 6] rfl J_3
          simp only [if_pos h_2] at J_2 ⊢
          exact gz_lv [0, 1, 2, 3, 4, 5, 6] rfl J_2
      refine gz_istore (lv2 := [(12, .int (nI ((if ((ls / 2 ^ (v - 1)) % 2) = 1 then (if (f3_wellDone tkv opv shv wyv bdv (fev (v - 1)) (fev aa) (eav ((11 * ls) + (v - 1)))) = (eav ((11 * se) + aa)) then 1 else 0) else 0)))), (0, .ref h), (4, .int (nI se)), (5, .int (nI aa)), (8, .int (nI pp)), (9, .int (nI ls)), (10, .int bf), (11, .int (nI (v - 1)))]) C dX3_findExact_327 (by decide) rfl ?_
      refine gz_iload C 0 dX3_findExact_329 rfl ?_
      refine gz_sw (v := .int (nI ((if ((ls / 2 ^ (v - 1)) % 2) = 1 then (if (f3_wellDone tkv opv shv wyv bdv (fev (v - 1)) (fev aa) (eav ((11 * ls) + (v - 1)))) = (eav ((11 * se) + aa)) then 1 else 0) else 0)))) (w := .int (bI ((if ((ls / 2 ^ (v - 1)) % 2) = 1 then (if (f3_wellDone tkv opv shv wyv bdv (fev (v - 1)) (fev aa) (eav ((11 * ls) + (v - 1)))) = (eav ((11 * se) + aa)) then true else false) else false)))) (by rw [show nI ((if ((ls / 2 ^ (v - 1)) % 2) = 1 then (if (f3_wellDone tkv opv shv wyv bdv (fev (v - 1)) (fev aa) (eav ((11 * ls) + (v - 1)))) = (eav ((11 * se) + aa)) then 1 else 0) else 0)) = bI ((if ((ls / 2 ^ (v - 1)) % 2) = 1 then (if (f3_wellDone tkv opv shv wyv bdv (fev (v - 1)) (fev aa) (eav ((11 * ls) + (v - 1)))) = (eav ((11 * se) + aa)) then true else false) else false)) from (by first | rfl | decide | ((repeat' split) <;> rfl))]) ?_
      refine gz_J (ws2 := (wM h ad cI cJ cZ thr sn tkv opv shv ldv lim wyv bdv isr rn rdv fz icv exa fr fev eav rs rov)) (lv2 := [(12, .int (nI ((if ((ls / 2 ^ (v - 1)) % 2) = 1 then (if (f3_wellDone tkv opv shv wyv bdv (fev (v - 1)) (fev aa) (eav ((11 * ls) + (v - 1)))) = (eav ((11 * se) + aa)) then 1 else 0) else 0)))), (0, .ref h), (4, .int (nI se)), (5, .int (nI aa)), (8, .int (nI pp)), (9, .int (nI ls)), (10, .int bf), (11, .int (nI (v - 1)))]) (st2 := [.int ((if ((if ((ls / 2 ^ (v - 1)) % 2) = 1 then (if (f3_wellDone tkv opv shv wyv bdv (fev (v - 1)) (fev aa) (eav ((11 * ls) + (v - 1)))) = (eav ((11 * se) + aa)) then true else false) else false)) = true then nI (v - 1) else bf))]) (pc2 := 341) ?_ (fun J_4 => ?_)
      rotate_left
      · refine gz_bif_eq C 339 dX3_findExact_331 (by decide) (fun h_4 => ?_) (fun h_4 => ?_)
        · have g_4 : ¬ (((if ((ls / 2 ^ (v - 1)) % 2) = 1 then (if (f3_wellDone tkv opv shv wyv bdv (fev (v - 1)) (fev aa) (eav ((11 * ls) + (v - 1)))) = (eav ((11 * se) + aa)) then true else false) else false)) = true) := (by rw [h_4]; decide)
          refine gz_iload C 6 dX3_findExact_339 rfl ?_
          simp only [if_neg g_4] at J_4 ⊢
          exact gz_lv [0, 1, 2, 3, 4, 5, 6, 7] rfl J_4
        · skip
          refine gz_iload C 7 dX3_findExact_334 rfl ?_
          refine gz_goto C 341 dX3_findExact_336 (by decide) ?_
          simp only [if_pos h_4] at J_4 ⊢
          exact gz_lv [0, 1, 2, 3, 4, 5, 6, 7] rfl J_4
      refine gz_istore (lv2 := [(10, .int ((if ((if ((ls / 2 ^ (v - 1)) % 2) = 1 then (if (f3_wellDone tkv opv shv wyv bdv (fev (v - 1)) (fev aa) (eav ((11 * ls) + (v - 1)))) = (eav ((11 * se) + aa)) then true else false) else false)) = true then nI (v - 1) else bf))), (12, .int (nI ((if ((ls / 2 ^ (v - 1)) % 2) = 1 then (if (f3_wellDone tkv opv shv wyv bdv (fev (v - 1)) (fev aa) (eav ((11 * ls) + (v - 1)))) = (eav ((11 * se) + aa)) then 1 else 0) else 0)))), (0, .ref h), (4, .int (nI se)), (5, .int (nI aa)), (8, .int (nI pp)), (9, .int (nI ls)), (11, .int (nI (v - 1)))]) C dX3_findExact_341 (by decide) rfl ?_
      refine gz_iinc (v := (nI (v - 1) - 1)) (lv2 := [(11, .int (nI (v - 1) - 1)), (10, .int ((if ((if ((ls / 2 ^ (v - 1)) % 2) = 1 then (if (f3_wellDone tkv opv shv wyv bdv (fev (v - 1)) (fev aa) (eav ((11 * ls) + (v - 1)))) = (eav ((11 * se) + aa)) then true else false) else false)) = true then nI (v - 1) else bf))), (12, .int (nI ((if ((ls / 2 ^ (v - 1)) % 2) = 1 then (if (f3_wellDone tkv opv shv wyv bdv (fev (v - 1)) (fev aa) (eav ((11 * ls) + (v - 1)))) = (eav ((11 * se) + aa)) then 1 else 0) else 0)))), (0, .ref h), (4, .int (nI se)), (5, .int (nI aa)), (8, .int (nI pp)), (9, .int (nI ls))]) (k := 7) C dX3_findExact_343 rfl (bz_dec _) (by decide) rfl ?_
      refine gz_goto C 258 dX3_findExact_346 (by decide) ?_
      refine gz_lv [3, 4, 5, 6, 7, 1, 0] rfl ?_
      simp only [f3_findExact_l4, if_neg g_1] at hx
      exact ih ((if ((if ((ls / 2 ^ (v - 1)) % 2) = 1 then (if (f3_wellDone tkv opv shv wyv bdv (fev (v - 1)) (fev aa) (eav ((11 * ls) + (v - 1)))) = (eav ((11 * se) + aa)) then true else false) else false)) = true then nI (v - 1) else bf)) ((v - 1)) (by omega) (by omega) (q3_bfs hbf (by omega) (by omega) (fun z => q3_b2.mp z)) (q3_bcs hbc (by omega) (by omega) (by omega) (fun z => q3_b2.mpr z)) hx

def f3_findExact_l3 (tkv : Nat → Int64) (opv : Nat → Int64) (shv : Nat → Int64) (wyv : Nat → Int64) (bdv : Nat → Bool) (fr : Nat) (fev : Nat → Nat) (eav : Nat → Int64) : Nat → Nat → Int32 → Nat → (Nat → Nat) → Nat × Int32 × Nat × (Nat → Nat)
  | 0, se, at_, u, rov => (se, at_, u, rov)
  | n + 1, se, at_, u, rov => f3_findExact_l3 tkv opv shv wyv bdv fr fev eav n (se &&& ((2 ^ (cl at_)) ^^^ 4294967295)) ((f3_findExact_l4 tkv opv shv wyv bdv fev eav se (cl at_) (se &&& ((2 ^ (cl at_)) ^^^ 4294967295)) fr ((-1)) fr).1) ((u - 1)) (va_up rov (u - 1) (fev (cl at_)))
set_option maxRecDepth 100000 in
set_option maxHeartbeats 4000000 in
theorem lX3_findExact_l3 {p : Program} {l : Launch} {e : Env} {R : Room} {s : State} {m : MethodId} {args : Array Value} {below : List Frame} {meth : Method} {c : Code} {cells slots : Nat} {Q : State → Prop} {A : Nat → Prop} {D : va_G} (h : Nat) (ad : Nat → Nat) (cI : ClassId) (cJ : ClassId) (cZ : ClassId) (thr : Int32) (sn : Nat) (tkv : Nat → Int64) (opv : Nat → Int64) (shv : Nat → Int64) (ldv : Nat → Int32) (lim : Int32) (wyv : Nat → Int64) (bdv : Nat → Bool) (isr : Bool) (rn : Nat) (rdv : Nat → Nat) (fz : Nat) (icv : Nat → Nat) (exa : Bool) (fr : Nat) (fev : Nat → Nat) (eav : Nat → Int64) (rs : Nat) (hfr : fr ≤ 11) (hfe : ∀ k, k < fr → fev k ≤ 20) (V : Nat → Nat → Nat → Prop) (hV1 : ∀ n se a, V (n + 1) se a → a < fr ∧ se < 2 ^ fr ∧ (0 < n → ∃ j, j < fr ∧ q3_fit tkv opv shv wyv bdv fev eav (q3_clr se a) se a j)) (hV2 : ∀ n se a j, V (n + 1) se a → 0 < n → j < fr → q3_fit tkv opv shv wyv bdv fev eav (q3_clr se a) se a j → V n (q3_clr se a) j) (hR : 1 ≤ R.frames ∧ 26 ≤ R.locals) (hce : cells ≤ R.cells ∧ slots ≤ R.slots) (C : gz_C p s m args c cX3_findExact 13 RX3 D [(cI, .int), (cJ, .long), (cZ, .boolean)] A) : ∀ (n : Nat) (se : Nat) (at_ : Int32) (u : Nat) (rov : Nat → Nat), (u = fz + n ∧ u ≤ 20) → (fz < u → at_ = nI (cl at_) ∧ V (u - fz) se (cl at_)) → ((((f3_findExact_l3 tkv opv shv wyv bdv fr fev eav n se at_ u rov).2.2.1) = fz + 0 ∧ ((f3_findExact_l3 tkv opv shv wyv bdv fr fev eav n se at_ u rov).2.2.1) ≤ 20) → (fz < ((f3_findExact_l3 tkv opv shv wyv bdv fr fev eav n se at_ u rov).2.2.1) → ((f3_findExact_l3 tkv opv shv wyv bdv fr fev eav n se at_ u rov).2.1) = nI (cl ((f3_findExact_l3 tkv opv shv wyv bdv fr fev eav n se at_ u rov).2.1)) ∧ V (((f3_findExact_l3 tkv opv shv wyv bdv fr fev eav n se at_ u rov).2.2.1) - fz) ((f3_findExact_l3 tkv opv shv wyv bdv fr fev eav n se at_ u rov).1) (cl ((f3_findExact_l3 tkv opv shv wyv bdv fr fev eav n se at_ u rov).2.1))) → GZ p l e R s m args below meth c 13 D A cells slots Q (wM h ad cI cJ cZ thr sn tkv opv shv ldv lim wyv bdv isr rn rdv fz icv exa fr fev eav rs ((f3_findExact_l3 tkv opv shv wyv bdv fr fev eav n se at_ u rov).2.2.2)) [(0, .ref h), (4, .int (nI ((f3_findExact_l3 tkv opv shv wyv bdv fr fev eav n se at_ u rov).1))), (5, .int ((f3_findExact_l3 tkv opv shv wyv bdv fr fev eav n se at_ u rov).2.1)), (8, .int (nI ((f3_findExact_l3 tkv opv shv wyv bdv fr fev eav n se at_ u rov).2.2.1) - 1))] [] 363) → GZ p l e R s m args below meth c 13 D A cells slots Q (wM h ad cI cJ cZ thr sn tkv opv shv ldv lim wyv bdv isr rn rdv fz icv exa fr fev eav rs rov) [(0, .ref h), (4, .int (nI se)), (5, .int at_), (8, .int (nI u - 1))] [] 213 := by
  intro n
  induction n with
  | zero =>
    intro se at_ u rov hme hat hx
    refine gz_iload C 3 dX3_findExact_213 rfl ?_
    refine gz_aload_n C 0 dX3_findExact_215 rfl ?_
    refine gz_get (ci := 4) C iwX3 0 rfl rfl 12 (by decide) wk_392 rfl rfl dX3_findExact_216 ?_
    refine gz_icmp_lt C 363 dX3_findExact_219 (by decide) (fun h_1 => ?_) (fun h_1 => ?_)
    · skip
      exact gz_lv [0, 1, 2, 3] rfl (hx hme hat)
    · have g_1 : ¬ (((nI u - 1)) < (nI fz)) := h_1
      exact absurd ((bz_ltn (by omega) (by omega)).mpr (by omega)) g_1
  | succ n ih =>
    intro se at_ u rov hme hat hx
    refine gz_iload C 3 dX3_findExact_213 rfl ?_
    refine gz_aload_n C 0 dX3_findExact_215 rfl ?_
    refine gz_get (ci := 4) C iwX3 0 rfl rfl 12 (by decide) wk_392 rfl rfl dX3_findExact_216 ?_
    refine gz_icmp_lt C 363 dX3_findExact_219 (by decide) (fun h_1 => ?_) (fun h_1 => ?_)
    · skip
      exact absurd ((bz_ltn (by omega) (by omega)).mp h_1) (by omega)
    · have g_1 : ¬ (((nI u - 1)) < (nI fz)) := h_1
      have hcv := bz_pd (u := u) (by omega)
      refine gz_lve (lv2 := [(0, .ref h), (4, .int (nI se)), (5, .int at_), (8, .int (nI (u - 1)))]) (by rw [hcv]) ?_
      have hp9 := bz_pow hfr
      obtain ⟨hat1, hat2⟩ := hat (by omega)
      have e9 : u - fz = n + 1 := by omega
      rw [e9] at hat2
      obtain ⟨hv1, hv2, hv3⟩ := hV1 n se (cl at_) hat2
      refine gz_lve (lv2 := [(0, .ref h), (4, .int (nI se)), (5, .int (nI (cl at_))), (8, .int (nI (u - 1)))]) (by rw [← hat1]) ?_
      refine gz_aload_n C 0 dX3_findExact_222 rfl ?_
      refine gz_get (ci := 4) C iwX3 0 rfl rfl 19 (by decide) wk_399 rfl rfl dX3_findExact_223 ?_
      refine gz_iload C 3 dX3_findExact_226 rfl ?_
      refine gz_aload_n C 0 dX3_findExact_228 rfl ?_
      refine gz_get (ci := 4) C iwX3 0 rfl rfl 16 (by decide) wk_396 rfl rfl dX3_findExact_229 ?_
      refine gz_iload C 2 dX3_findExact_232 rfl ?_
      refine gz_iald C 9 0 rfl rfl (by omega) (by decide) dX3_findExact_234 ?_
      refine gz_iast (ws2 := (wM h ad cI cJ cZ thr sn tkv opv shv ldv lim wyv bdv isr rn rdv fz icv exa fr fev eav rs (va_up rov (u - 1) (fev (cl at_))))) C 11 0 rfl rfl (by omega) (by decide) rfl dX3_findExact_235 ?_
      refine gz_iload C 1 dX3_findExact_236 rfl ?_
      refine gz_iconst (v := nI 1) C dX3_findExact_238 (by decide) ?_
      refine gz_iload C 2 dX3_findExact_239 rfl ?_
      refine gz_ishl (v := nI (2 ^ (cl at_))) C dX3_findExact_241 (bz_shl (by omega)) ?_
      refine gz_iconst (v := ((-1))) C dX3_findExact_242 (by decide) ?_
      refine gz_ixor (v := nI ((2 ^ (cl at_)) ^^^ 4294967295)) C dX3_findExact_243 (bz_xm1 _) ?_
      refine gz_iand (v := nI (se &&& ((2 ^ (cl at_)) ^^^ 4294967295))) C dX3_findExact_244 (bz_and _ _) ?_
      refine gz_istore (lv2 := [(9, .int (nI (se &&& ((2 ^ (cl at_)) ^^^ 4294967295)))), (0, .ref h), (4, .int (nI se)), (5, .int (nI (cl at_))), (8, .int (nI (u - 1)))]) C dX3_findExact_245 (by decide) rfl ?_
      refine gz_iconst (v := ((-1))) C dX3_findExact_247 (by decide) ?_
      refine gz_istore (lv2 := [(10, .int ((-1))), (9, .int (nI (se &&& ((2 ^ (cl at_)) ^^^ 4294967295)))), (0, .ref h), (4, .int (nI se)), (5, .int (nI (cl at_))), (8, .int (nI (u - 1)))]) C dX3_findExact_248 (by decide) rfl ?_
      refine gz_aload_n C 2 dX3_findExact_250 rfl ?_
      refine gz_get (ci := 4) C iwX3 0 rfl rfl 15 (by decide) wk_395 rfl rfl dX3_findExact_251 ?_
      refine gz_iconst (v := nI 1) C dX3_findExact_254 (by decide) ?_
      refine gz_isub (v := (nI fr - 1)) C dX3_findExact_255 rfl ?_
      refine gz_istore (lv2 := [(11, .int (nI fr - 1)), (10, .int ((-1))), (9, .int (nI (se &&& ((2 ^ (cl at_)) ^^^ 4294967295)))), (0, .ref h), (4, .int (nI se)), (5, .int (nI (cl at_))), (8, .int (nI (u - 1)))]) C dX3_findExact_256 (by decide) rfl ?_
      refine gz_lv (lv2 := [(0, .ref h), (4, .int (nI se)), (5, .int (nI (cl at_))), (8, .int (nI (u - 1))), (9, .int (nI (se &&& ((2 ^ (cl at_)) ^^^ 4294967295)))), (10, .int ((-1))), (11, .int (nI fr - 1))]) [3, 4, 5, 6, 2, 1, 0] rfl ?_
      refine lX3_findExact_l4 h ad cI cJ cZ thr sn tkv opv shv ldv lim wyv bdv isr rn rdv fz icv exa fr fev eav rs (va_up rov (u - 1) (fev (cl at_))) se (cl at_) (u - 1) (se &&& ((2 ^ (cl at_)) ^^^ 4294967295)) (by first | assumption | omega) (by first | assumption | omega) (by first | assumption | omega) (by have h9 := q3_clr_le se (cl at_); unfold q3_clr at h9; omega) (by first | assumption | omega) ⟨Nat.le_trans (by decide) hR.1, Nat.le_trans (by decide) hR.2⟩ hce C fr ((-1)) fr ⟨rfl, by omega⟩ (by first | assumption | omega) (Or.inl (by decide)) (fun j h1 h2 _ => by omega) ?_
      intro zme_l4 zhv_l4 zhbf_l4 zhbc_l4
      refine gz_iload C 4 dX3_findExact_349 rfl ?_
      refine gz_istore (lv2 := [(4, .int (nI (se &&& ((2 ^ (cl at_)) ^^^ 4294967295)))), (0, .ref h), (5, .int (nI (cl at_))), (8, .int (nI (u - 1))), (9, .int (nI (se &&& ((2 ^ (cl at_)) ^^^ 4294967295)))), (10, .int ((f3_findExact_l4 tkv opv shv wyv bdv fev eav se (cl at_) (se &&& ((2 ^ (cl at_)) ^^^ 4294967295)) fr ((-1)) fr).1)), (11, .int (nI ((f3_findExact_l4 tkv opv shv wyv bdv fev eav se (cl at_) (se &&& ((2 ^ (cl at_)) ^^^ 4294967295)) fr ((-1)) fr).2) - 1))]) C dX3_findExact_351 (by decide) rfl ?_
      refine gz_iload C 5 dX3_findExact_353 rfl ?_
      refine gz_istore (lv2 := [(5, .int ((f3_findExact_l4 tkv opv shv wyv bdv fev eav se (cl at_) (se &&& ((2 ^ (cl at_)) ^^^ 4294967295)) fr ((-1)) fr).1)), (4, .int (nI (se &&& ((2 ^ (cl at_)) ^^^ 4294967295)))), (0, .ref h), (8, .int (nI (u - 1))), (9, .int (nI (se &&& ((2 ^ (cl at_)) ^^^ 4294967295)))), (10, .int ((f3_findExact_l4 tkv opv shv wyv bdv fev eav se (cl at_) (se &&& ((2 ^ (cl at_)) ^^^ 4294967295)) fr ((-1)) fr).1)), (11, .int (nI ((f3_findExact_l4 tkv opv shv wyv bdv fev eav se (cl at_) (se &&& ((2 ^ (cl at_)) ^^^ 4294967295)) fr ((-1)) fr).2) - 1))]) C dX3_findExact_355 (by decide) rfl ?_
      refine gz_iinc (v := (nI (u - 1) - 1)) (lv2 := [(8, .int (nI (u - 1) - 1)), (5, .int ((f3_findExact_l4 tkv opv shv wyv bdv fev eav se (cl at_) (se &&& ((2 ^ (cl at_)) ^^^ 4294967295)) fr ((-1)) fr).1)), (4, .int (nI (se &&& ((2 ^ (cl at_)) ^^^ 4294967295)))), (0, .ref h), (9, .int (nI (se &&& ((2 ^ (cl at_)) ^^^ 4294967295)))), (10, .int ((f3_findExact_l4 tkv opv shv wyv bdv fev eav se (cl at_) (se &&& ((2 ^ (cl at_)) ^^^ 4294967295)) fr ((-1)) fr).1)), (11, .int (nI ((f3_findExact_l4 tkv opv shv wyv bdv fev eav se (cl at_) (se &&& ((2 ^ (cl at_)) ^^^ 4294967295)) fr ((-1)) fr).2) - 1))]) (k := 3) C dX3_findExact_357 rfl (bz_dec _) (by decide) rfl ?_
      refine gz_goto C 213 dX3_findExact_360 (by decide) ?_
      refine gz_lv [3, 2, 1, 0] rfl ?_
      simp only [f3_findExact_l3, if_neg g_1] at hx
      exact ih (se &&& ((2 ^ (cl at_)) ^^^ 4294967295)) ((f3_findExact_l4 tkv opv shv wyv bdv fev eav se (cl at_) (se &&& ((2 ^ (cl at_)) ^^^ 4294967295)) fr ((-1)) fr).1) ((u - 1)) (va_up rov (u - 1) (fev (cl at_))) (by omega) (by
      intro hq
      obtain ⟨j, hj1, hj2⟩ := hv3 (by omega)
      have hb := zhbc_l4 j (by omega) hj1 hj2
      rcases zhbf_l4 with z | z
      · exact absurd z hb
      · obtain ⟨z1, z2, z3⟩ := z
        refine ⟨z1, ?_⟩
        have e : u - 1 - fz = n := by omega
        rw [e]
        exact hV2 n se (cl at_) _ hat2 (by omega) z2 z3) hx

def f3_findExact (sn : Nat) (tkv : Nat → Int64) (opv : Nat → Int64) (shv : Nat → Int64) (wyv : Nat → Int64) (bdv : Nat → Bool) (fz : Nat) (icv : Nat → Nat) (fr : Nat) (fev : Nat → Nat) (eav : Nat → Int64) (rov : Nat → Nat) : Bool := (if fr = 0 then (if 4000000000000000000 ≤ ((f3_findExact_l1 tkv opv shv wyv bdv icv fz 0 0 0 rov).1) then false else (if sn = 0 then true else (if (bdv (21 * ((f3_findExact_l1 tkv opv shv wyv bdv icv fz 0 0 0 rov).2.1))) = true then false else true))) else (if 0 ≤ (((f3_findExact_l2 wyv bdv fev (f3_spread_eav tkv opv shv wyv bdv fz icv fr fev eav) ((2 ^ fr) - 1) fr ((-1)) 4000000000000000000 fr).1)) then true else false))
def f3_findExact_eav (tkv : Nat → Int64) (opv : Nat → Int64) (shv : Nat → Int64) (wyv : Nat → Int64) (bdv : Nat → Bool) (fz : Nat) (icv : Nat → Nat) (fr : Nat) (fev : Nat → Nat) (eav : Nat → Int64) : Nat → Int64 := (if fr = 0 then eav else (if 0 ≤ (((f3_findExact_l2 wyv bdv fev (f3_spread_eav tkv opv shv wyv bdv fz icv fr fev eav) ((2 ^ fr) - 1) fr ((-1)) 4000000000000000000 fr).1)) then f3_spread_eav tkv opv shv wyv bdv fz icv fr fev eav else f3_spread_eav tkv opv shv wyv bdv fz icv fr fev eav))
def f3_findExact_rs (sn : Nat) (tkv : Nat → Int64) (opv : Nat → Int64) (shv : Nat → Int64) (wyv : Nat → Int64) (bdv : Nat → Bool) (fz : Nat) (icv : Nat → Nat) (fr : Nat) (fev : Nat → Nat) (eav : Nat → Int64) : Nat := (if fr = 0 then sn else (if 0 ≤ (((f3_findExact_l2 wyv bdv fev (f3_spread_eav tkv opv shv wyv bdv fz icv fr fev eav) ((2 ^ fr) - 1) fr ((-1)) 4000000000000000000 fr).1)) then sn else sn))
def f3_findExact_rov (sn : Nat) (tkv : Nat → Int64) (opv : Nat → Int64) (shv : Nat → Int64) (wyv : Nat → Int64) (bdv : Nat → Bool) (fz : Nat) (icv : Nat → Nat) (fr : Nat) (fev : Nat → Nat) (eav : Nat → Int64) (rov : Nat → Nat) : Nat → Nat := (if fr = 0 then (f3_findExact_l1 tkv opv shv wyv bdv icv fz 0 0 0 rov).2.2.2 else (if 0 ≤ (((f3_findExact_l2 wyv bdv fev (f3_spread_eav tkv opv shv wyv bdv fz icv fr fev eav) ((2 ^ fr) - 1) fr ((-1)) 4000000000000000000 fr).1)) then (f3_findExact_l3 tkv opv shv wyv bdv fr fev (f3_spread_eav tkv opv shv wyv bdv fz icv fr fev eav) (sn - fz) ((2 ^ fr) - 1) ((f3_findExact_l2 wyv bdv fev (f3_spread_eav tkv opv shv wyv bdv fz icv fr fev eav) ((2 ^ fr) - 1) fr ((-1)) 4000000000000000000 fr).1) sn ((f3_findExact_l1 tkv opv shv wyv bdv icv fz 0 0 0 rov).2.2.2)).2.2.2 else (f3_findExact_l1 tkv opv shv wyv bdv icv fz 0 0 0 rov).2.2.2))
set_option maxRecDepth 100000 in
set_option maxHeartbeats 4000000 in
theorem kX3_findExact (l : Launch) (D : va_G) (h : Nat) (ad : Nat → Nat) (cI : ClassId) (cJ : ClassId) (cZ : ClassId) (thr : Int32) (sn : Nat) (tkv : Nat → Int64) (opv : Nat → Int64) (shv : Nat → Int64) (ldv : Nat → Int32) (lim : Int32) (wyv : Nat → Int64) (bdv : Nat → Bool) (isr : Bool) (rn : Nat) (rdv : Nat → Nat) (fz : Nat) (icv : Nat → Nat) (exa : Bool) (fr : Nat) (fev : Nat → Nat) (eav : Nat → Int64) (rs : Nat) (rov : Nat → Nat) (hsn : sn ≤ 20) (hfr : fr ≤ 11) (hfe : ∀ k, k < fr → fev k ≤ 20) (hfz : fz ≤ 20) (hic : ∀ k, k < fz → icv k ≤ 20) (hfs : fz ≤ sn) (V : Nat → Nat → Nat → Prop) (hV0 : ∀ a, a < fr → f3_wellHome wyv bdv (fev a) (f3_spread_eav tkv opv shv wyv bdv fz icv fr fev eav (11 * (2 ^ fr - 1) + a)) < 4000000000000000000 → V (sn - fz) (2 ^ fr - 1) a) (hV1 : ∀ n se a, V (n + 1) se a → a < fr ∧ se < 2 ^ fr ∧ (0 < n → ∃ j, j < fr ∧ q3_fit tkv opv shv wyv bdv fev (f3_spread_eav tkv opv shv wyv bdv fz icv fr fev eav) (q3_clr se a) se a j)) (hV2 : ∀ n se a j, V (n + 1) se a → 0 < n → j < fr → q3_fit tkv opv shv wyv bdv fev (f3_spread_eav tkv opv shv wyv bdv fz icv fr fev eav) (q3_clr se a) se a j → V n (q3_clr se a) j) : gz_M l yX3_findExact cX3_findExact 13 (some .boolean) ({ frames := 2, cells := 0, slots := 0, locals := 58 } : Room) D [(cI, .int), (cJ, .long), (cZ, .boolean)] [.ref h] (wM h ad cI cJ cZ thr sn tkv opv shv ldv lim wyv bdv isr rn rdv fz icv exa fr fev eav rs rov) (some (.int (bI (f3_findExact sn tkv opv shv wyv bdv fz icv fr fev eav rov)))) (wM h ad cI cJ cZ thr sn tkv opv shv ldv lim wyv bdv isr rn rdv fz icv exa fr fev (f3_findExact_eav tkv opv shv wyv bdv fz icv fr fev eav) (f3_findExact_rs sn tkv opv shv wyv bdv fz icv fr fev eav) (f3_findExact_rov sn tkv opv shv wyv bdv fz icv fr fev eav rov)) 0 0 := by
  refine gz_met l (by decide) (Nat.le_of_ble_eq_true rfl) [(0, .ref h)] rfl ?_
  intro sz p e s m args below meth c C hr hk hnm
  have C : gz_C p s m args c cX3_findExact 13 RX3 D [(cI, .int), (cJ, .long), (cZ, .boolean)] (va_A (wM h ad cI cJ cZ thr sn tkv opv shv ldv lim wyv bdv isr rn rdv fz icv exa fr fev eav rs rov) sz) := C
  refine gz_lconst (v := 0) C dX3_findExact_0 (by decide) ?_
  refine gz_lstore_n (lv2 := [(1, .long 0), (0, .ref h)]) C dX3_findExact_1 (by decide) rfl ?_
  refine gz_iconst (v := nI 0) C dX3_findExact_2 (by decide) ?_
  refine gz_istore_n (lv2 := [(3, .int (nI 0)), (1, .long 0), (0, .ref h)]) C dX3_findExact_3 (by decide) rfl ?_
  refine gz_iconst (v := nI 0) C dX3_findExact_4 (by decide) ?_
  refine gz_istore (lv2 := [(4, .int (nI 0)), (3, .int (nI 0)), (1, .long 0), (0, .ref h)]) C dX3_findExact_5 (by decide) rfl ?_
  refine gz_lv (lv2 := [(0, .ref h), (1, .long 0), (3, .int (nI 0)), (4, .int (nI 0))]) [3, 2, 1, 0] rfl ?_
  refine lX3_findExact_l1 h ad cI cJ cZ thr sn tkv opv shv ldv lim wyv bdv isr rn rdv fz icv exa fr fev eav rs (by first | assumption | omega) (by first | assumption | omega) ⟨Nat.le_of_ble_eq_true rfl, Nat.le_of_ble_eq_true rfl⟩ ⟨Nat.zero_le _, Nat.zero_le _⟩ C fz 0 0 0 rov (by omega) (by first | assumption | omega) ?_
  intro zme_l1 zhla_l1
  refine gz_aload_n C 0 dX3_findExact_58 rfl ?_
  refine gz_aload_n C 0 dX3_findExact_59 rfl ?_
  refine gz_get (ci := 4) C iwX3 0 rfl rfl 1 (by decide) wk_381 rfl rfl dX3_findExact_60 ?_
  refine gz_put (ci := 4) (ws2 := (wM h ad cI cJ cZ thr sn tkv opv shv ldv lim wyv bdv isr rn rdv fz icv exa fr fev eav sn ((f3_findExact_l1 tkv opv shv wyv bdv icv fz 0 0 0 rov).2.2.2))) C iwX3 0 rfl rfl 18 (by decide) wk_398 rfl tyX3 tyX3_ok nmX3 rfl rfl rfl rfl (Nat.le_of_ble_eq_true rfl) rfl dX3_findExact_63 ?_
  refine gz_aload_n C 0 dX3_findExact_66 rfl ?_
  refine gz_get (ci := 4) C iwX3 0 rfl rfl 15 (by decide) wk_395 rfl rfl dX3_findExact_67 ?_
  refine gz_nif_ne C 106 (by omega) dX3_findExact_70 (by decide) (fun h_1 => ?_) (fun h_1 => ?_)
  · have g_1 : ¬ (fr = 0) := h_1
    have hp9 := bz_pow hfr
    have hp8 := bz_pow1 fr
    refine gz_aload_n C 0 dX3_findExact_106 rfl ?_
    refine gz_callV (wr := []) (n := 0) (ws2 := (wM h ad cI cJ cZ thr sn tkv opv shv ldv lim wyv bdv isr rn rdv fz icv exa fr fev (f3_spread_eav tkv opv shv wyv bdv fz icv fr fev eav) sn ((f3_findExact_l1 tkv opv shv wyv bdv icv fz 0 0 0 rov).2.2.2))) (st2 := []) (cells2 := 0) (slots2 := 0) (ci := 4) C (kX3_spread l D h ad cI cJ cZ thr sn tkv opv shv ldv lim wyv bdv isr rn rdv fz icv exa fr fev eav sn ((f3_findExact_l1 tkv opv shv wyv bdv icv fz 0 0 0 rov).2.2.2) (by first | assumption | omega) (by first | assumption | omega) (by first | assumption | omega) (by first | assumption | omega)) (WB_V wk_494 wk_496 ws_22 wk_4 wk_497) (by decide +kernel) ⟨⟨rfl, rfl⟩, Nat.le_of_ble_eq_true rfl, Nat.le_of_ble_eq_true rfl⟩ [0, 1, 2, 3, 4, 5, 6, 7, 8, 9, 10, 11] [] [0, 1, 2] rfl rfl rfl (by decide) rfl 0 rfl rfl rfl rfl (Nat.le_of_ble_eq_true rfl) dX3_findExact_107 ⟨Nat.zero_le _, Nat.zero_le _⟩ rfl rfl rfl ?_
    refine gz_iconst (v := nI 1) C dX3_findExact_110 (by decide) ?_
    refine gz_aload_n C 0 dX3_findExact_111 rfl ?_
    refine gz_get (ci := 4) C iwX3 0 rfl rfl 15 (by decide) wk_395 rfl rfl dX3_findExact_112 ?_
    refine gz_ishl (v := nI (2 ^ fr)) C dX3_findExact_115 (bz_shl (by omega)) ?_
    refine gz_iconst (v := nI 1) C dX3_findExact_116 (by decide) ?_
    refine gz_isub (v := nI ((2 ^ fr) - 1)) C dX3_findExact_117 (pk_sub (by first | omega | exact Nat.one_le_two_pow)) ?_
    refine gz_istore (lv2 := [(4, .int (nI ((2 ^ fr) - 1))), (0, .ref h), (1, .long ((f3_findExact_l1 tkv opv shv wyv bdv icv fz 0 0 0 rov).1)), (3, .int (nI ((f3_findExact_l1 tkv opv shv wyv bdv icv fz 0 0 0 rov).2.1)))]) C dX3_findExact_118 (by decide) rfl ?_
    refine gz_iconst (v := ((-1))) C dX3_findExact_120 (by decide) ?_
    refine gz_istore (lv2 := [(5, .int ((-1))), (4, .int (nI ((2 ^ fr) - 1))), (0, .ref h), (1, .long ((f3_findExact_l1 tkv opv shv wyv bdv icv fz 0 0 0 rov).1)), (3, .int (nI ((f3_findExact_l1 tkv opv shv wyv bdv icv fz 0 0 0 rov).2.1)))]) C dX3_findExact_121 (by decide) rfl ?_
    refine gz_ldc2 (v := 4000000000000000000) C wk_493 dX3_findExact_123 ?_
    refine gz_lstore (lv2 := [(6, .long 4000000000000000000), (5, .int ((-1))), (4, .int (nI ((2 ^ fr) - 1))), (0, .ref h), (1, .long ((f3_findExact_l1 tkv opv shv wyv bdv icv fz 0 0 0 rov).1)), (3, .int (nI ((f3_findExact_l1 tkv opv shv wyv bdv icv fz 0 0 0 rov).2.1)))]) C dX3_findExact_126 (by decide) rfl ?_
    refine gz_aload_n C 3 dX3_findExact_128 rfl ?_
    refine gz_get (ci := 4) C iwX3 0 rfl rfl 15 (by decide) wk_395 rfl rfl dX3_findExact_129 ?_
    refine gz_iconst (v := nI 1) C dX3_findExact_132 (by decide) ?_
    refine gz_isub (v := (nI fr - 1)) C dX3_findExact_133 rfl ?_
    refine gz_istore (lv2 := [(8, .int (nI fr - 1)), (6, .long 4000000000000000000), (5, .int ((-1))), (4, .int (nI ((2 ^ fr) - 1))), (0, .ref h), (1, .long ((f3_findExact_l1 tkv opv shv wyv bdv icv fz 0 0 0 rov).1)), (3, .int (nI ((f3_findExact_l1 tkv opv shv wyv bdv icv fz 0 0 0 rov).2.1)))]) C dX3_findExact_134 (by decide) rfl ?_
    refine gz_lv (lv2 := [(0, .ref h), (4, .int (nI ((2 ^ fr) - 1))), (5, .int ((-1))), (6, .long 4000000000000000000), (8, .int (nI fr - 1))]) [4, 3, 2, 1, 0] rfl ?_
    refine lX3_findExact_l2 h ad cI cJ cZ thr sn tkv opv shv ldv lim wyv bdv isr rn rdv fz icv exa fr fev (f3_spread_eav tkv opv shv wyv bdv fz icv fr fev eav) sn ((f3_findExact_l1 tkv opv shv wyv bdv icv fz 0 0 0 rov).2.2.2) ((2 ^ fr) - 1) (by first | assumption | omega) (by first | assumption | omega) (by first | assumption | omega) ⟨Nat.le_of_ble_eq_true rfl, Nat.le_of_ble_eq_true rfl⟩ ⟨Nat.zero_le _, Nat.zero_le _⟩ C fr ((-1)) 4000000000000000000 fr ⟨rfl, by omega⟩ (by first | assumption | omega) (Or.inl (by decide)) ?_
    intro zme_l2 zhu_l2 zhat_l2
    refine gz_iload C 2 dX3_findExact_198 rfl ?_
    refine gz_if_ge C 205 dX3_findExact_200 (by decide) (fun h_2 => ?_) (fun h_2 => ?_)
    · skip
      refine gz_aload_n C 0 dX3_findExact_205 rfl ?_
      refine gz_get (ci := 4) C iwX3 0 rfl rfl 1 (by decide) wk_381 rfl rfl dX3_findExact_206 ?_
      refine gz_iconst (v := nI 1) C dX3_findExact_209 (by decide) ?_
      refine gz_isub (v := (nI sn - 1)) C dX3_findExact_210 rfl ?_
      refine gz_istore (lv2 := [(8, .int (nI sn - 1)), (0, .ref h), (4, .int (nI ((2 ^ fr) - 1))), (5, .int ((f3_findExact_l2 wyv bdv fev (f3_spread_eav tkv opv shv wyv bdv fz icv fr fev eav) ((2 ^ fr) - 1) fr ((-1)) 4000000000000000000 fr).1)), (6, .long ((f3_findExact_l2 wyv bdv fev (f3_spread_eav tkv opv shv wyv bdv fz icv fr fev eav) ((2 ^ fr) - 1) fr ((-1)) 4000000000000000000 fr).2.1))]) C dX3_findExact_211 (by decide) rfl ?_
      refine gz_lv (lv2 := [(0, .ref h), (4, .int (nI ((2 ^ fr) - 1))), (5, .int ((f3_findExact_l2 wyv bdv fev (f3_spread_eav tkv opv shv wyv bdv fz icv fr fev eav) ((2 ^ fr) - 1) fr ((-1)) 4000000000000000000 fr).1)), (8, .int (nI sn - 1))]) [1, 2, 3, 0] rfl ?_
      refine lX3_findExact_l3 h ad cI cJ cZ thr sn tkv opv shv ldv lim wyv bdv isr rn rdv fz icv exa fr fev (f3_spread_eav tkv opv shv wyv bdv fz icv fr fev eav) sn (by first | assumption | omega) (by first | assumption | omega) V hV1 hV2 ⟨Nat.le_of_ble_eq_true rfl, Nat.le_of_ble_eq_true rfl⟩ ⟨Nat.zero_le _, Nat.zero_le _⟩ C (sn - fz) ((2 ^ fr) - 1) ((f3_findExact_l2 wyv bdv fev (f3_spread_eav tkv opv shv wyv bdv fz icv fr fev eav) ((2 ^ fr) - 1) fr ((-1)) 4000000000000000000 fr).1) sn ((f3_findExact_l1 tkv opv shv wyv bdv icv fz 0 0 0 rov).2.2.2) (by omega) (by
    intro _
    rcases zhat_l2 with z | z
    · exact absurd z (Int32.not_lt.mpr h_2)
    · obtain ⟨z1, z2, z3⟩ := z
      exact ⟨z1, hV0 _ z2 z3⟩) ?_
      intro zme_l3 zhat_l3
      refine gz_iconst (v := nI 1) C dX3_findExact_363 (by decide) ?_
      refine gz_sw (v := .int (nI 1)) (w := .int (bI true)) (by rw [show nI 1 = bI true from (by first | rfl | decide | ((repeat' split) <;> rfl))]) ?_
      exact gz_zret C hr hk (bI_nar _) (by first | rfl | (simp only [f3_findExact, f3_findExact_eav, f3_findExact_rs, f3_findExact_rov, if_neg g_1, if_pos h_2]) | (simp only [f3_findExact, f3_findExact_eav, f3_findExact_rs, f3_findExact_rov, if_neg g_1, if_pos h_2]; rfl)) (by first | rfl | (simp only [f3_findExact, f3_findExact_eav, f3_findExact_rs, f3_findExact_rov, if_neg g_1, if_pos h_2]) | (simp only [f3_findExact, f3_findExact_eav, f3_findExact_rs, f3_findExact_rov, if_neg g_1, if_pos h_2]; rfl)) (Nat.le_refl _) (Nat.le_refl _) dX3_findExact_364
    · have g_2 : ¬ (0 ≤ (((f3_findExact_l2 wyv bdv fev (f3_spread_eav tkv opv shv wyv bdv fz icv fr fev eav) ((2 ^ fr) - 1) fr ((-1)) 4000000000000000000 fr).1))) := h_2
      refine gz_iconst (v := nI 0) C dX3_findExact_203 (by decide) ?_
      refine gz_sw (v := .int (nI 0)) (w := .int (bI false)) (by rw [show nI 0 = bI false from (by first | rfl | decide | ((repeat' split) <;> rfl))]) ?_
      exact gz_zret C hr hk (bI_nar _) (by first | rfl | (simp only [f3_findExact, f3_findExact_eav, f3_findExact_rs, f3_findExact_rov, if_neg g_1, if_neg g_2]) | (simp only [f3_findExact, f3_findExact_eav, f3_findExact_rs, f3_findExact_rov, if_neg g_1, if_neg g_2]; rfl)) (by first | rfl | (simp only [f3_findExact, f3_findExact_eav, f3_findExact_rs, f3_findExact_rov, if_neg g_1, if_neg g_2]) | (simp only [f3_findExact, f3_findExact_eav, f3_findExact_rs, f3_findExact_rov, if_neg g_1, if_neg g_2]; rfl)) (Nat.le_refl _) (Nat.le_refl _) dX3_findExact_204
  · skip
    refine gz_lload_n C 1 dX3_findExact_73 rfl ?_
    refine gz_ldc2 (v := 4000000000000000000) C wk_493 dX3_findExact_74 ?_
    refine gz_J (ws2 := (wM h ad cI cJ cZ thr sn tkv opv shv ldv lim wyv bdv isr rn rdv fz icv exa fr fev eav sn ((f3_findExact_l1 tkv opv shv wyv bdv icv fz 0 0 0 rov).2.2.2))) (lv2 := [(0, .ref h), (1, .long ((f3_findExact_l1 tkv opv shv wyv bdv icv fz 0 0 0 rov).1)), (3, .int (nI ((f3_findExact_l1 tkv opv shv wyv bdv icv fz 0 0 0 rov).2.1))), (4, .int (nI ((f3_findExact_l1 tkv opv shv wyv bdv icv fz 0 0 0 rov).2.2.1)))]) (st2 := [.int (nI ((if 4000000000000000000 ≤ ((f3_findExact_l1 tkv opv shv wyv bdv icv fz 0 0 0 rov).1) then 0 else (if sn = 0 then 1 else (if (bdv (21 * ((f3_findExact_l1 tkv opv shv wyv bdv icv fz 0 0 0 rov).2.1))) = true then 0 else 1)))))]) (pc2 := 105) ?_ (fun J_3 => ?_)
    rotate_left
    · refine gz_lcmp_ge C 104 dX3_findExact_77 dX3_findExact_78 (by decide) (fun h_3 => ?_) (fun h_3 => ?_)
      · skip
        refine gz_iconst (v := nI 0) C dX3_findExact_104 (by decide) ?_
        simp only [if_pos h_3] at J_3 ⊢
        exact gz_lv [0, 1, 2, 3] rfl J_3
      · have g_3 : ¬ (4000000000000000000 ≤ ((f3_findExact_l1 tkv opv shv wyv bdv icv fz 0 0 0 rov).1)) := h_3
        refine gz_aload_n C 0 dX3_findExact_81 rfl ?_
        refine gz_get (ci := 4) C iwX3 0 rfl rfl 1 (by decide) wk_381 rfl rfl dX3_findExact_82 ?_
        refine gz_J (ws2 := (wM h ad cI cJ cZ thr sn tkv opv shv ldv lim wyv bdv isr rn rdv fz icv exa fr fev eav sn ((f3_findExact_l1 tkv opv shv wyv bdv icv fz 0 0 0 rov).2.2.2))) (lv2 := [(0, .ref h), (1, .long ((f3_findExact_l1 tkv opv shv wyv bdv icv fz 0 0 0 rov).1)), (3, .int (nI ((f3_findExact_l1 tkv opv shv wyv bdv icv fz 0 0 0 rov).2.1))), (4, .int (nI ((f3_findExact_l1 tkv opv shv wyv bdv icv fz 0 0 0 rov).2.2.1)))]) (st2 := [.int (nI ((if sn = 0 then 1 else (if (bdv (21 * ((f3_findExact_l1 tkv opv shv wyv bdv icv fz 0 0 0 rov).2.1))) = true then 0 else 1))))]) (pc2 := 105) ?_ (fun J_4 => ?_)
        rotate_left
        · refine gz_nif_eq C 100 (by omega) dX3_findExact_85 (by decide) (fun h_4 => ?_) (fun h_4 => ?_)
          · skip
            refine gz_iconst (v := nI 1) C dX3_findExact_100 (by decide) ?_
            refine gz_goto C 105 dX3_findExact_101 (by decide) ?_
            simp only [if_pos h_4] at J_4 ⊢
            exact gz_lv [0, 1, 2, 3] rfl J_4
          · have g_4 : ¬ (sn = 0) := h_4
            refine gz_aload_n C 0 dX3_findExact_88 rfl ?_
            refine gz_get (ci := 4) C iwX3 0 rfl rfl 8 (by decide) wk_388 rfl rfl dX3_findExact_89 ?_
            refine gz_bipush (v := nI 21) C dX3_findExact_92 (by decide) ?_
            refine gz_iload_n C 2 dX3_findExact_94 rfl ?_
            refine gz_imul (v := nI (21 * ((f3_findExact_l1 tkv opv shv wyv bdv icv fz 0 0 0 rov).2.1))) C dX3_findExact_95 (pk_mul _ _) ?_
            refine gz_zald C 6 2 rfl rfl (by omega) (by decide) dX3_findExact_96 ?_
            refine gz_J (ws2 := (wM h ad cI cJ cZ thr sn tkv opv shv ldv lim wyv bdv isr rn rdv fz icv exa fr fev eav sn ((f3_findExact_l1 tkv opv shv wyv bdv icv fz 0 0 0 rov).2.2.2))) (lv2 := [(0, .ref h), (1, .long ((f3_findExact_l1 tkv opv shv wyv bdv icv fz 0 0 0 rov).1)), (3, .int (nI ((f3_findExact_l1 tkv opv shv wyv bdv icv fz 0 0 0 rov).2.1))), (4, .int (nI ((f3_findExact_l1 tkv opv shv wyv bdv icv fz 0 0 0 rov).2.2.1)))]) (st2 := [.int (nI ((if (bdv (21 * ((f3_findExact_l1 tkv opv shv wyv bdv icv fz 0 0 0 rov).2.1))) = true then 0 else 1)))]) (pc2 := 105) ?_ (fun J_5 => ?_)
            rotate_left
            · refine gz_bif_ne C 104 dX3_findExact_97 (by decide) (fun h_5 => ?_) (fun h_5 => ?_)
              · skip
                refine gz_iconst (v := nI 0) C dX3_findExact_104 (by decide) ?_
                simp only [if_pos h_5] at J_5 ⊢
                exact gz_lv [0, 1, 2, 3] rfl J_5
              · have g_5 : ¬ ((bdv (21 * ((f3_findExact_l1 tkv opv shv wyv bdv icv fz 0 0 0 rov).2.1))) = true) := (by rw [h_5]; decide)
                refine gz_iconst (v := nI 1) C dX3_findExact_100 (by decide) ?_
                refine gz_goto C 105 dX3_findExact_101 (by decide) ?_
                simp only [if_neg g_5] at J_5 ⊢
                exact gz_lv [0, 1, 2, 3] rfl J_5
            simp only [if_neg g_4] at J_4 ⊢
            exact gz_lv [0, 1, 2, 3] rfl J_4
        simp only [if_neg g_3] at J_3 ⊢
        exact gz_lv [0, 1, 2, 3] rfl J_3
    refine gz_sw (v := .int (nI ((if 4000000000000000000 ≤ ((f3_findExact_l1 tkv opv shv wyv bdv icv fz 0 0 0 rov).1) then 0 else (if sn = 0 then 1 else (if (bdv (21 * ((f3_findExact_l1 tkv opv shv wyv bdv icv fz 0 0 0 rov).2.1))) = true then 0 else 1)))))) (w := .int (bI ((if 4000000000000000000 ≤ ((f3_findExact_l1 tkv opv shv wyv bdv icv fz 0 0 0 rov).1) then false else (if sn = 0 then true else (if (bdv (21 * ((f3_findExact_l1 tkv opv shv wyv bdv icv fz 0 0 0 rov).2.1))) = true then false else true)))))) (by rw [show nI ((if 4000000000000000000 ≤ ((f3_findExact_l1 tkv opv shv wyv bdv icv fz 0 0 0 rov).1) then 0 else (if sn = 0 then 1 else (if (bdv (21 * ((f3_findExact_l1 tkv opv shv wyv bdv icv fz 0 0 0 rov).2.1))) = true then 0 else 1)))) = bI ((if 4000000000000000000 ≤ ((f3_findExact_l1 tkv opv shv wyv bdv icv fz 0 0 0 rov).1) then false else (if sn = 0 then true else (if (bdv (21 * ((f3_findExact_l1 tkv opv shv wyv bdv icv fz 0 0 0 rov).2.1))) = true then false else true)))) from (by first | rfl | decide | ((repeat' split) <;> rfl))]) ?_
    exact gz_zret C hr hk (bI_nar _) (by first | rfl | (simp only [f3_findExact, f3_findExact_eav, f3_findExact_rs, f3_findExact_rov, if_pos h_1]) | (simp only [f3_findExact, f3_findExact_eav, f3_findExact_rs, f3_findExact_rov, if_pos h_1]; rfl)) (by first | rfl | (simp only [f3_findExact, f3_findExact_eav, f3_findExact_rs, f3_findExact_rov, if_pos h_1]) | (simp only [f3_findExact, f3_findExact_eav, f3_findExact_rs, f3_findExact_rov, if_pos h_1]; rfl)) (Nat.le_refl _) (Nat.le_refl _) dX3_findExact_105


/-! sets of small numbers as numbers -/
theorem bt_d (s k : Nat) : s / 2 ^ k % 2 = 1 ↔ s.testBit k = true := by
  rw [Nat.testBit_eq_decide_div_mod_eq]
  simp
theorem bt_d0 (s k : Nat) : s / 2 ^ k % 2 = 0 ↔ s.testBit k = false := by
  rw [Nat.testBit_eq_decide_div_mod_eq]
  simp
theorem bt_hi {s f i : Nat} (h : s < 2 ^ f) (hi : f ≤ i) : s.testBit i = false := Nat.testBit_lt_two_pow (Nat.lt_of_lt_of_le h (Nat.pow_le_pow_right (by decide) hi))
theorem bt_m32 (i : Nat) : (4294967295 : Nat).testBit i = decide (i < 32) := by
  have h := Nat.testBit_two_pow_sub_one 32 i
  simpa using h
theorem bt_clr {s a i f : Nat} (hs : s < 2 ^ f) (hf : f ≤ 32) (ha : a < 32) : (q3_clr s a).testBit i = (s.testBit i && !decide (i = a)) := by
  unfold q3_clr
  rw [Nat.testBit_and, Nat.testBit_xor, Nat.testBit_two_pow, bt_m32]
  by_cases h1 : i < 32
  · by_cases h2 : a = i
    · subst h2; simp [h1]
    · have h3 : ¬ i = a := fun z => h2 z.symm
      simp [h1, h2, h3]
  · rw [bt_hi hs (by omega)]
    simp
theorem bt_or (t k i : Nat) : (t ||| 2 ^ k).testBit i = (t.testBit i || decide (k = i)) := by
  rw [Nat.testBit_or, Nat.testBit_two_pow]
theorem bt_clr_or {t a f : Nat} (ht : t < 2 ^ f) (hf : f ≤ 32) (ha : a < f) (hb : t.testBit a = false) : q3_clr (t ||| 2 ^ a) a = t := by
  apply Nat.eq_of_testBit_eq
  intro i
  rw [bt_clr (f := f) (bz_or_lt ht ha) hf (by omega), bt_or]
  by_cases h : i = a
  · subst h; simp [hb]
  · have h2 : ¬ a = i := fun z => h z.symm
    simp [h, h2]
theorem bt_or_clr {s a f : Nat} (hs : s < 2 ^ f) (hf : f ≤ 32) (ha : a < f) (hb : s.testBit a = true) : q3_clr s a ||| 2 ^ a = s := by
  apply Nat.eq_of_testBit_eq
  intro i
  rw [bt_or, bt_clr hs hf (by omega)]
  by_cases h : i = a
  · subst h; simp [hb]
  · have h2 : ¬ a = i := fun z => h z.symm
    simp [h, h2]
theorem bt_clr_b {s a f : Nat} (hs : s < 2 ^ f) (hf : f ≤ 32) (ha : a < 32) : (q3_clr s a).testBit a = false := by
  rw [bt_clr hs hf ha]; simp
theorem bt_clr_lt {s a f : Nat} (hs : s < 2 ^ f) (hf : f ≤ 32) (ha : a < f) (hb : s.testBit a = true) : q3_clr s a < s := by
  rcases Nat.lt_or_ge (q3_clr s a) s with h | h
  · exact h
  · have h2 : q3_clr s a = s := Nat.le_antisymm (q3_clr_le s a) h
    have h3 := bt_clr_b (s := s) (a := a) hs hf (by omega)
    rw [h2, hb] at h3
    cases h3
theorem bt_or_gt {t k : Nat} (hb : t.testBit k = false) : t < t ||| 2 ^ k := by
  rcases Nat.lt_or_ge t (t ||| 2 ^ k) with h | h
  · exact h
  · have h2 : t ||| 2 ^ k = t := Nat.le_antisymm h Nat.left_le_or
    have h3 := bt_or t k k
    rw [h2, hb] at h3
    simp at h3
/-- how many there are -/
def pcn : Nat → Nat → Nat
  | 0, _ => 0
  | f + 1, s => pcn f s + (if s.testBit f then 1 else 0)
theorem pcn_congr {s t : Nat} : ∀ f, (∀ i, i < f → s.testBit i = t.testBit i) → pcn f s = pcn f t := by
  intro f
  induction f with
  | zero => intro _; rfl
  | succ f ih =>
    intro h
    unfold pcn
    rw [ih (fun i hi => h i (by omega)), h f (by omega)]
theorem pcn_full (f : Nat) : ∀ g, g ≤ f → pcn g (2 ^ f - 1) = g := by
  intro g
  induction g with
  | zero => intro _; rfl
  | succ g ih =>
    intro h
    unfold pcn
    rw [ih (by omega), Nat.testBit_two_pow_sub_one]
    simp
    omega
theorem pcn_clr {s a g : Nat} (hs : s < 2 ^ g) (hg : g ≤ 32) (ha : a < g) (hb : s.testBit a = true) : ∀ f, pcn f (q3_clr s a) + (if a < f then 1 else 0) = pcn f s := by
  intro f
  induction f with
  | zero => rfl
  | succ f ih =>
    unfold pcn
    rw [bt_clr hs hg (by omega)]
    by_cases h : f = a
    · subst h
      have h1 : ¬ f < f := by omega
      have h2 : f < f + 1 := by omega
      rw [if_neg h1] at ih
      rw [if_pos h2]
      simp [hb]
      omega
    · by_cases h3 : a < f
      · rw [if_pos h3] at ih
        rw [if_pos (show a < f + 1 by omega)]
        simp [h]
        omega
      · rw [if_neg h3] at ih
        rw [if_neg (show ¬ a < f + 1 by omega)]
        simp [h]
        omega
theorem pcn_zero {s f : Nat} (hs : s < 2 ^ f) (h : pcn f s = 0) : s = 0 := by
  have key : ∀ g, g ≤ f → pcn g s = 0 → ∀ i, i < g → s.testBit i = false := by
    intro g
    induction g with
    | zero => intro _ _ i hi; omega
    | succ g ih =>
      intro hg hp i hi
      unfold pcn at hp
      by_cases e : i = g
      · subst e
        cases hb : s.testBit i
        · rfl
        · simp [hb] at hp
      · exact ih (by omega) (by omega) i (by omega)
  apply Nat.eq_of_testBit_eq
  intro i
  rw [Nat.zero_testBit]
  rcases Nat.lt_or_ge i f with h2 | h2
  · exact key f (Nat.le_refl _) h i h2
  · exact bt_hi hs h2
theorem pcn_pos {s f i : Nat} (hi : i < f) (hb : s.testBit i = true) : 0 < pcn f s := by
  induction f with
  | zero => omega
  | succ f ih =>
    unfold pcn
    by_cases e : i = f
    · subst e; simp [hb]
    · have := ih (by omega); omega
theorem pcn_ex {s f : Nat} (h : 0 < pcn f s) : ∃ i, i < f ∧ s.testBit i = true := by
  induction f with
  | zero => simp [pcn] at h
  | succ f ih =>
    unfold pcn at h
    cases hb : s.testBit f
    · simp [hb] at h
      obtain ⟨i, h1, h2⟩ := ih h
      exact ⟨i, by omega, h2⟩
    · exact ⟨f, by omega, hb⟩

/-! the table of earliest times, as the reference makes it -/
theorem i64_le {x y : Int64} : x ≤ y ↔ x.toInt ≤ y.toInt := Int64.le_iff_toInt_le
theorem i64_lt {x y : Int64} : x < y ↔ x.toInt < y.toInt := Int64.lt_iff_toInt_lt
section Q3DP
variable {tkv opv shv wyv : Nat → Int64} {bdv : Nat → Bool} {fev icv : Nat → Nat} {fr fz : Nat}
theorem ix_inj {s a t b : Nat} (ha : a < 11) (hb : b < 11) : 11 * s + a = 11 * t + b ↔ s = t ∧ a = b := by omega
/-- what one set and one last stop of it tell of the sets with one more -/
theorem q3_l6 {t j : Nat} {tt : Int64} (hf : fr ≤ 11) : ∀ (n k : Nat) (eav : Nat → Int64), k + n = fr → ∀ s a, a < fr → (f3_spread_l6 tkv opv shv wyv bdv fev t j tt n k eav).2 (11 * s + a) =
    if tt < 4000000000000000000 ∧ k ≤ a ∧ t.testBit a = false ∧ s = t ||| 2 ^ a then (if eav (11 * s + a) ≤ f3_wellDone tkv opv shv wyv bdv (fev j) (fev a) tt then eav (11 * s + a) else f3_wellDone tkv opv shv wyv bdv (fev j) (fev a) tt) else eav (11 * s + a) := by
  intro n
  induction n with
  | zero =>
    intro k eav hk s a ha
    rw [if_neg (by omega)]
    rfl
  | succ n ih =>
    intro k eav hk s a ha
    unfold f3_spread_l6
    by_cases h0 : (4000000000000000000 : Int64) ≤ tt
    · rw [if_pos h0]
      have h1 : ¬ tt < 4000000000000000000 := Int64.not_lt.mpr h0
      rw [if_neg (fun z => h1 z.1)]
    · rw [if_neg h0, ih _ _ (by omega) s a ha]
      have h1 : tt < 4000000000000000000 := Int64.not_le.mp h0
      by_cases hb : t / 2 ^ k % 2 = 0
      · rw [if_pos hb]
        by_cases hx : 11 * s + a = 11 * (t ||| 2 ^ k) + k
        · obtain ⟨hs, hak⟩ := (ix_inj (by omega) (by omega)).mp hx
          subst hak
          have h2 : ¬ (tt < 4000000000000000000 ∧ a + 1 ≤ a ∧ t.testBit a = false ∧ s = t ||| 2 ^ a) := by omega
          have q2 : tt < 4000000000000000000 ∧ a ≤ a ∧ t.testBit a = false ∧ s = t ||| 2 ^ a := ⟨h1, Nat.le_refl _, (bt_d0 _ _).mp hb, hs⟩
          rw [if_neg h2, if_pos q2, hx, va_up_self]
        · rw [va_up_ne _ _ hx]
          by_cases h2 : t.testBit a = false ∧ s = t ||| 2 ^ a
          · have h3 : a ≠ k := fun z => hx (by rw [h2.2, z])
            by_cases h4 : k + 1 ≤ a
            · have q1 : tt < 4000000000000000000 ∧ k + 1 ≤ a ∧ t.testBit a = false ∧ s = t ||| 2 ^ a := ⟨h1, h4, h2⟩
              have q2 : tt < 4000000000000000000 ∧ k ≤ a ∧ t.testBit a = false ∧ s = t ||| 2 ^ a := ⟨h1, by omega, h2⟩
              rw [if_pos q1, if_pos q2]
            · rw [if_neg (fun z => h4 z.2.1), if_neg (fun z => by have := z.2.1; omega)]
          · rw [if_neg (fun z => h2 z.2.2), if_neg (fun z => h2 z.2.2)]
      · rw [if_neg hb]
        by_cases h2 : t.testBit a = false ∧ s = t ||| 2 ^ a
        · have h3 : a ≠ k := fun z => hb ((bt_d0 _ _).mpr (z ▸ h2.1))
          by_cases h4 : k + 1 ≤ a
          · have q1 : tt < 4000000000000000000 ∧ k + 1 ≤ a ∧ t.testBit a = false ∧ s = t ||| 2 ^ a := ⟨h1, h4, h2⟩
            have q2 : tt < 4000000000000000000 ∧ k ≤ a ∧ t.testBit a = false ∧ s = t ||| 2 ^ a := ⟨h1, by omega, h2⟩
            rw [if_pos q1, if_pos q2]
          · rw [if_neg (fun z => h4 z.2.1), if_neg (fun z => by have := z.2.1; omega)]
        · rw [if_neg (fun z => h2 z.2.2), if_neg (fun z => h2 z.2.2)]
/-- a time is the least of those that the first so many tell -/
def q3_min (tkv opv shv wyv : Nat → Int64) (bdv : Nat → Bool) (fev : Nat → Nat) (m : Nat) (f : Nat → Int64) (a : Nat) (v : Int64) : Prop :=
  v ≤ 4000000000000000000 ∧ (∀ i, i < m → f i < 4000000000000000000 → v ≤ f3_wellDone tkv opv shv wyv bdv (fev i) (fev a) (f i)) ∧ (v = 4000000000000000000 ∨ ∃ i, i < m ∧ f i < 4000000000000000000 ∧ v = f3_wellDone tkv opv shv wyv bdv (fev i) (fev a) (f i))
theorem q3_min_c {m a : Nat} {f g : Nat → Int64} {v : Int64} (e : ∀ i, i < m → g i = f i) (h : q3_min tkv opv shv wyv bdv fev m f a v) : q3_min tkv opv shv wyv bdv fev m g a v := by
  refine ⟨h.1, fun i hi hf => ?_, h.2.2.imp id (fun ⟨i, a1, a2, a3⟩ => ⟨i, a1, ?_, ?_⟩)⟩
  · rw [e i hi] at hf ⊢
    exact h.2.1 i hi hf
  · rw [e i a1]; exact a2
  · rw [e i a1]; exact a3
theorem q3_min_s {m a : Nat} {f : Nat → Int64} {v : Int64} (h : q3_min tkv opv shv wyv bdv fev m f a v) : q3_min tkv opv shv wyv bdv fev (m + 1) f a (if f m < 4000000000000000000 then (if v ≤ f3_wellDone tkv opv shv wyv bdv (fev m) (fev a) (f m) then v else f3_wellDone tkv opv shv wyv bdv (fev m) (fev a) (f m)) else v) := by
  obtain ⟨h1, h2, h3⟩ := h
  by_cases c1 : f m < 4000000000000000000
  · rw [if_pos c1]
    by_cases c2 : v ≤ f3_wellDone tkv opv shv wyv bdv (fev m) (fev a) (f m)
    · rw [if_pos c2]
      refine ⟨h1, fun i hi hf => ?_, h3.imp id (fun ⟨i, a1, a2⟩ => ⟨i, by omega, a2⟩)⟩
      by_cases e : i = m
      · subst e; exact c2
      · exact h2 i (by omega) hf
    · rw [if_neg c2]
      have c3 := Int64.not_le.mp c2
      refine ⟨Int64.le_trans (Int64.le_of_lt c3) h1, fun i hi hf => ?_, Or.inr ⟨m, by omega, c1, rfl⟩⟩
      by_cases e : i = m
      · subst e; exact Int64.le_refl _
      · exact Int64.le_trans (Int64.le_of_lt c3) (h2 i (by omega) hf)
  · rw [if_neg c1]
    refine ⟨h1, fun i hi hf => ?_, h3.imp id (fun ⟨i, a1, a2⟩ => ⟨i, by omega, a2⟩)⟩
    by_cases e : i = m
    · subst e; exact absurd hf c1
    · exact h2 i (by omega) hf
theorem q3_l5 {t : Nat} (hf : fr ≤ 11) (ht : t < 2 ^ fr) (e0 : Nat → Int64) : ∀ (n j : Nat) (eav : Nat → Int64), j + n = fr →
    (∀ s a, a < fr → ¬ (t.testBit a = false ∧ s = t ||| 2 ^ a) → eav (11 * s + a) = e0 (11 * s + a)) →
    (∀ a, a < fr → t.testBit a = false → q3_min tkv opv shv wyv bdv fev j (fun i => e0 (11 * t + i)) a (eav (11 * (t ||| 2 ^ a) + a))) →
    (∀ s a, a < fr → ¬ (t.testBit a = false ∧ s = t ||| 2 ^ a) → (f3_spread_l5 tkv opv shv wyv bdv fr fev t n j eav).2 (11 * s + a) = e0 (11 * s + a)) ∧
    (∀ a, a < fr → t.testBit a = false → q3_min tkv opv shv wyv bdv fev fr (fun i => e0 (11 * t + i)) a ((f3_spread_l5 tkv opv shv wyv bdv fr fev t n j eav).2 (11 * (t ||| 2 ^ a) + a))) := by
  intro n
  induction n with
  | zero =>
    intro j eav hj h1 h2
    have e : j = fr := by omega
    subst e
    exact ⟨h1, h2⟩
  | succ n ih =>
    intro j eav hj h1 h2
    unfold f3_spread_l5
    have htj : eav (11 * t + j) = e0 (11 * t + j) := by
      refine h1 t j (by omega) (fun z => ?_)
      have := bt_or_gt z.1
      omega
    refine ih (j + 1) _ (by omega) (fun s a ha hn => ?_) (fun a ha hb => ?_)
    · rw [q3_l6 hf _ _ _ (by omega) s a ha, if_neg (fun z => hn z.2.2)]
      exact h1 s a ha hn
    · rw [q3_l6 hf _ _ _ (by omega) _ a ha, htj]
      have h3 := q3_min_s (h2 a ha hb)
      by_cases c : e0 (11 * t + j) < 4000000000000000000
      · rw [if_pos ⟨c, Nat.zero_le _, hb, rfl⟩]
        simp only [if_pos c] at h3
        exact h3
      · rw [if_neg (fun z => c z.1)]
        simp only [if_neg c] at h3
        exact h3
theorem q3_l2 : ∀ (n k : Nat) (eav : Nat → Int64) (x : Nat), (f3_spread_l2 n k eav).2 x = if k ≤ x ∧ x < k + n then 4000000000000000000 else eav x := by
  intro n
  induction n with
  | zero =>
    intro k eav x
    rw [if_neg (by omega)]; rfl
  | succ n ih =>
    intro k eav x
    show (f3_spread_l2 n (k + 1) (va_up eav k 4000000000000000000)).2 x = _
    rw [ih]
    by_cases h1 : k + 1 ≤ x ∧ x < k + 1 + n
    · rw [if_pos h1, if_pos (by omega)]
    · rw [if_neg h1]
      by_cases h2 : x = k
      · subst h2; rw [if_pos (by omega), va_up_self]
      · rw [if_neg (by omega), va_up_ne _ _ h2]
theorem q3_l3 {ck : Int64} {la : Nat} (hf : fr ≤ 11) : ∀ (n k : Nat) (eav : Nat → Int64), k + n = fr → ∀ s a, a < fr → (f3_spread_l3 tkv opv shv wyv bdv fev ck la n k eav).2 (11 * s + a) = if k ≤ a ∧ s = 2 ^ a then f3_wellDone tkv opv shv wyv bdv la (fev a) ck else eav (11 * s + a) := by
  intro n
  induction n with
  | zero =>
    intro k eav hk s a ha
    rw [if_neg (by omega)]; rfl
  | succ n ih =>
    intro k eav hk s a ha
    show (f3_spread_l3 tkv opv shv wyv bdv fev ck la n (k + 1) (va_up eav (11 * 2 ^ k + k) (f3_wellDone tkv opv shv wyv bdv la (fev k) ck))).2 (11 * s + a) = _
    rw [ih _ _ (by omega) s a ha]
    by_cases h1 : k + 1 ≤ a ∧ s = 2 ^ a
    · have h2 : k ≤ a ∧ s = 2 ^ a := ⟨by omega, h1.2⟩
      rw [if_pos h1, if_pos h2]
    · rw [if_neg h1]
      by_cases hx : 11 * s + a = 11 * 2 ^ k + k
      · obtain ⟨hs, hak⟩ := (ix_inj (by omega) (by omega)).mp hx
        subst hak
        have h2 : a ≤ a ∧ s = 2 ^ a := ⟨Nat.le_refl _, hs⟩
        rw [if_pos h2, hx, va_up_self]
      · rw [va_up_ne _ _ hx]
        have h2 : ¬ (k ≤ a ∧ s = 2 ^ a) := by
          intro z
          by_cases e : a = k
          · subst e; exact hx (by rw [z.2])
          · exact h1 ⟨by omega, z.2⟩
        rw [if_neg h2]
/-- the table when the sets below t have told what they know -/
def q3_T (tkv opv shv wyv : Nat → Int64) (bdv : Nat → Bool) (fev : Nat → Nat) (fr : Nat) (base : Nat → Int64) (t : Nat) (ea : Nat → Int64) : Prop :=
  (∀ s a, s < 2 ^ fr → a < fr → s.testBit a = false → ea (11 * s + a) = 4000000000000000000) ∧ (∀ a, a < fr → ea (11 * 2 ^ a + a) = base a) ∧
  (∀ s a, s < 2 ^ fr → a < fr → s.testBit a = true → q3_clr s a ≠ 0 → (q3_clr s a < t → q3_min tkv opv shv wyv bdv fev fr (fun i => ea (11 * q3_clr s a + i)) a (ea (11 * s + a))) ∧ (t ≤ q3_clr s a → ea (11 * s + a) = 4000000000000000000))
theorem q3_T_s {base : Nat → Int64} {t : Nat} {ea : Nat → Int64} (hf : fr ≤ 11) (ht : t < 2 ^ fr) (ht0 : 1 ≤ t) (h : q3_T tkv opv shv wyv bdv fev fr base t ea) : q3_T tkv opv shv wyv bdv fev fr base (t + 1) (f3_spread_l5 tkv opv shv wyv bdv fr fev t fr 0 ea).2 := by
  obtain ⟨hA, hB, hC⟩ := h
  have h0 : ∀ a, a < fr → t.testBit a = false → q3_min tkv opv shv wyv bdv fev 0 (fun i => ea (11 * t + i)) a (ea (11 * (t ||| 2 ^ a) + a)) := by
    intro a ha hb
    have h1 := bt_clr_or ht (by omega) ha hb
    have h2 := (hC (t ||| 2 ^ a) a (bz_or_lt ht ha) ha (by rw [bt_or]; simp) (by rw [h1]; omega)).2 (by rw [h1]; exact Nat.le_refl _)
    rw [h2]
    exact ⟨Int64.le_refl _, fun i hi => by omega, Or.inl rfl⟩
  obtain ⟨k1, k2⟩ := q3_l5 hf ht ea fr 0 ea (by omega) (fun _ _ _ _ => rfl) h0
  generalize (f3_spread_l5 tkv opv shv wyv bdv fr fev t fr 0 ea).2 = eb at k1 k2 ⊢
  have kt : ∀ c i, c ≤ t → i < fr → eb (11 * c + i) = ea (11 * c + i) := by
    intro c i hc hi
    refine k1 c i hi (fun z => ?_)
    have := bt_or_gt z.1
    omega
  refine ⟨fun s a hs ha hb => ?_, fun a ha => ?_, fun s a hs ha hb hc => ?_⟩
  · rw [k1 s a ha (fun z => by rw [z.2, bt_or] at hb; simp at hb)]
    exact hA s a hs ha hb
  · rw [k1 _ a ha (fun z => ?_)]
    · exact hB a ha
    · have h1 := bt_clr_or ht (by omega) ha z.1
      rw [← z.2] at h1
      have h2 := bt_clr_or (t := 0) (a := a) (f := fr) (Nat.pow_pos (by decide)) (by omega) ha (by simp)
      rw [Nat.zero_or] at h2
      omega
  · have hoc := bt_or_clr hs (by omega) ha hb
    have hcb := bt_clr_b (s := s) (a := a) hs (by omega) (by omega)
    obtain ⟨c1, c2⟩ := hC s a hs ha hb hc
    generalize hce : q3_clr s a = c at hoc hcb c1 c2 hc ⊢
    have hun : c ≠ t → eb (11 * s + a) = ea (11 * s + a) := by
      intro hne
      refine k1 s a ha (fun z => hne ?_)
      rw [← hce, z.2]
      exact bt_clr_or ht (by omega) ha z.1
    refine ⟨fun hlt => ?_, fun hge => ?_⟩
    · by_cases e : c = t
      · subst e
        have h5 := k2 a ha hcb
        rw [hoc] at h5
        exact q3_min_c (fun i hi => kt c i (Nat.le_refl _) hi) h5
      · have h5 := c1 (by omega)
        rw [hun e]
        exact q3_min_c (fun i hi => kt c i (by omega) hi) h5
    · rw [hun (by omega)]
      exact c2 (by omega)
theorem q3_l4 {base : Nat → Int64} (hf : fr ≤ 11) : ∀ (n t : Nat) (ea : Nat → Int64), t + n = 2 ^ fr → 1 ≤ t → q3_T tkv opv shv wyv bdv fev fr base t ea → q3_T tkv opv shv wyv bdv fev fr base (2 ^ fr) (f3_spread_l4 tkv opv shv wyv bdv fr fev n t ea).2 := by
  intro n
  induction n with
  | zero =>
    intro t ea ht h1 h
    have e : t = 2 ^ fr := by omega
    subst e
    exact h
  | succ n ih =>
    intro t ea ht h1 h
    exact ih (t + 1) _ (by omega) (by omega) (q3_T_s hf (by omega) h1 h)
/-- the reference's table: what it holds in the end -/
theorem q3_spread (hf : fr ≤ 11) (eav : Nat → Int64) : q3_T tkv opv shv wyv bdv fev fr (fun a => f3_wellDone tkv opv shv wyv bdv (f3_spread_l1 tkv opv shv wyv bdv icv fz 0 0 0).2.1 (fev a) (f3_spread_l1 tkv opv shv wyv bdv icv fz 0 0 0).1) (2 ^ fr) (f3_spread_eav tkv opv shv wyv bdv fz icv fr fev eav) := by
  have hp := bz_pow1 fr
  unfold f3_spread_eav
  refine q3_l4 hf _ _ _ (by omega) (Nat.le_refl _) ⟨fun s a hs ha hb => ?_, fun a ha => ?_, fun s a hs ha hb hc => ⟨fun z => by omega, fun _ => ?_⟩⟩
  · rw [q3_l3 hf _ _ _ (by omega) s a ha, if_neg, q3_l2, if_pos]
    · omega
    · intro z
      rw [z.2, Nat.testBit_two_pow] at hb
      simp at hb
  · rw [q3_l3 hf _ _ _ (by omega) _ a ha, if_pos ⟨Nat.zero_le _, rfl⟩]
  · rw [q3_l3 hf _ _ _ (by omega) s a ha, if_neg, q3_l2, if_pos]
    · omega
    · intro z
      apply hc
      have h2 := bt_clr_or (t := 0) (a := a) (f := fr) (Nat.pow_pos (by decide)) (by omega) ha (by simp)
      rw [Nat.zero_or] at h2
      rw [z.2]
      exact h2
/-- the way back through the table never comes to an end too soon -/
def q3_V (fr : Nat) (ea : Nat → Int64) (n se a : Nat) : Prop := se < 2 ^ fr ∧ a < fr ∧ se.testBit a = true ∧ pcn fr se = n ∧ ea (11 * se + a) ≠ 4000000000000000000
theorem q3_V0 {ea : Nat → Int64} {a : Nat} (ha : a < fr) (h : f3_wellHome wyv bdv (fev a) (ea (11 * (2 ^ fr - 1) + a)) < 4000000000000000000) : q3_V fr ea fr (2 ^ fr - 1) a := by
  have hp := bz_pow1 fr
  refine ⟨by omega, ha, ?_, pcn_full fr fr (Nat.le_refl _), fun z => ?_⟩
  · rw [Nat.testBit_two_pow_sub_one]; simp [ha]
  · rw [z] at h
    unfold f3_wellHome at h
    simp at h
theorem q3_V1 {base : Nat → Int64} {ea : Nat → Int64} (hf : fr ≤ 11) (hT : q3_T tkv opv shv wyv bdv fev fr base (2 ^ fr) ea) : ∀ n se a, q3_V fr ea (n + 1) se a → a < fr ∧ se < 2 ^ fr ∧ (0 < n → ∃ j, j < fr ∧ q3_fit tkv opv shv wyv bdv fev ea (q3_clr se a) se a j) := by
  intro n se a h
  obtain ⟨h1, h2, h3, h4, h5⟩ := h
  refine ⟨h2, h1, fun hn => ?_⟩
  have hlt := bt_clr_lt h1 (by omega) h2 h3
  have hp := pcn_clr h1 (by omega) h2 h3 fr
  rw [if_pos h2, h4] at hp
  have hne : q3_clr se a ≠ 0 := by
    intro z
    rw [z] at hp
    have : pcn fr 0 = 0 := by
      have key : ∀ g, pcn g 0 = 0 := by
        intro g
        induction g with
        | zero => rfl
        | succ g ih => unfold pcn; rw [ih]; simp
      exact key fr
    omega
  have hm := (hT.2.2 se a h1 h2 h3 hne).1 (by omega)
  rcases hm.2.2 with z | ⟨i, i1, i2, i3⟩
  · exact absurd z h5
  · refine ⟨i, i1, ?_, i3.symm⟩
    rw [bt_d]
    cases hb : (q3_clr se a).testBit i
    · have := hT.1 (q3_clr se a) i (by omega) i1 hb
      have i2' : ea (11 * q3_clr se a + i) < 4000000000000000000 := i2
      rw [this] at i2'
      exact absurd i2' (Int64.lt_irrefl)
    · rfl
theorem q3_V2 {base : Nat → Int64} {ea : Nat → Int64} (hf : fr ≤ 11) (hT : q3_T tkv opv shv wyv bdv fev fr base (2 ^ fr) ea) : ∀ n se a j, q3_V fr ea (n + 1) se a → 0 < n → j < fr → q3_fit tkv opv shv wyv bdv fev ea (q3_clr se a) se a j → q3_V fr ea n (q3_clr se a) j := by
  intro n se a j h hn hj hfit
  obtain ⟨h1, h2, h3, h4, h5⟩ := h
  have hlt := bt_clr_lt h1 (by omega) h2 h3
  have hp := pcn_clr h1 (by omega) h2 h3 fr
  rw [if_pos h2, h4] at hp
  refine ⟨by omega, hj, (bt_d _ _).mp hfit.1, by omega, fun z => ?_⟩
  have h6 := hfit.2
  rw [z] at h6
  apply h5
  rw [← h6]
  unfold f3_wellDone
  simp
end Q3DP


/-! rows without a stop twice -/
def q_row (n B : Nat) (f : Nat → Nat) : Prop := (∀ k, k < n → 1 ≤ f k ∧ f k ≤ B) ∧ ∀ i j, i < n → j < n → f i = f j → i = j
theorem qr_ext {n B : Nat} {f g : Nat → Nat} (e : ∀ k, k < n → g k = f k) (h : q_row n B f) : q_row n B g :=
  ⟨fun k hk => by rw [e k hk]; exact h.1 k hk, fun i j hi hj z => h.2 i j hi hj (by rw [← e i hi, ← e j hj]; exact z)⟩
theorem q3_turn_at {f : Nat → Nat} {i j k : Nat} : f3_turn_rov f i j k = if k = j then f i else if k = i then f j else f k := by
  unfold f3_turn_rov
  by_cases h1 : k = j
  · subst h1; rw [va_up_self, if_pos rfl]
  · rw [va_up_ne _ _ h1, if_neg h1]
    by_cases h2 : k = i
    · subst h2; rw [va_up_self, if_pos rfl]
    · rw [va_up_ne _ _ h2, if_neg h2]
theorem q3_turn2 {f : Nat → Nat} {i j : Nat} : f3_turn_rov (f3_turn_rov f i j) i j = f := by
  funext k
  rw [q3_turn_at, q3_turn_at, q3_turn_at, q3_turn_at]
  by_cases h1 : k = j
  · subst h1
    by_cases h2 : i = k
    · subst h2; simp
    · simp [h2]
  · by_cases h2 : k = i
    · subst h2; simp [h1]
    · simp [h1, h2]
theorem qr_turn {n B i j : Nat} {f : Nat → Nat} (h : q_row n B f) (hi : i < n) (hj : j < n) : q_row n B (f3_turn_rov f i j) := by
  constructor
  · intro k hk
    rw [q3_turn_at]
    split
    · exact h.1 i hi
    · split
      · exact h.1 j hj
      · exact h.1 k hk
  · intro a b ha hb z
    rw [q3_turn_at, q3_turn_at] at z
    by_cases a1 : a = j
    · rw [if_pos a1] at z
      by_cases b1 : b = j
      · omega
      · rw [if_neg b1] at z
        by_cases b2 : b = i
        · rw [if_pos b2] at z; have := h.2 i j hi hj z; omega
        · rw [if_neg b2] at z; have := h.2 i b hi hb z; omega
    · rw [if_neg a1] at z
      by_cases a2 : a = i
      · rw [if_pos a2] at z
        by_cases b1 : b = j
        · rw [if_pos b1] at z; have := h.2 j i hj hi z; omega
        · rw [if_neg b1] at z
          by_cases b2 : b = i
          · omega
          · rw [if_neg b2] at z; have := h.2 j b hj hb z; omega
      · rw [if_neg a2] at z
        by_cases b1 : b = j
        · rw [if_pos b1] at z; have := h.2 a i ha hi z; omega
        · rw [if_neg b1] at z
          by_cases b2 : b = i
          · rw [if_pos b2] at z; have := h.2 a j ha hj z; omega
          · rw [if_neg b2] at z; exact h.2 a b ha hb z
/-- the row with a stop put in: each place tells whence it is -/
theorem q3_putIn_src {n pl x k : Nat} {f : Nat → Nat} (h : pl ≤ n) (hk : k < n + 1) : (k = pl ∧ f3_putIn_rov n f pl x k = x) ∨ (k ≠ pl ∧ ∃ i, i < n ∧ (i = if k < pl then k else k - 1) ∧ f3_putIn_rov n f pl x k = f i) := by
  rw [q3_putIn h]
  by_cases h1 : k = pl
  · left; exact ⟨h1, by rw [if_pos h1]⟩
  · right
    refine ⟨h1, ?_⟩
    rw [if_neg h1]
    by_cases h2 : pl < k ∧ k ≤ n
    · rw [if_pos h2]
      exact ⟨k - 1, by omega, by rw [if_neg (by omega)], rfl⟩
    · rw [if_neg h2]
      exact ⟨k, by omega, by rw [if_pos (by omega)], rfl⟩
theorem qr_putIn {n B pl x : Nat} {f : Nat → Nat} (h : q_row n B f) (hp : pl ≤ n) (h1 : 1 ≤ x) (h2 : x ≤ B) (hx : ∀ k, k < n → f k ≠ x) : q_row (n + 1) B (f3_putIn_rov n f pl x) := by
  constructor
  · intro k hk
    rcases q3_putIn_src (f := f) (x := x) hp hk with ⟨_, e⟩ | ⟨_, i, hi, _, e⟩
    · rw [e]; exact ⟨h1, h2⟩
    · rw [e]; exact h.1 i hi
  · intro a b ha hb z
    rcases q3_putIn_src (f := f) (x := x) hp ha with ⟨a0, ea⟩ | ⟨a0, i, hi, ei, ea⟩
    · rcases q3_putIn_src (f := f) (x := x) hp hb with ⟨b0, eb⟩ | ⟨b0, j, hj, ej, eb⟩
      · omega
      · rw [ea, eb] at z; exact absurd z.symm (hx j hj)
    · rcases q3_putIn_src (f := f) (x := x) hp hb with ⟨b0, eb⟩ | ⟨b0, j, hj, ej, eb⟩
      · rw [ea, eb] at z; exact absurd z (hx i hi)
      · rw [ea, eb] at z
        have e := h.2 i j hi hj z
        rw [ei, ej] at e
        by_cases c1 : a < pl
        · rw [if_pos c1] at e
          by_cases c2 : b < pl
          · rw [if_pos c2] at e; exact e
          · rw [if_neg c2] at e; omega
        · rw [if_neg c1] at e
          by_cases c2 : b < pl
          · rw [if_pos c2] at e; omega
          · rw [if_neg c2] at e; omega
theorem q3_tp {n pl x k : Nat} {f : Nat → Nat} (hp : pl ≤ n) (hk : k < n) : f3_takeOut_rov (n + 1) (f3_putIn_rov n f pl x) pl k = f k := by
  rw [q3_takeOut (by omega)]
  by_cases h1 : pl ≤ k ∧ k < n + 1 - 1
  · rw [if_pos h1, q3_putIn hp, if_neg (by omega), if_pos (by omega)]
    rfl
  · rw [if_neg h1, q3_putIn hp, if_neg (by omega), if_neg (by omega)]
theorem qr_takeOut {n B pl : Nat} {f : Nat → Nat} (h : q_row n B f) (hp : pl < n) : q_row (n - 1) B (f3_takeOut_rov n f pl) ∧ ∀ k, k < n - 1 → f3_takeOut_rov n f pl k ≠ f pl := by
  have src : ∀ k, k < n - 1 → ∃ i, i < n ∧ i ≠ pl ∧ (i = if pl ≤ k then k + 1 else k) ∧ f3_takeOut_rov n f pl k = f i := by
    intro k hk
    rw [q3_takeOut hp]
    by_cases h1 : pl ≤ k ∧ k < n - 1
    · rw [if_pos h1]; exact ⟨k + 1, by omega, by omega, by rw [if_pos h1.1], rfl⟩
    · rw [if_neg h1]; exact ⟨k, by omega, by omega, by rw [if_neg (by omega)], rfl⟩
  refine ⟨⟨fun k hk => ?_, fun a b ha hb z => ?_⟩, fun k hk z => ?_⟩
  · obtain ⟨i, hi, _, _, e⟩ := src k hk
    rw [e]; exact h.1 i hi
  · obtain ⟨i, hi, _, ei, e1⟩ := src a ha
    obtain ⟨j, hj, _, ej, e2⟩ := src b hb
    rw [e1, e2] at z
    have e := h.2 i j hi hj z
    rw [ei, ej] at e
    split at e <;> split at e <;> omega
  · obtain ⟨i, hi, hne, _, e⟩ := src k hk
    rw [e] at z
    exact hne (h.2 i pl hi hp z)
section QPM
variable {tkv opv shv wyv : Nat → Int64} {bdv : Nat → Bool} {fz rs x : Nat}
/-- the tries of insert leave the row as it was, and choose a place -/
theorem q3_ins_lp (hrs : rs ≤ 19) (hfz : fz ≤ rs) (r0 : Nat → Nat) : ∀ (n : Nat) (ch : Int32) (lst : Int64) (pl : Nat) (rov : Nat → Nat), pl + n = rs + 1 → fz ≤ pl → (ch < 0 ∧ pl = fz ∨ q3_good fz rs ch) → (∀ k, k < rs → rov k = r0 k) →
    ((f3_insert_lp tkv opv shv wyv bdv rs x n ch lst pl rov).1 < 0 ∧ rs + 1 = fz ∨ q3_good fz rs (f3_insert_lp tkv opv shv wyv bdv rs x n ch lst pl rov).1) ∧ ∀ k, k < rs → (f3_insert_lp tkv opv shv wyv bdv rs x n ch lst pl rov).2.2.2 k = r0 k := by
  intro n
  induction n with
  | zero =>
    intro ch lst pl rov h1 h2 h3 h4
    have e : pl = rs + 1 := by omega
    subst e
    exact ⟨h3, h4⟩
  | succ n ih =>
    intro ch lst pl rov h1 h2 h3 h4
    exact ih _ _ _ _ (by omega) (by omega) (q3_ch h3 h2 (by omega) (by omega)) (fun k hk => by rw [show f3_putIn_rs rs = rs + 1 from rfl, q3_tp (by omega) hk]; exact h4 k hk)
theorem q3_insert (hrs : rs ≤ 19) (hfz : fz ≤ rs) (rov : Nat → Nat) : ∃ (r1 : Nat → Nat) (pl : Nat), fz ≤ pl ∧ pl ≤ rs ∧ (∀ k, k < rs → r1 k = rov k) ∧ f3_insert tkv opv shv wyv bdv fz rs rov x = nI pl ∧ f3_insert_rov tkv opv shv wyv bdv fz rs rov x = f3_putIn_rov rs r1 pl x := by
  obtain ⟨h1, h2⟩ := q3_ins_lp (tkv := tkv) (opv := opv) (shv := shv) (wyv := wyv) (bdv := bdv) (x := x) hrs hfz rov (rs + 1 - fz) (-1) 0 fz rov (by omega) (Nat.le_refl _) (Or.inl ⟨by decide, rfl⟩) (fun _ _ => rfl)
  rcases h1 with h1 | h1
  · omega
  · exact ⟨_, _, h1.2.1, h1.2.2, h2, rfl, rfl⟩
theorem qr_insert {B : Nat} {rov : Nat → Nat} (hrs : rs ≤ 19) (hfz : fz ≤ rs) (h : q_row rs B rov) (h1 : 1 ≤ x) (h2 : x ≤ B) (hx : ∀ k, k < rs → rov k ≠ x) :
    q_row (rs + 1) B (f3_insert_rov tkv opv shv wyv bdv fz rs rov x) ∧ (∀ k, k < fz → f3_insert_rov tkv opv shv wyv bdv fz rs rov x k = rov k) ∧ ∀ k, k < rs + 1 → f3_insert_rov tkv opv shv wyv bdv fz rs rov x k = x ∨ ∃ i, i < rs ∧ f3_insert_rov tkv opv shv wyv bdv fz rs rov x k = rov i := by
  obtain ⟨r1, pl, p1, p2, e1, _, e2⟩ := q3_insert (tkv := tkv) (opv := opv) (shv := shv) (wyv := wyv) (bdv := bdv) (x := x) hrs hfz rov
  rw [e2]
  refine ⟨qr_putIn (qr_ext e1 h) p2 h1 h2 (fun k hk => by rw [e1 k hk]; exact hx k hk), fun k hk => ?_, fun k hk => ?_⟩
  · rw [q3_putIn p2, if_neg (by omega), if_neg (by omega)]; exact e1 k (by omega)
  · rcases q3_putIn_src (f := r1) (x := x) p2 hk with ⟨_, e⟩ | ⟨_, i, hi, _, e⟩
    · exact Or.inl e
    · exact Or.inr ⟨i, hi, by rw [e]; exact e1 i hi⟩
theorem q3_better_r {rov : Nat → Nat} {i j : Nat} : f3_better_rov tkv opv shv wyv bdv rs rov i j = if f3_better tkv opv shv wyv bdv rs rov i j = true then f3_turn_rov rov i j else rov := by
  unfold f3_better_rov f3_better
  by_cases h : f3_measure tkv opv shv wyv bdv rs rov ≤ f3_measure tkv opv shv wyv bdv rs (f3_turn_rov rov i j)
  · simp [h, q3_turn2]
  · simp [h]
theorem qr_better {B i j : Nat} {rov : Nat → Nat} (h : q_row rs B rov) (hi : i < rs) (hj : j < rs) : q_row rs B (f3_better_rov tkv opv shv wyv bdv rs rov i j) := by
  rw [q3_better_r]
  split
  · exact qr_turn h hi hj
  · exact h
theorem q3_better_lo {i j k : Nat} {rov : Nat → Nat} (hi : k ≠ i) (hj : k ≠ j) : f3_better_rov tkv opv shv wyv bdv rs rov i j k = rov k := by
  rw [q3_better_r]
  split
  · rw [q3_turn_at, if_neg hj, if_neg hi]
  · rfl
theorem q3_impr_lp {B : Nat} : ∀ (n : Nat) (lf : Int64) (i j : Nat) (rov : Nat → Nat), fz ≤ i → i < j → (i + 1 < rs → j < rs) → q_row rs B rov →
    q_row rs B (f3_improve_lp tkv opv shv wyv bdv fz rs n lf i j rov).2.2.2 ∧ ∀ k, k < fz → (f3_improve_lp tkv opv shv wyv bdv fz rs n lf i j rov).2.2.2 k = rov k := by
  intro n
  induction n with
  | zero => intro lf i j rov _ _ _ h; exact ⟨h, fun _ _ => rfl⟩
  | succ n ih =>
    intro lf i j rov h1 h2 h3 h
    unfold f3_improve_lp
    by_cases c1 : rs ≤ i + 1
    · rw [if_pos c1]; exact ⟨h, fun _ _ => rfl⟩
    · rw [if_neg c1]
      have hb := qr_better (tkv := tkv) (opv := opv) (shv := shv) (wyv := wyv) (bdv := bdv) h (show i < rs by omega) (h3 (by omega))
      by_cases c2 : f3_better tkv opv shv wyv bdv rs rov i j = true
      · rw [if_pos c2]
        obtain ⟨a, b⟩ := ih (lf - 1) fz (fz + 1) _ (Nat.le_refl _) (by omega) (by omega) hb
        exact ⟨a, fun k hk => by rw [b k hk]; exact q3_better_lo (by omega) (by omega)⟩
      · rw [if_neg c2]
        obtain ⟨a, b⟩ := ih (lf - 1) (if j + 1 = rs then i + 1 else i) (if j + 1 = rs then (if j + 1 = rs then i + 1 else i) + 1 else j + 1) _ (by split <;> omega) (by split <;> omega) (by split <;> omega) hb
        exact ⟨a, fun k hk => by rw [b k hk]; exact q3_better_lo (by omega) (by omega)⟩
theorem qr_improve {B : Nat} {rov : Nat → Nat} {stp : Int64} (h : q_row rs B rov) : q_row rs B (f3_improve_rov tkv opv shv wyv bdv fz rs rov stp) ∧ ∀ k, k < fz → f3_improve_rov tkv opv shv wyv bdv fz rs rov stp k = rov k := by
  unfold f3_improve_rov
  exact q3_impr_lp _ _ _ _ _ (Nat.le_refl _) (by omega) (by omega) h
end QPM
theorem q3_keep_lp {rov : Nat → Nat} : ∀ (n k : Nat) (rdv : Nat → Nat) (j : Nat), (f3_keep_lp rov n k rdv).2 j = if k ≤ j ∧ j < k + n then rov j else rdv j := by
  intro n
  induction n with
  | zero =>
    intro k rdv j
    rw [if_neg (by omega)]; rfl
  | succ n ih =>
    intro k rdv j
    show (f3_keep_lp rov n (k + 1) (va_up rdv k (rov k))).2 j = _
    rw [ih]
    by_cases h1 : k + 1 ≤ j ∧ j < k + 1 + n
    · rw [if_pos h1, if_pos (by omega)]
    · rw [if_neg h1]
      by_cases h2 : j = k
      · subst h2; rw [if_pos (by omega), va_up_self]
      · rw [if_neg (by omega), va_up_ne _ _ h2]
theorem q3_keep {rs : Nat} {rdv rov : Nat → Nat} (j : Nat) : f3_keep_rdv rdv rs rov j = if j < rs then rov j else rdv j := by
  unfold f3_keep_rdv
  rw [q3_keep_lp]
  by_cases h : j < rs
  · rw [if_pos (by omega), if_pos h]
  · rw [if_neg (by omega), if_neg h]
theorem qr_keep {rs B : Nat} {rdv rov : Nat → Nat} (h : q_row rs B rov) : q_row rs B (f3_keep_rdv rdv rs rov) := qr_ext (fun k hk => by rw [q3_keep, if_pos hk]) h
theorem qr_fetch {rn B : Nat} {rdv rov : Nat → Nat} (h : q_row rn B rdv) : q_row rn B (f3_fetch_rov rn rdv rov) := qr_ext (fun k hk => by rw [q3_fetch, if_pos hk]) h
/-! which stops are frozen -/
theorem q3_isFr_lp {icv : Nat → Nat} {x : Nat} : ∀ (n : Nat) (is : Bool) (k : Nat), (f3_isFrozen_lp icv x n is k).1 = true ↔ is = true ∨ ∃ i, k ≤ i ∧ i < k + n ∧ icv i = x := by
  intro n
  induction n with
  | zero =>
    intro is k
    constructor
    · intro h; exact Or.inl h
    · rintro (h | ⟨i, h1, h2, _⟩)
      · exact h
      · omega
  | succ n ih =>
    intro is k
    unfold f3_isFrozen_lp
    rw [ih]
    constructor
    · rintro (h | ⟨i, h1, h2, h3⟩)
      · by_cases c1 : is = true
        · exact Or.inl c1
        · rw [if_neg c1] at h
          by_cases c2 : icv k = x
          · exact Or.inr ⟨k, Nat.le_refl _, by omega, c2⟩
          · rw [if_neg c2] at h; cases h
      · exact Or.inr ⟨i, by omega, by omega, h3⟩
    · rintro (h | ⟨i, h1, h2, h3⟩)
      · left; rw [if_pos h]
      · by_cases e : i = k
        · subst e; left
          by_cases c1 : is = true
          · rw [if_pos c1]
          · rw [if_neg c1, if_pos h3]
        · exact Or.inr ⟨i, by omega, by omega, h3⟩
theorem q3_isFr {fz x : Nat} {icv : Nat → Nat} : f3_isFrozen fz icv x = true ↔ ∃ i, i < fz ∧ icv i = x := by
  unfold f3_isFrozen
  rw [q3_isFr_lp]
  constructor
  · rintro (h | ⟨i, _, h2, h3⟩)
    · cases h
    · exact ⟨i, by omega, h3⟩
  · rintro ⟨i, h1, h2⟩
    exact Or.inr ⟨i, Nat.zero_le _, by omega, h2⟩
/-- how many of the first m are below b -/
def q_cnt (f : Nat → Nat) : Nat → Nat → Nat
  | 0, _ => 0
  | m + 1, b => q_cnt f m b + (if f m < b then 1 else 0)
theorem q_cnt_all {f : Nat → Nat} {b : Nat} : ∀ m, (∀ i, i < m → f i < b) → q_cnt f m b = m := by
  intro m
  induction m with
  | zero => intro _; rfl
  | succ m ih =>
    intro h
    unfold q_cnt
    rw [ih (fun i hi => h i (by omega)), if_pos (h m (by omega))]
theorem q_cnt_none {f : Nat → Nat} : ∀ m, (∀ i, i < m → 1 ≤ f i) → q_cnt f m 1 = 0 := by
  intro m
  induction m with
  | zero => intro _; rfl
  | succ m ih =>
    intro h
    unfold q_cnt
    have := h m (by omega)
    rw [ih (fun i hi => h i (by omega)), if_neg (by omega)]
theorem q_cnt_s {f : Nat → Nat} {b : Nat} : ∀ m, (∀ i j, i < m → j < m → f i = f j → i = j) → q_cnt f m (b + 1) = q_cnt f m b + (if ∃ i, i < m ∧ f i = b then 1 else 0) := by
  intro m
  induction m with
  | zero =>
    intro _
    have : ¬ ∃ i, i < 0 ∧ f i = b := by rintro ⟨i, h, _⟩; omega
    unfold q_cnt
    rw [if_neg this]
  | succ m ih =>
    intro h
    unfold q_cnt
    rw [ih (fun i j hi hj => h i j (by omega) (by omega))]
    by_cases c : f m = b
    · have h1 : ¬ ∃ i, i < m ∧ f i = b := by
        rintro ⟨i, h1, h2⟩
        have := h i m (by omega) (by omega) (by rw [h2, c])
        omega
      have h2 : ∃ i, i < m + 1 ∧ f i = b := ⟨m, by omega, c⟩
      rw [if_neg h1, if_pos h2, if_pos (by omega), if_neg (by omega)]
    · have h1 : (∃ i, i < m + 1 ∧ f i = b) ↔ ∃ i, i < m ∧ f i = b := by
        constructor
        · rintro ⟨i, h1, h2⟩
          by_cases e : i = m
          · subst e; exact absurd h2 c
          · exact ⟨i, by omega, h2⟩
        · rintro ⟨i, h1, h2⟩; exact ⟨i, by omega, h2⟩
      have h2 : (f m < b + 1) ↔ f m < b := by omega
      simp only [h1, h2]
      omega


theorem q3_insert_le {tkv opv shv wyv : Nat → Int64} {bdv : Nat → Bool} {fz rs x B : Nat} {rov : Nat → Nat} (hrs : rs ≤ 19) (hfz : fz ≤ rs) (hx : x ≤ B) (h : ∀ k, k < rs → rov k ≤ B) : ∀ k, k < rs + 1 → f3_insert_rov tkv opv shv wyv bdv fz rs rov x k ≤ B := by
  obtain ⟨r1, pl, p1, p2, e1, _, e2⟩ := q3_insert (tkv := tkv) (opv := opv) (shv := shv) (wyv := wyv) (bdv := bdv) (x := x) hrs hfz rov
  rw [e2]
  exact q3_putIn_le p2 hx (fun k hk => by rw [e1 k hk]; exact h k hk)

def f3_solve_s1 (fz : Nat) (icv : Nat → Nat) : Nat → Nat → Nat → (Nat → Nat) → Nat × Nat × (Nat → Nat)
  | 0, k, fr, fev => (k, fr, fev)
  | n + 1, k, fr, fev => f3_solve_s1 fz icv n (k + 1) ((if (f3_isFrozen fz icv k) = true then fr else fr + 1)) ((if (f3_isFrozen fz icv k) = true then fev else va_up fev fr k))
set_option maxRecDepth 100000 in
set_option maxHeartbeats 4000000 in
theorem lX3_solve_s1 {p : Program} {l : Launch} {e : Env} {R : Room} {s : State} {m : MethodId} {args : Array Value} {below : List Frame} {meth : Method} {c : Code} {cells slots : Nat} {Q : State → Prop} {A : Nat → Prop} {D : va_G} (h : Nat) (ad : Nat → Nat) (cI : ClassId) (cJ : ClassId) (cZ : ClassId) (thr : Int32) (sn : Nat) (tkv : Nat → Int64) (opv : Nat → Int64) (shv : Nat → Int64) (ldv : Nat → Int32) (lim : Int32) (wyv : Nat → Int64) (bdv : Nat → Bool) (isr : Bool) (rn : Nat) (rdv : Nat → Nat) (fz : Nat) (icv : Nat → Nat) (exa : Bool) (eav : Nat → Int64) (rs : Nat) (rov : Nat → Nat) (stp : Int64) (hsn : sn ≤ 20) (hfz : fz ≤ 20) (hic : ∀ k, k < fz → icv k ≤ 20) (hR : 1 ≤ R.frames ∧ 23 ≤ R.locals) (hce : cells ≤ R.cells ∧ slots ≤ R.slots) (C : gz_C p s m args c cX3_solve 5 RX3 D [(cI, .int), (cJ, .long), (cZ, .boolean)] A) : ∀ (n : Nat) (k : Nat) (fr : Nat) (fev : Nat → Nat), (k + n = sn + 1) → (fr < k) → ((((f3_solve_s1 fz icv n k fr fev).1) + 0 = sn + 1) → (((f3_solve_s1 fz icv n k fr fev).2.1) < ((f3_solve_s1 fz icv n k fr fev).1)) → GZ p l e R s m args below meth c 5 D A cells slots Q (wM h ad cI cJ cZ thr sn tkv opv shv ldv lim wyv bdv isr rn rdv fz icv exa ((f3_solve_s1 fz icv n k fr fev).2.1) ((f3_solve_s1 fz icv n k fr fev).2.2) eav rs rov) [(0, .ref h), (1, .long stp), (3, .int (nI ((f3_solve_s1 fz icv n k fr fev).1)))] [] 104) → GZ p l e R s m args below meth c 5 D A cells slots Q (wM h ad cI cJ cZ thr sn tkv opv shv ldv lim wyv bdv isr rn rdv fz icv exa fr fev eav rs rov) [(0, .ref h), (1, .long stp), (3, .int (nI k))] [] 62 := by
  intro n
  induction n with
  | zero =>
    intro k fr fev hme hfk hx
    refine gz_iload_n C 2 dX3_solve_62 rfl ?_
    refine gz_aload_n C 0 dX3_solve_63 rfl ?_
    refine gz_get (ci := 4) C iwX3 0 rfl rfl 1 (by decide) wk_381 rfl rfl dX3_solve_64 ?_
    refine gz_ncmp_gt C 104 (by omega) (by omega) dX3_solve_67 (by decide) (fun h_1 => ?_) (fun h_1 => ?_)
    · skip
      exact gz_lv [0, 1, 2] rfl (hx hme hfk)
    · have g_1 : ¬ (sn < k) := (Nat.not_lt.mpr h_1)
      exfalso; omega
  | succ n ih =>
    intro k fr fev hme hfk hx
    refine gz_iload_n C 2 dX3_solve_62 rfl ?_
    refine gz_aload_n C 0 dX3_solve_63 rfl ?_
    refine gz_get (ci := 4) C iwX3 0 rfl rfl 1 (by decide) wk_381 rfl rfl dX3_solve_64 ?_
    refine gz_ncmp_gt C 104 (by omega) (by omega) dX3_solve_67 (by decide) (fun h_1 => ?_) (fun h_1 => ?_)
    · skip
      exfalso; omega
    · have g_1 : ¬ (sn < k) := (Nat.not_lt.mpr h_1)
      refine gz_aload_n C 0 dX3_solve_70 rfl ?_
      refine gz_iload_n C 2 dX3_solve_71 rfl ?_
      refine gz_callV (wr := []) (n := 1) (ws2 := (wM h ad cI cJ cZ thr sn tkv opv shv ldv lim wyv bdv isr rn rdv fz icv exa fr fev eav rs rov)) (st2 := [.int (bI (f3_isFrozen fz icv k))]) (cells2 := cells) (slots2 := slots) (ci := 4) C (kX3_isFrozen l D h ad cI cJ cZ thr sn tkv opv shv ldv lim wyv bdv isr rn rdv fz icv exa fr fev eav rs rov k (by first | assumption | omega) (by first | assumption | omega) (by first | assumption | omega)) (WB_V wk_481 wk_483 ws_19 wk_4 wk_484) (by decide +kernel) ⟨⟨rfl, rfl⟩, Nat.le_trans (by decide) hR.1, Nat.le_trans (by decide) hR.2⟩ [0, 1, 2, 3, 4, 5, 6, 7, 8, 9, 10, 11] [] [0, 1, 2] rfl rfl rfl (by decide) rfl 0 rfl rfl rfl rfl (Nat.le_of_ble_eq_true rfl) dX3_solve_72 hce rfl rfl rfl ?_
      refine gz_J (ws2 := (wM h ad cI cJ cZ thr sn tkv opv shv ldv lim wyv bdv isr rn rdv fz icv exa ((if (f3_isFrozen fz icv k) = true then fr else fr + 1)) ((if (f3_isFrozen fz icv k) = true then fev else va_up fev fr k)) eav rs rov)) (lv2 := [(0, .ref h), (1, .long stp), (3, .int (nI k))]) (st2 := []) (pc2 := 98) ?_ (fun J_2 => ?_)
      rotate_left
      · refine gz_bif_ne C 98 dX3_solve_75 (by decide) (fun h_2 => ?_) (fun h_2 => ?_)
        · skip
          simp only [if_pos h_2] at J_2 ⊢
          exact gz_lv [0, 1, 2] rfl J_2
        · have g_2 : ¬ ((f3_isFrozen fz icv k) = true) := (by rw [h_2]; decide)
          refine gz_aload_n C 0 dX3_solve_78 rfl ?_
          refine gz_get (ci := 4) C iwX3 0 rfl rfl 16 (by decide) wk_396 rfl rfl dX3_solve_79 ?_
          refine gz_aload_n C 0 dX3_solve_82 rfl ?_
          refine gz_get (ci := 4) C iwX3 0 rfl rfl 15 (by decide) wk_395 rfl rfl dX3_solve_83 ?_
          refine gz_iload_n C 2 dX3_solve_86 rfl ?_
          refine gz_iast (ws2 := (wM h ad cI cJ cZ thr sn tkv opv shv ldv lim wyv bdv isr rn rdv fz icv exa fr (va_up fev fr k) eav rs rov)) C 9 0 rfl rfl (by omega) (by decide) rfl dX3_solve_87 ?_
          refine gz_aload_n C 0 dX3_solve_88 rfl ?_
          refine gz_dup C dX3_solve_89 rfl ?_
          refine gz_get (ci := 4) C iwX3 0 rfl rfl 15 (by decide) wk_395 rfl rfl dX3_solve_90 ?_
          refine gz_iconst (v := nI 1) C dX3_solve_93 (by decide) ?_
          refine gz_iadd (v := nI (fr + 1)) C dX3_solve_94 (nI_add _ _) ?_
          refine gz_put (ci := 4) (ws2 := (wM h ad cI cJ cZ thr sn tkv opv shv ldv lim wyv bdv isr rn rdv fz icv exa (fr + 1) (va_up fev fr k) eav rs rov)) C iwX3 0 rfl rfl 15 (by decide) wk_395 rfl tyX3 tyX3_ok nmX3 rfl rfl rfl rfl (Nat.le_of_ble_eq_true rfl) rfl dX3_solve_95 ?_
          simp only [if_neg g_2] at J_2 ⊢
          exact gz_lv [0, 1, 2] rfl J_2
      refine gz_iinc (v := nI (k + 1)) (lv2 := [(3, .int (nI (k + 1))), (0, .ref h), (1, .long stp)]) (k := 2) C dX3_solve_98 rfl (nI_add _ 1) (by decide) rfl ?_
      refine gz_goto C 62 dX3_solve_101 (by decide) ?_
      refine gz_lv [1, 2, 0] rfl ?_
      simp only [f3_solve_s1, if_neg g_1] at hx
      exact ih (k + 1) ((if (f3_isFrozen fz icv k) = true then fr else fr + 1)) ((if (f3_isFrozen fz icv k) = true then fev else va_up fev fr k)) (by omega) (by first | omega | (split <;> omega)) hx

def f3_solve_s2 (icv : Nat → Nat) : Nat → Nat → (Nat → Nat) → Nat × (Nat → Nat)
  | 0, k, rov => (k, rov)
  | n + 1, k, rov => f3_solve_s2 icv n (k + 1) (va_up rov k (icv k))
set_option maxRecDepth 100000 in
set_option maxHeartbeats 4000000 in
theorem lX3_solve_s2 {p : Program} {l : Launch} {e : Env} {R : Room} {s : State} {m : MethodId} {args : Array Value} {below : List Frame} {meth : Method} {c : Code} {cells slots : Nat} {Q : State → Prop} {A : Nat → Prop} {D : va_G} (h : Nat) (ad : Nat → Nat) (cI : ClassId) (cJ : ClassId) (cZ : ClassId) (thr : Int32) (sn : Nat) (tkv : Nat → Int64) (opv : Nat → Int64) (shv : Nat → Int64) (ldv : Nat → Int32) (lim : Int32) (wyv : Nat → Int64) (bdv : Nat → Bool) (isr : Bool) (rn : Nat) (rdv : Nat → Nat) (fz : Nat) (icv : Nat → Nat) (exa : Bool) (fr : Nat) (fev : Nat → Nat) (eav : Nat → Int64) (rs : Nat) (stp : Int64) (hfz : fz ≤ 20) (C : gz_C p s m args c cX3_solve 5 RX3 D [(cI, .int), (cJ, .long), (cZ, .boolean)] A) : ∀ (n : Nat) (k : Nat) (rov : Nat → Nat), (k + n = fz) → ((((f3_solve_s2 icv n k rov).1) + 0 = fz) → GZ p l e R s m args below meth c 5 D A cells slots Q (wM h ad cI cJ cZ thr sn tkv opv shv ldv lim wyv bdv isr rn rdv fz icv exa fr fev eav rs ((f3_solve_s2 icv n k rov).2)) [(0, .ref h), (1, .long stp), (3, .int (nI ((f3_solve_s2 icv n k rov).1)))] [] 172) → GZ p l e R s m args below meth c 5 D A cells slots Q (wM h ad cI cJ cZ thr sn tkv opv shv ldv lim wyv bdv isr rn rdv fz icv exa fr fev eav rs rov) [(0, .ref h), (1, .long stp), (3, .int (nI k))] [] 146 := by
  intro n
  induction n with
  | zero =>
    intro k rov hme  hx
    refine gz_iload_n C 2 dX3_solve_146 rfl ?_
    refine gz_aload_n C 0 dX3_solve_147 rfl ?_
    refine gz_get (ci := 4) C iwX3 0 rfl rfl 12 (by decide) wk_392 rfl rfl dX3_solve_148 ?_
    refine gz_ncmp_ge C 172 (by omega) (by omega) dX3_solve_151 (by decide) (fun h_1 => ?_) (fun h_1 => ?_)
    · skip
      exact gz_lv [0, 1, 2] rfl (hx hme )
    · have g_1 : ¬ (fz ≤ k) := (Nat.not_le.mpr h_1)
      exfalso; omega
  | succ n ih =>
    intro k rov hme  hx
    refine gz_iload_n C 2 dX3_solve_146 rfl ?_
    refine gz_aload_n C 0 dX3_solve_147 rfl ?_
    refine gz_get (ci := 4) C iwX3 0 rfl rfl 12 (by decide) wk_392 rfl rfl dX3_solve_148 ?_
    refine gz_ncmp_ge C 172 (by omega) (by omega) dX3_solve_151 (by decide) (fun h_1 => ?_) (fun h_1 => ?_)
    · skip
      exfalso; omega
    · have g_1 : ¬ (fz ≤ k) := (Nat.not_le.mpr h_1)
      refine gz_aload_n C 0 dX3_solve_154 rfl ?_
      refine gz_get (ci := 4) C iwX3 0 rfl rfl 19 (by decide) wk_399 rfl rfl dX3_solve_155 ?_
      refine gz_iload_n C 2 dX3_solve_158 rfl ?_
      refine gz_aload_n C 0 dX3_solve_159 rfl ?_
      refine gz_get (ci := 4) C iwX3 0 rfl rfl 13 (by decide) wk_393 rfl rfl dX3_solve_160 ?_
      refine gz_iload_n C 2 dX3_solve_163 rfl ?_
      refine gz_iald C 8 0 rfl rfl (by omega) (by decide) dX3_solve_164 ?_
      refine gz_iast (ws2 := (wM h ad cI cJ cZ thr sn tkv opv shv ldv lim wyv bdv isr rn rdv fz icv exa fr fev eav rs (va_up rov k (icv k)))) C 11 0 rfl rfl (by omega) (by decide) rfl dX3_solve_165 ?_
      refine gz_iinc (v := nI (k + 1)) (lv2 := [(3, .int (nI (k + 1))), (0, .ref h), (1, .long stp)]) (k := 2) C dX3_solve_166 rfl (nI_add _ 1) (by decide) rfl ?_
      refine gz_goto C 146 dX3_solve_169 (by decide) ?_
      refine gz_lv [1, 2, 0] rfl ?_
      simp only [f3_solve_s2, if_neg g_1] at hx
      exact ih (k + 1) (va_up rov k (icv k)) (by omega)  hx

def f3_solve_s3 (tkv : Nat → Int64) (opv : Nat → Int64) (shv : Nat → Int64) (wyv : Nat → Int64) (bdv : Nat → Bool) (fz : Nat) (fev : Nat → Nat) : Nat → Nat → Nat → (Nat → Nat) → Nat × Nat × (Nat → Nat)
  | 0, k, rs, rov => (k, rs, rov)
  | n + 1, k, rs, rov => f3_solve_s3 tkv opv shv wyv bdv fz fev n (k + 1) (rs + 1) (f3_insert_rov tkv opv shv wyv bdv fz rs rov (fev k))
set_option maxRecDepth 100000 in
set_option maxHeartbeats 4000000 in
theorem lX3_solve_s3 {p : Program} {l : Launch} {e : Env} {R : Room} {s : State} {m : MethodId} {args : Array Value} {below : List Frame} {meth : Method} {c : Code} {cells slots : Nat} {Q : State → Prop} {A : Nat → Prop} {D : va_G} (h : Nat) (ad : Nat → Nat) (cI : ClassId) (cJ : ClassId) (cZ : ClassId) (thr : Int32) (sn : Nat) (tkv : Nat → Int64) (opv : Nat → Int64) (shv : Nat → Int64) (ldv : Nat → Int32) (lim : Int32) (wyv : Nat → Int64) (bdv : Nat → Bool) (isr : Bool) (rn : Nat) (rdv : Nat → Nat) (fz : Nat) (icv : Nat → Nat) (exa : Bool) (fr : Nat) (fev : Nat → Nat) (eav : Nat → Int64) (stp : Int64) (hff : fz + fr ≤ 20) (hfe : ∀ k, k < fr → fev k ≤ 20) (hR : 2 ≤ R.frames ∧ 56 ≤ R.locals) (hce : cells ≤ R.cells ∧ slots ≤ R.slots) (C : gz_C p s m args c cX3_solve 5 RX3 D [(cI, .int), (cJ, .long), (cZ, .boolean)] A) : ∀ (n : Nat) (k : Nat) (rs : Nat) (rov : Nat → Nat), (k + n = fr) → (rs = fz + k) → (∀ j, j < rs → rov j ≤ 20) → ((((f3_solve_s3 tkv opv shv wyv bdv fz fev n k rs rov).1) + 0 = fr) → (((f3_solve_s3 tkv opv shv wyv bdv fz fev n k rs rov).2.1) = fz + ((f3_solve_s3 tkv opv shv wyv bdv fz fev n k rs rov).1)) → (∀ j, j < ((f3_solve_s3 tkv opv shv wyv bdv fz fev n k rs rov).2.1) → ((f3_solve_s3 tkv opv shv wyv bdv fz fev n k rs rov).2.2) j ≤ 20) → GZ p l e R s m args below meth c 5 D A cells slots Q (wM h ad cI cJ cZ thr sn tkv opv shv ldv lim wyv bdv isr rn rdv fz icv exa fr fev eav ((f3_solve_s3 tkv opv shv wyv bdv fz fev n k rs rov).2.1) ((f3_solve_s3 tkv opv shv wyv bdv fz fev n k rs rov).2.2)) [(0, .ref h), (1, .long stp), (3, .int (nI ((f3_solve_s3 tkv opv shv wyv bdv fz fev n k rs rov).1)))] [] 200) → GZ p l e R s m args below meth c 5 D A cells slots Q (wM h ad cI cJ cZ thr sn tkv opv shv ldv lim wyv bdv isr rn rdv fz icv exa fr fev eav rs rov) [(0, .ref h), (1, .long stp), (3, .int (nI k))] [] 174 := by
  intro n
  induction n with
  | zero =>
    intro k rs rov hme hrk hro hx
    refine gz_iload_n C 2 dX3_solve_174 rfl ?_
    refine gz_aload_n C 0 dX3_solve_175 rfl ?_
    refine gz_get (ci := 4) C iwX3 0 rfl rfl 15 (by decide) wk_395 rfl rfl dX3_solve_176 ?_
    refine gz_ncmp_ge C 200 (by omega) (by omega) dX3_solve_179 (by decide) (fun h_1 => ?_) (fun h_1 => ?_)
    · skip
      exact gz_lv [0, 1, 2] rfl (hx hme hrk hro)
    · have g_1 : ¬ (fr ≤ k) := (Nat.not_le.mpr h_1)
      exfalso; omega
  | succ n ih =>
    intro k rs rov hme hrk hro hx
    refine gz_iload_n C 2 dX3_solve_174 rfl ?_
    refine gz_aload_n C 0 dX3_solve_175 rfl ?_
    refine gz_get (ci := 4) C iwX3 0 rfl rfl 15 (by decide) wk_395 rfl rfl dX3_solve_176 ?_
    refine gz_ncmp_ge C 200 (by omega) (by omega) dX3_solve_179 (by decide) (fun h_1 => ?_) (fun h_1 => ?_)
    · skip
      exfalso; omega
    · have g_1 : ¬ (fr ≤ k) := (Nat.not_le.mpr h_1)
      have hq := hfe k (by omega)
      refine gz_aload_n C 0 dX3_solve_182 rfl ?_
      refine gz_aload_n C 0 dX3_solve_183 rfl ?_
      refine gz_get (ci := 4) C iwX3 0 rfl rfl 16 (by decide) wk_396 rfl rfl dX3_solve_184 ?_
      refine gz_iload_n C 2 dX3_solve_187 rfl ?_
      refine gz_iald C 9 0 rfl rfl (by omega) (by decide) dX3_solve_188 ?_
      refine gz_callV (wr := []) (n := 1) (ws2 := (wM h ad cI cJ cZ thr sn tkv opv shv ldv lim wyv bdv isr rn rdv fz icv exa fr fev eav (f3_insert_rs rs) (f3_insert_rov tkv opv shv wyv bdv fz rs rov (fev k)))) (st2 := [.int (f3_insert tkv opv shv wyv bdv fz rs rov (fev k))]) (cells2 := cells) (slots2 := slots) (ci := 4) C (kX3_insert l D h ad cI cJ cZ thr sn tkv opv shv ldv lim wyv bdv isr rn rdv fz icv exa fr fev eav rs rov (fev k) (by first | assumption | omega) (by first | assumption | omega) (by first | assumption | omega) (by first | assumption | omega)) (WB_V wk_502 wk_504 ws_24 wk_4 wk_505) (by decide +kernel) ⟨⟨rfl, rfl⟩, Nat.le_trans (by decide) hR.1, Nat.le_trans (by decide) hR.2⟩ [0, 1, 2, 3, 4, 5, 6, 7, 8, 9, 10, 11] [] [0, 1, 2] rfl rfl rfl (by decide) rfl 0 rfl rfl rfl rfl (Nat.le_of_ble_eq_true rfl) dX3_solve_189 hce rfl rfl rfl ?_
      refine gz_wse (ws2 := (wM h ad cI cJ cZ thr sn tkv opv shv ldv lim wyv bdv isr rn rdv fz icv exa fr fev eav (rs + 1) (f3_insert_rov tkv opv shv wyv bdv fz rs rov (fev k)))) rfl ?_
      refine gz_istore (lv2 := [(4, .int (f3_insert tkv opv shv wyv bdv fz rs rov (fev k))), (0, .ref h), (1, .long stp), (3, .int (nI k))]) C dX3_solve_192 (by decide) rfl ?_
      refine gz_iinc (v := nI (k + 1)) (lv2 := [(3, .int (nI (k + 1))), (4, .int (f3_insert tkv opv shv wyv bdv fz rs rov (fev k))), (0, .ref h), (1, .long stp)]) (k := 3) C dX3_solve_194 rfl (nI_add _ 1) (by decide) rfl ?_
      refine gz_goto C 174 dX3_solve_197 (by decide) ?_
      refine gz_lv [2, 3, 0] rfl ?_
      simp only [f3_solve_s3, if_neg g_1] at hx
      exact ih (k + 1) (rs + 1) (f3_insert_rov tkv opv shv wyv bdv fz rs rov (fev k)) (by omega) (by omega) (q3_insert_le (by omega) (by omega) (by omega) hro) hx

theorem q3_s1 {fz : Nat} {icv : Nat → Nat} (hid : ∀ i j, i < fz → j < fz → icv i = icv j → i = j) : ∀ (n k fr : Nat) (fev : Nat → Nat), 1 ≤ k → fr + q_cnt icv fz k = k - 1 → (∀ j, j < fr → 1 ≤ fev j ∧ fev j < k ∧ f3_isFrozen fz icv (fev j) = false) → (∀ i j, i < j → j < fr → fev i < fev j) →
    (f3_solve_s1 fz icv n k fr fev).2.1 + q_cnt icv fz (k + n) = k + n - 1 ∧ (∀ j, j < (f3_solve_s1 fz icv n k fr fev).2.1 → 1 ≤ (f3_solve_s1 fz icv n k fr fev).2.2 j ∧ (f3_solve_s1 fz icv n k fr fev).2.2 j < k + n ∧ f3_isFrozen fz icv ((f3_solve_s1 fz icv n k fr fev).2.2 j) = false) ∧ (∀ i j, i < j → j < (f3_solve_s1 fz icv n k fr fev).2.1 → (f3_solve_s1 fz icv n k fr fev).2.2 i < (f3_solve_s1 fz icv n k fr fev).2.2 j) := by
  intro n
  induction n with
  | zero => intro k fr fev h1 h2 h3 h4; exact ⟨h2, h3, h4⟩
  | succ n ih =>
    intro k fr fev h1 h2 h3 h4
    unfold f3_solve_s1
    have e : k + (n + 1) = (k + 1) + n := by omega
    rw [e]
    have hc := q_cnt_s (f := icv) (b := k) fz hid
    by_cases c : f3_isFrozen fz icv k = true
    · have c2 : ∃ i, i < fz ∧ icv i = k := q3_isFr.mp c
      rw [if_pos c2] at hc
      simp only [if_pos c]
      exact ih (k + 1) fr fev (by omega) (by omega) (fun j hj => ⟨(h3 j hj).1, by have := (h3 j hj).2.1; omega, (h3 j hj).2.2⟩) h4
    · have c2 : ¬ ∃ i, i < fz ∧ icv i = k := fun z => c (q3_isFr.mpr z)
      rw [if_neg c2] at hc
      simp only [if_neg c]
      refine ih (k + 1) (fr + 1) _ (by omega) (by omega) (fun j hj => ?_) (fun i j hi hj => ?_)
      · by_cases e2 : j = fr
        · subst e2; rw [va_up_self]; exact ⟨h1, by omega, by simpa using c⟩
        · rw [va_up_ne _ _ e2]
          have := h3 j (by omega)
          exact ⟨this.1, by omega, this.2.2⟩
      · by_cases e2 : j = fr
        · subst e2
          rw [va_up_self, va_up_ne _ _ (by omega)]
          exact (h3 i (by omega)).2.1
        · rw [va_up_ne _ _ e2, va_up_ne _ _ (by omega)]
          exact h4 i j hi (by omega)
/-- the stops that are free: how many, which -/
theorem q3_free {fz sn : Nat} {icv fev : Nat → Nat} (hi : q_row fz sn icv) : (f3_solve_s1 fz icv sn 1 0 fev).2.1 + fz = sn ∧ (∀ j, j < (f3_solve_s1 fz icv sn 1 0 fev).2.1 → 1 ≤ (f3_solve_s1 fz icv sn 1 0 fev).2.2 j ∧ (f3_solve_s1 fz icv sn 1 0 fev).2.2 j ≤ sn ∧ f3_isFrozen fz icv ((f3_solve_s1 fz icv sn 1 0 fev).2.2 j) = false) ∧ (∀ i j, i < j → j < (f3_solve_s1 fz icv sn 1 0 fev).2.1 → (f3_solve_s1 fz icv sn 1 0 fev).2.2 i < (f3_solve_s1 fz icv sn 1 0 fev).2.2 j) := by
  have h0 := q_cnt_none (f := icv) fz (fun i h => (hi.1 i h).1)
  have h9 := q_cnt_all (f := icv) (b := 1 + sn) fz (fun i h => by have := (hi.1 i h).2; omega)
  obtain ⟨a, b, c⟩ := q3_s1 hi.2 sn 1 0 fev (Nat.le_refl _) (by rw [h0]) (fun j hj => by omega) (fun i j _ hj => by omega)
  rw [h9] at a
  exact ⟨by omega, fun j hj => ⟨(b j hj).1, by have := (b j hj).2.1; omega, (b j hj).2.2⟩, c⟩
theorem q3_s2 {icv : Nat → Nat} : ∀ (n k : Nat) (rov : Nat → Nat) (j : Nat), (f3_solve_s2 icv n k rov).2 j = if k ≤ j ∧ j < k + n then icv j else rov j := by
  intro n
  induction n with
  | zero =>
    intro k rov j
    rw [if_neg (by omega)]; rfl
  | succ n ih =>
    intro k rov j
    show (f3_solve_s2 icv n (k + 1) (va_up rov k (icv k))).2 j = _
    rw [ih]
    by_cases h1 : k + 1 ≤ j ∧ j < k + 1 + n
    · rw [if_pos h1, if_pos (by omega)]
    · rw [if_neg h1]
      by_cases h2 : j = k
      · subst h2; rw [if_pos (by omega), va_up_self]
      · rw [if_neg (by omega), va_up_ne _ _ h2]


section QBK
variable {tkv opv shv wyv : Nat → Int64} {bdv : Nat → Bool} {fev icv : Nat → Nat} {fr fz sn : Nat}
/-- inserting all that are free -/
theorem q3_s3 {B : Nat} (hff : fz + fr ≤ 20) (hfe : ∀ j, j < fr → 1 ≤ fev j ∧ fev j ≤ B ∧ f3_isFrozen fz icv (fev j) = false) (hin : ∀ i j, i < j → j < fr → fev i < fev j) : ∀ (n k rs : Nat) (rov : Nat → Nat), k + n = fr → rs = fz + k → q_row rs B rov → (∀ i, i < fz → rov i = icv i) → (∀ i, i < rs → (∃ a, a < fz ∧ icv a = rov i) ∨ ∃ j, j < k ∧ rov i = fev j) →
    (f3_solve_s3 tkv opv shv wyv bdv fz fev n k rs rov).2.1 = fz + fr ∧ q_row (fz + fr) B (f3_solve_s3 tkv opv shv wyv bdv fz fev n k rs rov).2.2 ∧ ∀ i, i < fz → (f3_solve_s3 tkv opv shv wyv bdv fz fev n k rs rov).2.2 i = icv i := by
  intro n
  induction n with
  | zero =>
    intro k rs rov h1 h2 h3 h4 h5
    have e : k = fr := by omega
    subst e; subst h2
    exact ⟨rfl, h3, h4⟩
  | succ n ih =>
    intro k rs rov h1 h2 h3 h4 h5
    have hk := hfe k (by omega)
    have hx : ∀ i, i < rs → rov i ≠ fev k := by
      intro i hi z
      rcases h5 i hi with ⟨a, a1, a2⟩ | ⟨j, j1, j2⟩
      · have := q3_isFr.mpr ⟨a, a1, a2.trans z⟩
        rw [hk.2.2] at this; cases this
      · have := hin j k j1 (by omega)
        omega
    obtain ⟨r1, r2, r3⟩ := qr_insert (tkv := tkv) (opv := opv) (shv := shv) (wyv := wyv) (bdv := bdv) (fz := fz) (show rs ≤ 19 by omega) (by omega) h3 hk.1 hk.2.1 hx
    refine ih (k + 1) (rs + 1) _ (by omega) (by omega) r1 (fun i hi => by rw [r2 i hi]; exact h4 i hi) (fun i hi => ?_)
    rcases r3 i hi with e | ⟨i2, hi2, e⟩
    · exact Or.inr ⟨k, by omega, e⟩
    · rw [e]
      rcases h5 i2 hi2 with a | ⟨j, j1, j2⟩
      · exact Or.inl a
      · exact Or.inr ⟨j, by omega, j2⟩
/-- the row that inserting makes out of the frozen ones -/
theorem q3_ins_row {rov : Nat → Nat} {fev0 : Nat → Nat} (hsn : sn ≤ 20) (hi : q_row fz sn icv) : (f3_solve_s3 tkv opv shv wyv bdv fz (f3_solve_s1 fz icv sn 1 0 fev0).2.2 (f3_solve_s1 fz icv sn 1 0 fev0).2.1 0 fz (f3_solve_s2 icv fz 0 rov).2).2.1 = sn ∧ q_row sn sn (f3_solve_s3 tkv opv shv wyv bdv fz (f3_solve_s1 fz icv sn 1 0 fev0).2.2 (f3_solve_s1 fz icv sn 1 0 fev0).2.1 0 fz (f3_solve_s2 icv fz 0 rov).2).2.2 ∧ ∀ i, i < fz → (f3_solve_s3 tkv opv shv wyv bdv fz (f3_solve_s1 fz icv sn 1 0 fev0).2.2 (f3_solve_s1 fz icv sn 1 0 fev0).2.1 0 fz (f3_solve_s2 icv fz 0 rov).2).2.2 i = icv i := by
  obtain ⟨a, b, c⟩ := q3_free (fev := fev0) hi
  have e2 : ∀ i, i < fz → (f3_solve_s2 icv fz 0 rov).2 i = icv i := fun i h => by rw [q3_s2, if_pos (by omega)]
  have r := q3_s3 (tkv := tkv) (opv := opv) (shv := shv) (wyv := wyv) (bdv := bdv) (by omega) b c (f3_solve_s1 fz icv sn 1 0 fev0).2.1 0 fz (f3_solve_s2 icv fz 0 rov).2 (by omega) rfl (qr_ext e2 hi) e2 (fun i h => Or.inl ⟨i, h, (e2 i h).symm⟩)
  have e : fz + (f3_solve_s1 fz icv sn 1 0 fev0).2.1 = sn := by omega
  rw [e] at r
  exact r
theorem q3_fl1 : ∀ (n : Nat) (ck : Int64) (la k : Nat) (rov : Nat → Nat) (j : Nat), (f3_findExact_l1 tkv opv shv wyv bdv icv n ck la k rov).2.2.2 j = if k ≤ j ∧ j < k + n then icv j else rov j := by
  intro n
  induction n with
  | zero =>
    intro ck la k rov j
    rw [if_neg (by omega)]; rfl
  | succ n ih =>
    intro ck la k rov j
    unfold f3_findExact_l1
    rw [ih]
    by_cases h1 : k + 1 ≤ j ∧ j < k + 1 + n
    · rw [if_pos h1, if_pos (by omega)]
    · rw [if_neg h1]
      by_cases h2 : j = k
      · subst h2; rw [if_pos (by omega), va_up_self]
      · rw [if_neg (by omega), va_up_ne _ _ h2]
theorem q3_fl2 {eav : Nat → Int64} {se : Nat} (hf : fr ≤ 20) : ∀ (n : Nat) (at_ : Int32) (fi : Int64) (u : Nat), u = n → u ≤ fr → q3_av fr (fun k => f3_wellHome wyv bdv (fev k) (eav (11 * se + k)) < 4000000000000000000) at_ → q3_av fr (fun k => f3_wellHome wyv bdv (fev k) (eav (11 * se + k)) < 4000000000000000000) (f3_findExact_l2 wyv bdv fev eav se n at_ fi u).1 := by
  intro n
  induction n with
  | zero => intro at_ fi u _ _ h; exact h
  | succ n ih =>
    intro at_ fi u h1 h2 h
    exact ih _ _ _ (by omega) (by omega) (q3_av_s h (by omega) hf (fun z => z))
theorem q3_fl4 {eav : Nat → Int64} {se aa ls : Nat} (hf : fr ≤ 20) : ∀ (n : Nat) (bf : Int32) (v : Nat), v = n → v ≤ fr → q3_av fr (q3_fit tkv opv shv wyv bdv fev eav ls se aa) bf → (∀ j, v ≤ j → j < fr → q3_fit tkv opv shv wyv bdv fev eav ls se aa j → ¬ bf < 0) →
    q3_av fr (q3_fit tkv opv shv wyv bdv fev eav ls se aa) (f3_findExact_l4 tkv opv shv wyv bdv fev eav se aa ls n bf v).1 ∧ (∀ j, j < fr → q3_fit tkv opv shv wyv bdv fev eav ls se aa j → ¬ (f3_findExact_l4 tkv opv shv wyv bdv fev eav se aa ls n bf v).1 < 0) := by
  intro n
  induction n with
  | zero =>
    intro bf v h1 h2 h3 h4
    subst h1
    exact ⟨h3, fun j hj => h4 j (Nat.zero_le _) hj⟩
  | succ n ih =>
    intro bf v h1 h2 h3 h4
    exact ih _ _ (by omega) (by omega) (q3_bfs h3 (by omega) hf (fun z => q3_b2.mp z)) (q3_bcs h4 (by omega) (by omega) hf (fun z => q3_b2.mpr z))
/-- the way back: each place of the free ones gets another of the set -/
theorem q3_fl3 {eav : Nat → Int64} {V : Nat → Nat → Nat → Prop} (hf : fr ≤ 11)
    (hVb : ∀ n se a, V n se a → se < 2 ^ fr ∧ a < fr ∧ se.testBit a = true)
    (hV1 : ∀ n se a, V (n + 1) se a → a < fr ∧ se < 2 ^ fr ∧ (0 < n → ∃ j, j < fr ∧ q3_fit tkv opv shv wyv bdv fev eav (q3_clr se a) se a j))
    (hV2 : ∀ n se a j, V (n + 1) se a → 0 < n → j < fr → q3_fit tkv opv shv wyv bdv fev eav (q3_clr se a) se a j → V n (q3_clr se a) j) :
    ∀ (n se : Nat) (at_ : Int32) (u : Nat) (rov : Nat → Nat), u = fz + n → (0 < n → at_ = nI (cl at_) ∧ V n se (cl at_)) →
      (∀ k, k < fz → (f3_findExact_l3 tkv opv shv wyv bdv fr fev eav n se at_ u rov).2.2.2 k = rov k) ∧ (∀ k, u ≤ k → (f3_findExact_l3 tkv opv shv wyv bdv fr fev eav n se at_ u rov).2.2.2 k = rov k) ∧
      ∃ g : Nat → Nat, (∀ k, fz ≤ k → k < u → g k < fr ∧ se.testBit (g k) = true ∧ (f3_findExact_l3 tkv opv shv wyv bdv fr fev eav n se at_ u rov).2.2.2 k = fev (g k)) ∧ ∀ i j, fz ≤ i → i < u → fz ≤ j → j < u → g i = g j → i = j := by
  intro n
  induction n with
  | zero =>
    intro se at_ u rov h1 h2
    exact ⟨fun _ _ => rfl, fun _ _ => rfl, fun _ => 0, fun k hk hu => by omega, fun i j hi hu => by omega⟩
  | succ n ih =>
    intro se at_ u rov h1 h2
    obtain ⟨ha, hv⟩ := h2 (by omega)
    obtain ⟨v1, v2, v3⟩ := hV1 n se (cl at_) hv
    obtain ⟨_, _, vb⟩ := hVb _ _ _ hv
    unfold f3_findExact_l3
    have hl4 := q3_fl4 (tkv := tkv) (opv := opv) (shv := shv) (wyv := wyv) (bdv := bdv) (fev := fev) (eav := eav) (se := se) (aa := cl at_) (ls := q3_clr se (cl at_)) (fr := fr) (by omega) fr (-1) fr rfl (Nat.le_refl _) (Or.inl (by decide)) (fun j h3 h4 => by omega)
    have hnext : 0 < n → (f3_findExact_l4 tkv opv shv wyv bdv fev eav se (cl at_) (q3_clr se (cl at_)) fr (-1) fr).1 = nI (cl (f3_findExact_l4 tkv opv shv wyv bdv fev eav se (cl at_) (q3_clr se (cl at_)) fr (-1) fr).1) ∧ V n (q3_clr se (cl at_)) (cl (f3_findExact_l4 tkv opv shv wyv bdv fev eav se (cl at_) (q3_clr se (cl at_)) fr (-1) fr).1) := by
      intro hn
      obtain ⟨j, j1, j2⟩ := v3 hn
      rcases hl4.1 with z | ⟨z1, z2, z3⟩
      · exact absurd z (hl4.2 j j1 j2)
      · exact ⟨z1, hV2 n se (cl at_) _ hv hn z2 z3⟩
    obtain ⟨i1, i2, g, g1, g2⟩ := ih (q3_clr se (cl at_)) _ (u - 1) (va_up rov (u - 1) (fev (cl at_))) (by omega) hnext
    have e0 : ∀ X : Nat, (se &&& (2 ^ cl at_ ^^^ 4294967295)) = X → q3_clr se (cl at_) = X := fun X h => h
    refine ⟨fun k hk => ?_, fun k hk => ?_, fun k => if k = u - 1 then cl at_ else g k, fun k hk hu => ?_, fun i j hi1 hi2 hj1 hj2 hg => ?_⟩
    · have := i1 k hk
      rw [va_up_ne _ _ (by omega)] at this
      exact this
    · have := i2 k (by omega)
      rw [va_up_ne _ _ (by omega)] at this
      exact this
    · by_cases e : k = u - 1
      · subst e
        simp only [if_true]
        refine ⟨v1, vb, ?_⟩
        have := i2 (u - 1) (Nat.le_refl _)
        rw [va_up_self] at this
        exact this
      · simp only [if_neg e]
        obtain ⟨a1, a2, a3⟩ := g1 k hk (by omega)
        refine ⟨a1, ?_, a3⟩
        rw [bt_clr v2 (by omega) (by omega)] at a2
        simp at a2
        exact a2.1
    · have nin : ∀ k, fz ≤ k → k < u - 1 → g k ≠ cl at_ := by
        intro k hk hu z
        obtain ⟨a1, a2, a3⟩ := g1 k hk hu
        rw [bt_clr v2 (by omega) (by omega), z] at a2
        simp at a2
      by_cases e1 : i = u - 1
      · by_cases e2 : j = u - 1
        · omega
        · simp only [if_pos e1, if_neg e2] at hg
          exact absurd hg.symm (nin j hj1 (by omega))
      · by_cases e2 : j = u - 1
        · simp only [if_neg e1, if_pos e2] at hg
          exact absurd hg (nin i hi1 (by omega))
        · simp only [if_neg e1, if_neg e2] at hg
          exact g2 i j hi1 (by omega) hj1 (by omega) hg
/-- the row of an exact answer -/
theorem q3_find_row {eav : Nat → Int64} {rov : Nat → Nat} (hf : fr ≤ 11) (hsf : fr + fz = sn) (hi : q_row fz sn icv) (hfe : ∀ j, j < fr → 1 ≤ fev j ∧ fev j ≤ sn ∧ f3_isFrozen fz icv (fev j) = false) (hin : ∀ i j, i < j → j < fr → fev i < fev j)
    (hx : f3_findExact sn tkv opv shv wyv bdv fz icv fr fev eav rov = true) : q_row sn sn (f3_findExact_rov sn tkv opv shv wyv bdv fz icv fr fev eav rov) ∧ ∀ k, k < fz → f3_findExact_rov sn tkv opv shv wyv bdv fz icv fr fev eav rov k = icv k := by
  unfold f3_findExact at hx
  unfold f3_findExact_rov
  have hl1 : ∀ k, k < fz → (f3_findExact_l1 tkv opv shv wyv bdv icv fz 0 0 0 rov).2.2.2 k = icv k := fun k hk => by rw [q3_fl1, if_pos (by omega)]
  by_cases c0 : fr = 0
  · rw [if_pos c0]
    have e : fz = sn := by omega
    refine ⟨?_, hl1⟩
    rw [← e] at hi ⊢
    exact qr_ext hl1 hi
  · rw [if_neg c0] at hx ⊢
    have hT := q3_spread (tkv := tkv) (opv := opv) (shv := shv) (wyv := wyv) (bdv := bdv) (fev := fev) (icv := icv) (fz := fz) hf eav
    generalize f3_spread_eav tkv opv shv wyv bdv fz icv fr fev eav = ea at hx hT ⊢
    by_cases c1 : 0 ≤ (f3_findExact_l2 wyv bdv fev ea (2 ^ fr - 1) fr (-1) 4000000000000000000 fr).1
    · rw [if_pos c1]
      have hl2 := q3_fl2 (wyv := wyv) (bdv := bdv) (fev := fev) (eav := ea) (se := 2 ^ fr - 1) (fr := fr) (by omega) fr (-1) 4000000000000000000 fr rfl (Nat.le_refl _) (Or.inl (by decide))
      have hst : 0 < sn - fz → (f3_findExact_l2 wyv bdv fev ea (2 ^ fr - 1) fr (-1) 4000000000000000000 fr).1 = nI (cl (f3_findExact_l2 wyv bdv fev ea (2 ^ fr - 1) fr (-1) 4000000000000000000 fr).1) ∧ q3_V fr ea (sn - fz) (2 ^ fr - 1) (cl (f3_findExact_l2 wyv bdv fev ea (2 ^ fr - 1) fr (-1) 4000000000000000000 fr).1) := by
        intro _
        rcases hl2 with z | ⟨z1, z2, z3⟩
        · exact absurd z (Int32.not_lt.mpr c1)
        · refine ⟨z1, ?_⟩
          have e : sn - fz = fr := by omega
          rw [e]
          exact q3_V0 z2 z3
      obtain ⟨b1, b2, g, g1, g2⟩ := q3_fl3 (fz := fz) (V := q3_V fr ea) hf (fun n se a h => ⟨h.1, h.2.1, h.2.2.1⟩) (q3_V1 hf hT) (q3_V2 hf hT) (sn - fz) (2 ^ fr - 1) _ sn (f3_findExact_l1 tkv opv shv wyv bdv icv fz 0 0 0 rov).2.2.2 (by omega) hst
      generalize (f3_findExact_l3 tkv opv shv wyv bdv fr fev ea (sn - fz) (2 ^ fr - 1) (f3_findExact_l2 wyv bdv fev ea (2 ^ fr - 1) fr (-1) 4000000000000000000 fr).1 sn (f3_findExact_l1 tkv opv shv wyv bdv icv fz 0 0 0 rov).2.2.2).2.2.2 = row at b1 b2 g1 ⊢
      have hpre : ∀ k, k < fz → row k = icv k := fun k hk => (b1 k hk).trans (hl1 k hk)
      have nfr : ∀ a k, a < fz → fz ≤ k → k < sn → row a ≠ row k := by
        intro a k ha hk hs z
        obtain ⟨q1, _, q3⟩ := g1 k hk hs
        rw [hpre a ha, q3] at z
        have := q3_isFr.mpr ⟨a, ha, z⟩
        rw [(hfe _ q1).2.2] at this
        cases this
      have inj : ∀ i j, i < fr → j < fr → fev i = fev j → i = j := by
        intro i j hi2 hj2 z
        rcases Nat.lt_trichotomy i j with q | q | q
        · have := hin i j q hj2; omega
        · exact q
        · have := hin j i q hi2; omega
      refine ⟨⟨fun k hk => ?_, fun i j hi2 hj2 z => ?_⟩, hpre⟩
      · by_cases q : k < fz
        · rw [hpre k q]; exact hi.1 k q
        · obtain ⟨q1, _, q3⟩ := g1 k (by omega) hk
          rw [q3]; exact ⟨(hfe _ q1).1, (hfe _ q1).2.1⟩
      · by_cases qi : i < fz
        · by_cases qj : j < fz
          · rw [hpre i qi, hpre j qj] at z; exact hi.2 i j qi qj z
          · exact absurd z (nfr i j qi (by omega) hj2)
        · by_cases qj : j < fz
          · exact absurd z.symm (nfr j i qj (by omega) hi2)
          · obtain ⟨p1, _, p3⟩ := g1 i (by omega) hi2
            obtain ⟨q1, _, q3⟩ := g1 j (by omega) hj2
            rw [p3, q3] at z
            exact g2 i j (by omega) hi2 (by omega) hj2 (inj _ _ p1 q1 z)
    · rw [if_neg c1] at hx
      cases hx
end QBK


theorem q3_find_rs {sn : Nat} {tkv opv shv wyv : Nat → Int64} {bdv : Nat → Bool} {fz : Nat} {icv : Nat → Nat} {fr : Nat} {fev : Nat → Nat} {eav : Nat → Int64} : f3_findExact_rs sn tkv opv shv wyv bdv fz icv fr fev eav = sn := by
  unfold f3_findExact_rs
  split
  · rfl
  · split <;> rfl

def f3_solve (sn : Nat) (tkv : Nat → Int64) (opv : Nat → Int64) (shv : Nat → Int64) (ldv : Nat → Int32) (lim : Int32) (wyv : Nat → Int64) (bdv : Nat → Bool) (fz : Nat) (icv : Nat → Nat) (fev : Nat → Nat) (eav : Nat → Int64) (rov : Nat → Nat) (stp : Int64) : Int64 := (if stp < 0 then (-12) else (if stp ≤ 100000 then (if lim < 0 then (if 11 < ((f3_solve_s1 fz icv sn 1 0 fev).2.1) then (f3_measure tkv opv shv wyv bdv sn (f3_improve_rov tkv opv shv wyv bdv fz sn ((f3_solve_s3 tkv opv shv wyv bdv fz ((f3_solve_s1 fz icv sn 1 0 fev).2.2) ((f3_solve_s1 fz icv sn 1 0 fev).2.1) 0 fz ((f3_solve_s2 icv fz 0 rov).2)).2.2) stp)) - (f3_measure tkv opv shv wyv bdv sn (f3_improve_rov tkv opv shv wyv bdv fz sn ((f3_solve_s3 tkv opv shv wyv bdv fz ((f3_solve_s1 fz icv sn 1 0 fev).2.2) ((f3_solve_s1 fz icv sn 1 0 fev).2.1) 0 fz ((f3_solve_s2 icv fz 0 rov).2)).2.2) stp)) / 1000000000 * 1000000000 else (if (f3_findExact sn tkv opv shv wyv bdv fz icv ((f3_solve_s1 fz icv sn 1 0 fev).2.1) ((f3_solve_s1 fz icv sn 1 0 fev).2.2) eav rov) = true then (f3_measure tkv opv shv wyv bdv sn (f3_findExact_rov sn tkv opv shv wyv bdv fz icv ((f3_solve_s1 fz icv sn 1 0 fev).2.1) ((f3_solve_s1 fz icv sn 1 0 fev).2.2) eav rov)) - (f3_measure tkv opv shv wyv bdv sn (f3_findExact_rov sn tkv opv shv wyv bdv fz icv ((f3_solve_s1 fz icv sn 1 0 fev).2.1) ((f3_solve_s1 fz icv sn 1 0 fev).2.2) eav rov)) / 1000000000 * 1000000000 else (f3_measure tkv opv shv wyv bdv sn (f3_improve_rov tkv opv shv wyv bdv fz sn ((f3_solve_s3 tkv opv shv wyv bdv fz ((f3_solve_s1 fz icv sn 1 0 fev).2.2) ((f3_solve_s1 fz icv sn 1 0 fev).2.1) 0 fz ((f3_solve_s2 icv fz 0 (f3_findExact_rov sn tkv opv shv wyv bdv fz icv ((f3_solve_s1 fz icv sn 1 0 fev).2.1) ((f3_solve_s1 fz icv sn 1 0 fev).2.2) eav rov)).2)).2.2) stp)) - (f3_measure tkv opv shv wyv bdv sn (f3_improve_rov tkv opv shv wyv bdv fz sn ((f3_solve_s3 tkv opv shv wyv bdv fz ((f3_solve_s1 fz icv sn 1 0 fev).2.2) ((f3_solve_s1 fz icv sn 1 0 fev).2.1) 0 fz ((f3_solve_s2 icv fz 0 (f3_findExact_rov sn tkv opv shv wyv bdv fz icv ((f3_solve_s1 fz icv sn 1 0 fev).2.1) ((f3_solve_s1 fz icv sn 1 0 fev).2.2) eav rov)).2)).2.2) stp)) / 1000000000 * 1000000000)) else (if ((f3_allLoads ldv)) ≤ lim then (if 11 < ((f3_solve_s1 fz icv sn 1 0 fev).2.1) then (f3_measure tkv opv shv wyv bdv sn (f3_improve_rov tkv opv shv wyv bdv fz sn ((f3_solve_s3 tkv opv shv wyv bdv fz ((f3_solve_s1 fz icv sn 1 0 fev).2.2) ((f3_solve_s1 fz icv sn 1 0 fev).2.1) 0 fz ((f3_solve_s2 icv fz 0 rov).2)).2.2) stp)) - (f3_measure tkv opv shv wyv bdv sn (f3_improve_rov tkv opv shv wyv bdv fz sn ((f3_solve_s3 tkv opv shv wyv bdv fz ((f3_solve_s1 fz icv sn 1 0 fev).2.2) ((f3_solve_s1 fz icv sn 1 0 fev).2.1) 0 fz ((f3_solve_s2 icv fz 0 rov).2)).2.2) stp)) / 1000000000 * 1000000000 else (if (f3_findExact sn tkv opv shv wyv bdv fz icv ((f3_solve_s1 fz icv sn 1 0 fev).2.1) ((f3_solve_s1 fz icv sn 1 0 fev).2.2) eav rov) = true then (f3_measure tkv opv shv wyv bdv sn (f3_findExact_rov sn tkv opv shv wyv bdv fz icv ((f3_solve_s1 fz icv sn 1 0 fev).2.1) ((f3_solve_s1 fz icv sn 1 0 fev).2.2) eav rov)) - (f3_measure tkv opv shv wyv bdv sn (f3_findExact_rov sn tkv opv shv wyv bdv fz icv ((f3_solve_s1 fz icv sn 1 0 fev).2.1) ((f3_solve_s1 fz icv sn 1 0 fev).2.2) eav rov)) / 1000000000 * 1000000000 else (f3_measure tkv opv shv wyv bdv sn (f3_improve_rov tkv opv shv wyv bdv fz sn ((f3_solve_s3 tkv opv shv wyv bdv fz ((f3_solve_s1 fz icv sn 1 0 fev).2.2) ((f3_solve_s1 fz icv sn 1 0 fev).2.1) 0 fz ((f3_solve_s2 icv fz 0 (f3_findExact_rov sn tkv opv shv wyv bdv fz icv ((f3_solve_s1 fz icv sn 1 0 fev).2.1) ((f3_solve_s1 fz icv sn 1 0 fev).2.2) eav rov)).2)).2.2) stp)) - (f3_measure tkv opv shv wyv bdv sn (f3_improve_rov tkv opv shv wyv bdv fz sn ((f3_solve_s3 tkv opv shv wyv bdv fz ((f3_solve_s1 fz icv sn 1 0 fev).2.2) ((f3_solve_s1 fz icv sn 1 0 fev).2.1) 0 fz ((f3_solve_s2 icv fz 0 (f3_findExact_rov sn tkv opv shv wyv bdv fz icv ((f3_solve_s1 fz icv sn 1 0 fev).2.1) ((f3_solve_s1 fz icv sn 1 0 fev).2.2) eav rov)).2)).2.2) stp)) / 1000000000 * 1000000000)) else (-13))) else (-12)))
def f3_solve_thr (sn : Nat) (tkv : Nat → Int64) (opv : Nat → Int64) (shv : Nat → Int64) (ldv : Nat → Int32) (lim : Int32) (wyv : Nat → Int64) (bdv : Nat → Bool) (fz : Nat) (icv : Nat → Nat) (fev : Nat → Nat) (eav : Nat → Int64) (rov : Nat → Nat) (stp : Int64) : Int32 := (if stp < 0 then nI 0 else (if stp ≤ 100000 then (if lim < 0 then (if 11 < ((f3_solve_s1 fz icv sn 1 0 fev).2.1) then nI 0 else (if (f3_findExact sn tkv opv shv wyv bdv fz icv ((f3_solve_s1 fz icv sn 1 0 fev).2.1) ((f3_solve_s1 fz icv sn 1 0 fev).2.2) eav rov) = true then nI 0 else nI 0)) else (if ((f3_allLoads ldv)) ≤ lim then (if 11 < ((f3_solve_s1 fz icv sn 1 0 fev).2.1) then nI 0 else (if (f3_findExact sn tkv opv shv wyv bdv fz icv ((f3_solve_s1 fz icv sn 1 0 fev).2.1) ((f3_solve_s1 fz icv sn 1 0 fev).2.2) eav rov) = true then nI 0 else nI 0)) else nI 0)) else nI 0))
def f3_solve_isr (sn : Nat) (tkv : Nat → Int64) (opv : Nat → Int64) (shv : Nat → Int64) (ldv : Nat → Int32) (lim : Int32) (wyv : Nat → Int64) (bdv : Nat → Bool) (isr : Bool) (fz : Nat) (icv : Nat → Nat) (fev : Nat → Nat) (eav : Nat → Int64) (rov : Nat → Nat) (stp : Int64) : Bool := (if stp < 0 then isr else (if stp ≤ 100000 then (if lim < 0 then (if 11 < ((f3_solve_s1 fz icv sn 1 0 fev).2.1) then f3_keep_isr else (if (f3_findExact sn tkv opv shv wyv bdv fz icv ((f3_solve_s1 fz icv sn 1 0 fev).2.1) ((f3_solve_s1 fz icv sn 1 0 fev).2.2) eav rov) = true then f3_keep_isr else f3_keep_isr)) else (if ((f3_allLoads ldv)) ≤ lim then (if 11 < ((f3_solve_s1 fz icv sn 1 0 fev).2.1) then f3_keep_isr else (if (f3_findExact sn tkv opv shv wyv bdv fz icv ((f3_solve_s1 fz icv sn 1 0 fev).2.1) ((f3_solve_s1 fz icv sn 1 0 fev).2.2) eav rov) = true then f3_keep_isr else f3_keep_isr)) else false)) else isr))
def f3_solve_rn (sn : Nat) (tkv : Nat → Int64) (opv : Nat → Int64) (shv : Nat → Int64) (ldv : Nat → Int32) (lim : Int32) (wyv : Nat → Int64) (bdv : Nat → Bool) (rn : Nat) (fz : Nat) (icv : Nat → Nat) (fev : Nat → Nat) (eav : Nat → Int64) (rov : Nat → Nat) (stp : Int64) : Nat := (if stp < 0 then rn else (if stp ≤ 100000 then (if lim < 0 then (if 11 < ((f3_solve_s1 fz icv sn 1 0 fev).2.1) then f3_keep_rn sn else (if (f3_findExact sn tkv opv shv wyv bdv fz icv ((f3_solve_s1 fz icv sn 1 0 fev).2.1) ((f3_solve_s1 fz icv sn 1 0 fev).2.2) eav rov) = true then f3_keep_rn sn else f3_keep_rn sn)) else (if ((f3_allLoads ldv)) ≤ lim then (if 11 < ((f3_solve_s1 fz icv sn 1 0 fev).2.1) then f3_keep_rn sn else (if (f3_findExact sn tkv opv shv wyv bdv fz icv ((f3_solve_s1 fz icv sn 1 0 fev).2.1) ((f3_solve_s1 fz icv sn 1 0 fev).2.2) eav rov) = true then f3_keep_rn sn else f3_keep_rn sn)) else rn)) else rn))
def f3_solve_rdv (sn : Nat) (tkv : Nat → Int64) (opv : Nat → Int64) (shv : Nat → Int64) (ldv : Nat → Int32) (lim : Int32) (wyv : Nat → Int64) (bdv : Nat → Bool) (rdv : Nat → Nat) (fz : Nat) (icv : Nat → Nat) (fev : Nat → Nat) (eav : Nat → Int64) (rov : Nat → Nat) (stp : Int64) : Nat → Nat := (if stp < 0 then rdv else (if stp ≤ 100000 then (if lim < 0 then (if 11 < ((f3_solve_s1 fz icv sn 1 0 fev).2.1) then f3_keep_rdv rdv sn (f3_improve_rov tkv opv shv wyv bdv fz sn ((f3_solve_s3 tkv opv shv wyv bdv fz ((f3_solve_s1 fz icv sn 1 0 fev).2.2) ((f3_solve_s1 fz icv sn 1 0 fev).2.1) 0 fz ((f3_solve_s2 icv fz 0 rov).2)).2.2) stp) else (if (f3_findExact sn tkv opv shv wyv bdv fz icv ((f3_solve_s1 fz icv sn 1 0 fev).2.1) ((f3_solve_s1 fz icv sn 1 0 fev).2.2) eav rov) = true then f3_keep_rdv rdv sn (f3_findExact_rov sn tkv opv shv wyv bdv fz icv ((f3_solve_s1 fz icv sn 1 0 fev).2.1) ((f3_solve_s1 fz icv sn 1 0 fev).2.2) eav rov) else f3_keep_rdv rdv sn (f3_improve_rov tkv opv shv wyv bdv fz sn ((f3_solve_s3 tkv opv shv wyv bdv fz ((f3_solve_s1 fz icv sn 1 0 fev).2.2) ((f3_solve_s1 fz icv sn 1 0 fev).2.1) 0 fz ((f3_solve_s2 icv fz 0 (f3_findExact_rov sn tkv opv shv wyv bdv fz icv ((f3_solve_s1 fz icv sn 1 0 fev).2.1) ((f3_solve_s1 fz icv sn 1 0 fev).2.2) eav rov)).2)).2.2) stp))) else (if ((f3_allLoads ldv)) ≤ lim then (if 11 < ((f3_solve_s1 fz icv sn 1 0 fev).2.1) then f3_keep_rdv rdv sn (f3_improve_rov tkv opv shv wyv bdv fz sn ((f3_solve_s3 tkv opv shv wyv bdv fz ((f3_solve_s1 fz icv sn 1 0 fev).2.2) ((f3_solve_s1 fz icv sn 1 0 fev).2.1) 0 fz ((f3_solve_s2 icv fz 0 rov).2)).2.2) stp) else (if (f3_findExact sn tkv opv shv wyv bdv fz icv ((f3_solve_s1 fz icv sn 1 0 fev).2.1) ((f3_solve_s1 fz icv sn 1 0 fev).2.2) eav rov) = true then f3_keep_rdv rdv sn (f3_findExact_rov sn tkv opv shv wyv bdv fz icv ((f3_solve_s1 fz icv sn 1 0 fev).2.1) ((f3_solve_s1 fz icv sn 1 0 fev).2.2) eav rov) else f3_keep_rdv rdv sn (f3_improve_rov tkv opv shv wyv bdv fz sn ((f3_solve_s3 tkv opv shv wyv bdv fz ((f3_solve_s1 fz icv sn 1 0 fev).2.2) ((f3_solve_s1 fz icv sn 1 0 fev).2.1) 0 fz ((f3_solve_s2 icv fz 0 (f3_findExact_rov sn tkv opv shv wyv bdv fz icv ((f3_solve_s1 fz icv sn 1 0 fev).2.1) ((f3_solve_s1 fz icv sn 1 0 fev).2.2) eav rov)).2)).2.2) stp))) else rdv)) else rdv))
def f3_solve_exa (sn : Nat) (tkv : Nat → Int64) (opv : Nat → Int64) (shv : Nat → Int64) (ldv : Nat → Int32) (lim : Int32) (wyv : Nat → Int64) (bdv : Nat → Bool) (fz : Nat) (icv : Nat → Nat) (exa : Bool) (fev : Nat → Nat) (eav : Nat → Int64) (rov : Nat → Nat) (stp : Int64) : Bool := (if stp < 0 then exa else (if stp ≤ 100000 then (if lim < 0 then (if 11 < ((f3_solve_s1 fz icv sn 1 0 fev).2.1) then false else (if (f3_findExact sn tkv opv shv wyv bdv fz icv ((f3_solve_s1 fz icv sn 1 0 fev).2.1) ((f3_solve_s1 fz icv sn 1 0 fev).2.2) eav rov) = true then true else false)) else (if ((f3_allLoads ldv)) ≤ lim then (if 11 < ((f3_solve_s1 fz icv sn 1 0 fev).2.1) then false else (if (f3_findExact sn tkv opv shv wyv bdv fz icv ((f3_solve_s1 fz icv sn 1 0 fev).2.1) ((f3_solve_s1 fz icv sn 1 0 fev).2.2) eav rov) = true then true else false)) else false)) else exa))
def f3_solve_fr (sn : Nat) (tkv : Nat → Int64) (opv : Nat → Int64) (shv : Nat → Int64) (ldv : Nat → Int32) (lim : Int32) (wyv : Nat → Int64) (bdv : Nat → Bool) (fz : Nat) (icv : Nat → Nat) (fr : Nat) (fev : Nat → Nat) (eav : Nat → Int64) (rov : Nat → Nat) (stp : Int64) : Nat := (if stp < 0 then fr else (if stp ≤ 100000 then (if lim < 0 then (if 11 < ((f3_solve_s1 fz icv sn 1 0 fev).2.1) then (f3_solve_s1 fz icv sn 1 0 fev).2.1 else (if (f3_findExact sn tkv opv shv wyv bdv fz icv ((f3_solve_s1 fz icv sn 1 0 fev).2.1) ((f3_solve_s1 fz icv sn 1 0 fev).2.2) eav rov) = true then (f3_solve_s1 fz icv sn 1 0 fev).2.1 else (f3_solve_s1 fz icv sn 1 0 fev).2.1)) else (if ((f3_allLoads ldv)) ≤ lim then (if 11 < ((f3_solve_s1 fz icv sn 1 0 fev).2.1) then (f3_solve_s1 fz icv sn 1 0 fev).2.1 else (if (f3_findExact sn tkv opv shv wyv bdv fz icv ((f3_solve_s1 fz icv sn 1 0 fev).2.1) ((f3_solve_s1 fz icv sn 1 0 fev).2.2) eav rov) = true then (f3_solve_s1 fz icv sn 1 0 fev).2.1 else (f3_solve_s1 fz icv sn 1 0 fev).2.1)) else fr)) else fr))
def f3_solve_fev (sn : Nat) (tkv : Nat → Int64) (opv : Nat → Int64) (shv : Nat → Int64) (ldv : Nat → Int32) (lim : Int32) (wyv : Nat → Int64) (bdv : Nat → Bool) (fz : Nat) (icv : Nat → Nat) (fev : Nat → Nat) (eav : Nat → Int64) (rov : Nat → Nat) (stp : Int64) : Nat → Nat := (if stp < 0 then fev else (if stp ≤ 100000 then (if lim < 0 then (if 11 < ((f3_solve_s1 fz icv sn 1 0 fev).2.1) then (f3_solve_s1 fz icv sn 1 0 fev).2.2 else (if (f3_findExact sn tkv opv shv wyv bdv fz icv ((f3_solve_s1 fz icv sn 1 0 fev).2.1) ((f3_solve_s1 fz icv sn 1 0 fev).2.2) eav rov) = true then (f3_solve_s1 fz icv sn 1 0 fev).2.2 else (f3_solve_s1 fz icv sn 1 0 fev).2.2)) else (if ((f3_allLoads ldv)) ≤ lim then (if 11 < ((f3_solve_s1 fz icv sn 1 0 fev).2.1) then (f3_solve_s1 fz icv sn 1 0 fev).2.2 else (if (f3_findExact sn tkv opv shv wyv bdv fz icv ((f3_solve_s1 fz icv sn 1 0 fev).2.1) ((f3_solve_s1 fz icv sn 1 0 fev).2.2) eav rov) = true then (f3_solve_s1 fz icv sn 1 0 fev).2.2 else (f3_solve_s1 fz icv sn 1 0 fev).2.2)) else fev)) else fev))
def f3_solve_eav (sn : Nat) (tkv : Nat → Int64) (opv : Nat → Int64) (shv : Nat → Int64) (ldv : Nat → Int32) (lim : Int32) (wyv : Nat → Int64) (bdv : Nat → Bool) (fz : Nat) (icv : Nat → Nat) (fev : Nat → Nat) (eav : Nat → Int64) (rov : Nat → Nat) (stp : Int64) : Nat → Int64 := (if stp < 0 then eav else (if stp ≤ 100000 then (if lim < 0 then (if 11 < ((f3_solve_s1 fz icv sn 1 0 fev).2.1) then eav else (if (f3_findExact sn tkv opv shv wyv bdv fz icv ((f3_solve_s1 fz icv sn 1 0 fev).2.1) ((f3_solve_s1 fz icv sn 1 0 fev).2.2) eav rov) = true then f3_findExact_eav tkv opv shv wyv bdv fz icv ((f3_solve_s1 fz icv sn 1 0 fev).2.1) ((f3_solve_s1 fz icv sn 1 0 fev).2.2) eav else f3_findExact_eav tkv opv shv wyv bdv fz icv ((f3_solve_s1 fz icv sn 1 0 fev).2.1) ((f3_solve_s1 fz icv sn 1 0 fev).2.2) eav)) else (if ((f3_allLoads ldv)) ≤ lim then (if 11 < ((f3_solve_s1 fz icv sn 1 0 fev).2.1) then eav else (if (f3_findExact sn tkv opv shv wyv bdv fz icv ((f3_solve_s1 fz icv sn 1 0 fev).2.1) ((f3_solve_s1 fz icv sn 1 0 fev).2.2) eav rov) = true then f3_findExact_eav tkv opv shv wyv bdv fz icv ((f3_solve_s1 fz icv sn 1 0 fev).2.1) ((f3_solve_s1 fz icv sn 1 0 fev).2.2) eav else f3_findExact_eav tkv opv shv wyv bdv fz icv ((f3_solve_s1 fz icv sn 1 0 fev).2.1) ((f3_solve_s1 fz icv sn 1 0 fev).2.2) eav)) else eav)) else eav))
def f3_solve_rs (sn : Nat) (tkv : Nat → Int64) (opv : Nat → Int64) (shv : Nat → Int64) (ldv : Nat → Int32) (lim : Int32) (wyv : Nat → Int64) (bdv : Nat → Bool) (fz : Nat) (icv : Nat → Nat) (fev : Nat → Nat) (eav : Nat → Int64) (rs : Nat) (rov : Nat → Nat) (stp : Int64) : Nat := (if stp < 0 then rs else (if stp ≤ 100000 then (if lim < 0 then (if 11 < ((f3_solve_s1 fz icv sn 1 0 fev).2.1) then sn else (if (f3_findExact sn tkv opv shv wyv bdv fz icv ((f3_solve_s1 fz icv sn 1 0 fev).2.1) ((f3_solve_s1 fz icv sn 1 0 fev).2.2) eav rov) = true then sn else sn)) else (if ((f3_allLoads ldv)) ≤ lim then (if 11 < ((f3_solve_s1 fz icv sn 1 0 fev).2.1) then sn else (if (f3_findExact sn tkv opv shv wyv bdv fz icv ((f3_solve_s1 fz icv sn 1 0 fev).2.1) ((f3_solve_s1 fz icv sn 1 0 fev).2.2) eav rov) = true then sn else sn)) else rs)) else rs))
def f3_solve_rov (sn : Nat) (tkv : Nat → Int64) (opv : Nat → Int64) (shv : Nat → Int64) (ldv : Nat → Int32) (lim : Int32) (wyv : Nat → Int64) (bdv : Nat → Bool) (fz : Nat) (icv : Nat → Nat) (fev : Nat → Nat) (eav : Nat → Int64) (rov : Nat → Nat) (stp : Int64) : Nat → Nat := (if stp < 0 then rov else (if stp ≤ 100000 then (if lim < 0 then (if 11 < ((f3_solve_s1 fz icv sn 1 0 fev).2.1) then f3_improve_rov tkv opv shv wyv bdv fz sn ((f3_solve_s3 tkv opv shv wyv bdv fz ((f3_solve_s1 fz icv sn 1 0 fev).2.2) ((f3_solve_s1 fz icv sn 1 0 fev).2.1) 0 fz ((f3_solve_s2 icv fz 0 rov).2)).2.2) stp else (if (f3_findExact sn tkv opv shv wyv bdv fz icv ((f3_solve_s1 fz icv sn 1 0 fev).2.1) ((f3_solve_s1 fz icv sn 1 0 fev).2.2) eav rov) = true then f3_findExact_rov sn tkv opv shv wyv bdv fz icv ((f3_solve_s1 fz icv sn 1 0 fev).2.1) ((f3_solve_s1 fz icv sn 1 0 fev).2.2) eav rov else f3_improve_rov tkv opv shv wyv bdv fz sn ((f3_solve_s3 tkv opv shv wyv bdv fz ((f3_solve_s1 fz icv sn 1 0 fev).2.2) ((f3_solve_s1 fz icv sn 1 0 fev).2.1) 0 fz ((f3_solve_s2 icv fz 0 (f3_findExact_rov sn tkv opv shv wyv bdv fz icv ((f3_solve_s1 fz icv sn 1 0 fev).2.1) ((f3_solve_s1 fz icv sn 1 0 fev).2.2) eav rov)).2)).2.2) stp)) else (if ((f3_allLoads ldv)) ≤ lim then (if 11 < ((f3_solve_s1 fz icv sn 1 0 fev).2.1) then f3_improve_rov tkv opv shv wyv bdv fz sn ((f3_solve_s3 tkv opv shv wyv bdv fz ((f3_solve_s1 fz icv sn 1 0 fev).2.2) ((f3_solve_s1 fz icv sn 1 0 fev).2.1) 0 fz ((f3_solve_s2 icv fz 0 rov).2)).2.2) stp else (if (f3_findExact sn tkv opv shv wyv bdv fz icv ((f3_solve_s1 fz icv sn 1 0 fev).2.1) ((f3_solve_s1 fz icv sn 1 0 fev).2.2) eav rov) = true then f3_findExact_rov sn tkv opv shv wyv bdv fz icv ((f3_solve_s1 fz icv sn 1 0 fev).2.1) ((f3_solve_s1 fz icv sn 1 0 fev).2.2) eav rov else f3_improve_rov tkv opv shv wyv bdv fz sn ((f3_solve_s3 tkv opv shv wyv bdv fz ((f3_solve_s1 fz icv sn 1 0 fev).2.2) ((f3_solve_s1 fz icv sn 1 0 fev).2.1) 0 fz ((f3_solve_s2 icv fz 0 (f3_findExact_rov sn tkv opv shv wyv bdv fz icv ((f3_solve_s1 fz icv sn 1 0 fev).2.1) ((f3_solve_s1 fz icv sn 1 0 fev).2.2) eav rov)).2)).2.2) stp)) else rov)) else rov))
set_option maxRecDepth 100000 in
set_option maxHeartbeats 4000000 in
theorem kX3_solve (l : Launch) (D : va_G) (h : Nat) (ad : Nat → Nat) (cI : ClassId) (cJ : ClassId) (cZ : ClassId) (thr : Int32) (sn : Nat) (tkv : Nat → Int64) (opv : Nat → Int64) (shv : Nat → Int64) (ldv : Nat → Int32) (lim : Int32) (wyv : Nat → Int64) (bdv : Nat → Bool) (isr : Bool) (rn : Nat) (rdv : Nat → Nat) (fz : Nat) (icv : Nat → Nat) (exa : Bool) (fr : Nat) (fev : Nat → Nat) (eav : Nat → Int64) (rs : Nat) (rov : Nat → Nat) (stp : Int64) (hsn : sn ≤ 20) (hfs : fz ≤ sn) (his : q_row fz sn icv) : gz_M l yX3_solve cX3_solve 5 (some .long) ({ frames := 3, cells := 0, slots := 0, locals := 90 } : Room) D [(cI, .int), (cJ, .long), (cZ, .boolean)] [.ref h, .long stp] (wM h ad cI cJ cZ thr sn tkv opv shv ldv lim wyv bdv isr rn rdv fz icv exa fr fev eav rs rov) (some (.long (f3_solve sn tkv opv shv ldv lim wyv bdv fz icv fev eav rov stp))) (wM h ad cI cJ cZ (f3_solve_thr sn tkv opv shv ldv lim wyv bdv fz icv fev eav rov stp) sn tkv opv shv ldv lim wyv bdv (f3_solve_isr sn tkv opv shv ldv lim wyv bdv isr fz icv fev eav rov stp) (f3_solve_rn sn tkv opv shv ldv lim wyv bdv rn fz icv fev eav rov stp) (f3_solve_rdv sn tkv opv shv ldv lim wyv bdv rdv fz icv fev eav rov stp) fz icv (f3_solve_exa sn tkv opv shv ldv lim wyv bdv fz icv exa fev eav rov stp) (f3_solve_fr sn tkv opv shv ldv lim wyv bdv fz icv fr fev eav rov stp) (f3_solve_fev sn tkv opv shv ldv lim wyv bdv fz icv fev eav rov stp) (f3_solve_eav sn tkv opv shv ldv lim wyv bdv fz icv fev eav rov stp) (f3_solve_rs sn tkv opv shv ldv lim wyv bdv fz icv fev eav rs rov stp) (f3_solve_rov sn tkv opv shv ldv lim wyv bdv fz icv fev eav rov stp)) 0 0 := by
  refine gz_met l (by decide) (Nat.le_of_ble_eq_true rfl) [(0, .ref h), (1, .long stp)] rfl ?_
  intro sz p e s m args below meth c C hr hk hnm
  have C : gz_C p s m args c cX3_solve 5 RX3 D [(cI, .int), (cJ, .long), (cZ, .boolean)] (va_A (wM h ad cI cJ cZ thr sn tkv opv shv ldv lim wyv bdv isr rn rdv fz icv exa fr fev eav rs rov) sz) := C
  refine gz_aload_n C 0 dX3_solve_0 rfl ?_
  refine gz_iconst (v := nI 0) C dX3_solve_1 (by decide) ?_
  refine gz_put (ci := 4) (ws2 := (wM h ad cI cJ cZ (nI 0) sn tkv opv shv ldv lim wyv bdv isr rn rdv fz icv exa fr fev eav rs rov)) C iwX3 0 rfl rfl 0 (by decide) wk_380 rfl tyX3 tyX3_ok nmX3 rfl rfl rfl rfl (Nat.le_of_ble_eq_true rfl) rfl dX3_solve_2 ?_
  refine gz_lload_n C 1 dX3_solve_5 rfl ?_
  refine gz_lconst (v := 0) C dX3_solve_6 (by decide) ?_
  refine gz_lcmp_lt C 19 dX3_solve_7 dX3_solve_8 (by decide) (fun h_1 => ?_) (fun h_1 => ?_)
  · skip
    refine gz_ldc2 (v := (-12)) C wk_479 dX3_solve_19 ?_
    exact gz_lret C hr hk (by first | rfl | (simp only [f3_solve, f3_solve_thr, f3_solve_isr, f3_solve_rn, f3_solve_rdv, f3_solve_exa, f3_solve_fr, f3_solve_fev, f3_solve_eav, f3_solve_rs, f3_solve_rov, if_pos h_1]) | (simp only [f3_solve, f3_solve_thr, f3_solve_isr, f3_solve_rn, f3_solve_rdv, f3_solve_exa, f3_solve_fr, f3_solve_fev, f3_solve_eav, f3_solve_rs, f3_solve_rov, if_pos h_1]; rfl)) (by first | rfl | (simp only [f3_solve, f3_solve_thr, f3_solve_isr, f3_solve_rn, f3_solve_rdv, f3_solve_exa, f3_solve_fr, f3_solve_fev, f3_solve_eav, f3_solve_rs, f3_solve_rov, if_pos h_1]) | (simp only [f3_solve, f3_solve_thr, f3_solve_isr, f3_solve_rn, f3_solve_rdv, f3_solve_exa, f3_solve_fr, f3_solve_fev, f3_solve_eav, f3_solve_rs, f3_solve_rov, if_pos h_1]; rfl)) (Nat.le_refl _) (Nat.le_refl _) dX3_solve_22
  · have g_1 : ¬ (stp < 0) := h_1
    refine gz_lload_n C 1 dX3_solve_11 rfl ?_
    refine gz_ldc2 (v := 100000) C wk_449 dX3_solve_12 ?_
    refine gz_lcmp_le C 23 dX3_solve_15 dX3_solve_16 (by decide) (fun h_2 => ?_) (fun h_2 => ?_)
    · skip
      refine gz_aload_n C 0 dX3_solve_23 rfl ?_
      refine gz_iconst (v := nI 0) C dX3_solve_24 (by decide) ?_
      refine gz_sw (v := .int (nI 0)) (w := .int (bI false)) (by rw [show nI 0 = bI false from (by first | rfl | decide | ((repeat' split) <;> rfl))]) ?_
      refine gz_put (ci := 4) (ws2 := (wM h ad cI cJ cZ (nI 0) sn tkv opv shv ldv lim wyv bdv isr rn rdv fz icv false fr fev eav rs rov)) C iwX3 0 rfl rfl 14 (by decide) wk_394 rfl tyX3 tyX3_ok nmX3 rfl rfl (bI_nar _) (bI_fit _) (Nat.le_of_ble_eq_true rfl) rfl dX3_solve_25 ?_
      refine gz_aload_n C 0 dX3_solve_28 rfl ?_
      refine gz_get (ci := 4) C iwX3 0 rfl rfl 6 (by decide) wk_386 rfl rfl dX3_solve_29 ?_
      refine gz_if_lt C 55 dX3_solve_32 (by decide) (fun h_3 => ?_) (fun h_3 => ?_)
      · skip
        refine gz_aload_n C 0 dX3_solve_55 rfl ?_
        refine gz_iconst (v := nI 0) C dX3_solve_56 (by decide) ?_
        refine gz_put (ci := 4) (ws2 := (wM h ad cI cJ cZ (nI 0) sn tkv opv shv ldv lim wyv bdv isr rn rdv fz icv false 0 fev eav rs rov)) C iwX3 0 rfl rfl 15 (by decide) wk_395 rfl tyX3 tyX3_ok nmX3 rfl rfl rfl rfl (Nat.le_of_ble_eq_true rfl) rfl dX3_solve_57 ?_
        refine gz_iconst (v := nI 1) C dX3_solve_60 (by decide) ?_
        refine gz_istore_n (lv2 := [(3, .int (nI 1)), (0, .ref h), (1, .long stp)]) C dX3_solve_61 (by decide) rfl ?_
        refine gz_lv (lv2 := [(0, .ref h), (1, .long stp), (3, .int (nI 1))]) [1, 2, 0] rfl ?_
        refine lX3_solve_s1 h ad cI cJ cZ (nI 0) sn tkv opv shv ldv lim wyv bdv isr rn rdv fz icv false eav rs rov stp (by first | assumption | omega) (by first | assumption | omega) (fun k hk => by have := (his.1 k hk).2; omega) ⟨Nat.le_of_ble_eq_true rfl, Nat.le_of_ble_eq_true rfl⟩ ⟨Nat.zero_le _, Nat.zero_le _⟩ C sn 1 0 fev (by omega) (by first | assumption | omega) ?_
        intro zme_s1 zhfk_s1
        obtain ⟨hA, hB, hC⟩ := q3_free (fev := fev) his
        refine gz_aload_n C 0 dX3_solve_104 rfl ?_
        refine gz_aload_n C 0 dX3_solve_105 rfl ?_
        refine gz_get (ci := 4) C iwX3 0 rfl rfl 15 (by decide) wk_395 rfl rfl dX3_solve_106 ?_
        refine gz_bipush (v := nI 11) C dX3_solve_109 (by decide) ?_
        refine gz_ncmp_gt C 125 (by omega) (by omega) dX3_solve_111 (by decide) (fun h_4 => ?_) (fun h_4 => ?_)
        · skip
          refine gz_iconst (v := nI 0) C dX3_solve_125 (by decide) ?_
          refine gz_sw (v := .int (nI 0)) (w := .int (bI false)) (by rw [show nI 0 = bI false from (by first | rfl | decide | ((repeat' split) <;> rfl))]) ?_
          refine gz_put (ci := 4) (ws2 := (wM h ad cI cJ cZ (nI 0) sn tkv opv shv ldv lim wyv bdv isr rn rdv fz icv false ((f3_solve_s1 fz icv sn 1 0 fev).2.1) ((f3_solve_s1 fz icv sn 1 0 fev).2.2) eav rs rov)) C iwX3 0 rfl rfl 14 (by decide) wk_394 rfl tyX3 tyX3_ok nmX3 rfl rfl (bI_nar _) (bI_fit _) (Nat.le_of_ble_eq_true rfl) rfl dX3_solve_126 ?_
          refine gz_aload_n C 0 dX3_solve_129 rfl ?_
          refine gz_get (ci := 4) C iwX3 0 rfl rfl 14 (by decide) wk_394 rfl rfl dX3_solve_130 ?_
          refine gz_bif_ne C 205 dX3_solve_133 (by decide) (fun z => absurd z (by decide)) (fun _ => ?_)
          refine gz_aload_n C 0 dX3_solve_136 rfl ?_
          refine gz_aload_n C 0 dX3_solve_137 rfl ?_
          refine gz_get (ci := 4) C iwX3 0 rfl rfl 12 (by decide) wk_392 rfl rfl dX3_solve_138 ?_
          refine gz_put (ci := 4) (ws2 := (wM h ad cI cJ cZ (nI 0) sn tkv opv shv ldv lim wyv bdv isr rn rdv fz icv false ((f3_solve_s1 fz icv sn 1 0 fev).2.1) ((f3_solve_s1 fz icv sn 1 0 fev).2.2) eav fz rov)) C iwX3 0 rfl rfl 18 (by decide) wk_398 rfl tyX3 tyX3_ok nmX3 rfl rfl rfl rfl (Nat.le_of_ble_eq_true rfl) rfl dX3_solve_141 ?_
          refine gz_iconst (v := nI 0) C dX3_solve_144 (by decide) ?_
          refine gz_istore_n (lv2 := [(3, .int (nI 0)), (0, .ref h), (1, .long stp)]) C dX3_solve_145 (by decide) rfl ?_
          refine gz_lv (lv2 := [(0, .ref h), (1, .long stp), (3, .int (nI 0))]) [1, 2, 0] rfl ?_
          refine lX3_solve_s2 h ad cI cJ cZ (nI 0) sn tkv opv shv ldv lim wyv bdv isr rn rdv fz icv false ((f3_solve_s1 fz icv sn 1 0 fev).2.1) ((f3_solve_s1 fz icv sn 1 0 fev).2.2) eav fz stp (by first | assumption | omega) C fz 0 rov (by omega)  ?_
          intro zme_s2
          refine gz_iconst (v := nI 0) C dX3_solve_172 (by decide) ?_
          refine gz_istore_n (lv2 := [(3, .int (nI 0)), (0, .ref h), (1, .long stp)]) C dX3_solve_173 (by decide) rfl ?_
          refine gz_lv (lv2 := [(0, .ref h), (1, .long stp), (3, .int (nI 0))]) [1, 2, 0] rfl ?_
          refine lX3_solve_s3 h ad cI cJ cZ (nI 0) sn tkv opv shv ldv lim wyv bdv isr rn rdv fz icv false ((f3_solve_s1 fz icv sn 1 0 fev).2.1) ((f3_solve_s1 fz icv sn 1 0 fev).2.2) eav stp (by first | assumption | omega) (fun k hk => by have := (hB k hk).2.1; omega) ⟨Nat.le_of_ble_eq_true rfl, Nat.le_of_ble_eq_true rfl⟩ ⟨Nat.zero_le _, Nat.zero_le _⟩ C ((f3_solve_s1 fz icv sn 1 0 fev).2.1) 0 fz ((f3_solve_s2 icv fz 0 rov).2) (by omega) (by first | assumption | omega) (fun j hj => by rw [q3_s2, if_pos (by omega)]; have := (his.1 j hj).2; omega) ?_
          intro zme_s3 zhrk_s3 zhro_s3
          have hir := q3_ins_row (tkv := tkv) (opv := opv) (shv := shv) (wyv := wyv) (bdv := bdv) (rov := rov) (fev0 := fev) hsn his
          refine gz_wse (ws2 := (wM h ad cI cJ cZ (nI 0) sn tkv opv shv ldv lim wyv bdv isr rn rdv fz icv false ((f3_solve_s1 fz icv sn 1 0 fev).2.1) ((f3_solve_s1 fz icv sn 1 0 fev).2.2) eav sn ((f3_solve_s3 tkv opv shv wyv bdv fz ((f3_solve_s1 fz icv sn 1 0 fev).2.2) ((f3_solve_s1 fz icv sn 1 0 fev).2.1) 0 fz ((f3_solve_s2 icv fz 0 rov).2)).2.2))) (by rw [hir.1]) ?_
          refine gz_aload_n C 0 dX3_solve_200 rfl ?_
          refine gz_lload_n C 1 dX3_solve_201 rfl ?_
          refine gz_callV (wr := []) (n := 1) (ws2 := (wM h ad cI cJ cZ (nI 0) sn tkv opv shv ldv lim wyv bdv isr rn rdv fz icv false ((f3_solve_s1 fz icv sn 1 0 fev).2.1) ((f3_solve_s1 fz icv sn 1 0 fev).2.2) eav sn (f3_improve_rov tkv opv shv wyv bdv fz sn ((f3_solve_s3 tkv opv shv wyv bdv fz ((f3_solve_s1 fz icv sn 1 0 fev).2.2) ((f3_solve_s1 fz icv sn 1 0 fev).2.1) 0 fz ((f3_solve_s2 icv fz 0 rov).2)).2.2) stp))) (st2 := []) (cells2 := 0) (slots2 := 0) (ci := 4) C (kX3_improve l D h ad cI cJ cZ (nI 0) sn tkv opv shv ldv lim wyv bdv isr rn rdv fz icv false ((f3_solve_s1 fz icv sn 1 0 fev).2.1) ((f3_solve_s1 fz icv sn 1 0 fev).2.2) eav sn ((f3_solve_s3 tkv opv shv wyv bdv fz ((f3_solve_s1 fz icv sn 1 0 fev).2.2) ((f3_solve_s1 fz icv sn 1 0 fev).2.1) 0 fz ((f3_solve_s2 icv fz 0 rov).2)).2.2) stp (by first | assumption | omega) (fun k hk => by have := (hir.2.1.1 k hk).2; omega) (by first | assumption | omega) (by first | assumption | omega) (by first | assumption | omega)) (WB_V wk_519 wk_521 ws_28 wk_4 wk_522) (by decide +kernel) ⟨⟨rfl, rfl⟩, Nat.le_of_ble_eq_true rfl, Nat.le_of_ble_eq_true rfl⟩ [0, 1, 2, 3, 4, 5, 6, 7, 8, 9, 10, 11] [] [0, 1, 2] rfl rfl rfl (by decide) rfl 0 rfl rfl rfl rfl (Nat.le_of_ble_eq_true rfl) dX3_solve_202 ⟨Nat.zero_le _, Nat.zero_le _⟩ rfl rfl rfl ?_
          have hq9 := (qr_improve (tkv := tkv) (opv := opv) (shv := shv) (wyv := wyv) (bdv := bdv) (fz := fz) (stp := stp) hir.2.1).1
          refine gz_aload_n C 0 dX3_solve_205 rfl ?_
          refine gz_callV (wr := []) (n := 0) (ws2 := (wM h ad cI cJ cZ (nI 0) sn tkv opv shv ldv lim wyv bdv f3_keep_isr (f3_keep_rn sn) (f3_keep_rdv rdv sn (f3_improve_rov tkv opv shv wyv bdv fz sn ((f3_solve_s3 tkv opv shv wyv bdv fz ((f3_solve_s1 fz icv sn 1 0 fev).2.2) ((f3_solve_s1 fz icv sn 1 0 fev).2.1) 0 fz ((f3_solve_s2 icv fz 0 rov).2)).2.2) stp)) fz icv false ((f3_solve_s1 fz icv sn 1 0 fev).2.1) ((f3_solve_s1 fz icv sn 1 0 fev).2.2) eav sn (f3_improve_rov tkv opv shv wyv bdv fz sn ((f3_solve_s3 tkv opv shv wyv bdv fz ((f3_solve_s1 fz icv sn 1 0 fev).2.2) ((f3_solve_s1 fz icv sn 1 0 fev).2.1) 0 fz ((f3_solve_s2 icv fz 0 rov).2)).2.2) stp))) (st2 := []) (cells2 := 0) (slots2 := 0) (ci := 4) C (kX3_keep l D h ad cI cJ cZ (nI 0) sn tkv opv shv ldv lim wyv bdv isr rn rdv fz icv false ((f3_solve_s1 fz icv sn 1 0 fev).2.1) ((f3_solve_s1 fz icv sn 1 0 fev).2.2) eav sn (f3_improve_rov tkv opv shv wyv bdv fz sn ((f3_solve_s3 tkv opv shv wyv bdv fz ((f3_solve_s1 fz icv sn 1 0 fev).2.2) ((f3_solve_s1 fz icv sn 1 0 fev).2.1) 0 fz ((f3_solve_s2 icv fz 0 rov).2)).2.2) stp) (by first | assumption | omega)) (WB_V wk_531 wk_533 ws_31 wk_4 wk_534) (by decide +kernel) ⟨⟨rfl, rfl⟩, Nat.le_of_ble_eq_true rfl, Nat.le_of_ble_eq_true rfl⟩ [0, 1, 2, 3, 4, 5, 6, 7, 8, 9, 10, 11] [] [0, 1, 2] rfl rfl rfl (by decide) rfl 0 rfl rfl rfl rfl (Nat.le_of_ble_eq_true rfl) dX3_solve_206 ⟨Nat.zero_le _, Nat.zero_le _⟩ rfl rfl rfl ?_
          refine gz_aload_n C 0 dX3_solve_209 rfl ?_
          refine gz_callV (wr := []) (n := 0) (ws2 := (wM h ad cI cJ cZ (nI 0) sn tkv opv shv ldv lim wyv bdv f3_keep_isr (f3_keep_rn sn) (f3_keep_rdv rdv sn (f3_improve_rov tkv opv shv wyv bdv fz sn ((f3_solve_s3 tkv opv shv wyv bdv fz ((f3_solve_s1 fz icv sn 1 0 fev).2.2) ((f3_solve_s1 fz icv sn 1 0 fev).2.1) 0 fz ((f3_solve_s2 icv fz 0 rov).2)).2.2) stp)) fz icv false ((f3_solve_s1 fz icv sn 1 0 fev).2.1) ((f3_solve_s1 fz icv sn 1 0 fev).2.2) eav sn (f3_improve_rov tkv opv shv wyv bdv fz sn ((f3_solve_s3 tkv opv shv wyv bdv fz ((f3_solve_s1 fz icv sn 1 0 fev).2.2) ((f3_solve_s1 fz icv sn 1 0 fev).2.1) 0 fz ((f3_solve_s2 icv fz 0 rov).2)).2.2) stp))) (st2 := [.long (f3_measure tkv opv shv wyv bdv sn (f3_improve_rov tkv opv shv wyv bdv fz sn ((f3_solve_s3 tkv opv shv wyv bdv fz ((f3_solve_s1 fz icv sn 1 0 fev).2.2) ((f3_solve_s1 fz icv sn 1 0 fev).2.1) 0 fz ((f3_solve_s2 icv fz 0 rov).2)).2.2) stp))]) (cells2 := 0) (slots2 := 0) (ci := 4) C (kX3_measure l D h ad cI cJ cZ (nI 0) sn tkv opv shv ldv lim wyv bdv f3_keep_isr (f3_keep_rn sn) (f3_keep_rdv rdv sn (f3_improve_rov tkv opv shv wyv bdv fz sn ((f3_solve_s3 tkv opv shv wyv bdv fz ((f3_solve_s1 fz icv sn 1 0 fev).2.2) ((f3_solve_s1 fz icv sn 1 0 fev).2.1) 0 fz ((f3_solve_s2 icv fz 0 rov).2)).2.2) stp)) fz icv false ((f3_solve_s1 fz icv sn 1 0 fev).2.1) ((f3_solve_s1 fz icv sn 1 0 fev).2.2) eav sn (f3_improve_rov tkv opv shv wyv bdv fz sn ((f3_solve_s3 tkv opv shv wyv bdv fz ((f3_solve_s1 fz icv sn 1 0 fev).2.2) ((f3_solve_s1 fz icv sn 1 0 fev).2.1) 0 fz ((f3_solve_s2 icv fz 0 rov).2)).2.2) stp) (by first | assumption | omega) (fun k hk => by have := (hq9.1 k hk).2; omega)) (WB_V wk_510 wk_512 ws_26 wk_4 wk_513) (by decide +kernel) ⟨⟨rfl, rfl⟩, Nat.le_of_ble_eq_true rfl, Nat.le_of_ble_eq_true rfl⟩ [0, 1, 2, 3, 4, 5, 6, 7, 8, 9, 10, 11] [] [0, 1, 2] rfl rfl rfl (by decide) rfl 0 rfl rfl rfl rfl (Nat.le_of_ble_eq_true rfl) dX3_solve_210 ⟨Nat.zero_le _, Nat.zero_le _⟩ rfl rfl rfl ?_
          refine gz_ldc2 (v := 1000000000) C wk_514 dX3_solve_213 ?_
          refine gz_lrem (v := (f3_measure tkv opv shv wyv bdv sn (f3_improve_rov tkv opv shv wyv bdv fz sn ((f3_solve_s3 tkv opv shv wyv bdv fz ((f3_solve_s1 fz icv sn 1 0 fev).2.2) ((f3_solve_s1 fz icv sn 1 0 fev).2.1) 0 fz ((f3_solve_s2 icv fz 0 rov).2)).2.2) stp)) - (f3_measure tkv opv shv wyv bdv sn (f3_improve_rov tkv opv shv wyv bdv fz sn ((f3_solve_s3 tkv opv shv wyv bdv fz ((f3_solve_s1 fz icv sn 1 0 fev).2.2) ((f3_solve_s1 fz icv sn 1 0 fev).2.1) 0 fz ((f3_solve_s2 icv fz 0 rov).2)).2.2) stp)) / 1000000000 * 1000000000) C dX3_solve_216 (by decide) rfl ?_
          exact gz_lret C hr hk (by first | rfl | (simp only [f3_solve, f3_solve_thr, f3_solve_isr, f3_solve_rn, f3_solve_rdv, f3_solve_exa, f3_solve_fr, f3_solve_fev, f3_solve_eav, f3_solve_rs, f3_solve_rov, if_neg g_1, if_pos h_2, if_pos h_3, if_pos h_4]) | (simp only [f3_solve, f3_solve_thr, f3_solve_isr, f3_solve_rn, f3_solve_rdv, f3_solve_exa, f3_solve_fr, f3_solve_fev, f3_solve_eav, f3_solve_rs, f3_solve_rov, if_neg g_1, if_pos h_2, if_pos h_3, if_pos h_4]; rfl)) (by first | rfl | (simp only [f3_solve, f3_solve_thr, f3_solve_isr, f3_solve_rn, f3_solve_rdv, f3_solve_exa, f3_solve_fr, f3_solve_fev, f3_solve_eav, f3_solve_rs, f3_solve_rov, if_neg g_1, if_pos h_2, if_pos h_3, if_pos h_4]) | (simp only [f3_solve, f3_solve_thr, f3_solve_isr, f3_solve_rn, f3_solve_rdv, f3_solve_exa, f3_solve_fr, f3_solve_fev, f3_solve_eav, f3_solve_rs, f3_solve_rov, if_neg g_1, if_pos h_2, if_pos h_3, if_pos h_4]; rfl)) (Nat.le_refl _) (Nat.le_refl _) dX3_solve_217
        · have g_4 : ¬ (11 < ((f3_solve_s1 fz icv sn 1 0 fev).2.1)) := (Nat.not_lt.mpr h_4)
          refine gz_aload_n C 0 dX3_solve_114 rfl ?_
          refine gz_callV (wr := []) (n := 0) (ws2 := (wM h ad cI cJ cZ (nI 0) sn tkv opv shv ldv lim wyv bdv isr rn rdv fz icv false ((f3_solve_s1 fz icv sn 1 0 fev).2.1) ((f3_solve_s1 fz icv sn 1 0 fev).2.2) (f3_findExact_eav tkv opv shv wyv bdv fz icv ((f3_solve_s1 fz icv sn 1 0 fev).2.1) ((f3_solve_s1 fz icv sn 1 0 fev).2.2) eav) (f3_findExact_rs sn tkv opv shv wyv bdv fz icv ((f3_solve_s1 fz icv sn 1 0 fev).2.1) ((f3_solve_s1 fz icv sn 1 0 fev).2.2) eav) (f3_findExact_rov sn tkv opv shv wyv bdv fz icv ((f3_solve_s1 fz icv sn 1 0 fev).2.1) ((f3_solve_s1 fz icv sn 1 0 fev).2.2) eav rov))) (st2 := [.int (bI (f3_findExact sn tkv opv shv wyv bdv fz icv ((f3_solve_s1 fz icv sn 1 0 fev).2.1) ((f3_solve_s1 fz icv sn 1 0 fev).2.2) eav rov)), .ref h]) (cells2 := 0) (slots2 := 0) (ci := 4) C (kX3_findExact l D h ad cI cJ cZ (nI 0) sn tkv opv shv ldv lim wyv bdv isr rn rdv fz icv false ((f3_solve_s1 fz icv sn 1 0 fev).2.1) ((f3_solve_s1 fz icv sn 1 0 fev).2.2) eav rs rov (by first | assumption | omega) (by first | assumption | omega) (fun k hk => by have := (hB k hk).2.1; omega) (by first | assumption | omega) (fun k hk => by have := (his.1 k hk).2; omega) (by first | assumption | omega) (q3_V ((f3_solve_s1 fz icv sn 1 0 fev).2.1) (f3_spread_eav tkv opv shv wyv bdv fz icv ((f3_solve_s1 fz icv sn 1 0 fev).2.1) ((f3_solve_s1 fz icv sn 1 0 fev).2.2) eav)) (fun a ha h => by rw [show sn - fz = (f3_solve_s1 fz icv sn 1 0 fev).2.1 by omega]; exact q3_V0 ha h) (q3_V1 (by omega) (q3_spread (by omega) _)) (q3_V2 (by omega) (q3_spread (by omega) _))) (WB_V wk_485 wk_487 ws_20 wk_4 wk_488) (by decide +kernel) ⟨⟨rfl, rfl⟩, Nat.le_of_ble_eq_true rfl, Nat.le_of_ble_eq_true rfl⟩ [0, 1, 2, 3, 4, 5, 6, 7, 8, 9, 10, 11] [] [0, 1, 2] rfl rfl rfl (by decide) rfl 0 rfl rfl rfl rfl (Nat.le_of_ble_eq_true rfl) dX3_solve_115 ⟨Nat.zero_le _, Nat.zero_le _⟩ rfl rfl rfl ?_
          refine gz_bif_eq C 125 dX3_solve_118 (by decide) (fun h_5 => ?_) (fun h_5 => ?_)
          · have g_5 : ¬ ((f3_findExact sn tkv opv shv wyv bdv fz icv ((f3_solve_s1 fz icv sn 1 0 fev).2.1) ((f3_solve_s1 fz icv sn 1 0 fev).2.2) eav rov) = true) := (by rw [h_5]; decide)
            refine gz_iconst (v := nI 0) C dX3_solve_125 (by decide) ?_
            refine gz_sw (v := .int (nI 0)) (w := .int (bI false)) (by rw [show nI 0 = bI false from (by first | rfl | decide | ((repeat' split) <;> rfl))]) ?_
            refine gz_put (ci := 4) (ws2 := (wM h ad cI cJ cZ (nI 0) sn tkv opv shv ldv lim wyv bdv isr rn rdv fz icv false ((f3_solve_s1 fz icv sn 1 0 fev).2.1) ((f3_solve_s1 fz icv sn 1 0 fev).2.2) (f3_findExact_eav tkv opv shv wyv bdv fz icv ((f3_solve_s1 fz icv sn 1 0 fev).2.1) ((f3_solve_s1 fz icv sn 1 0 fev).2.2) eav) (f3_findExact_rs sn tkv opv shv wyv bdv fz icv ((f3_solve_s1 fz icv sn 1 0 fev).2.1) ((f3_solve_s1 fz icv sn 1 0 fev).2.2) eav) (f3_findExact_rov sn tkv opv shv wyv bdv fz icv ((f3_solve_s1 fz icv sn 1 0 fev).2.1) ((f3_solve_s1 fz icv sn 1 0 fev).2.2) eav rov))) C iwX3 0 rfl rfl 14 (by decide) wk_394 rfl tyX3 tyX3_ok nmX3 rfl rfl (bI_nar _) (bI_fit _) (Nat.le_of_ble_eq_true rfl) rfl dX3_solve_126 ?_
            refine gz_aload_n C 0 dX3_solve_129 rfl ?_
            refine gz_get (ci := 4) C iwX3 0 rfl rfl 14 (by decide) wk_394 rfl rfl dX3_solve_130 ?_
            refine gz_bif_ne C 205 dX3_solve_133 (by decide) (fun z => absurd z (by decide)) (fun _ => ?_)
            refine gz_aload_n C 0 dX3_solve_136 rfl ?_
            refine gz_aload_n C 0 dX3_solve_137 rfl ?_
            refine gz_get (ci := 4) C iwX3 0 rfl rfl 12 (by decide) wk_392 rfl rfl dX3_solve_138 ?_
            refine gz_put (ci := 4) (ws2 := (wM h ad cI cJ cZ (nI 0) sn tkv opv shv ldv lim wyv bdv isr rn rdv fz icv false ((f3_solve_s1 fz icv sn 1 0 fev).2.1) ((f3_solve_s1 fz icv sn 1 0 fev).2.2) (f3_findExact_eav tkv opv shv wyv bdv fz icv ((f3_solve_s1 fz icv sn 1 0 fev).2.1) ((f3_solve_s1 fz icv sn 1 0 fev).2.2) eav) fz (f3_findExact_rov sn tkv opv shv wyv bdv fz icv ((f3_solve_s1 fz icv sn 1 0 fev).2.1) ((f3_solve_s1 fz icv sn 1 0 fev).2.2) eav rov))) C iwX3 0 rfl rfl 18 (by decide) wk_398 rfl tyX3 tyX3_ok nmX3 rfl rfl rfl rfl (Nat.le_of_ble_eq_true rfl) rfl dX3_solve_141 ?_
            refine gz_iconst (v := nI 0) C dX3_solve_144 (by decide) ?_
            refine gz_istore_n (lv2 := [(3, .int (nI 0)), (0, .ref h), (1, .long stp)]) C dX3_solve_145 (by decide) rfl ?_
            refine gz_lv (lv2 := [(0, .ref h), (1, .long stp), (3, .int (nI 0))]) [1, 2, 0] rfl ?_
            refine lX3_solve_s2 h ad cI cJ cZ (nI 0) sn tkv opv shv ldv lim wyv bdv isr rn rdv fz icv false ((f3_solve_s1 fz icv sn 1 0 fev).2.1) ((f3_solve_s1 fz icv sn 1 0 fev).2.2) (f3_findExact_eav tkv opv shv wyv bdv fz icv ((f3_solve_s1 fz icv sn 1 0 fev).2.1) ((f3_solve_s1 fz icv sn 1 0 fev).2.2) eav) fz stp (by first | assumption | omega) C fz 0 (f3_findExact_rov sn tkv opv shv wyv bdv fz icv ((f3_solve_s1 fz icv sn 1 0 fev).2.1) ((f3_solve_s1 fz icv sn 1 0 fev).2.2) eav rov) (by omega)  ?_
            intro zme_s2
            refine gz_iconst (v := nI 0) C dX3_solve_172 (by decide) ?_
            refine gz_istore_n (lv2 := [(3, .int (nI 0)), (0, .ref h), (1, .long stp)]) C dX3_solve_173 (by decide) rfl ?_
            refine gz_lv (lv2 := [(0, .ref h), (1, .long stp), (3, .int (nI 0))]) [1, 2, 0] rfl ?_
            refine lX3_solve_s3 h ad cI cJ cZ (nI 0) sn tkv opv shv ldv lim wyv bdv isr rn rdv fz icv false ((f3_solve_s1 fz icv sn 1 0 fev).2.1) ((f3_solve_s1 fz icv sn 1 0 fev).2.2) (f3_findExact_eav tkv opv shv wyv bdv fz icv ((f3_solve_s1 fz icv sn 1 0 fev).2.1) ((f3_solve_s1 fz icv sn 1 0 fev).2.2) eav) stp (by first | assumption | omega) (fun k hk => by have := (hB k hk).2.1; omega) ⟨Nat.le_of_ble_eq_true rfl, Nat.le_of_ble_eq_true rfl⟩ ⟨Nat.zero_le _, Nat.zero_le _⟩ C ((f3_solve_s1 fz icv sn 1 0 fev).2.1) 0 fz ((f3_solve_s2 icv fz 0 (f3_findExact_rov sn tkv opv shv wyv bdv fz icv ((f3_solve_s1 fz icv sn 1 0 fev).2.1) ((f3_solve_s1 fz icv sn 1 0 fev).2.2) eav rov)).2) (by omega) (by first | assumption | omega) (fun j hj => by rw [q3_s2, if_pos (by omega)]; have := (his.1 j hj).2; omega) ?_
            intro zme_s3 zhrk_s3 zhro_s3
            have hir := q3_ins_row (tkv := tkv) (opv := opv) (shv := shv) (wyv := wyv) (bdv := bdv) (rov := f3_findExact_rov sn tkv opv shv wyv bdv fz icv ((f3_solve_s1 fz icv sn 1 0 fev).2.1) ((f3_solve_s1 fz icv sn 1 0 fev).2.2) eav rov) (fev0 := fev) hsn his
            refine gz_wse (ws2 := (wM h ad cI cJ cZ (nI 0) sn tkv opv shv ldv lim wyv bdv isr rn rdv fz icv false ((f3_solve_s1 fz icv sn 1 0 fev).2.1) ((f3_solve_s1 fz icv sn 1 0 fev).2.2) (f3_findExact_eav tkv opv shv wyv bdv fz icv ((f3_solve_s1 fz icv sn 1 0 fev).2.1) ((f3_solve_s1 fz icv sn 1 0 fev).2.2) eav) sn ((f3_solve_s3 tkv opv shv wyv bdv fz ((f3_solve_s1 fz icv sn 1 0 fev).2.2) ((f3_solve_s1 fz icv sn 1 0 fev).2.1) 0 fz ((f3_solve_s2 icv fz 0 (f3_findExact_rov sn tkv opv shv wyv bdv fz icv ((f3_solve_s1 fz icv sn 1 0 fev).2.1) ((f3_solve_s1 fz icv sn 1 0 fev).2.2) eav rov)).2)).2.2))) (by rw [hir.1]) ?_
            refine gz_aload_n C 0 dX3_solve_200 rfl ?_
            refine gz_lload_n C 1 dX3_solve_201 rfl ?_
            refine gz_callV (wr := []) (n := 1) (ws2 := (wM h ad cI cJ cZ (nI 0) sn tkv opv shv ldv lim wyv bdv isr rn rdv fz icv false ((f3_solve_s1 fz icv sn 1 0 fev).2.1) ((f3_solve_s1 fz icv sn 1 0 fev).2.2) (f3_findExact_eav tkv opv shv wyv bdv fz icv ((f3_solve_s1 fz icv sn 1 0 fev).2.1) ((f3_solve_s1 fz icv sn 1 0 fev).2.2) eav) sn (f3_improve_rov tkv opv shv wyv bdv fz sn ((f3_solve_s3 tkv opv shv wyv bdv fz ((f3_solve_s1 fz icv sn 1 0 fev).2.2) ((f3_solve_s1 fz icv sn 1 0 fev).2.1) 0 fz ((f3_solve_s2 icv fz 0 (f3_findExact_rov sn tkv opv shv wyv bdv fz icv ((f3_solve_s1 fz icv sn 1 0 fev).2.1) ((f3_solve_s1 fz icv sn 1 0 fev).2.2) eav rov)).2)).2.2) stp))) (st2 := []) (cells2 := 0) (slots2 := 0) (ci := 4) C (kX3_improve l D h ad cI cJ cZ (nI 0) sn tkv opv shv ldv lim wyv bdv isr rn rdv fz icv false ((f3_solve_s1 fz icv sn 1 0 fev).2.1) ((f3_solve_s1 fz icv sn 1 0 fev).2.2) (f3_findExact_eav tkv opv shv wyv bdv fz icv ((f3_solve_s1 fz icv sn 1 0 fev).2.1) ((f3_solve_s1 fz icv sn 1 0 fev).2.2) eav) sn ((f3_solve_s3 tkv opv shv wyv bdv fz ((f3_solve_s1 fz icv sn 1 0 fev).2.2) ((f3_solve_s1 fz icv sn 1 0 fev).2.1) 0 fz ((f3_solve_s2 icv fz 0 (f3_findExact_rov sn tkv opv shv wyv bdv fz icv ((f3_solve_s1 fz icv sn 1 0 fev).2.1) ((f3_solve_s1 fz icv sn 1 0 fev).2.2) eav rov)).2)).2.2) stp (by first | assumption | omega) (fun k hk => by have := (hir.2.1.1 k hk).2; omega) (by first | assumption | omega) (by first | assumption | omega) (by first | assumption | omega)) (WB_V wk_519 wk_521 ws_28 wk_4 wk_522) (by decide +kernel) ⟨⟨rfl, rfl⟩, Nat.le_of_ble_eq_true rfl, Nat.le_of_ble_eq_true rfl⟩ [0, 1, 2, 3, 4, 5, 6, 7, 8, 9, 10, 11] [] [0, 1, 2] rfl rfl rfl (by decide) rfl 0 rfl rfl rfl rfl (Nat.le_of_ble_eq_true rfl) dX3_solve_202 ⟨Nat.zero_le _, Nat.zero_le _⟩ rfl rfl rfl ?_
            have hq9 := (qr_improve (tkv := tkv) (opv := opv) (shv := shv) (wyv := wyv) (bdv := bdv) (fz := fz) (stp := stp) hir.2.1).1
            refine gz_aload_n C 0 dX3_solve_205 rfl ?_
            refine gz_callV (wr := []) (n := 0) (ws2 := (wM h ad cI cJ cZ (nI 0) sn tkv opv shv ldv lim wyv bdv f3_keep_isr (f3_keep_rn sn) (f3_keep_rdv rdv sn (f3_improve_rov tkv opv shv wyv bdv fz sn ((f3_solve_s3 tkv opv shv wyv bdv fz ((f3_solve_s1 fz icv sn 1 0 fev).2.2) ((f3_solve_s1 fz icv sn 1 0 fev).2.1) 0 fz ((f3_solve_s2 icv fz 0 (f3_findExact_rov sn tkv opv shv wyv bdv fz icv ((f3_solve_s1 fz icv sn 1 0 fev).2.1) ((f3_solve_s1 fz icv sn 1 0 fev).2.2) eav rov)).2)).2.2) stp)) fz icv false ((f3_solve_s1 fz icv sn 1 0 fev).2.1) ((f3_solve_s1 fz icv sn 1 0 fev).2.2) (f3_findExact_eav tkv opv shv wyv bdv fz icv ((f3_solve_s1 fz icv sn 1 0 fev).2.1) ((f3_solve_s1 fz icv sn 1 0 fev).2.2) eav) sn (f3_improve_rov tkv opv shv wyv bdv fz sn ((f3_solve_s3 tkv opv shv wyv bdv fz ((f3_solve_s1 fz icv sn 1 0 fev).2.2) ((f3_solve_s1 fz icv sn 1 0 fev).2.1) 0 fz ((f3_solve_s2 icv fz 0 (f3_findExact_rov sn tkv opv shv wyv bdv fz icv ((f3_solve_s1 fz icv sn 1 0 fev).2.1) ((f3_solve_s1 fz icv sn 1 0 fev).2.2) eav rov)).2)).2.2) stp))) (st2 := []) (cells2 := 0) (slots2 := 0) (ci := 4) C (kX3_keep l D h ad cI cJ cZ (nI 0) sn tkv opv shv ldv lim wyv bdv isr rn rdv fz icv false ((f3_solve_s1 fz icv sn 1 0 fev).2.1) ((f3_solve_s1 fz icv sn 1 0 fev).2.2) (f3_findExact_eav tkv opv shv wyv bdv fz icv ((f3_solve_s1 fz icv sn 1 0 fev).2.1) ((f3_solve_s1 fz icv sn 1 0 fev).2.2) eav) sn (f3_improve_rov tkv opv shv wyv bdv fz sn ((f3_solve_s3 tkv opv shv wyv bdv fz ((f3_solve_s1 fz icv sn 1 0 fev).2.2) ((f3_solve_s1 fz icv sn 1 0 fev).2.1) 0 fz ((f3_solve_s2 icv fz 0 (f3_findExact_rov sn tkv opv shv wyv bdv fz icv ((f3_solve_s1 fz icv sn 1 0 fev).2.1) ((f3_solve_s1 fz icv sn 1 0 fev).2.2) eav rov)).2)).2.2) stp) (by first | assumption | omega)) (WB_V wk_531 wk_533 ws_31 wk_4 wk_534) (by decide +kernel) ⟨⟨rfl, rfl⟩, Nat.le_of_ble_eq_true rfl, Nat.le_of_ble_eq_true rfl⟩ [0, 1, 2, 3, 4, 5, 6, 7, 8, 9, 10, 11] [] [0, 1, 2] rfl rfl rfl (by decide) rfl 0 rfl rfl rfl rfl (Nat.le_of_ble_eq_true rfl) dX3_solve_206 ⟨Nat.zero_le _, Nat.zero_le _⟩ rfl rfl rfl ?_
            refine gz_aload_n C 0 dX3_solve_209 rfl ?_
            refine gz_callV (wr := []) (n := 0) (ws2 := (wM h ad cI cJ cZ (nI 0) sn tkv opv shv ldv lim wyv bdv f3_keep_isr (f3_keep_rn sn) (f3_keep_rdv rdv sn (f3_improve_rov tkv opv shv wyv bdv fz sn ((f3_solve_s3 tkv opv shv wyv bdv fz ((f3_solve_s1 fz icv sn 1 0 fev).2.2) ((f3_solve_s1 fz icv sn 1 0 fev).2.1) 0 fz ((f3_solve_s2 icv fz 0 (f3_findExact_rov sn tkv opv shv wyv bdv fz icv ((f3_solve_s1 fz icv sn 1 0 fev).2.1) ((f3_solve_s1 fz icv sn 1 0 fev).2.2) eav rov)).2)).2.2) stp)) fz icv false ((f3_solve_s1 fz icv sn 1 0 fev).2.1) ((f3_solve_s1 fz icv sn 1 0 fev).2.2) (f3_findExact_eav tkv opv shv wyv bdv fz icv ((f3_solve_s1 fz icv sn 1 0 fev).2.1) ((f3_solve_s1 fz icv sn 1 0 fev).2.2) eav) sn (f3_improve_rov tkv opv shv wyv bdv fz sn ((f3_solve_s3 tkv opv shv wyv bdv fz ((f3_solve_s1 fz icv sn 1 0 fev).2.2) ((f3_solve_s1 fz icv sn 1 0 fev).2.1) 0 fz ((f3_solve_s2 icv fz 0 (f3_findExact_rov sn tkv opv shv wyv bdv fz icv ((f3_solve_s1 fz icv sn 1 0 fev).2.1) ((f3_solve_s1 fz icv sn 1 0 fev).2.2) eav rov)).2)).2.2) stp))) (st2 := [.long (f3_measure tkv opv shv wyv bdv sn (f3_improve_rov tkv opv shv wyv bdv fz sn ((f3_solve_s3 tkv opv shv wyv bdv fz ((f3_solve_s1 fz icv sn 1 0 fev).2.2) ((f3_solve_s1 fz icv sn 1 0 fev).2.1) 0 fz ((f3_solve_s2 icv fz 0 (f3_findExact_rov sn tkv opv shv wyv bdv fz icv ((f3_solve_s1 fz icv sn 1 0 fev).2.1) ((f3_solve_s1 fz icv sn 1 0 fev).2.2) eav rov)).2)).2.2) stp))]) (cells2 := 0) (slots2 := 0) (ci := 4) C (kX3_measure l D h ad cI cJ cZ (nI 0) sn tkv opv shv ldv lim wyv bdv f3_keep_isr (f3_keep_rn sn) (f3_keep_rdv rdv sn (f3_improve_rov tkv opv shv wyv bdv fz sn ((f3_solve_s3 tkv opv shv wyv bdv fz ((f3_solve_s1 fz icv sn 1 0 fev).2.2) ((f3_solve_s1 fz icv sn 1 0 fev).2.1) 0 fz ((f3_solve_s2 icv fz 0 (f3_findExact_rov sn tkv opv shv wyv bdv fz icv ((f3_solve_s1 fz icv sn 1 0 fev).2.1) ((f3_solve_s1 fz icv sn 1 0 fev).2.2) eav rov)).2)).2.2) stp)) fz icv false ((f3_solve_s1 fz icv sn 1 0 fev).2.1) ((f3_solve_s1 fz icv sn 1 0 fev).2.2) (f3_findExact_eav tkv opv shv wyv bdv fz icv ((f3_solve_s1 fz icv sn 1 0 fev).2.1) ((f3_solve_s1 fz icv sn 1 0 fev).2.2) eav) sn (f3_improve_rov tkv opv shv wyv bdv fz sn ((f3_solve_s3 tkv opv shv wyv bdv fz ((f3_solve_s1 fz icv sn 1 0 fev).2.2) ((f3_solve_s1 fz icv sn 1 0 fev).2.1) 0 fz ((f3_solve_s2 icv fz 0 (f3_findExact_rov sn tkv opv shv wyv bdv fz icv ((f3_solve_s1 fz icv sn 1 0 fev).2.1) ((f3_solve_s1 fz icv sn 1 0 fev).2.2) eav rov)).2)).2.2) stp) (by first | assumption | omega) (fun k hk => by have := (hq9.1 k hk).2; omega)) (WB_V wk_510 wk_512 ws_26 wk_4 wk_513) (by decide +kernel) ⟨⟨rfl, rfl⟩, Nat.le_of_ble_eq_true rfl, Nat.le_of_ble_eq_true rfl⟩ [0, 1, 2, 3, 4, 5, 6, 7, 8, 9, 10, 11] [] [0, 1, 2] rfl rfl rfl (by decide) rfl 0 rfl rfl rfl rfl (Nat.le_of_ble_eq_true rfl) dX3_solve_210 ⟨Nat.zero_le _, Nat.zero_le _⟩ rfl rfl rfl ?_
            refine gz_ldc2 (v := 1000000000) C wk_514 dX3_solve_213 ?_
            refine gz_lrem (v := (f3_measure tkv opv shv wyv bdv sn (f3_improve_rov tkv opv shv wyv bdv fz sn ((f3_solve_s3 tkv opv shv wyv bdv fz ((f3_solve_s1 fz icv sn 1 0 fev).2.2) ((f3_solve_s1 fz icv sn 1 0 fev).2.1) 0 fz ((f3_solve_s2 icv fz 0 (f3_findExact_rov sn tkv opv shv wyv bdv fz icv ((f3_solve_s1 fz icv sn 1 0 fev).2.1) ((f3_solve_s1 fz icv sn 1 0 fev).2.2) eav rov)).2)).2.2) stp)) - (f3_measure tkv opv shv wyv bdv sn (f3_improve_rov tkv opv shv wyv bdv fz sn ((f3_solve_s3 tkv opv shv wyv bdv fz ((f3_solve_s1 fz icv sn 1 0 fev).2.2) ((f3_solve_s1 fz icv sn 1 0 fev).2.1) 0 fz ((f3_solve_s2 icv fz 0 (f3_findExact_rov sn tkv opv shv wyv bdv fz icv ((f3_solve_s1 fz icv sn 1 0 fev).2.1) ((f3_solve_s1 fz icv sn 1 0 fev).2.2) eav rov)).2)).2.2) stp)) / 1000000000 * 1000000000) C dX3_solve_216 (by decide) rfl ?_
            exact gz_lret C hr hk (by first | rfl | (simp only [f3_solve, f3_solve_thr, f3_solve_isr, f3_solve_rn, f3_solve_rdv, f3_solve_exa, f3_solve_fr, f3_solve_fev, f3_solve_eav, f3_solve_rs, f3_solve_rov, if_neg g_1, if_pos h_2, if_pos h_3, if_neg g_4, if_neg g_5]) | (simp only [f3_solve, f3_solve_thr, f3_solve_isr, f3_solve_rn, f3_solve_rdv, f3_solve_exa, f3_solve_fr, f3_solve_fev, f3_solve_eav, f3_solve_rs, f3_solve_rov, if_neg g_1, if_pos h_2, if_pos h_3, if_neg g_4, if_neg g_5]; rfl)) (by first | rfl | (simp only [f3_solve, f3_solve_thr, f3_solve_isr, f3_solve_rn, f3_solve_rdv, f3_solve_exa, f3_solve_fr, f3_solve_fev, f3_solve_eav, f3_solve_rs, f3_solve_rov, if_neg g_1, if_pos h_2, if_pos h_3, if_neg g_4, if_neg g_5]) | (simp only [f3_solve, f3_solve_thr, f3_solve_isr, f3_solve_rn, f3_solve_rdv, f3_solve_exa, f3_solve_fr, f3_solve_fev, f3_solve_eav, f3_solve_rs, f3_solve_rov, if_neg g_1, if_pos h_2, if_pos h_3, if_neg g_4, if_neg g_5]; rfl)) (Nat.le_refl _) (Nat.le_refl _) dX3_solve_217
          · skip
            refine gz_iconst (v := nI 1) C dX3_solve_121 (by decide) ?_
            refine gz_goto C 126 dX3_solve_122 (by decide) ?_
            refine gz_sw (v := .int (nI 1)) (w := .int (bI true)) (by rw [show nI 1 = bI true from (by first | rfl | decide | ((repeat' split) <;> rfl))]) ?_
            refine gz_put (ci := 4) (ws2 := (wM h ad cI cJ cZ (nI 0) sn tkv opv shv ldv lim wyv bdv isr rn rdv fz icv true ((f3_solve_s1 fz icv sn 1 0 fev).2.1) ((f3_solve_s1 fz icv sn 1 0 fev).2.2) (f3_findExact_eav tkv opv shv wyv bdv fz icv ((f3_solve_s1 fz icv sn 1 0 fev).2.1) ((f3_solve_s1 fz icv sn 1 0 fev).2.2) eav) (f3_findExact_rs sn tkv opv shv wyv bdv fz icv ((f3_solve_s1 fz icv sn 1 0 fev).2.1) ((f3_solve_s1 fz icv sn 1 0 fev).2.2) eav) (f3_findExact_rov sn tkv opv shv wyv bdv fz icv ((f3_solve_s1 fz icv sn 1 0 fev).2.1) ((f3_solve_s1 fz icv sn 1 0 fev).2.2) eav rov))) C iwX3 0 rfl rfl 14 (by decide) wk_394 rfl tyX3 tyX3_ok nmX3 rfl rfl (bI_nar _) (bI_fit _) (Nat.le_of_ble_eq_true rfl) rfl dX3_solve_126 ?_
            refine gz_aload_n C 0 dX3_solve_129 rfl ?_
            refine gz_get (ci := 4) C iwX3 0 rfl rfl 14 (by decide) wk_394 rfl rfl dX3_solve_130 ?_
            refine gz_bif_ne C 205 dX3_solve_133 (by decide) (fun _ => ?_) (fun z => absurd z (by decide))
            have hq9 := (q3_find_row (by omega) (by omega) his hB hC h_5).1
            refine gz_wse (ws2 := (wM h ad cI cJ cZ (nI 0) sn tkv opv shv ldv lim wyv bdv isr rn rdv fz icv true ((f3_solve_s1 fz icv sn 1 0 fev).2.1) ((f3_solve_s1 fz icv sn 1 0 fev).2.2) (f3_findExact_eav tkv opv shv wyv bdv fz icv ((f3_solve_s1 fz icv sn 1 0 fev).2.1) ((f3_solve_s1 fz icv sn 1 0 fev).2.2) eav) sn (f3_findExact_rov sn tkv opv shv wyv bdv fz icv ((f3_solve_s1 fz icv sn 1 0 fev).2.1) ((f3_solve_s1 fz icv sn 1 0 fev).2.2) eav rov))) (by rw [q3_find_rs]) ?_
            refine gz_aload_n C 0 dX3_solve_205 rfl ?_
            refine gz_callV (wr := []) (n := 0) (ws2 := (wM h ad cI cJ cZ (nI 0) sn tkv opv shv ldv lim wyv bdv f3_keep_isr (f3_keep_rn sn) (f3_keep_rdv rdv sn (f3_findExact_rov sn tkv opv shv wyv bdv fz icv ((f3_solve_s1 fz icv sn 1 0 fev).2.1) ((f3_solve_s1 fz icv sn 1 0 fev).2.2) eav rov)) fz icv true ((f3_solve_s1 fz icv sn 1 0 fev).2.1) ((f3_solve_s1 fz icv sn 1 0 fev).2.2) (f3_findExact_eav tkv opv shv wyv bdv fz icv ((f3_solve_s1 fz icv sn 1 0 fev).2.1) ((f3_solve_s1 fz icv sn 1 0 fev).2.2) eav) sn (f3_findExact_rov sn tkv opv shv wyv bdv fz icv ((f3_solve_s1 fz icv sn 1 0 fev).2.1) ((f3_solve_s1 fz icv sn 1 0 fev).2.2) eav rov))) (st2 := []) (cells2 := 0) (slots2 := 0) (ci := 4) C (kX3_keep l D h ad cI cJ cZ (nI 0) sn tkv opv shv ldv lim wyv bdv isr rn rdv fz icv true ((f3_solve_s1 fz icv sn 1 0 fev).2.1) ((f3_solve_s1 fz icv sn 1 0 fev).2.2) (f3_findExact_eav tkv opv shv wyv bdv fz icv ((f3_solve_s1 fz icv sn 1 0 fev).2.1) ((f3_solve_s1 fz icv sn 1 0 fev).2.2) eav) sn (f3_findExact_rov sn tkv opv shv wyv bdv fz icv ((f3_solve_s1 fz icv sn 1 0 fev).2.1) ((f3_solve_s1 fz icv sn 1 0 fev).2.2) eav rov) (by first | assumption | omega)) (WB_V wk_531 wk_533 ws_31 wk_4 wk_534) (by decide +kernel) ⟨⟨rfl, rfl⟩, Nat.le_of_ble_eq_true rfl, Nat.le_of_ble_eq_true rfl⟩ [0, 1, 2, 3, 4, 5, 6, 7, 8, 9, 10, 11] [] [0, 1, 2] rfl rfl rfl (by decide) rfl 0 rfl rfl rfl rfl (Nat.le_of_ble_eq_true rfl) dX3_solve_206 ⟨Nat.zero_le _, Nat.zero_le _⟩ rfl rfl rfl ?_
            refine gz_aload_n C 0 dX3_solve_209 rfl ?_
            refine gz_callV (wr := []) (n := 0) (ws2 := (wM h ad cI cJ cZ (nI 0) sn tkv opv shv ldv lim wyv bdv f3_keep_isr (f3_keep_rn sn) (f3_keep_rdv rdv sn (f3_findExact_rov sn tkv opv shv wyv bdv fz icv ((f3_solve_s1 fz icv sn 1 0 fev).2.1) ((f3_solve_s1 fz icv sn 1 0 fev).2.2) eav rov)) fz icv true ((f3_solve_s1 fz icv sn 1 0 fev).2.1) ((f3_solve_s1 fz icv sn 1 0 fev).2.2) (f3_findExact_eav tkv opv shv wyv bdv fz icv ((f3_solve_s1 fz icv sn 1 0 fev).2.1) ((f3_solve_s1 fz icv sn 1 0 fev).2.2) eav) sn (f3_findExact_rov sn tkv opv shv wyv bdv fz icv ((f3_solve_s1 fz icv sn 1 0 fev).2.1) ((f3_solve_s1 fz icv sn 1 0 fev).2.2) eav rov))) (st2 := [.long (f3_measure tkv opv shv wyv bdv sn (f3_findExact_rov sn tkv opv shv wyv bdv fz icv ((f3_solve_s1 fz icv sn 1 0 fev).2.1) ((f3_solve_s1 fz icv sn 1 0 fev).2.2) eav rov))]) (cells2 := 0) (slots2 := 0) (ci := 4) C (kX3_measure l D h ad cI cJ cZ (nI 0) sn tkv opv shv ldv lim wyv bdv f3_keep_isr (f3_keep_rn sn) (f3_keep_rdv rdv sn (f3_findExact_rov sn tkv opv shv wyv bdv fz icv ((f3_solve_s1 fz icv sn 1 0 fev).2.1) ((f3_solve_s1 fz icv sn 1 0 fev).2.2) eav rov)) fz icv true ((f3_solve_s1 fz icv sn 1 0 fev).2.1) ((f3_solve_s1 fz icv sn 1 0 fev).2.2) (f3_findExact_eav tkv opv shv wyv bdv fz icv ((f3_solve_s1 fz icv sn 1 0 fev).2.1) ((f3_solve_s1 fz icv sn 1 0 fev).2.2) eav) sn (f3_findExact_rov sn tkv opv shv wyv bdv fz icv ((f3_solve_s1 fz icv sn 1 0 fev).2.1) ((f3_solve_s1 fz icv sn 1 0 fev).2.2) eav rov) (by first | assumption | omega) (fun k hk => by have := (hq9.1 k hk).2; omega)) (WB_V wk_510 wk_512 ws_26 wk_4 wk_513) (by decide +kernel) ⟨⟨rfl, rfl⟩, Nat.le_of_ble_eq_true rfl, Nat.le_of_ble_eq_true rfl⟩ [0, 1, 2, 3, 4, 5, 6, 7, 8, 9, 10, 11] [] [0, 1, 2] rfl rfl rfl (by decide) rfl 0 rfl rfl rfl rfl (Nat.le_of_ble_eq_true rfl) dX3_solve_210 ⟨Nat.zero_le _, Nat.zero_le _⟩ rfl rfl rfl ?_
            refine gz_ldc2 (v := 1000000000) C wk_514 dX3_solve_213 ?_
            refine gz_lrem (v := (f3_measure tkv opv shv wyv bdv sn (f3_findExact_rov sn tkv opv shv wyv bdv fz icv ((f3_solve_s1 fz icv sn 1 0 fev).2.1) ((f3_solve_s1 fz icv sn 1 0 fev).2.2) eav rov)) - (f3_measure tkv opv shv wyv bdv sn (f3_findExact_rov sn tkv opv shv wyv bdv fz icv ((f3_solve_s1 fz icv sn 1 0 fev).2.1) ((f3_solve_s1 fz icv sn 1 0 fev).2.2) eav rov)) / 1000000000 * 1000000000) C dX3_solve_216 (by decide) rfl ?_
            exact gz_lret C hr hk (by first | rfl | (simp only [f3_solve, f3_solve_thr, f3_solve_isr, f3_solve_rn, f3_solve_rdv, f3_solve_exa, f3_solve_fr, f3_solve_fev, f3_solve_eav, f3_solve_rs, f3_solve_rov, if_neg g_1, if_pos h_2, if_pos h_3, if_neg g_4, if_pos h_5]) | (simp only [f3_solve, f3_solve_thr, f3_solve_isr, f3_solve_rn, f3_solve_rdv, f3_solve_exa, f3_solve_fr, f3_solve_fev, f3_solve_eav, f3_solve_rs, f3_solve_rov, if_neg g_1, if_pos h_2, if_pos h_3, if_neg g_4, if_pos h_5]; rfl)) (by first | rfl | (simp only [f3_solve, f3_solve_thr, f3_solve_isr, f3_solve_rn, f3_solve_rdv, f3_solve_exa, f3_solve_fr, f3_solve_fev, f3_solve_eav, f3_solve_rs, f3_solve_rov, if_neg g_1, if_pos h_2, if_pos h_3, if_neg g_4, if_pos h_5]) | (simp only [f3_solve, f3_solve_thr, f3_solve_isr, f3_solve_rn, f3_solve_rdv, f3_solve_exa, f3_solve_fr, f3_solve_fev, f3_solve_eav, f3_solve_rs, f3_solve_rov, if_neg g_1, if_pos h_2, if_pos h_3, if_neg g_4, if_pos h_5]; rfl)) (Nat.le_refl _) (Nat.le_refl _) dX3_solve_217
      · have g_3 : ¬ (lim < 0) := h_3
        refine gz_aload_n C 0 dX3_solve_35 rfl ?_
        refine gz_callV (wr := []) (n := 0) (ws2 := (wM h ad cI cJ cZ (nI 0) sn tkv opv shv ldv lim wyv bdv isr rn rdv fz icv false fr fev eav rs rov)) (st2 := [.int (f3_allLoads ldv)]) (cells2 := 0) (slots2 := 0) (ci := 4) C (kX3_allLoads l D h ad cI cJ cZ (nI 0) sn tkv opv shv ldv lim wyv bdv isr rn rdv fz icv false fr fev eav rs rov ) (WB_V wk_467 wk_469 ws_18 wk_4 wk_470) (by decide +kernel) ⟨⟨rfl, rfl⟩, Nat.le_of_ble_eq_true rfl, Nat.le_of_ble_eq_true rfl⟩ [0, 1, 2, 3, 4, 5, 6, 7, 8, 9, 10, 11] [] [0, 1, 2] rfl rfl rfl (by decide) rfl 0 rfl rfl rfl rfl (Nat.le_of_ble_eq_true rfl) dX3_solve_36 ⟨Nat.zero_le _, Nat.zero_le _⟩ rfl rfl rfl ?_
        refine gz_aload_n C 0 dX3_solve_39 rfl ?_
        refine gz_get (ci := 4) C iwX3 0 rfl rfl 6 (by decide) wk_386 rfl rfl dX3_solve_40 ?_
        refine gz_icmp_le C 55 dX3_solve_43 (by decide) (fun h_6 => ?_) (fun h_6 => ?_)
        · skip
          refine gz_aload_n C 0 dX3_solve_55 rfl ?_
          refine gz_iconst (v := nI 0) C dX3_solve_56 (by decide) ?_
          refine gz_put (ci := 4) (ws2 := (wM h ad cI cJ cZ (nI 0) sn tkv opv shv ldv lim wyv bdv isr rn rdv fz icv false 0 fev eav rs rov)) C iwX3 0 rfl rfl 15 (by decide) wk_395 rfl tyX3 tyX3_ok nmX3 rfl rfl rfl rfl (Nat.le_of_ble_eq_true rfl) rfl dX3_solve_57 ?_
          refine gz_iconst (v := nI 1) C dX3_solve_60 (by decide) ?_
          refine gz_istore_n (lv2 := [(3, .int (nI 1)), (0, .ref h), (1, .long stp)]) C dX3_solve_61 (by decide) rfl ?_
          refine gz_lv (lv2 := [(0, .ref h), (1, .long stp), (3, .int (nI 1))]) [1, 2, 0] rfl ?_
          refine lX3_solve_s1 h ad cI cJ cZ (nI 0) sn tkv opv shv ldv lim wyv bdv isr rn rdv fz icv false eav rs rov stp (by first | assumption | omega) (by first | assumption | omega) (fun k hk => by have := (his.1 k hk).2; omega) ⟨Nat.le_of_ble_eq_true rfl, Nat.le_of_ble_eq_true rfl⟩ ⟨Nat.zero_le _, Nat.zero_le _⟩ C sn 1 0 fev (by omega) (by first | assumption | omega) ?_
          intro zme_s1 zhfk_s1
          obtain ⟨hA, hB, hC⟩ := q3_free (fev := fev) his
          refine gz_aload_n C 0 dX3_solve_104 rfl ?_
          refine gz_aload_n C 0 dX3_solve_105 rfl ?_
          refine gz_get (ci := 4) C iwX3 0 rfl rfl 15 (by decide) wk_395 rfl rfl dX3_solve_106 ?_
          refine gz_bipush (v := nI 11) C dX3_solve_109 (by decide) ?_
          refine gz_ncmp_gt C 125 (by omega) (by omega) dX3_solve_111 (by decide) (fun h_7 => ?_) (fun h_7 => ?_)
          · skip
            refine gz_iconst (v := nI 0) C dX3_solve_125 (by decide) ?_
            refine gz_sw (v := .int (nI 0)) (w := .int (bI false)) (by rw [show nI 0 = bI false from (by first | rfl | decide | ((repeat' split) <;> rfl))]) ?_
            refine gz_put (ci := 4) (ws2 := (wM h ad cI cJ cZ (nI 0) sn tkv opv shv ldv lim wyv bdv isr rn rdv fz icv false ((f3_solve_s1 fz icv sn 1 0 fev).2.1) ((f3_solve_s1 fz icv sn 1 0 fev).2.2) eav rs rov)) C iwX3 0 rfl rfl 14 (by decide) wk_394 rfl tyX3 tyX3_ok nmX3 rfl rfl (bI_nar _) (bI_fit _) (Nat.le_of_ble_eq_true rfl) rfl dX3_solve_126 ?_
            refine gz_aload_n C 0 dX3_solve_129 rfl ?_
            refine gz_get (ci := 4) C iwX3 0 rfl rfl 14 (by decide) wk_394 rfl rfl dX3_solve_130 ?_
            refine gz_bif_ne C 205 dX3_solve_133 (by decide) (fun z => absurd z (by decide)) (fun _ => ?_)
            refine gz_aload_n C 0 dX3_solve_136 rfl ?_
            refine gz_aload_n C 0 dX3_solve_137 rfl ?_
            refine gz_get (ci := 4) C iwX3 0 rfl rfl 12 (by decide) wk_392 rfl rfl dX3_solve_138 ?_
            refine gz_put (ci := 4) (ws2 := (wM h ad cI cJ cZ (nI 0) sn tkv opv shv ldv lim wyv bdv isr rn rdv fz icv false ((f3_solve_s1 fz icv sn 1 0 fev).2.1) ((f3_solve_s1 fz icv sn 1 0 fev).2.2) eav fz rov)) C iwX3 0 rfl rfl 18 (by decide) wk_398 rfl tyX3 tyX3_ok nmX3 rfl rfl rfl rfl (Nat.le_of_ble_eq_true rfl) rfl dX3_solve_141 ?_
            refine gz_iconst (v := nI 0) C dX3_solve_144 (by decide) ?_
            refine gz_istore_n (lv2 := [(3, .int (nI 0)), (0, .ref h), (1, .long stp)]) C dX3_solve_145 (by decide) rfl ?_
            refine gz_lv (lv2 := [(0, .ref h), (1, .long stp), (3, .int (nI 0))]) [1, 2, 0] rfl ?_
            refine lX3_solve_s2 h ad cI cJ cZ (nI 0) sn tkv opv shv ldv lim wyv bdv isr rn rdv fz icv false ((f3_solve_s1 fz icv sn 1 0 fev).2.1) ((f3_solve_s1 fz icv sn 1 0 fev).2.2) eav fz stp (by first | assumption | omega) C fz 0 rov (by omega)  ?_
            intro zme_s2
            refine gz_iconst (v := nI 0) C dX3_solve_172 (by decide) ?_
            refine gz_istore_n (lv2 := [(3, .int (nI 0)), (0, .ref h), (1, .long stp)]) C dX3_solve_173 (by decide) rfl ?_
            refine gz_lv (lv2 := [(0, .ref h), (1, .long stp), (3, .int (nI 0))]) [1, 2, 0] rfl ?_
            refine lX3_solve_s3 h ad cI cJ cZ (nI 0) sn tkv opv shv ldv lim wyv bdv isr rn rdv fz icv false ((f3_solve_s1 fz icv sn 1 0 fev).2.1) ((f3_solve_s1 fz icv sn 1 0 fev).2.2) eav stp (by first | assumption | omega) (fun k hk => by have := (hB k hk).2.1; omega) ⟨Nat.le_of_ble_eq_true rfl, Nat.le_of_ble_eq_true rfl⟩ ⟨Nat.zero_le _, Nat.zero_le _⟩ C ((f3_solve_s1 fz icv sn 1 0 fev).2.1) 0 fz ((f3_solve_s2 icv fz 0 rov).2) (by omega) (by first | assumption | omega) (fun j hj => by rw [q3_s2, if_pos (by omega)]; have := (his.1 j hj).2; omega) ?_
            intro zme_s3 zhrk_s3 zhro_s3
            have hir := q3_ins_row (tkv := tkv) (opv := opv) (shv := shv) (wyv := wyv) (bdv := bdv) (rov := rov) (fev0 := fev) hsn his
            refine gz_wse (ws2 := (wM h ad cI cJ cZ (nI 0) sn tkv opv shv ldv lim wyv bdv isr rn rdv fz icv false ((f3_solve_s1 fz icv sn 1 0 fev).2.1) ((f3_solve_s1 fz icv sn 1 0 fev).2.2) eav sn ((f3_solve_s3 tkv opv shv wyv bdv fz ((f3_solve_s1 fz icv sn 1 0 fev).2.2) ((f3_solve_s1 fz icv sn 1 0 fev).2.1) 0 fz ((f3_solve_s2 icv fz 0 rov).2)).2.2))) (by rw [hir.1]) ?_
            refine gz_aload_n C 0 dX3_solve_200 rfl ?_
            refine gz_lload_n C 1 dX3_solve_201 rfl ?_
            refine gz_callV (wr := []) (n := 1) (ws2 := (wM h ad cI cJ cZ (nI 0) sn tkv opv shv ldv lim wyv bdv isr rn rdv fz icv false ((f3_solve_s1 fz icv sn 1 0 fev).2.1) ((f3_solve_s1 fz icv sn 1 0 fev).2.2) eav sn (f3_improve_rov tkv opv shv wyv bdv fz sn ((f3_solve_s3 tkv opv shv wyv bdv fz ((f3_solve_s1 fz icv sn 1 0 fev).2.2) ((f3_solve_s1 fz icv sn 1 0 fev).2.1) 0 fz ((f3_solve_s2 icv fz 0 rov).2)).2.2) stp))) (st2 := []) (cells2 := 0) (slots2 := 0) (ci := 4) C (kX3_improve l D h ad cI cJ cZ (nI 0) sn tkv opv shv ldv lim wyv bdv isr rn rdv fz icv false ((f3_solve_s1 fz icv sn 1 0 fev).2.1) ((f3_solve_s1 fz icv sn 1 0 fev).2.2) eav sn ((f3_solve_s3 tkv opv shv wyv bdv fz ((f3_solve_s1 fz icv sn 1 0 fev).2.2) ((f3_solve_s1 fz icv sn 1 0 fev).2.1) 0 fz ((f3_solve_s2 icv fz 0 rov).2)).2.2) stp (by first | assumption | omega) (fun k hk => by have := (hir.2.1.1 k hk).2; omega) (by first | assumption | omega) (by first | assumption | omega) (by first | assumption | omega)) (WB_V wk_519 wk_521 ws_28 wk_4 wk_522) (by decide +kernel) ⟨⟨rfl, rfl⟩, Nat.le_of_ble_eq_true rfl, Nat.le_of_ble_eq_true rfl⟩ [0, 1, 2, 3, 4, 5, 6, 7, 8, 9, 10, 11] [] [0, 1, 2] rfl rfl rfl (by decide) rfl 0 rfl rfl rfl rfl (Nat.le_of_ble_eq_true rfl) dX3_solve_202 ⟨Nat.zero_le _, Nat.zero_le _⟩ rfl rfl rfl ?_
            have hq9 := (qr_improve (tkv := tkv) (opv := opv) (shv := shv) (wyv := wyv) (bdv := bdv) (fz := fz) (stp := stp) hir.2.1).1
            refine gz_aload_n C 0 dX3_solve_205 rfl ?_
            refine gz_callV (wr := []) (n := 0) (ws2 := (wM h ad cI cJ cZ (nI 0) sn tkv opv shv ldv lim wyv bdv f3_keep_isr (f3_keep_rn sn) (f3_keep_rdv rdv sn (f3_improve_rov tkv opv shv wyv bdv fz sn ((f3_solve_s3 tkv opv shv wyv bdv fz ((f3_solve_s1 fz icv sn 1 0 fev).2.2) ((f3_solve_s1 fz icv sn 1 0 fev).2.1) 0 fz ((f3_solve_s2 icv fz 0 rov).2)).2.2) stp)) fz icv false ((f3_solve_s1 fz icv sn 1 0 fev).2.1) ((f3_solve_s1 fz icv sn 1 0 fev).2.2) eav sn (f3_improve_rov tkv opv shv wyv bdv fz sn ((f3_solve_s3 tkv opv shv wyv bdv fz ((f3_solve_s1 fz icv sn 1 0 fev).2.2) ((f3_solve_s1 fz icv sn 1 0 fev).2.1) 0 fz ((f3_solve_s2 icv fz 0 rov).2)).2.2) stp))) (st2 := []) (cells2 := 0) (slots2 := 0) (ci := 4) C (kX3_keep l D h ad cI cJ cZ (nI 0) sn tkv opv shv ldv lim wyv bdv isr rn rdv fz icv false ((f3_solve_s1 fz icv sn 1 0 fev).2.1) ((f3_solve_s1 fz icv sn 1 0 fev).2.2) eav sn (f3_improve_rov tkv opv shv wyv bdv fz sn ((f3_solve_s3 tkv opv shv wyv bdv fz ((f3_solve_s1 fz icv sn 1 0 fev).2.2) ((f3_solve_s1 fz icv sn 1 0 fev).2.1) 0 fz ((f3_solve_s2 icv fz 0 rov).2)).2.2) stp) (by first | assumption | omega)) (WB_V wk_531 wk_533 ws_31 wk_4 wk_534) (by decide +kernel) ⟨⟨rfl, rfl⟩, Nat.le_of_ble_eq_true rfl, Nat.le_of_ble_eq_true rfl⟩ [0, 1, 2, 3, 4, 5, 6, 7, 8, 9, 10, 11] [] [0, 1, 2] rfl rfl rfl (by decide) rfl 0 rfl rfl rfl rfl (Nat.le_of_ble_eq_true rfl) dX3_solve_206 ⟨Nat.zero_le _, Nat.zero_le _⟩ rfl rfl rfl ?_
            refine gz_aload_n C 0 dX3_solve_209 rfl ?_
            refine gz_callV (wr := []) (n := 0) (ws2 := (wM h ad cI cJ cZ (nI 0) sn tkv opv shv ldv lim wyv bdv f3_keep_isr (f3_keep_rn sn) (f3_keep_rdv rdv sn (f3_improve_rov tkv opv shv wyv bdv fz sn ((f3_solve_s3 tkv opv shv wyv bdv fz ((f3_solve_s1 fz icv sn 1 0 fev).2.2) ((f3_solve_s1 fz icv sn 1 0 fev).2.1) 0 fz ((f3_solve_s2 icv fz 0 rov).2)).2.2) stp)) fz icv false ((f3_solve_s1 fz icv sn 1 0 fev).2.1) ((f3_solve_s1 fz icv sn 1 0 fev).2.2) eav sn (f3_improve_rov tkv opv shv wyv bdv fz sn ((f3_solve_s3 tkv opv shv wyv bdv fz ((f3_solve_s1 fz icv sn 1 0 fev).2.2) ((f3_solve_s1 fz icv sn 1 0 fev).2.1) 0 fz ((f3_solve_s2 icv fz 0 rov).2)).2.2) stp))) (st2 := [.long (f3_measure tkv opv shv wyv bdv sn (f3_improve_rov tkv opv shv wyv bdv fz sn ((f3_solve_s3 tkv opv shv wyv bdv fz ((f3_solve_s1 fz icv sn 1 0 fev).2.2) ((f3_solve_s1 fz icv sn 1 0 fev).2.1) 0 fz ((f3_solve_s2 icv fz 0 rov).2)).2.2) stp))]) (cells2 := 0) (slots2 := 0) (ci := 4) C (kX3_measure l D h ad cI cJ cZ (nI 0) sn tkv opv shv ldv lim wyv bdv f3_keep_isr (f3_keep_rn sn) (f3_keep_rdv rdv sn (f3_improve_rov tkv opv shv wyv bdv fz sn ((f3_solve_s3 tkv opv shv wyv bdv fz ((f3_solve_s1 fz icv sn 1 0 fev).2.2) ((f3_solve_s1 fz icv sn 1 0 fev).2.1) 0 fz ((f3_solve_s2 icv fz 0 rov).2)).2.2) stp)) fz icv false ((f3_solve_s1 fz icv sn 1 0 fev).2.1) ((f3_solve_s1 fz icv sn 1 0 fev).2.2) eav sn (f3_improve_rov tkv opv shv wyv bdv fz sn ((f3_solve_s3 tkv opv shv wyv bdv fz ((f3_solve_s1 fz icv sn 1 0 fev).2.2) ((f3_solve_s1 fz icv sn 1 0 fev).2.1) 0 fz ((f3_solve_s2 icv fz 0 rov).2)).2.2) stp) (by first | assumption | omega) (fun k hk => by have := (hq9.1 k hk).2; omega)) (WB_V wk_510 wk_512 ws_26 wk_4 wk_513) (by decide +kernel) ⟨⟨rfl, rfl⟩, Nat.le_of_ble_eq_true rfl, Nat.le_of_ble_eq_true rfl⟩ [0, 1, 2, 3, 4, 5, 6, 7, 8, 9, 10, 11] [] [0, 1, 2] rfl rfl rfl (by decide) rfl 0 rfl rfl rfl rfl (Nat.le_of_ble_eq_true rfl) dX3_solve_210 ⟨Nat.zero_le _, Nat.zero_le _⟩ rfl rfl rfl ?_
            refine gz_ldc2 (v := 1000000000) C wk_514 dX3_solve_213 ?_
            refine gz_lrem (v := (f3_measure tkv opv shv wyv bdv sn (f3_improve_rov tkv opv shv wyv bdv fz sn ((f3_solve_s3 tkv opv shv wyv bdv fz ((f3_solve_s1 fz icv sn 1 0 fev).2.2) ((f3_solve_s1 fz icv sn 1 0 fev).2.1) 0 fz ((f3_solve_s2 icv fz 0 rov).2)).2.2) stp)) - (f3_measure tkv opv shv wyv bdv sn (f3_improve_rov tkv opv shv wyv bdv fz sn ((f3_solve_s3 tkv opv shv wyv bdv fz ((f3_solve_s1 fz icv sn 1 0 fev).2.2) ((f3_solve_s1 fz icv sn 1 0 fev).2.1) 0 fz ((f3_solve_s2 icv fz 0 rov).2)).2.2) stp)) / 1000000000 * 1000000000) C dX3_solve_216 (by decide) rfl ?_
            exact gz_lret C hr hk (by first | rfl | (simp only [f3_solve, f3_solve_thr, f3_solve_isr, f3_solve_rn, f3_solve_rdv, f3_solve_exa, f3_solve_fr, f3_solve_fev, f3_solve_eav, f3_solve_rs, f3_solve_rov, if_neg g_1, if_pos h_2, if_neg g_3, if_pos h_6, if_pos h_7]) | (simp only [f3_solve, f3_solve_thr, f3_solve_isr, f3_solve_rn, f3_solve_rdv, f3_solve_exa, f3_solve_fr, f3_solve_fev, f3_solve_eav, f3_solve_rs, f3_solve_rov, if_neg g_1, if_pos h_2, if_neg g_3, if_pos h_6, if_pos h_7]; rfl)) (by first | rfl | (simp only [f3_solve, f3_solve_thr, f3_solve_isr, f3_solve_rn, f3_solve_rdv, f3_solve_exa, f3_solve_fr, f3_solve_fev, f3_solve_eav, f3_solve_rs, f3_solve_rov, if_neg g_1, if_pos h_2, if_neg g_3, if_pos h_6, if_pos h_7]) | (simp only [f3_solve, f3_solve_thr, f3_solve_isr, f3_solve_rn, f3_solve_rdv, f3_solve_exa, f3_solve_fr, f3_solve_fev, f3_solve_eav, f3_solve_rs, f3_solve_rov, if_neg g_1, if_pos h_2, if_neg g_3, if_pos h_6, if_pos h_7]; rfl)) (Nat.le_refl _) (Nat.le_refl _) dX3_solve_217
          · have g_7 : ¬ (11 < ((f3_solve_s1 fz icv sn 1 0 fev).2.1)) := (Nat.not_lt.mpr h_7)
            refine gz_aload_n C 0 dX3_solve_114 rfl ?_
            refine gz_callV (wr := []) (n := 0) (ws2 := (wM h ad cI cJ cZ (nI 0) sn tkv opv shv ldv lim wyv bdv isr rn rdv fz icv false ((f3_solve_s1 fz icv sn 1 0 fev).2.1) ((f3_solve_s1 fz icv sn 1 0 fev).2.2) (f3_findExact_eav tkv opv shv wyv bdv fz icv ((f3_solve_s1 fz icv sn 1 0 fev).2.1) ((f3_solve_s1 fz icv sn 1 0 fev).2.2) eav) (f3_findExact_rs sn tkv opv shv wyv bdv fz icv ((f3_solve_s1 fz icv sn 1 0 fev).2.1) ((f3_solve_s1 fz icv sn 1 0 fev).2.2) eav) (f3_findExact_rov sn tkv opv shv wyv bdv fz icv ((f3_solve_s1 fz icv sn 1 0 fev).2.1) ((f3_solve_s1 fz icv sn 1 0 fev).2.2) eav rov))) (st2 := [.int (bI (f3_findExact sn tkv opv shv wyv bdv fz icv ((f3_solve_s1 fz icv sn 1 0 fev).2.1) ((f3_solve_s1 fz icv sn 1 0 fev).2.2) eav rov)), .ref h]) (cells2 := 0) (slots2 := 0) (ci := 4) C (kX3_findExact l D h ad cI cJ cZ (nI 0) sn tkv opv shv ldv lim wyv bdv isr rn rdv fz icv false ((f3_solve_s1 fz icv sn 1 0 fev).2.1) ((f3_solve_s1 fz icv sn 1 0 fev).2.2) eav rs rov (by first | assumption | omega) (by first | assumption | omega) (fun k hk => by have := (hB k hk).2.1; omega) (by first | assumption | omega) (fun k hk => by have := (his.1 k hk).2; omega) (by first | assumption | omega) (q3_V ((f3_solve_s1 fz icv sn 1 0 fev).2.1) (f3_spread_eav tkv opv shv wyv bdv fz icv ((f3_solve_s1 fz icv sn 1 0 fev).2.1) ((f3_solve_s1 fz icv sn 1 0 fev).2.2) eav)) (fun a ha h => by rw [show sn - fz = (f3_solve_s1 fz icv sn 1 0 fev).2.1 by omega]; exact q3_V0 ha h) (q3_V1 (by omega) (q3_spread (by omega) _)) (q3_V2 (by omega) (q3_spread (by omega) _))) (WB_V wk_485 wk_487 ws_20 wk_4 wk_488) (by decide +kernel) ⟨⟨rfl, rfl⟩, Nat.le_of_ble_eq_true rfl, Nat.le_of_ble_eq_true rfl⟩ [0, 1, 2, 3, 4, 5, 6, 7, 8, 9, 10, 11] [] [0, 1, 2] rfl rfl rfl (by decide) rfl 0 rfl rfl rfl rfl (Nat.le_of_ble_eq_true rfl) dX3_solve_115 ⟨Nat.zero_le _, Nat.zero_le _⟩ rfl rfl rfl ?_
            refine gz_bif_eq C 125 dX3_solve_118 (by decide) (fun h_8 => ?_) (fun h_8 => ?_)
            · have g_8 : ¬ ((f3_findExact sn tkv opv shv wyv bdv fz icv ((f3_solve_s1 fz icv sn 1 0 fev).2.1) ((f3_solve_s1 fz icv sn 1 0 fev).2.2) eav rov) = true) := (by rw [h_8]; decide)
              refine gz_iconst (v := nI 0) C dX3_solve_125 (by decide) ?_
              refine gz_sw (v := .int (nI 0)) (w := .int (bI false)) (by rw [show nI 0 = bI false from (by first | rfl | decide | ((repeat' split) <;> rfl))]) ?_
              refine gz_put (ci := 4) (ws2 := (wM h ad cI cJ cZ (nI 0) sn tkv opv shv ldv lim wyv bdv isr rn rdv fz icv false ((f3_solve_s1 fz icv sn 1 0 fev).2.1) ((f3_solve_s1 fz icv sn 1 0 fev).2.2) (f3_findExact_eav tkv opv shv wyv bdv fz icv ((f3_solve_s1 fz icv sn 1 0 fev).2.1) ((f3_solve_s1 fz icv sn 1 0 fev).2.2) eav) (f3_findExact_rs sn tkv opv shv wyv bdv fz icv ((f3_solve_s1 fz icv sn 1 0 fev).2.1) ((f3_solve_s1 fz icv sn 1 0 fev).2.2) eav) (f3_findExact_rov sn tkv opv shv wyv bdv fz icv ((f3_solve_s1 fz icv sn 1 0 fev).2.1) ((f3_solve_s1 fz icv sn 1 0 fev).2.2) eav rov))) C iwX3 0 rfl rfl 14 (by decide) wk_394 rfl tyX3 tyX3_ok nmX3 rfl rfl (bI_nar _) (bI_fit _) (Nat.le_of_ble_eq_true rfl) rfl dX3_solve_126 ?_
              refine gz_aload_n C 0 dX3_solve_129 rfl ?_
              refine gz_get (ci := 4) C iwX3 0 rfl rfl 14 (by decide) wk_394 rfl rfl dX3_solve_130 ?_
              refine gz_bif_ne C 205 dX3_solve_133 (by decide) (fun z => absurd z (by decide)) (fun _ => ?_)
              refine gz_aload_n C 0 dX3_solve_136 rfl ?_
              refine gz_aload_n C 0 dX3_solve_137 rfl ?_
              refine gz_get (ci := 4) C iwX3 0 rfl rfl 12 (by decide) wk_392 rfl rfl dX3_solve_138 ?_
              refine gz_put (ci := 4) (ws2 := (wM h ad cI cJ cZ (nI 0) sn tkv opv shv ldv lim wyv bdv isr rn rdv fz icv false ((f3_solve_s1 fz icv sn 1 0 fev).2.1) ((f3_solve_s1 fz icv sn 1 0 fev).2.2) (f3_findExact_eav tkv opv shv wyv bdv fz icv ((f3_solve_s1 fz icv sn 1 0 fev).2.1) ((f3_solve_s1 fz icv sn 1 0 fev).2.2) eav) fz (f3_findExact_rov sn tkv opv shv wyv bdv fz icv ((f3_solve_s1 fz icv sn 1 0 fev).2.1) ((f3_solve_s1 fz icv sn 1 0 fev).2.2) eav rov))) C iwX3 0 rfl rfl 18 (by decide) wk_398 rfl tyX3 tyX3_ok nmX3 rfl rfl rfl rfl (Nat.le_of_ble_eq_true rfl) rfl dX3_solve_141 ?_
              refine gz_iconst (v := nI 0) C dX3_solve_144 (by decide) ?_
              refine gz_istore_n (lv2 := [(3, .int (nI 0)), (0, .ref h), (1, .long stp)]) C dX3_solve_145 (by decide) rfl ?_
              refine gz_lv (lv2 := [(0, .ref h), (1, .long stp), (3, .int (nI 0))]) [1, 2, 0] rfl ?_
              refine lX3_solve_s2 h ad cI cJ cZ (nI 0) sn tkv opv shv ldv lim wyv bdv isr rn rdv fz icv false ((f3_solve_s1 fz icv sn 1 0 fev).2.1) ((f3_solve_s1 fz icv sn 1 0 fev).2.2) (f3_findExact_eav tkv opv shv wyv bdv fz icv ((f3_solve_s1 fz icv sn 1 0 fev).2.1) ((f3_solve_s1 fz icv sn 1 0 fev).2.2) eav) fz stp (by first | assumption | omega) C fz 0 (f3_findExact_rov sn tkv opv shv wyv bdv fz icv ((f3_solve_s1 fz icv sn 1 0 fev).2.1) ((f3_solve_s1 fz icv sn 1 0 fev).2.2) eav rov) (by omega)  ?_
              intro zme_s2
              refine gz_iconst (v := nI 0) C dX3_solve_172 (by decide) ?_
              refine gz_istore_n (lv2 := [(3, .int (nI 0)), (0, .ref h), (1, .long stp)]) C dX3_solve_173 (by decide) rfl ?_
              refine gz_lv (lv2 := [(0, .ref h), (1, .long stp), (3, .int (nI 0))]) [1, 2, 0] rfl ?_
              refine lX3_solve_s3 h ad cI cJ cZ (nI 0) sn tkv opv shv ldv lim wyv bdv isr rn rdv fz icv false ((f3_solve_s1 fz icv sn 1 0 fev).2.1) ((f3_solve_s1 fz icv sn 1 0 fev).2.2) (f3_findExact_eav tkv opv shv wyv bdv fz icv ((f3_solve_s1 fz icv sn 1 0 fev).2.1) ((f3_solve_s1 fz icv sn 1 0 fev).2.2) eav) stp (by first | assumption | omega) (fun k hk => by have := (hB k hk).2.1; omega) ⟨Nat.le_of_ble_eq_true rfl, Nat.le_of_ble_eq_true rfl⟩ ⟨Nat.zero_le _, Nat.zero_le _⟩ C ((f3_solve_s1 fz icv sn 1 0 fev).2.1) 0 fz ((f3_solve_s2 icv fz 0 (f3_findExact_rov sn tkv opv shv wyv bdv fz icv ((f3_solve_s1 fz icv sn 1 0 fev).2.1) ((f3_solve_s1 fz icv sn 1 0 fev).2.2) eav rov)).2) (by omega) (by first | assumption | omega) (fun j hj => by rw [q3_s2, if_pos (by omega)]; have := (his.1 j hj).2; omega) ?_
              intro zme_s3 zhrk_s3 zhro_s3
              have hir := q3_ins_row (tkv := tkv) (opv := opv) (shv := shv) (wyv := wyv) (bdv := bdv) (rov := f3_findExact_rov sn tkv opv shv wyv bdv fz icv ((f3_solve_s1 fz icv sn 1 0 fev).2.1) ((f3_solve_s1 fz icv sn 1 0 fev).2.2) eav rov) (fev0 := fev) hsn his
              refine gz_wse (ws2 := (wM h ad cI cJ cZ (nI 0) sn tkv opv shv ldv lim wyv bdv isr rn rdv fz icv false ((f3_solve_s1 fz icv sn 1 0 fev).2.1) ((f3_solve_s1 fz icv sn 1 0 fev).2.2) (f3_findExact_eav tkv opv shv wyv bdv fz icv ((f3_solve_s1 fz icv sn 1 0 fev).2.1) ((f3_solve_s1 fz icv sn 1 0 fev).2.2) eav) sn ((f3_solve_s3 tkv opv shv wyv bdv fz ((f3_solve_s1 fz icv sn 1 0 fev).2.2) ((f3_solve_s1 fz icv sn 1 0 fev).2.1) 0 fz ((f3_solve_s2 icv fz 0 (f3_findExact_rov sn tkv opv shv wyv bdv fz icv ((f3_solve_s1 fz icv sn 1 0 fev).2.1) ((f3_solve_s1 fz icv sn 1 0 fev).2.2) eav rov)).2)).2.2))) (by rw [hir.1]) ?_
              refine gz_aload_n C 0 dX3_solve_200 rfl ?_
              refine gz_lload_n C 1 dX3_solve_201 rfl ?_
              refine gz_callV (wr := []) (n := 1) (ws2 := (wM h ad cI cJ cZ (nI 0) sn tkv opv shv ldv lim wyv bdv isr rn rdv fz icv false ((f3_solve_s1 fz icv sn 1 0 fev).2.1) ((f3_solve_s1 fz icv sn 1 0 fev).2.2) (f3_findExact_eav tkv opv shv wyv bdv fz icv ((f3_solve_s1 fz icv sn 1 0 fev).2.1) ((f3_solve_s1 fz icv sn 1 0 fev).2.2) eav) sn (f3_improve_rov tkv opv shv wyv bdv fz sn ((f3_solve_s3 tkv opv shv wyv bdv fz ((f3_solve_s1 fz icv sn 1 0 fev).2.2) ((f3_solve_s1 fz icv sn 1 0 fev).2.1) 0 fz ((f3_solve_s2 icv fz 0 (f3_findExact_rov sn tkv opv shv wyv bdv fz icv ((f3_solve_s1 fz icv sn 1 0 fev).2.1) ((f3_solve_s1 fz icv sn 1 0 fev).2.2) eav rov)).2)).2.2) stp))) (st2 := []) (cells2 := 0) (slots2 := 0) (ci := 4) C (kX3_improve l D h ad cI cJ cZ (nI 0) sn tkv opv shv ldv lim wyv bdv isr rn rdv fz icv false ((f3_solve_s1 fz icv sn 1 0 fev).2.1) ((f3_solve_s1 fz icv sn 1 0 fev).2.2) (f3_findExact_eav tkv opv shv wyv bdv fz icv ((f3_solve_s1 fz icv sn 1 0 fev).2.1) ((f3_solve_s1 fz icv sn 1 0 fev).2.2) eav) sn ((f3_solve_s3 tkv opv shv wyv bdv fz ((f3_solve_s1 fz icv sn 1 0 fev).2.2) ((f3_solve_s1 fz icv sn 1 0 fev).2.1) 0 fz ((f3_solve_s2 icv fz 0 (f3_findExact_rov sn tkv opv shv wyv bdv fz icv ((f3_solve_s1 fz icv sn 1 0 fev).2.1) ((f3_solve_s1 fz icv sn 1 0 fev).2.2) eav rov)).2)).2.2) stp (by first | assumption | omega) (fun k hk => by have := (hir.2.1.1 k hk).2; omega) (by first | assumption | omega) (by first | assumption | omega) (by first | assumption | omega)) (WB_V wk_519 wk_521 ws_28 wk_4 wk_522) (by decide +kernel) ⟨⟨rfl, rfl⟩, Nat.le_of_ble_eq_true rfl, Nat.le_of_ble_eq_true rfl⟩ [0, 1, 2, 3, 4, 5, 6, 7, 8, 9, 10, 11] [] [0, 1, 2] rfl rfl rfl (by decide) rfl 0 rfl rfl rfl rfl (Nat.le_of_ble_eq_true rfl) dX3_solve_202 ⟨Nat.zero_le _, Nat.zero_le _⟩ rfl rfl rfl ?_
              have hq9 := (qr_improve (tkv := tkv) (opv := opv) (shv := shv) (wyv := wyv) (bdv := bdv) (fz := fz) (stp := stp) hir.2.1).1
              refine gz_aload_n C 0 dX3_solve_205 rfl ?_
              refine gz_callV (wr := []) (n := 0) (ws2 := (wM h ad cI cJ cZ (nI 0) sn tkv opv shv ldv lim wyv bdv f3_keep_isr (f3_keep_rn sn) (f3_keep_rdv rdv sn (f3_improve_rov tkv opv shv wyv bdv fz sn ((f3_solve_s3 tkv opv shv wyv bdv fz ((f3_solve_s1 fz icv sn 1 0 fev).2.2) ((f3_solve_s1 fz icv sn 1 0 fev).2.1) 0 fz ((f3_solve_s2 icv fz 0 (f3_findExact_rov sn tkv opv shv wyv bdv fz icv ((f3_solve_s1 fz icv sn 1 0 fev).2.1) ((f3_solve_s1 fz icv sn 1 0 fev).2.2) eav rov)).2)).2.2) stp)) fz icv false ((f3_solve_s1 fz icv sn 1 0 fev).2.1) ((f3_solve_s1 fz icv sn 1 0 fev).2.2) (f3_findExact_eav tkv opv shv wyv bdv fz icv ((f3_solve_s1 fz icv sn 1 0 fev).2.1) ((f3_solve_s1 fz icv sn 1 0 fev).2.2) eav) sn (f3_improve_rov tkv opv shv wyv bdv fz sn ((f3_solve_s3 tkv opv shv wyv bdv fz ((f3_solve_s1 fz icv sn 1 0 fev).2.2) ((f3_solve_s1 fz icv sn 1 0 fev).2.1) 0 fz ((f3_solve_s2 icv fz 0 (f3_findExact_rov sn tkv opv shv wyv bdv fz icv ((f3_solve_s1 fz icv sn 1 0 fev).2.1) ((f3_solve_s1 fz icv sn 1 0 fev).2.2) eav rov)).2)).2.2) stp))) (st2 := []) (cells2 := 0) (slots2 := 0) (ci := 4) C (kX3_keep l D h ad cI cJ cZ (nI 0) sn tkv opv shv ldv lim wyv bdv isr rn rdv fz icv false ((f3_solve_s1 fz icv sn 1 0 fev).2.1) ((f3_solve_s1 fz icv sn 1 0 fev).2.2) (f3_findExact_eav tkv opv shv wyv bdv fz icv ((f3_solve_s1 fz icv sn 1 0 fev).2.1) ((f3_solve_s1 fz icv sn 1 0 fev).2.2) eav) sn (f3_improve_rov tkv opv shv wyv bdv fz sn ((f3_solve_s3 tkv opv shv wyv bdv fz ((f3_solve_s1 fz icv sn 1 0 fev).2.2) ((f3_solve_s1 fz icv sn 1 0 fev).2.1) 0 fz ((f3_solve_s2 icv fz 0 (f3_findExact_rov sn tkv opv shv wyv bdv fz icv ((f3_solve_s1 fz icv sn 1 0 fev).2.1) ((f3_solve_s1 fz icv sn 1 0 fev).2.2) eav rov)).2)).2.2) stp) (by first | assumption | omega)) (WB_V wk_531 wk_533 ws_31 wk_4 wk_534) (by decide +kernel) ⟨⟨rfl, rfl⟩, Nat.le_of_ble_eq_true rfl, Nat.le_of_ble_eq_true rfl⟩ [0, 1, 2, 3, 4, 5, 6, 7, 8, 9, 10, 11] [] [0, 1, 2] rfl rfl rfl (by decide) rfl 0 rfl rfl rfl rfl (Nat.le_of_ble_eq_true rfl) dX3_solve_206 ⟨Nat.zero_le _, Nat.zero_le _⟩ rfl rfl rfl ?_
              refine gz_aload_n C 0 dX3_solve_209 rfl ?_
              refine gz_callV (wr := []) (n := 0) (ws2 := (wM h ad cI cJ cZ (nI 0) sn tkv opv shv ldv lim wyv bdv f3_keep_isr (f3_keep_rn sn) (f3_keep_rdv rdv sn (f3_improve_rov tkv opv shv wyv bdv fz sn ((f3_solve_s3 tkv opv shv wyv bdv fz ((f3_solve_s1 fz icv sn 1 0 fev).2.2) ((f3_solve_s1 fz icv sn 1 0 fev).2.1) 0 fz ((f3_solve_s2 icv fz 0 (f3_findExact_rov sn tkv opv shv wyv bdv fz icv ((f3_solve_s1 fz icv sn 1 0 fev).2.1) ((f3_solve_s1 fz icv sn 1 0 fev).2.2) eav rov)).2)).2.2) stp)) fz icv false ((f3_solve_s1 fz icv sn 1 0 fev).2.1) ((f3_solve_s1 fz icv sn 1 0 fev).2.2) (f3_findExact_eav tkv opv shv wyv bdv fz icv ((f3_solve_s1 fz icv sn 1 0 fev).2.1) ((f3_solve_s1 fz icv sn 1 0 fev).2.2) eav) sn (f3_improve_rov tkv opv shv wyv bdv fz sn ((f3_solve_s3 tkv opv shv wyv bdv fz ((f3_solve_s1 fz icv sn 1 0 fev).2.2) ((f3_solve_s1 fz icv sn 1 0 fev).2.1) 0 fz ((f3_solve_s2 icv fz 0 (f3_findExact_rov sn tkv opv shv wyv bdv fz icv ((f3_solve_s1 fz icv sn 1 0 fev).2.1) ((f3_solve_s1 fz icv sn 1 0 fev).2.2) eav rov)).2)).2.2) stp))) (st2 := [.long (f3_measure tkv opv shv wyv bdv sn (f3_improve_rov tkv opv shv wyv bdv fz sn ((f3_solve_s3 tkv opv shv wyv bdv fz ((f3_solve_s1 fz icv sn 1 0 fev).2.2) ((f3_solve_s1 fz icv sn 1 0 fev).2.1) 0 fz ((f3_solve_s2 icv fz 0 (f3_findExact_rov sn tkv opv shv wyv bdv fz icv ((f3_solve_s1 fz icv sn 1 0 fev).2.1) ((f3_solve_s1 fz icv sn 1 0 fev).2.2) eav rov)).2)).2.2) stp))]) (cells2 := 0) (slots2 := 0) (ci := 4) C (kX3_measure l D h ad cI cJ cZ (nI 0) sn tkv opv shv ldv lim wyv bdv f3_keep_isr (f3_keep_rn sn) (f3_keep_rdv rdv sn (f3_improve_rov tkv opv shv wyv bdv fz sn ((f3_solve_s3 tkv opv shv wyv bdv fz ((f3_solve_s1 fz icv sn 1 0 fev).2.2) ((f3_solve_s1 fz icv sn 1 0 fev).2.1) 0 fz ((f3_solve_s2 icv fz 0 (f3_findExact_rov sn tkv opv shv wyv bdv fz icv ((f3_solve_s1 fz icv sn 1 0 fev).2.1) ((f3_solve_s1 fz icv sn 1 0 fev).2.2) eav rov)).2)).2.2) stp)) fz icv false ((f3_solve_s1 fz icv sn 1 0 fev).2.1) ((f3_solve_s1 fz icv sn 1 0 fev).2.2) (f3_findExact_eav tkv opv shv wyv bdv fz icv ((f3_solve_s1 fz icv sn 1 0 fev).2.1) ((f3_solve_s1 fz icv sn 1 0 fev).2.2) eav) sn (f3_improve_rov tkv opv shv wyv bdv fz sn ((f3_solve_s3 tkv opv shv wyv bdv fz ((f3_solve_s1 fz icv sn 1 0 fev).2.2) ((f3_solve_s1 fz icv sn 1 0 fev).2.1) 0 fz ((f3_solve_s2 icv fz 0 (f3_findExact_rov sn tkv opv shv wyv bdv fz icv ((f3_solve_s1 fz icv sn 1 0 fev).2.1) ((f3_solve_s1 fz icv sn 1 0 fev).2.2) eav rov)).2)).2.2) stp) (by first | assumption | omega) (fun k hk => by have := (hq9.1 k hk).2; omega)) (WB_V wk_510 wk_512 ws_26 wk_4 wk_513) (by decide +kernel) ⟨⟨rfl, rfl⟩, Nat.le_of_ble_eq_true rfl, Nat.le_of_ble_eq_true rfl⟩ [0, 1, 2, 3, 4, 5, 6, 7, 8, 9, 10, 11] [] [0, 1, 2] rfl rfl rfl (by decide) rfl 0 rfl rfl rfl rfl (Nat.le_of_ble_eq_true rfl) dX3_solve_210 ⟨Nat.zero_le _, Nat.zero_le _⟩ rfl rfl rfl ?_
              refine gz_ldc2 (v := 1000000000) C wk_514 dX3_solve_213 ?_
              refine gz_lrem (v := (f3_measure tkv opv shv wyv bdv sn (f3_improve_rov tkv opv shv wyv bdv fz sn ((f3_solve_s3 tkv opv shv wyv bdv fz ((f3_solve_s1 fz icv sn 1 0 fev).2.2) ((f3_solve_s1 fz icv sn 1 0 fev).2.1) 0 fz ((f3_solve_s2 icv fz 0 (f3_findExact_rov sn tkv opv shv wyv bdv fz icv ((f3_solve_s1 fz icv sn 1 0 fev).2.1) ((f3_solve_s1 fz icv sn 1 0 fev).2.2) eav rov)).2)).2.2) stp)) - (f3_measure tkv opv shv wyv bdv sn (f3_improve_rov tkv opv shv wyv bdv fz sn ((f3_solve_s3 tkv opv shv wyv bdv fz ((f3_solve_s1 fz icv sn 1 0 fev).2.2) ((f3_solve_s1 fz icv sn 1 0 fev).2.1) 0 fz ((f3_solve_s2 icv fz 0 (f3_findExact_rov sn tkv opv shv wyv bdv fz icv ((f3_solve_s1 fz icv sn 1 0 fev).2.1) ((f3_solve_s1 fz icv sn 1 0 fev).2.2) eav rov)).2)).2.2) stp)) / 1000000000 * 1000000000) C dX3_solve_216 (by decide) rfl ?_
              exact gz_lret C hr hk (by first | rfl | (simp only [f3_solve, f3_solve_thr, f3_solve_isr, f3_solve_rn, f3_solve_rdv, f3_solve_exa, f3_solve_fr, f3_solve_fev, f3_solve_eav, f3_solve_rs, f3_solve_rov, if_neg g_1, if_pos h_2, if_neg g_3, if_pos h_6, if_neg g_7, if_neg g_8]) | (simp only [f3_solve, f3_solve_thr, f3_solve_isr, f3_solve_rn, f3_solve_rdv, f3_solve_exa, f3_solve_fr, f3_solve_fev, f3_solve_eav, f3_solve_rs, f3_solve_rov, if_neg g_1, if_pos h_2, if_neg g_3, if_pos h_6, if_neg g_7, if_neg g_8]; rfl)) (by first | rfl | (simp only [f3_solve, f3_solve_thr, f3_solve_isr, f3_solve_rn, f3_solve_rdv, f3_solve_exa, f3_solve_fr, f3_solve_fev, f3_solve_eav, f3_solve_rs, f3_solve_rov, if_neg g_1, if_pos h_2, if_neg g_3, if_pos h_6, if_neg g_7, if_neg g_8]) | (simp only [f3_solve, f3_solve_thr, f3_solve_isr, f3_solve_rn, f3_solve_rdv, f3_solve_exa, f3_solve_fr, f3_solve_fev, f3_solve_eav, f3_solve_rs, f3_solve_rov, if_neg g_1, if_pos h_2, if_neg g_3, if_pos h_6, if_neg g_7, if_neg g_8]; rfl)) (Nat.le_refl _) (Nat.le_refl _) dX3_solve_217
            · skip
              refine gz_iconst (v := nI 1) C dX3_solve_121 (by decide) ?_
              refine gz_goto C 126 dX3_solve_122 (by decide) ?_
              refine gz_sw (v := .int (nI 1)) (w := .int (bI true)) (by rw [show nI 1 = bI true from (by first | rfl | decide | ((repeat' split) <;> rfl))]) ?_
              refine gz_put (ci := 4) (ws2 := (wM h ad cI cJ cZ (nI 0) sn tkv opv shv ldv lim wyv bdv isr rn rdv fz icv true ((f3_solve_s1 fz icv sn 1 0 fev).2.1) ((f3_solve_s1 fz icv sn 1 0 fev).2.2) (f3_findExact_eav tkv opv shv wyv bdv fz icv ((f3_solve_s1 fz icv sn 1 0 fev).2.1) ((f3_solve_s1 fz icv sn 1 0 fev).2.2) eav) (f3_findExact_rs sn tkv opv shv wyv bdv fz icv ((f3_solve_s1 fz icv sn 1 0 fev).2.1) ((f3_solve_s1 fz icv sn 1 0 fev).2.2) eav) (f3_findExact_rov sn tkv opv shv wyv bdv fz icv ((f3_solve_s1 fz icv sn 1 0 fev).2.1) ((f3_solve_s1 fz icv sn 1 0 fev).2.2) eav rov))) C iwX3 0 rfl rfl 14 (by decide) wk_394 rfl tyX3 tyX3_ok nmX3 rfl rfl (bI_nar _) (bI_fit _) (Nat.le_of_ble_eq_true rfl) rfl dX3_solve_126 ?_
              refine gz_aload_n C 0 dX3_solve_129 rfl ?_
              refine gz_get (ci := 4) C iwX3 0 rfl rfl 14 (by decide) wk_394 rfl rfl dX3_solve_130 ?_
              refine gz_bif_ne C 205 dX3_solve_133 (by decide) (fun _ => ?_) (fun z => absurd z (by decide))
              have hq9 := (q3_find_row (by omega) (by omega) his hB hC h_8).1
              refine gz_wse (ws2 := (wM h ad cI cJ cZ (nI 0) sn tkv opv shv ldv lim wyv bdv isr rn rdv fz icv true ((f3_solve_s1 fz icv sn 1 0 fev).2.1) ((f3_solve_s1 fz icv sn 1 0 fev).2.2) (f3_findExact_eav tkv opv shv wyv bdv fz icv ((f3_solve_s1 fz icv sn 1 0 fev).2.1) ((f3_solve_s1 fz icv sn 1 0 fev).2.2) eav) sn (f3_findExact_rov sn tkv opv shv wyv bdv fz icv ((f3_solve_s1 fz icv sn 1 0 fev).2.1) ((f3_solve_s1 fz icv sn 1 0 fev).2.2) eav rov))) (by rw [q3_find_rs]) ?_
              refine gz_aload_n C 0 dX3_solve_205 rfl ?_
              refine gz_callV (wr := []) (n := 0) (ws2 := (wM h ad cI cJ cZ (nI 0) sn tkv opv shv ldv lim wyv bdv f3_keep_isr (f3_keep_rn sn) (f3_keep_rdv rdv sn (f3_findExact_rov sn tkv opv shv wyv bdv fz icv ((f3_solve_s1 fz icv sn 1 0 fev).2.1) ((f3_solve_s1 fz icv sn 1 0 fev).2.2) eav rov)) fz icv true ((f3_solve_s1 fz icv sn 1 0 fev).2.1) ((f3_solve_s1 fz icv sn 1 0 fev).2.2) (f3_findExact_eav tkv opv shv wyv bdv fz icv ((f3_solve_s1 fz icv sn 1 0 fev).2.1) ((f3_solve_s1 fz icv sn 1 0 fev).2.2) eav) sn (f3_findExact_rov sn tkv opv shv wyv bdv fz icv ((f3_solve_s1 fz icv sn 1 0 fev).2.1) ((f3_solve_s1 fz icv sn 1 0 fev).2.2) eav rov))) (st2 := []) (cells2 := 0) (slots2 := 0) (ci := 4) C (kX3_keep l D h ad cI cJ cZ (nI 0) sn tkv opv shv ldv lim wyv bdv isr rn rdv fz icv true ((f3_solve_s1 fz icv sn 1 0 fev).2.1) ((f3_solve_s1 fz icv sn 1 0 fev).2.2) (f3_findExact_eav tkv opv shv wyv bdv fz icv ((f3_solve_s1 fz icv sn 1 0 fev).2.1) ((f3_solve_s1 fz icv sn 1 0 fev).2.2) eav) sn (f3_findExact_rov sn tkv opv shv wyv bdv fz icv ((f3_solve_s1 fz icv sn 1 0 fev).2.1) ((f3_solve_s1 fz icv sn 1 0 fev).2.2) eav rov) (by first | assumption | omega)) (WB_V wk_531 wk_533 ws_31 wk_4 wk_534) (by decide +kernel) ⟨⟨rfl, rfl⟩, Nat.le_of_ble_eq_true rfl, Nat.le_of_ble_eq_true rfl⟩ [0, 1, 2, 3, 4, 5, 6, 7, 8, 9, 10, 11] [] [0, 1, 2] rfl rfl rfl (by decide) rfl 0 rfl rfl rfl rfl (Nat.le_of_ble_eq_true rfl) dX3_solve_206 ⟨Nat.zero_le _, Nat.zero_le _⟩ rfl rfl rfl ?_
              refine gz_aload_n C 0 dX3_solve_209 rfl ?_
              refine gz_callV (wr := []) (n := 0) (ws2 := (wM h ad cI cJ cZ (nI 0) sn tkv opv shv ldv lim wyv bdv f3_keep_isr (f3_keep_rn sn) (f3_keep_rdv rdv sn (f3_findExact_rov sn tkv opv shv wyv bdv fz icv ((f3_solve_s1 fz icv sn 1 0 fev).2.1) ((f3_solve_s1 fz icv sn 1 0 fev).2.2) eav rov)) fz icv true ((f3_solve_s1 fz icv sn 1 0 fev).2.1) ((f3_solve_s1 fz icv sn 1 0 fev).2.2) (f3_findExact_eav tkv opv shv wyv bdv fz icv ((f3_solve_s1 fz icv sn 1 0 fev).2.1) ((f3_solve_s1 fz icv sn 1 0 fev).2.2) eav) sn (f3_findExact_rov sn tkv opv shv wyv bdv fz icv ((f3_solve_s1 fz icv sn 1 0 fev).2.1) ((f3_solve_s1 fz icv sn 1 0 fev).2.2) eav rov))) (st2 := [.long (f3_measure tkv opv shv wyv bdv sn (f3_findExact_rov sn tkv opv shv wyv bdv fz icv ((f3_solve_s1 fz icv sn 1 0 fev).2.1) ((f3_solve_s1 fz icv sn 1 0 fev).2.2) eav rov))]) (cells2 := 0) (slots2 := 0) (ci := 4) C (kX3_measure l D h ad cI cJ cZ (nI 0) sn tkv opv shv ldv lim wyv bdv f3_keep_isr (f3_keep_rn sn) (f3_keep_rdv rdv sn (f3_findExact_rov sn tkv opv shv wyv bdv fz icv ((f3_solve_s1 fz icv sn 1 0 fev).2.1) ((f3_solve_s1 fz icv sn 1 0 fev).2.2) eav rov)) fz icv true ((f3_solve_s1 fz icv sn 1 0 fev).2.1) ((f3_solve_s1 fz icv sn 1 0 fev).2.2) (f3_findExact_eav tkv opv shv wyv bdv fz icv ((f3_solve_s1 fz icv sn 1 0 fev).2.1) ((f3_solve_s1 fz icv sn 1 0 fev).2.2) eav) sn (f3_findExact_rov sn tkv opv shv wyv bdv fz icv ((f3_solve_s1 fz icv sn 1 0 fev).2.1) ((f3_solve_s1 fz icv sn 1 0 fev).2.2) eav rov) (by first | assumption | omega) (fun k hk => by have := (hq9.1 k hk).2; omega)) (WB_V wk_510 wk_512 ws_26 wk_4 wk_513) (by decide +kernel) ⟨⟨rfl, rfl⟩, Nat.le_of_ble_eq_true rfl, Nat.le_of_ble_eq_true rfl⟩ [0, 1, 2, 3, 4, 5, 6, 7, 8, 9, 10, 11] [] [0, 1, 2] rfl rfl rfl (by decide) rfl 0 rfl rfl rfl rfl (Nat.le_of_ble_eq_true rfl) dX3_solve_210 ⟨Nat.zero_le _, Nat.zero_le _⟩ rfl rfl rfl ?_
              refine gz_ldc2 (v := 1000000000) C wk_514 dX3_solve_213 ?_
              refine gz_lrem (v := (f3_measure tkv opv shv wyv bdv sn (f3_findExact_rov sn tkv opv shv wyv bdv fz icv ((f3_solve_s1 fz icv sn 1 0 fev).2.1) ((f3_solve_s1 fz icv sn 1 0 fev).2.2) eav rov)) - (f3_measure tkv opv shv wyv bdv sn (f3_findExact_rov sn tkv opv shv wyv bdv fz icv ((f3_solve_s1 fz icv sn 1 0 fev).2.1) ((f3_solve_s1 fz icv sn 1 0 fev).2.2) eav rov)) / 1000000000 * 1000000000) C dX3_solve_216 (by decide) rfl ?_
              exact gz_lret C hr hk (by first | rfl | (simp only [f3_solve, f3_solve_thr, f3_solve_isr, f3_solve_rn, f3_solve_rdv, f3_solve_exa, f3_solve_fr, f3_solve_fev, f3_solve_eav, f3_solve_rs, f3_solve_rov, if_neg g_1, if_pos h_2, if_neg g_3, if_pos h_6, if_neg g_7, if_pos h_8]) | (simp only [f3_solve, f3_solve_thr, f3_solve_isr, f3_solve_rn, f3_solve_rdv, f3_solve_exa, f3_solve_fr, f3_solve_fev, f3_solve_eav, f3_solve_rs, f3_solve_rov, if_neg g_1, if_pos h_2, if_neg g_3, if_pos h_6, if_neg g_7, if_pos h_8]; rfl)) (by first | rfl | (simp only [f3_solve, f3_solve_thr, f3_solve_isr, f3_solve_rn, f3_solve_rdv, f3_solve_exa, f3_solve_fr, f3_solve_fev, f3_solve_eav, f3_solve_rs, f3_solve_rov, if_neg g_1, if_pos h_2, if_neg g_3, if_pos h_6, if_neg g_7, if_pos h_8]) | (simp only [f3_solve, f3_solve_thr, f3_solve_isr, f3_solve_rn, f3_solve_rdv, f3_solve_exa, f3_solve_fr, f3_solve_fev, f3_solve_eav, f3_solve_rs, f3_solve_rov, if_neg g_1, if_pos h_2, if_neg g_3, if_pos h_6, if_neg g_7, if_pos h_8]; rfl)) (Nat.le_refl _) (Nat.le_refl _) dX3_solve_217
        · have g_6 : ¬ (((f3_allLoads ldv)) ≤ lim) := h_6
          refine gz_aload_n C 0 dX3_solve_46 rfl ?_
          refine gz_iconst (v := nI 0) C dX3_solve_47 (by decide) ?_
          refine gz_sw (v := .int (nI 0)) (w := .int (bI false)) (by rw [show nI 0 = bI false from (by first | rfl | decide | ((repeat' split) <;> rfl))]) ?_
          refine gz_put (ci := 4) (ws2 := (wM h ad cI cJ cZ (nI 0) sn tkv opv shv ldv lim wyv bdv false rn rdv fz icv false fr fev eav rs rov)) C iwX3 0 rfl rfl 9 (by decide) wk_389 rfl tyX3 tyX3_ok nmX3 rfl rfl (bI_nar _) (bI_fit _) (Nat.le_of_ble_eq_true rfl) rfl dX3_solve_48 ?_
          refine gz_ldc2 (v := (-13)) C wk_480 dX3_solve_51 ?_
          exact gz_lret C hr hk (by first | rfl | (simp only [f3_solve, f3_solve_thr, f3_solve_isr, f3_solve_rn, f3_solve_rdv, f3_solve_exa, f3_solve_fr, f3_solve_fev, f3_solve_eav, f3_solve_rs, f3_solve_rov, if_neg g_1, if_pos h_2, if_neg g_3, if_neg g_6]) | (simp only [f3_solve, f3_solve_thr, f3_solve_isr, f3_solve_rn, f3_solve_rdv, f3_solve_exa, f3_solve_fr, f3_solve_fev, f3_solve_eav, f3_solve_rs, f3_solve_rov, if_neg g_1, if_pos h_2, if_neg g_3, if_neg g_6]; rfl)) (by first | rfl | (simp only [f3_solve, f3_solve_thr, f3_solve_isr, f3_solve_rn, f3_solve_rdv, f3_solve_exa, f3_solve_fr, f3_solve_fev, f3_solve_eav, f3_solve_rs, f3_solve_rov, if_neg g_1, if_pos h_2, if_neg g_3, if_neg g_6]) | (simp only [f3_solve, f3_solve_thr, f3_solve_isr, f3_solve_rn, f3_solve_rdv, f3_solve_exa, f3_solve_fr, f3_solve_fev, f3_solve_eav, f3_solve_rs, f3_solve_rov, if_neg g_1, if_pos h_2, if_neg g_3, if_neg g_6]; rfl)) (Nat.le_refl _) (Nat.le_refl _) dX3_solve_54
    · have g_2 : ¬ (stp ≤ 100000) := h_2
      refine gz_ldc2 (v := (-12)) C wk_479 dX3_solve_19 ?_
      exact gz_lret C hr hk (by first | rfl | (simp only [f3_solve, f3_solve_thr, f3_solve_isr, f3_solve_rn, f3_solve_rdv, f3_solve_exa, f3_solve_fr, f3_solve_fev, f3_solve_eav, f3_solve_rs, f3_solve_rov, if_neg g_1, if_neg g_2]) | (simp only [f3_solve, f3_solve_thr, f3_solve_isr, f3_solve_rn, f3_solve_rdv, f3_solve_exa, f3_solve_fr, f3_solve_fev, f3_solve_eav, f3_solve_rs, f3_solve_rov, if_neg g_1, if_neg g_2]; rfl)) (by first | rfl | (simp only [f3_solve, f3_solve_thr, f3_solve_isr, f3_solve_rn, f3_solve_rdv, f3_solve_exa, f3_solve_fr, f3_solve_fev, f3_solve_eav, f3_solve_rs, f3_solve_rov, if_neg g_1, if_neg g_2]) | (simp only [f3_solve, f3_solve_thr, f3_solve_isr, f3_solve_rn, f3_solve_rdv, f3_solve_exa, f3_solve_fr, f3_solve_fev, f3_solve_eav, f3_solve_rs, f3_solve_rov, if_neg g_1, if_neg g_2]; rfl)) (Nat.le_refl _) (Nat.le_refl _) dX3_solve_22

