def f3_at (isr : Bool) (rn : Nat) (rdv : Nat → Nat) (x : Int32) : Int32 := (if isr = true then (if x < 0 then nI 0 else (if (nI rn) ≤ x then nI 0 else nI (rdv (cl x)))) else nI 0)
def f3_at_thr (isr : Bool) (rn : Nat) (x : Int32) : Int32 := (if isr = true then (if x < 0 then nI 1 else (if (nI rn) ≤ x then nI 1 else nI 0)) else nI 1)
set_option maxRecDepth 100000 in
set_option maxHeartbeats 4000000 in
theorem kX3_at (l : Launch) (D : va_G) (h : Nat) (ad : Nat → Nat) (cI : ClassId) (cJ : ClassId) (cZ : ClassId) (thr : Int32) (sn : Nat) (tkv : Nat → Int64) (opv : Nat → Int64) (shv : Nat → Int64) (ldv : Nat → Int32) (lim : Int32) (wyv : Nat → Int64) (bdv : Nat → Bool) (isr : Bool) (rn : Nat) (rdv : Nat → Nat) (fz : Nat) (icv : Nat → Nat) (exa : Bool) (fr : Nat) (fev : Nat → Nat) (eav : Nat → Int64) (rs : Nat) (rov : Nat → Nat) (x : Int32) (hrn : rn ≤ 20) : gz_M l yX3_at cX3_at 2 (some .int) ({ frames := 0, cells := 0, slots := 0, locals := 0 } : Room) D [(cI, .int), (cJ, .long), (cZ, .boolean)] [.ref h, .int x] (wM h ad cI cJ cZ thr sn tkv opv shv ldv lim wyv bdv isr rn rdv fz icv exa fr fev eav rs rov) (some (.int (f3_at isr rn rdv x))) (wM h ad cI cJ cZ (f3_at_thr isr rn x) sn tkv opv shv ldv lim wyv bdv isr rn rdv fz icv exa fr fev eav rs rov) 0 0 := by
  refine gz_met l (by decide) (Nat.le_of_ble_eq_true rfl) [(0, .ref h), (1, .int x)] rfl ?_
  intro sz p e s m args below meth c C hr hk hnm
  have C : gz_C p s m args c cX3_at 2 RX3 D [(cI, .int), (cJ, .long), (cZ, .boolean)] (va_A (wM h ad cI cJ cZ thr sn tkv opv shv ldv lim wyv bdv isr rn rdv fz icv exa fr fev eav rs rov) sz) := C
  refine gz_aload_n C 0 dX3_at_0 rfl ?_
  refine gz_aload_n C 0 dX3_at_1 rfl ?_
  refine gz_get (ci := 4) C iwX3 0 rfl rfl 9 (by decide) wk_389 rfl rfl dX3_at_2 ?_
  refine gz_bif_eq C 24 dX3_at_5 (by decide) (fun h_1 => ?_) (fun h_1 => ?_)
  · have g_1 : ¬ (isr = true) := (by rw [h_1]; decide)
    refine gz_iconst (v := nI 1) C dX3_at_24 (by decide) ?_
    refine gz_put (ci := 4) (ws2 := (wM h ad cI cJ cZ (nI 1) sn tkv opv shv ldv lim wyv bdv isr rn rdv fz icv exa fr fev eav rs rov)) C iwX3 0 rfl rfl 0 (by decide) wk_380 rfl tyX3 tyX3_ok nmX3 rfl rfl rfl rfl (Nat.le_of_ble_eq_true rfl) rfl dX3_at_25 ?_
    refine gz_aload_n C 0 dX3_at_28 rfl ?_
    refine gz_get (ci := 4) C iwX3 0 rfl rfl 0 (by decide) wk_380 rfl rfl dX3_at_29 ?_
    refine gz_if_le C 39 dX3_at_32 (by decide) (fun z => absurd z (by decide)) (fun _ => ?_)
    refine gz_iconst (v := nI 0) C dX3_at_35 (by decide) ?_
    refine gz_goto C 45 dX3_at_36 (by decide) ?_
    exact gz_iret C hr hk (by first | rfl | (simp only [f3_at, f3_at_thr, if_neg g_1]) | (simp only [f3_at, f3_at_thr, if_neg g_1]; rfl)) (by first | rfl | (simp only [f3_at, f3_at_thr, if_neg g_1]) | (simp only [f3_at, f3_at_thr, if_neg g_1]; rfl)) (Nat.le_refl _) (Nat.le_refl _) dX3_at_45
  · skip
    refine gz_iload_n C 1 dX3_at_8 rfl ?_
    refine gz_if_lt C 24 dX3_at_9 (by decide) (fun h_2 => ?_) (fun h_2 => ?_)
    · skip
      refine gz_iconst (v := nI 1) C dX3_at_24 (by decide) ?_
      refine gz_put (ci := 4) (ws2 := (wM h ad cI cJ cZ (nI 1) sn tkv opv shv ldv lim wyv bdv isr rn rdv fz icv exa fr fev eav rs rov)) C iwX3 0 rfl rfl 0 (by decide) wk_380 rfl tyX3 tyX3_ok nmX3 rfl rfl rfl rfl (Nat.le_of_ble_eq_true rfl) rfl dX3_at_25 ?_
      refine gz_aload_n C 0 dX3_at_28 rfl ?_
      refine gz_get (ci := 4) C iwX3 0 rfl rfl 0 (by decide) wk_380 rfl rfl dX3_at_29 ?_
      refine gz_if_le C 39 dX3_at_32 (by decide) (fun z => absurd z (by decide)) (fun _ => ?_)
      refine gz_iconst (v := nI 0) C dX3_at_35 (by decide) ?_
      refine gz_goto C 45 dX3_at_36 (by decide) ?_
      exact gz_iret C hr hk (by first | rfl | (simp only [f3_at, f3_at_thr, if_pos h_1, if_pos h_2]) | (simp only [f3_at, f3_at_thr, if_pos h_1, if_pos h_2]; rfl)) (by first | rfl | (simp only [f3_at, f3_at_thr, if_pos h_1, if_pos h_2]) | (simp only [f3_at, f3_at_thr, if_pos h_1, if_pos h_2]; rfl)) (Nat.le_refl _) (Nat.le_refl _) dX3_at_45
    · have g_2 : ¬ (x < 0) := h_2
      refine gz_iload_n C 1 dX3_at_12 rfl ?_
      refine gz_aload_n C 0 dX3_at_13 rfl ?_
      refine gz_get (ci := 4) C iwX3 0 rfl rfl 10 (by decide) wk_390 rfl rfl dX3_at_14 ?_
      refine gz_icmp_ge C 24 dX3_at_17 (by decide) (fun h_3 => ?_) (fun h_3 => ?_)
      · skip
        refine gz_iconst (v := nI 1) C dX3_at_24 (by decide) ?_
        refine gz_put (ci := 4) (ws2 := (wM h ad cI cJ cZ (nI 1) sn tkv opv shv ldv lim wyv bdv isr rn rdv fz icv exa fr fev eav rs rov)) C iwX3 0 rfl rfl 0 (by decide) wk_380 rfl tyX3 tyX3_ok nmX3 rfl rfl rfl rfl (Nat.le_of_ble_eq_true rfl) rfl dX3_at_25 ?_
        refine gz_aload_n C 0 dX3_at_28 rfl ?_
        refine gz_get (ci := 4) C iwX3 0 rfl rfl 0 (by decide) wk_380 rfl rfl dX3_at_29 ?_
        refine gz_if_le C 39 dX3_at_32 (by decide) (fun z => absurd z (by decide)) (fun _ => ?_)
        refine gz_iconst (v := nI 0) C dX3_at_35 (by decide) ?_
        refine gz_goto C 45 dX3_at_36 (by decide) ?_
        exact gz_iret C hr hk (by first | rfl | (simp only [f3_at, f3_at_thr, if_pos h_1, if_neg g_2, if_pos h_3]) | (simp only [f3_at, f3_at_thr, if_pos h_1, if_neg g_2, if_pos h_3]; rfl)) (by first | rfl | (simp only [f3_at, f3_at_thr, if_pos h_1, if_neg g_2, if_pos h_3]) | (simp only [f3_at, f3_at_thr, if_pos h_1, if_neg g_2, if_pos h_3]; rfl)) (Nat.le_refl _) (Nat.le_refl _) dX3_at_45
      · have g_3 : ¬ ((nI rn) ≤ x) := h_3
        refine gz_iconst (v := nI 0) C dX3_at_20 (by decide) ?_
        refine gz_goto C 25 dX3_at_21 (by decide) ?_
        refine gz_put (ci := 4) (ws2 := (wM h ad cI cJ cZ (nI 0) sn tkv opv shv ldv lim wyv bdv isr rn rdv fz icv exa fr fev eav rs rov)) C iwX3 0 rfl rfl 0 (by decide) wk_380 rfl tyX3 tyX3_ok nmX3 rfl rfl rfl rfl (Nat.le_of_ble_eq_true rfl) rfl dX3_at_25 ?_
        refine gz_aload_n C 0 dX3_at_28 rfl ?_
        refine gz_get (ci := 4) C iwX3 0 rfl rfl 0 (by decide) wk_380 rfl rfl dX3_at_29 ?_
        refine gz_if_le C 39 dX3_at_32 (by decide) (fun _ => ?_) (fun z => absurd (by decide) z)
        have hc1 := cl_of g_2
        have hc2 : cl x < rn := cl_ltn g_2 g_3 (by omega)
        refine gz_lve (lv2 := [(0, .ref h), (1, .int (nI (cl x)))]) (by rw [← hc1]) ?_
        refine gz_aload_n C 0 dX3_at_39 rfl ?_
        refine gz_get (ci := 4) C iwX3 0 rfl rfl 11 (by decide) wk_391 rfl rfl dX3_at_40 ?_
        refine gz_iload_n C 1 dX3_at_43 rfl ?_
        refine gz_iald C 7 0 rfl rfl (by omega) (by decide) dX3_at_44 ?_
        exact gz_iret C hr hk (by first | rfl | (simp only [f3_at, f3_at_thr, if_pos h_1, if_neg g_2, if_neg g_3]) | (simp only [f3_at, f3_at_thr, if_pos h_1, if_neg g_2, if_neg g_3]; rfl)) (by first | rfl | (simp only [f3_at, f3_at_thr, if_pos h_1, if_neg g_2, if_neg g_3]) | (simp only [f3_at, f3_at_thr, if_pos h_1, if_neg g_2, if_neg g_3]; rfl)) (Nat.le_refl _) (Nat.le_refl _) dX3_at_45

def f3_freeze_lp (rdv : Nat → Nat) : Nat → Nat → (Nat → Nat) → Nat × (Nat → Nat)
  | 0, k, icv => (k, icv)
  | n + 1, k, icv => f3_freeze_lp rdv n (k + 1) (va_up icv k (rdv k))
set_option maxRecDepth 100000 in
set_option maxHeartbeats 4000000 in
theorem lX3_freeze_lp {p : Program} {l : Launch} {e : Env} {R : Room} {s : State} {m : MethodId} {args : Array Value} {below : List Frame} {meth : Method} {c : Code} {cells slots : Nat} {Q : State → Prop} {A : Nat → Prop} {D : va_G} (h : Nat) (ad : Nat → Nat) (cI : ClassId) (cJ : ClassId) (cZ : ClassId) (thr : Int32) (sn : Nat) (tkv : Nat → Int64) (opv : Nat → Int64) (shv : Nat → Int64) (ldv : Nat → Int32) (lim : Int32) (wyv : Nat → Int64) (bdv : Nat → Bool) (isr : Bool) (rn : Nat) (rdv : Nat → Nat) (fz : Nat) (exa : Bool) (fr : Nat) (fev : Nat → Nat) (eav : Nat → Int64) (rs : Nat) (rov : Nat → Nat) (z : Nat)  (C : gz_C p s m args c cX3_freeze 3 RX3 D [(cI, .int), (cJ, .long), (cZ, .boolean)] A) : ∀ (n : Nat) (k : Nat) (icv : Nat → Nat), (k + n = z ∧ z ≤ 20) → ((((f3_freeze_lp rdv n k icv).1) + 0 = z ∧ z ≤ 20) → GZ p l e R s m args below meth c 3 D A cells slots Q (wM h ad cI cJ cZ thr sn tkv opv shv ldv lim wyv bdv isr rn rdv fz ((f3_freeze_lp rdv n k icv).2) exa fr fev eav rs rov) [(0, .ref h), (1, .int (nI z)), (2, .int (nI ((f3_freeze_lp rdv n k icv).1)))] [] 67) → GZ p l e R s m args below meth c 3 D A cells slots Q (wM h ad cI cJ cZ thr sn tkv opv shv ldv lim wyv bdv isr rn rdv fz icv exa fr fev eav rs rov) [(0, .ref h), (1, .int (nI z)), (2, .int (nI k))] [] 44 := by
  intro n
  induction n with
  | zero =>
    intro k icv hme  hx
    refine gz_iload_n C 2 dX3_freeze_44 rfl ?_
    refine gz_iload_n C 1 dX3_freeze_45 rfl ?_
    refine gz_ncmp_ge C 67 (by omega) (by omega) dX3_freeze_46 (by decide) (fun h_1 => ?_) (fun h_1 => ?_)
    · skip
      exact gz_lv [0, 1, 2] rfl (hx hme )
    · have g_1 : ¬ (z ≤ k) := (Nat.not_le.mpr h_1)
      exfalso; omega
  | succ n ih =>
    intro k icv hme  hx
    refine gz_iload_n C 2 dX3_freeze_44 rfl ?_
    refine gz_iload_n C 1 dX3_freeze_45 rfl ?_
    refine gz_ncmp_ge C 67 (by omega) (by omega) dX3_freeze_46 (by decide) (fun h_1 => ?_) (fun h_1 => ?_)
    · skip
      exfalso; omega
    · have g_1 : ¬ (z ≤ k) := (Nat.not_le.mpr h_1)
      refine gz_aload_n C 0 dX3_freeze_49 rfl ?_
      refine gz_get (ci := 4) C iwX3 0 rfl rfl 13 (by decide) wk_393 rfl rfl dX3_freeze_50 ?_
      refine gz_iload_n C 2 dX3_freeze_53 rfl ?_
      refine gz_aload_n C 0 dX3_freeze_54 rfl ?_
      refine gz_get (ci := 4) C iwX3 0 rfl rfl 11 (by decide) wk_391 rfl rfl dX3_freeze_55 ?_
      refine gz_iload_n C 2 dX3_freeze_58 rfl ?_
      refine gz_iald C 7 0 rfl rfl (by omega) (by decide) dX3_freeze_59 ?_
      refine gz_iast (ws2 := (wM h ad cI cJ cZ thr sn tkv opv shv ldv lim wyv bdv isr rn rdv fz (va_up icv k (rdv k)) exa fr fev eav rs rov)) C 8 0 rfl rfl (by omega) (by decide) rfl dX3_freeze_60 ?_
      refine gz_iinc (v := nI (k + 1)) (lv2 := [(2, .int (nI (k + 1))), (0, .ref h), (1, .int (nI z))]) (k := 2) C dX3_freeze_61 rfl (nI_add _ 1) (by decide) rfl ?_
      refine gz_goto C 44 dX3_freeze_64 (by decide) ?_
      refine gz_lv [1, 2, 0] rfl ?_
      simp only [f3_freeze_lp, if_neg g_1] at hx
      exact ih (k + 1) (va_up icv k (rdv k)) (by omega)  hx

def f3_freeze (isr : Bool) (rn : Nat) (y : Int32) : Int32 := (if y < 0 then (-11) else (if isr = true then (if y ≤ (nI rn) then nI (cl y) else (-11)) else (-13)))
def f3_freeze_thr (isr : Bool) (rn : Nat) (y : Int32) : Int32 := (if y < 0 then nI 0 else (if isr = true then (if y ≤ (nI rn) then nI 0 else nI 0) else nI 0))
def f3_freeze_fz (isr : Bool) (rn : Nat) (fz : Nat) (y : Int32) : Nat := (if y < 0 then fz else (if isr = true then (if y ≤ (nI rn) then cl y else fz) else fz))
def f3_freeze_icv (isr : Bool) (rn : Nat) (rdv : Nat → Nat) (icv : Nat → Nat) (y : Int32) : Nat → Nat := (if y < 0 then icv else (if isr = true then (if y ≤ (nI rn) then (f3_freeze_lp rdv (cl y) 0 icv).2 else icv) else icv))
set_option maxRecDepth 100000 in
set_option maxHeartbeats 4000000 in
theorem kX3_freeze (l : Launch) (D : va_G) (h : Nat) (ad : Nat → Nat) (cI : ClassId) (cJ : ClassId) (cZ : ClassId) (thr : Int32) (sn : Nat) (tkv : Nat → Int64) (opv : Nat → Int64) (shv : Nat → Int64) (ldv : Nat → Int32) (lim : Int32) (wyv : Nat → Int64) (bdv : Nat → Bool) (isr : Bool) (rn : Nat) (rdv : Nat → Nat) (fz : Nat) (icv : Nat → Nat) (exa : Bool) (fr : Nat) (fev : Nat → Nat) (eav : Nat → Int64) (rs : Nat) (rov : Nat → Nat) (y : Int32) (hrn : rn ≤ 20) : gz_M l yX3_freeze cX3_freeze 3 (some .int) ({ frames := 0, cells := 0, slots := 0, locals := 0 } : Room) D [(cI, .int), (cJ, .long), (cZ, .boolean)] [.ref h, .int y] (wM h ad cI cJ cZ thr sn tkv opv shv ldv lim wyv bdv isr rn rdv fz icv exa fr fev eav rs rov) (some (.int (f3_freeze isr rn y))) (wM h ad cI cJ cZ (f3_freeze_thr isr rn y) sn tkv opv shv ldv lim wyv bdv isr rn rdv (f3_freeze_fz isr rn fz y) (f3_freeze_icv isr rn rdv icv y) exa fr fev eav rs rov) 0 0 := by
  refine gz_met l (by decide) (Nat.le_of_ble_eq_true rfl) [(0, .ref h), (1, .int y)] rfl ?_
  intro sz p e s m args below meth c C hr hk hnm
  have C : gz_C p s m args c cX3_freeze 3 RX3 D [(cI, .int), (cJ, .long), (cZ, .boolean)] (va_A (wM h ad cI cJ cZ thr sn tkv opv shv ldv lim wyv bdv isr rn rdv fz icv exa fr fev eav rs rov) sz) := C
  refine gz_aload_n C 0 dX3_freeze_0 rfl ?_
  refine gz_iconst (v := nI 0) C dX3_freeze_1 (by decide) ?_
  refine gz_put (ci := 4) (ws2 := (wM h ad cI cJ cZ (nI 0) sn tkv opv shv ldv lim wyv bdv isr rn rdv fz icv exa fr fev eav rs rov)) C iwX3 0 rfl rfl 0 (by decide) wk_380 rfl tyX3 tyX3_ok nmX3 rfl rfl rfl rfl (Nat.le_of_ble_eq_true rfl) rfl dX3_freeze_2 ?_
  refine gz_iload_n C 1 dX3_freeze_5 rfl ?_
  refine gz_if_lt C 24 dX3_freeze_6 (by decide) (fun h_1 => ?_) (fun h_1 => ?_)
  · skip
    refine gz_bipush (v := ((-11))) C dX3_freeze_24 (by decide) ?_
    exact gz_iret C hr hk (by first | rfl | (simp only [f3_freeze, f3_freeze_thr, f3_freeze_fz, f3_freeze_icv, if_pos h_1]) | (simp only [f3_freeze, f3_freeze_thr, f3_freeze_fz, f3_freeze_icv, if_pos h_1]; rfl)) (by first | rfl | (simp only [f3_freeze, f3_freeze_thr, f3_freeze_fz, f3_freeze_icv, if_pos h_1]) | (simp only [f3_freeze, f3_freeze_thr, f3_freeze_fz, f3_freeze_icv, if_pos h_1]; rfl)) (Nat.le_refl _) (Nat.le_refl _) dX3_freeze_26
  · have g_1 : ¬ (y < 0) := h_1
    refine gz_aload_n C 0 dX3_freeze_9 rfl ?_
    refine gz_get (ci := 4) C iwX3 0 rfl rfl 9 (by decide) wk_389 rfl rfl dX3_freeze_10 ?_
    refine gz_bif_eq C 27 dX3_freeze_13 (by decide) (fun h_2 => ?_) (fun h_2 => ?_)
    · have g_2 : ¬ (isr = true) := (by rw [h_2]; decide)
      refine gz_aload_n C 0 dX3_freeze_27 rfl ?_
      refine gz_get (ci := 4) C iwX3 0 rfl rfl 9 (by decide) wk_389 rfl rfl dX3_freeze_28 ?_
      refine gz_bif_ne C 37 dX3_freeze_31 (by decide) (fun z => absurd (h_2.symm.trans z) (by decide)) (fun _ => ?_)
      refine gz_bipush (v := ((-13))) C dX3_freeze_34 (by decide) ?_
      exact gz_iret C hr hk (by first | rfl | (simp only [f3_freeze, f3_freeze_thr, f3_freeze_fz, f3_freeze_icv, if_neg g_1, if_neg g_2]) | (simp only [f3_freeze, f3_freeze_thr, f3_freeze_fz, f3_freeze_icv, if_neg g_1, if_neg g_2]; rfl)) (by first | rfl | (simp only [f3_freeze, f3_freeze_thr, f3_freeze_fz, f3_freeze_icv, if_neg g_1, if_neg g_2]) | (simp only [f3_freeze, f3_freeze_thr, f3_freeze_fz, f3_freeze_icv, if_neg g_1, if_neg g_2]; rfl)) (Nat.le_refl _) (Nat.le_refl _) dX3_freeze_36
    · skip
      refine gz_iload_n C 1 dX3_freeze_16 rfl ?_
      refine gz_aload_n C 0 dX3_freeze_17 rfl ?_
      refine gz_get (ci := 4) C iwX3 0 rfl rfl 10 (by decide) wk_390 rfl rfl dX3_freeze_18 ?_
      refine gz_icmp_le C 27 dX3_freeze_21 (by decide) (fun h_3 => ?_) (fun h_3 => ?_)
      · skip
        refine gz_aload_n C 0 dX3_freeze_27 rfl ?_
        refine gz_get (ci := 4) C iwX3 0 rfl rfl 9 (by decide) wk_389 rfl rfl dX3_freeze_28 ?_
        refine gz_bif_ne C 37 dX3_freeze_31 (by decide) (fun _ => ?_) (fun z => absurd (h_2.symm.trans z) (by decide))
        have hc1 := cl_of g_1
        have hc2 : cl y ≤ rn := cl_lep g_1 h_3 (by omega)
        refine gz_lve (lv2 := [(0, .ref h), (1, .int (nI (cl y)))]) (by rw [← hc1]) ?_
        refine gz_aload_n C 0 dX3_freeze_37 rfl ?_
        refine gz_iload_n C 1 dX3_freeze_38 rfl ?_
        refine gz_put (ci := 4) (ws2 := (wM h ad cI cJ cZ (nI 0) sn tkv opv shv ldv lim wyv bdv isr rn rdv (cl y) icv exa fr fev eav rs rov)) C iwX3 0 rfl rfl 12 (by decide) wk_392 rfl tyX3 tyX3_ok nmX3 rfl rfl rfl rfl (Nat.le_of_ble_eq_true rfl) rfl dX3_freeze_39 ?_
        refine gz_iconst (v := nI 0) C dX3_freeze_42 (by decide) ?_
        refine gz_istore_n (lv2 := [(2, .int (nI 0)), (0, .ref h), (1, .int (nI (cl y)))]) C dX3_freeze_43 (by decide) rfl ?_
        refine gz_lv (lv2 := [(0, .ref h), (1, .int (nI (cl y))), (2, .int (nI 0))]) [1, 2, 0] rfl ?_
        refine lX3_freeze_lp h ad cI cJ cZ (nI 0) sn tkv opv shv ldv lim wyv bdv isr rn rdv (cl y) exa fr fev eav rs rov (cl y)  C (cl y) 0 icv (by omega)  ?_
        intro zme_lp
        refine gz_iload_n C 1 dX3_freeze_67 rfl ?_
        exact gz_iret C hr hk (by first | rfl | (simp only [f3_freeze, f3_freeze_thr, f3_freeze_fz, f3_freeze_icv, if_neg g_1, if_pos h_2, if_pos h_3]) | (simp only [f3_freeze, f3_freeze_thr, f3_freeze_fz, f3_freeze_icv, if_neg g_1, if_pos h_2, if_pos h_3]; rfl)) (by first | rfl | (simp only [f3_freeze, f3_freeze_thr, f3_freeze_fz, f3_freeze_icv, if_neg g_1, if_pos h_2, if_pos h_3]) | (simp only [f3_freeze, f3_freeze_thr, f3_freeze_fz, f3_freeze_icv, if_neg g_1, if_pos h_2, if_pos h_3]; rfl)) (Nat.le_refl _) (Nat.le_refl _) dX3_freeze_68
      · have g_3 : ¬ (y ≤ (nI rn)) := h_3
        refine gz_bipush (v := ((-11))) C dX3_freeze_24 (by decide) ?_
        exact gz_iret C hr hk (by first | rfl | (simp only [f3_freeze, f3_freeze_thr, f3_freeze_fz, f3_freeze_icv, if_neg g_1, if_pos h_2, if_neg g_3]) | (simp only [f3_freeze, f3_freeze_thr, f3_freeze_fz, f3_freeze_icv, if_neg g_1, if_pos h_2, if_neg g_3]; rfl)) (by first | rfl | (simp only [f3_freeze, f3_freeze_thr, f3_freeze_fz, f3_freeze_icv, if_neg g_1, if_pos h_2, if_neg g_3]) | (simp only [f3_freeze, f3_freeze_thr, f3_freeze_fz, f3_freeze_icv, if_neg g_1, if_pos h_2, if_neg g_3]; rfl)) (Nat.le_refl _) (Nat.le_refl _) dX3_freeze_26

def f3_late_lp (tkv : Nat → Int64) (opv : Nat → Int64) (shv : Nat → Int64) (wyv : Nat → Int64) (rdv : Nat → Nat) (y : Int32) : Nat → Int64 → Nat → Nat → Nat → Int32
  | 0, ck, he, u, k => nI 0
  | n + 1, ck, he, u, k => if (ck + (wyv ((21 * he) + (rdv k)))) ≤ (shv (rdv k)) then f3_late_lp tkv opv shv wyv rdv y n (((if (opv (rdv k)) ≤ (ck + (wyv ((21 * he) + (rdv k)))) then ck + (wyv ((21 * he) + (rdv k))) else opv (rdv k))) + (tkv (rdv k))) (rdv k) u (k + 1) else if (nI u) = y then nI (rdv k) else f3_late_lp tkv opv shv wyv rdv y n (((if (opv (rdv k)) ≤ (ck + (wyv ((21 * he) + (rdv k)))) then ck + (wyv ((21 * he) + (rdv k))) else opv (rdv k))) + (tkv (rdv k))) (rdv k) (u + 1) (k + 1)
set_option maxRecDepth 100000 in
set_option maxHeartbeats 4000000 in
theorem lX3_late_lp {p : Program} {l : Launch} {e : Env} {R : Room} {s : State} {m : MethodId} {args : Array Value} {below : List Frame} {meth : Method} {c : Code} {cells slots mc ms : Nat} {A : Nat → Prop} {ov : Option Value} {D : va_G} (h : Nat) (ad : Nat → Nat) (cI : ClassId) (cJ : ClassId) (cZ : ClassId) (thr : Int32) (sn : Nat) (tkv : Nat → Int64) (opv : Nat → Int64) (shv : Nat → Int64) (ldv : Nat → Int32) (lim : Int32) (wyv : Nat → Int64) (bdv : Nat → Bool) (isr : Bool) (rn : Nat) (rdv : Nat → Nat) (fz : Nat) (icv : Nat → Nat) (exa : Bool) (fr : Nat) (fev : Nat → Nat) (eav : Nat → Int64) (rs : Nat) (rov : Nat → Nat) (y : Int32) (hrn : rn ≤ 20) (hrd : ∀ k, k < rn → rdv k ≤ 20) (C : gz_C p s m args c cX3_late 10 RX3 D [(cI, .int), (cJ, .long), (cZ, .boolean)] A) (hr : meth.sig.returnType = (some .int)) (hk : meth.locks = false) (hcm : cells ≤ mc) (hsm : slots ≤ ms) : ∀ (n : Nat) (ck : Int64) (he : Nat) (u : Nat) (k : Nat), (k + n = rn) → (he ≤ 20) → some (.int (f3_late_lp tkv opv shv wyv rdv y n ck he u k)) = ov → GZ p l e R s m args below meth c 10 D A cells slots (MQ below (gz_Q D [(cI, .int), (cJ, .long), (cZ, .boolean)] ov (wM h ad cI cJ cZ thr sn tkv opv shv ldv lim wyv bdv isr rn rdv fz icv exa fr fev eav rs rov) A) args s mc ms A) (wM h ad cI cJ cZ thr sn tkv opv shv ldv lim wyv bdv isr rn rdv fz icv exa fr fev eav rs rov) [(0, .ref h), (1, .int y), (2, .long ck), (4, .int (nI he)), (5, .int (nI u)), (6, .int (nI k))] [] 25 := by
  intro n
  induction n with
  | zero =>
    intro ck he u k hme hhe hov
    refine gz_iload C 5 dX3_late_25 rfl ?_
    refine gz_aload_n C 0 dX3_late_27 rfl ?_
    refine gz_get (ci := 4) C iwX3 0 rfl rfl 10 (by decide) wk_390 rfl rfl dX3_late_28 ?_
    refine gz_ncmp_ge C 129 (by omega) (by omega) dX3_late_31 (by decide) (fun h_1 => ?_) (fun h_1 => ?_)
    · skip
      refine gz_iconst (v := nI 0) C dX3_late_129 (by decide) ?_
      exact gz_iret C hr hk (by rw [← hov]; first | rfl | (simp only [f3_late_lp, if_pos h_1])) rfl hcm hsm dX3_late_130
    · have g_1 : ¬ (rn ≤ k) := (Nat.not_le.mpr h_1)
      exfalso; omega
  | succ n ih =>
    intro ck he u k hme hhe hov
    refine gz_iload C 5 dX3_late_25 rfl ?_
    refine gz_aload_n C 0 dX3_late_27 rfl ?_
    refine gz_get (ci := 4) C iwX3 0 rfl rfl 10 (by decide) wk_390 rfl rfl dX3_late_28 ?_
    refine gz_ncmp_ge C 129 (by omega) (by omega) dX3_late_31 (by decide) (fun h_1 => ?_) (fun h_1 => ?_)
    · skip
      exfalso; omega
    · have g_1 : ¬ (rn ≤ k) := (Nat.not_le.mpr h_1)
      have hq := hrd k (by omega)
      refine gz_aload_n C 0 dX3_late_34 rfl ?_
      refine gz_get (ci := 4) C iwX3 0 rfl rfl 11 (by decide) wk_391 rfl rfl dX3_late_35 ?_
      refine gz_iload C 5 dX3_late_38 rfl ?_
      refine gz_iald C 7 0 rfl rfl (by omega) (by decide) dX3_late_40 ?_
      refine gz_istore (lv2 := [(7, .int (nI (rdv k))), (0, .ref h), (1, .int y), (2, .long ck), (4, .int (nI he)), (5, .int (nI u)), (6, .int (nI k))]) C dX3_late_41 (by decide) rfl ?_
      refine gz_lload_n C 3 dX3_late_43 rfl ?_
      refine gz_aload_n C 1 dX3_late_44 rfl ?_
      refine gz_get (ci := 4) C iwX3 0 rfl rfl 7 (by decide) wk_387 rfl rfl dX3_late_45 ?_
      refine gz_bipush (v := nI 21) C dX3_late_48 (by decide) ?_
      refine gz_iload C 4 dX3_late_50 rfl ?_
      refine gz_imul (v := nI (21 * he)) C dX3_late_52 (pk_mul _ _) ?_
      refine gz_iload C 0 dX3_late_53 rfl ?_
      refine gz_iadd (v := nI ((21 * he) + (rdv k))) C dX3_late_55 (nI_add _ _) ?_
      refine gz_lald C 5 1 rfl rfl (by omega) (by decide) dX3_late_56 ?_
      refine gz_ladd (v := ck + (wyv ((21 * he) + (rdv k)))) C dX3_late_57 rfl ?_
      refine gz_lstore (lv2 := [(8, .long (ck + (wyv ((21 * he) + (rdv k))))), (7, .int (nI (rdv k))), (0, .ref h), (1, .int y), (2, .long ck), (4, .int (nI he)), (5, .int (nI u)), (6, .int (nI k))]) C dX3_late_58 (by decide) rfl ?_
      refine gz_lload C 0 dX3_late_60 rfl ?_
      refine gz_aload_n C 2 dX3_late_62 rfl ?_
      refine gz_get (ci := 4) C iwX3 0 rfl rfl 4 (by decide) wk_384 rfl rfl dX3_late_63 ?_
      refine gz_iload C 1 dX3_late_66 rfl ?_
      refine gz_lald C 3 1 rfl rfl (by omega) (by decide) dX3_late_68 ?_
      refine gz_lcmp_le C 85 dX3_late_69 dX3_late_70 (by decide) (fun h_2 => ?_) (fun h_2 => ?_)
      · skip
        refine gz_lload C 0 dX3_late_85 rfl ?_
        refine gz_aload_n C 2 dX3_late_87 rfl ?_
        refine gz_get (ci := 4) C iwX3 0 rfl rfl 3 (by decide) wk_383 rfl rfl dX3_late_88 ?_
        refine gz_iload C 1 dX3_late_91 rfl ?_
        refine gz_lald C 2 1 rfl rfl (by omega) (by decide) dX3_late_93 ?_
        refine gz_J (ws2 := (wM h ad cI cJ cZ thr sn tkv opv shv ldv lim wyv bdv isr rn rdv fz icv exa fr fev eav rs rov)) (lv2 := [(8, .long (ck + (wyv ((21 * he) + (rdv k))))), (7, .int (nI (rdv k))), (0, .ref h), (1, .int y), (2, .long ck), (4, .int (nI he)), (5, .int (nI u)), (6, .int (nI k))]) (st2 := [.long ((if (opv (rdv k)) ≤ (ck + (wyv ((21 * he) + (rdv k)))) then ck + (wyv ((21 * he) + (rdv k))) else opv (rdv k)))]) (pc2 := 110) ?_ (fun J_3 => ?_)
        rotate_left
        · refine gz_lcmp_ge C 108 dX3_late_94 dX3_late_95 (by decide) (fun h_3 => ?_) (fun h_3 => ?_)
          · skip
            refine gz_lload C 0 dX3_late_108 rfl ?_
            simp only [if_pos h_3] at J_3 ⊢
            exact gz_lv [0, 1, 2, 3, 4, 5, 6, 7] rfl J_3
          · have g_3 : ¬ ((opv (rdv k)) ≤ (ck + (wyv ((21 * he) + (rdv k))))) := h_3
            refine gz_aload_n C 2 dX3_late_98 rfl ?_
            refine gz_get (ci := 4) C iwX3 0 rfl rfl 3 (by decide) wk_383 rfl rfl dX3_late_99 ?_
            refine gz_iload C 1 dX3_late_102 rfl ?_
            refine gz_lald C 2 1 rfl rfl (by omega) (by decide) dX3_late_104 ?_
            refine gz_goto C 110 dX3_late_105 (by decide) ?_
            simp only [if_neg g_3] at J_3 ⊢
            exact gz_lv [0, 1, 2, 3, 4, 5, 6, 7] rfl J_3
        refine gz_aload_n C 2 dX3_late_110 rfl ?_
        refine gz_get (ci := 4) C iwX3 0 rfl rfl 2 (by decide) wk_382 rfl rfl dX3_late_111 ?_
        refine gz_iload C 1 dX3_late_114 rfl ?_
        refine gz_lald C 1 1 rfl rfl (by omega) (by decide) dX3_late_116 ?_
        refine gz_ladd (v := ((if (opv (rdv k)) ≤ (ck + (wyv ((21 * he) + (rdv k)))) then ck + (wyv ((21 * he) + (rdv k))) else opv (rdv k))) + (tkv (rdv k))) C dX3_late_117 rfl ?_
        refine gz_lstore_n (lv2 := [(2, .long (((if (opv (rdv k)) ≤ (ck + (wyv ((21 * he) + (rdv k)))) then ck + (wyv ((21 * he) + (rdv k))) else opv (rdv k))) + (tkv (rdv k)))), (8, .long (ck + (wyv ((21 * he) + (rdv k))))), (7, .int (nI (rdv k))), (0, .ref h), (1, .int y), (4, .int (nI he)), (5, .int (nI u)), (6, .int (nI k))]) C dX3_late_118 (by decide) rfl ?_
        refine gz_iload C 2 dX3_late_119 rfl ?_
        refine gz_istore (lv2 := [(4, .int (nI (rdv k))), (2, .long (((if (opv (rdv k)) ≤ (ck + (wyv ((21 * he) + (rdv k)))) then ck + (wyv ((21 * he) + (rdv k))) else opv (rdv k))) + (tkv (rdv k)))), (8, .long (ck + (wyv ((21 * he) + (rdv k))))), (7, .int (nI (rdv k))), (0, .ref h), (1, .int y), (5, .int (nI u)), (6, .int (nI k))]) C dX3_late_121 (by decide) rfl ?_
        refine gz_iinc (v := nI (k + 1)) (lv2 := [(6, .int (nI (k + 1))), (4, .int (nI (rdv k))), (2, .long (((if (opv (rdv k)) ≤ (ck + (wyv ((21 * he) + (rdv k)))) then ck + (wyv ((21 * he) + (rdv k))) else opv (rdv k))) + (tkv (rdv k)))), (8, .long (ck + (wyv ((21 * he) + (rdv k))))), (7, .int (nI (rdv k))), (0, .ref h), (1, .int y), (5, .int (nI u))]) (k := 7) C dX3_late_123 rfl (nI_add _ 1) (by decide) rfl ?_
        refine gz_goto C 25 dX3_late_126 (by decide) ?_
        refine gz_lv [5, 6, 2, 1, 7, 0] rfl ?_
        simp only [f3_late_lp, if_neg g_1, if_pos h_2] at hov
        exact ih (((if (opv (rdv k)) ≤ (ck + (wyv ((21 * he) + (rdv k)))) then ck + (wyv ((21 * he) + (rdv k))) else opv (rdv k))) + (tkv (rdv k))) (rdv k) u (k + 1) (by omega) (by omega) hov
      · have g_2 : ¬ ((ck + (wyv ((21 * he) + (rdv k)))) ≤ (shv (rdv k))) := h_2
        refine gz_iload C 6 dX3_late_73 rfl ?_
        refine gz_iload_n C 3 dX3_late_75 rfl ?_
        refine gz_icmp_ne C 82 dX3_late_76 (by decide) (fun h_4 => ?_) (fun h_4 => ?_)
        · have g_4 : ¬ ((nI u) = y) := h_4
          refine gz_iinc (v := nI (u + 1)) (lv2 := [(5, .int (nI (u + 1))), (8, .long (ck + (wyv ((21 * he) + (rdv k))))), (7, .int (nI (rdv k))), (0, .ref h), (1, .int y), (2, .long ck), (4, .int (nI he)), (6, .int (nI k))]) (k := 6) C dX3_late_82 rfl (nI_add _ 1) (by decide) rfl ?_
          refine gz_lload C 1 dX3_late_85 rfl ?_
          refine gz_aload_n C 3 dX3_late_87 rfl ?_
          refine gz_get (ci := 4) C iwX3 0 rfl rfl 3 (by decide) wk_383 rfl rfl dX3_late_88 ?_
          refine gz_iload C 2 dX3_late_91 rfl ?_
          refine gz_lald C 2 1 rfl rfl (by omega) (by decide) dX3_late_93 ?_
          refine gz_J (ws2 := (wM h ad cI cJ cZ thr sn tkv opv shv ldv lim wyv bdv isr rn rdv fz icv exa fr fev eav rs rov)) (lv2 := [(5, .int (nI (u + 1))), (8, .long (ck + (wyv ((21 * he) + (rdv k))))), (7, .int (nI (rdv k))), (0, .ref h), (1, .int y), (2, .long ck), (4, .int (nI he)), (6, .int (nI k))]) (st2 := [.long ((if (opv (rdv k)) ≤ (ck + (wyv ((21 * he) + (rdv k)))) then ck + (wyv ((21 * he) + (rdv k))) else opv (rdv k)))]) (pc2 := 110) ?_ (fun J_5 => ?_)
          rotate_left
          · refine gz_lcmp_ge C 108 dX3_late_94 dX3_late_95 (by decide) (fun h_5 => ?_) (fun h_5 => ?_)
            · skip
              refine gz_lload C 1 dX3_late_108 rfl ?_
              simp only [if_pos h_5] at J_5 ⊢
              exact gz_lv [0, 1, 2, 3, 4, 5, 6, 7] rfl J_5
            · have g_5 : ¬ ((opv (rdv k)) ≤ (ck + (wyv ((21 * he) + (rdv k))))) := h_5
              refine gz_aload_n C 3 dX3_late_98 rfl ?_
              refine gz_get (ci := 4) C iwX3 0 rfl rfl 3 (by decide) wk_383 rfl rfl dX3_late_99 ?_
              refine gz_iload C 2 dX3_late_102 rfl ?_
              refine gz_lald C 2 1 rfl rfl (by omega) (by decide) dX3_late_104 ?_
              refine gz_goto C 110 dX3_late_105 (by decide) ?_
              simp only [if_neg g_5] at J_5 ⊢
              exact gz_lv [0, 1, 2, 3, 4, 5, 6, 7] rfl J_5
          refine gz_aload_n C 3 dX3_late_110 rfl ?_
          refine gz_get (ci := 4) C iwX3 0 rfl rfl 2 (by decide) wk_382 rfl rfl dX3_late_111 ?_
          refine gz_iload C 2 dX3_late_114 rfl ?_
          refine gz_lald C 1 1 rfl rfl (by omega) (by decide) dX3_late_116 ?_
          refine gz_ladd (v := ((if (opv (rdv k)) ≤ (ck + (wyv ((21 * he) + (rdv k)))) then ck + (wyv ((21 * he) + (rdv k))) else opv (rdv k))) + (tkv (rdv k))) C dX3_late_117 rfl ?_
          refine gz_lstore_n (lv2 := [(2, .long (((if (opv (rdv k)) ≤ (ck + (wyv ((21 * he) + (rdv k)))) then ck + (wyv ((21 * he) + (rdv k))) else opv (rdv k))) + (tkv (rdv k)))), (5, .int (nI (u + 1))), (8, .long (ck + (wyv ((21 * he) + (rdv k))))), (7, .int (nI (rdv k))), (0, .ref h), (1, .int y), (4, .int (nI he)), (6, .int (nI k))]) C dX3_late_118 (by decide) rfl ?_
          refine gz_iload C 3 dX3_late_119 rfl ?_
          refine gz_istore (lv2 := [(4, .int (nI (rdv k))), (2, .long (((if (opv (rdv k)) ≤ (ck + (wyv ((21 * he) + (rdv k)))) then ck + (wyv ((21 * he) + (rdv k))) else opv (rdv k))) + (tkv (rdv k)))), (5, .int (nI (u + 1))), (8, .long (ck + (wyv ((21 * he) + (rdv k))))), (7, .int (nI (rdv k))), (0, .ref h), (1, .int y), (6, .int (nI k))]) C dX3_late_121 (by decide) rfl ?_
          refine gz_iinc (v := nI (k + 1)) (lv2 := [(6, .int (nI (k + 1))), (4, .int (nI (rdv k))), (2, .long (((if (opv (rdv k)) ≤ (ck + (wyv ((21 * he) + (rdv k)))) then ck + (wyv ((21 * he) + (rdv k))) else opv (rdv k))) + (tkv (rdv k)))), (5, .int (nI (u + 1))), (8, .long (ck + (wyv ((21 * he) + (rdv k))))), (7, .int (nI (rdv k))), (0, .ref h), (1, .int y)]) (k := 7) C dX3_late_123 rfl (nI_add _ 1) (by decide) rfl ?_
          refine gz_goto C 25 dX3_late_126 (by decide) ?_
          refine gz_lv [6, 7, 2, 1, 3, 0] rfl ?_
          simp only [f3_late_lp, if_neg g_1, if_neg g_2, if_neg g_4] at hov
          exact ih (((if (opv (rdv k)) ≤ (ck + (wyv ((21 * he) + (rdv k)))) then ck + (wyv ((21 * he) + (rdv k))) else opv (rdv k))) + (tkv (rdv k))) (rdv k) (u + 1) (k + 1) (by omega) (by omega) hov
        · skip
          refine gz_iload C 1 dX3_late_79 rfl ?_
          exact gz_iret C hr hk (by rw [← hov]; first | rfl | (simp only [f3_late_lp, if_neg g_1, if_neg g_2, if_pos h_4])) rfl hcm hsm dX3_late_81

def f3_late (tkv : Nat → Int64) (opv : Nat → Int64) (shv : Nat → Int64) (wyv : Nat → Int64) (isr : Bool) (rn : Nat) (rdv : Nat → Nat) (y : Int32) : Int32 := (if isr = true then f3_late_lp tkv opv shv wyv rdv y rn 0 0 0 0 else nI 0)
def f3_late_thr (isr : Bool) : Int32 := (if isr = true then nI 0 else nI 0)
set_option maxRecDepth 100000 in
set_option maxHeartbeats 4000000 in
theorem kX3_late (l : Launch) (D : va_G) (h : Nat) (ad : Nat → Nat) (cI : ClassId) (cJ : ClassId) (cZ : ClassId) (thr : Int32) (sn : Nat) (tkv : Nat → Int64) (opv : Nat → Int64) (shv : Nat → Int64) (ldv : Nat → Int32) (lim : Int32) (wyv : Nat → Int64) (bdv : Nat → Bool) (isr : Bool) (rn : Nat) (rdv : Nat → Nat) (fz : Nat) (icv : Nat → Nat) (exa : Bool) (fr : Nat) (fev : Nat → Nat) (eav : Nat → Int64) (rs : Nat) (rov : Nat → Nat) (y : Int32) (hrn : rn ≤ 20) (hrd : ∀ k, k < rn → rdv k ≤ 20) : gz_M l yX3_late cX3_late 10 (some .int) ({ frames := 0, cells := 0, slots := 0, locals := 0 } : Room) D [(cI, .int), (cJ, .long), (cZ, .boolean)] [.ref h, .int y] (wM h ad cI cJ cZ thr sn tkv opv shv ldv lim wyv bdv isr rn rdv fz icv exa fr fev eav rs rov) (some (.int (f3_late tkv opv shv wyv isr rn rdv y))) (wM h ad cI cJ cZ (f3_late_thr isr) sn tkv opv shv ldv lim wyv bdv isr rn rdv fz icv exa fr fev eav rs rov) 0 0 := by
  refine gz_met l (by decide) (Nat.le_of_ble_eq_true rfl) [(0, .ref h), (1, .int y)] rfl ?_
  intro sz p e s m args below meth c C hr hk hnm
  have C : gz_C p s m args c cX3_late 10 RX3 D [(cI, .int), (cJ, .long), (cZ, .boolean)] (va_A (wM h ad cI cJ cZ thr sn tkv opv shv ldv lim wyv bdv isr rn rdv fz icv exa fr fev eav rs rov) sz) := C
  refine gz_aload_n C 0 dX3_late_0 rfl ?_
  refine gz_iconst (v := nI 0) C dX3_late_1 (by decide) ?_
  refine gz_put (ci := 4) (ws2 := (wM h ad cI cJ cZ (nI 0) sn tkv opv shv ldv lim wyv bdv isr rn rdv fz icv exa fr fev eav rs rov)) C iwX3 0 rfl rfl 0 (by decide) wk_380 rfl tyX3 tyX3_ok nmX3 rfl rfl rfl rfl (Nat.le_of_ble_eq_true rfl) rfl dX3_late_2 ?_
  refine gz_aload_n C 0 dX3_late_5 rfl ?_
  refine gz_get (ci := 4) C iwX3 0 rfl rfl 9 (by decide) wk_389 rfl rfl dX3_late_6 ?_
  refine gz_bif_ne C 14 dX3_late_9 (by decide) (fun h_1 => ?_) (fun h_1 => ?_)
  · skip
    refine gz_lconst (v := 0) C dX3_late_14 (by decide) ?_
    refine gz_lstore_n (lv2 := [(2, .long 0), (0, .ref h), (1, .int y)]) C dX3_late_15 (by decide) rfl ?_
    refine gz_iconst (v := nI 0) C dX3_late_16 (by decide) ?_
    refine gz_istore (lv2 := [(4, .int (nI 0)), (2, .long 0), (0, .ref h), (1, .int y)]) C dX3_late_17 (by decide) rfl ?_
    refine gz_iconst (v := nI 0) C dX3_late_19 (by decide) ?_
    refine gz_istore (lv2 := [(5, .int (nI 0)), (4, .int (nI 0)), (2, .long 0), (0, .ref h), (1, .int y)]) C dX3_late_20 (by decide) rfl ?_
    refine gz_iconst (v := nI 0) C dX3_late_22 (by decide) ?_
    refine gz_istore (lv2 := [(6, .int (nI 0)), (5, .int (nI 0)), (4, .int (nI 0)), (2, .long 0), (0, .ref h), (1, .int y)]) C dX3_late_23 (by decide) rfl ?_
    refine gz_lv (lv2 := [(0, .ref h), (1, .int y), (2, .long 0), (4, .int (nI 0)), (5, .int (nI 0)), (6, .int (nI 0))]) [4, 5, 3, 2, 1, 0] rfl ?_
    refine gz_end (ws2 := (wM h ad cI cJ cZ (nI 0) sn tkv opv shv ldv lim wyv bdv isr rn rdv fz icv exa fr fev eav rs rov)) (by first | rfl | (simp only [f3_late, f3_late_thr, if_pos h_1]) | (simp only [f3_late, f3_late_thr, if_pos h_1]; rfl)) ?_
    exact lX3_late_lp h ad cI cJ cZ (nI 0) sn tkv opv shv ldv lim wyv bdv isr rn rdv fz icv exa fr fev eav rs rov y (by first | assumption | omega) (by first | assumption | omega) C hr hk (Nat.le_refl _) (Nat.le_refl _) rn 0 0 0 0 (by omega) (by first | assumption | omega) (by first | rfl | (simp only [f3_late, f3_late_thr, if_pos h_1]) | (simp only [f3_late, f3_late_thr, if_pos h_1]; rfl))
  · have g_1 : ¬ (isr = true) := (by rw [h_1]; decide)
    refine gz_iconst (v := nI 0) C dX3_late_12 (by decide) ?_
    exact gz_iret C hr hk (by first | rfl | (simp only [f3_late, f3_late_thr, if_neg g_1]) | (simp only [f3_late, f3_late_thr, if_neg g_1]; rfl)) (by first | rfl | (simp only [f3_late, f3_late_thr, if_neg g_1]) | (simp only [f3_late, f3_late_thr, if_neg g_1]; rfl)) (Nat.le_refl _) (Nat.le_refl _) dX3_late_13

def f3_arc_lp (bdv : Nat → Bool) : Nat → Nat → Nat → Nat × Nat
  | 0, u, k => (u, k)
  | n + 1, u, k => f3_arc_lp bdv n ((if (bdv k) = true then u + 1 else u)) (k + 1)
set_option maxRecDepth 100000 in
set_option maxHeartbeats 4000000 in
theorem lX3_arc_lp {p : Program} {l : Launch} {e : Env} {R : Room} {s : State} {m : MethodId} {args : Array Value} {below : List Frame} {meth : Method} {c : Code} {cells slots : Nat} {Q : State → Prop} {A : Nat → Prop} {D : va_G} (h : Nat) (ad : Nat → Nat) (cI : ClassId) (cJ : ClassId) (cZ : ClassId) (thr : Int32) (sn : Nat) (tkv : Nat → Int64) (opv : Nat → Int64) (shv : Nat → Int64) (ldv : Nat → Int32) (lim : Int32) (wyv : Nat → Int64) (bdv : Nat → Bool) (isr : Bool) (rn : Nat) (rdv : Nat → Nat) (fz : Nat) (icv : Nat → Nat) (exa : Bool) (fr : Nat) (fev : Nat → Nat) (eav : Nat → Int64) (rs : Nat) (rov : Nat → Nat)  (C : gz_C p s m args c cX3_arc 6 RX3 D [(cI, .int), (cJ, .long), (cZ, .boolean)] A) : ∀ (n : Nat) (u : Nat) (k : Nat), (k + n = 441) → ((((f3_arc_lp bdv n u k).2) + 0 = 441) → GZ p l e R s m args below meth c 6 D A cells slots Q (wM h ad cI cJ cZ thr sn tkv opv shv ldv lim wyv bdv isr rn rdv fz icv exa fr fev eav rs rov) [(0, .ref h), (4, .int (nI ((f3_arc_lp bdv n u k).1))), (5, .int (nI ((f3_arc_lp bdv n u k).2)))] [] 107) → GZ p l e R s m args below meth c 6 D A cells slots Q (wM h ad cI cJ cZ thr sn tkv opv shv ldv lim wyv bdv isr rn rdv fz icv exa fr fev eav rs rov) [(0, .ref h), (4, .int (nI u)), (5, .int (nI k))] [] 72 := by
  intro n
  induction n with
  | zero =>
    intro u k hme  hx
    refine gz_iload C 2 dX3_arc_72 rfl ?_
    refine gz_sipush (v := nI 441) C dX3_arc_74 (by decide) ?_
    refine gz_ncmp_ge C 107 (by omega) (by omega) dX3_arc_77 (by decide) (fun h_1 => ?_) (fun h_1 => ?_)
    · skip
      exact gz_lv [0, 1, 2] rfl (hx hme )
    · have g_1 : ¬ (441 ≤ k) := (Nat.not_le.mpr h_1)
      exfalso; omega
  | succ n ih =>
    intro u k hme  hx
    refine gz_iload C 2 dX3_arc_72 rfl ?_
    refine gz_sipush (v := nI 441) C dX3_arc_74 (by decide) ?_
    refine gz_ncmp_ge C 107 (by omega) (by omega) dX3_arc_77 (by decide) (fun h_1 => ?_) (fun h_1 => ?_)
    · skip
      exfalso; omega
    · have g_1 : ¬ (441 ≤ k) := (Nat.not_le.mpr h_1)
      refine gz_aload_n C 0 dX3_arc_80 rfl ?_
      refine gz_get (ci := 4) C iwX3 0 rfl rfl 8 (by decide) wk_388 rfl rfl dX3_arc_81 ?_
      refine gz_iload C 2 dX3_arc_84 rfl ?_
      refine gz_zald C 6 2 rfl rfl (by omega) (by decide) dX3_arc_86 ?_
      refine gz_J (ws2 := (wM h ad cI cJ cZ thr sn tkv opv shv ldv lim wyv bdv isr rn rdv fz icv exa fr fev eav rs rov)) (lv2 := [(0, .ref h), (4, .int (nI u)), (5, .int (nI k))]) (st2 := [.int (nI ((if (bdv k) = true then u + 1 else u)))]) (pc2 := 99) ?_ (fun J_2 => ?_)
      rotate_left
      · refine gz_bif_eq C 97 dX3_arc_87 (by decide) (fun h_2 => ?_) (fun h_2 => ?_)
        · have g_2 : ¬ ((bdv k) = true) := (by rw [h_2]; decide)
          refine gz_iload C 1 dX3_arc_97 rfl ?_
          simp only [if_neg g_2] at J_2 ⊢
          exact gz_lv [0, 1, 2] rfl J_2
        · skip
          refine gz_iload C 1 dX3_arc_90 rfl ?_
          refine gz_iconst (v := nI 1) C dX3_arc_92 (by decide) ?_
          refine gz_iadd (v := nI (u + 1)) C dX3_arc_93 (nI_add _ _) ?_
          refine gz_goto C 99 dX3_arc_94 (by decide) ?_
          simp only [if_pos h_2] at J_2 ⊢
          exact gz_lv [0, 1, 2] rfl J_2
      refine gz_istore (lv2 := [(4, .int (nI ((if (bdv k) = true then u + 1 else u)))), (0, .ref h), (5, .int (nI k))]) C dX3_arc_99 (by decide) rfl ?_
      refine gz_iinc (v := nI (k + 1)) (lv2 := [(5, .int (nI (k + 1))), (4, .int (nI ((if (bdv k) = true then u + 1 else u)))), (0, .ref h)]) (k := 2) C dX3_arc_101 rfl (nI_add _ 1) (by decide) rfl ?_
      refine gz_goto C 72 dX3_arc_104 (by decide) ?_
      refine gz_lv [2, 1, 0] rfl ?_
      simp only [f3_arc_lp, if_neg g_1] at hx
      exact ih ((if (bdv k) = true then u + 1 else u)) (k + 1) (by omega)  hx

def f3_arc (sn : Nat) (bdv : Nat → Bool) (a : Int32) (b : Int32) (y : Int32) : Int32 := (if (f3_isPlace sn a) = true then (if (f3_isPlace sn b) = true then (if y < 0 then (-12) else (if (nI 1) < y then (-12) else (if (cl a) = (cl b) then (-12) else nI ((f3_arc_lp (va_up bdv ((21 * (cl a)) + (cl b)) ((if y = 0 then true else false))) 441 0 0).1)))) else (-11)) else (-11))
def f3_arc_thr (sn : Nat) (a : Int32) (b : Int32) (y : Int32) : Int32 := (if (f3_isPlace sn a) = true then (if (f3_isPlace sn b) = true then (if y < 0 then nI 0 else (if (nI 1) < y then nI 0 else (if (cl a) = (cl b) then nI 0 else nI 0))) else nI 0) else nI 0)
def f3_arc_bdv (sn : Nat) (bdv : Nat → Bool) (a : Int32) (b : Int32) (y : Int32) : Nat → Bool := (if (f3_isPlace sn a) = true then (if (f3_isPlace sn b) = true then (if y < 0 then bdv else (if (nI 1) < y then bdv else (if (cl a) = (cl b) then bdv else va_up bdv ((21 * (cl a)) + (cl b)) ((if y = 0 then true else false))))) else bdv) else bdv)
def f3_arc_exa (sn : Nat) (exa : Bool) (a : Int32) (b : Int32) (y : Int32) : Bool := (if (f3_isPlace sn a) = true then (if (f3_isPlace sn b) = true then (if y < 0 then exa else (if (nI 1) < y then exa else (if (cl a) = (cl b) then exa else false))) else exa) else exa)
set_option maxRecDepth 100000 in
set_option maxHeartbeats 4000000 in
theorem kX3_arc (l : Launch) (D : va_G) (h : Nat) (ad : Nat → Nat) (cI : ClassId) (cJ : ClassId) (cZ : ClassId) (thr : Int32) (sn : Nat) (tkv : Nat → Int64) (opv : Nat → Int64) (shv : Nat → Int64) (ldv : Nat → Int32) (lim : Int32) (wyv : Nat → Int64) (bdv : Nat → Bool) (isr : Bool) (rn : Nat) (rdv : Nat → Nat) (fz : Nat) (icv : Nat → Nat) (exa : Bool) (fr : Nat) (fev : Nat → Nat) (eav : Nat → Int64) (rs : Nat) (rov : Nat → Nat) (a : Int32) (b : Int32) (y : Int32) (hsn : sn ≤ 20) : gz_M l yX3_arc cX3_arc 6 (some .int) ({ frames := 1, cells := 0, slots := 0, locals := 21 } : Room) D [(cI, .int), (cJ, .long), (cZ, .boolean)] [.ref h, .int a, .int b, .int y] (wM h ad cI cJ cZ thr sn tkv opv shv ldv lim wyv bdv isr rn rdv fz icv exa fr fev eav rs rov) (some (.int (f3_arc sn bdv a b y))) (wM h ad cI cJ cZ (f3_arc_thr sn a b y) sn tkv opv shv ldv lim wyv (f3_arc_bdv sn bdv a b y) isr rn rdv fz icv (f3_arc_exa sn exa a b y) fr fev eav rs rov) 0 0 := by
  refine gz_met l (by decide) (Nat.le_of_ble_eq_true rfl) [(0, .ref h), (1, .int a), (2, .int b), (3, .int y)] rfl ?_
  intro sz p e s m args below meth c C hr hk hnm
  have C : gz_C p s m args c cX3_arc 6 RX3 D [(cI, .int), (cJ, .long), (cZ, .boolean)] (va_A (wM h ad cI cJ cZ thr sn tkv opv shv ldv lim wyv bdv isr rn rdv fz icv exa fr fev eav rs rov) sz) := C
  refine gz_aload_n C 0 dX3_arc_0 rfl ?_
  refine gz_iconst (v := nI 0) C dX3_arc_1 (by decide) ?_
  refine gz_put (ci := 4) (ws2 := (wM h ad cI cJ cZ (nI 0) sn tkv opv shv ldv lim wyv bdv isr rn rdv fz icv exa fr fev eav rs rov)) C iwX3 0 rfl rfl 0 (by decide) wk_380 rfl tyX3 tyX3_ok nmX3 rfl rfl rfl rfl (Nat.le_of_ble_eq_true rfl) rfl dX3_arc_2 ?_
  refine gz_aload_n C 0 dX3_arc_5 rfl ?_
  refine gz_iload_n C 1 dX3_arc_6 rfl ?_
  refine gz_callV (wr := []) (n := 1) (ws2 := (wM h ad cI cJ cZ (nI 0) sn tkv opv shv ldv lim wyv bdv isr rn rdv fz icv exa fr fev eav rs rov)) (st2 := [.int (bI (f3_isPlace sn a))]) (cells2 := 0) (slots2 := 0) (ci := 4) C (kX3_isPlace l D h ad cI cJ cZ (nI 0) sn tkv opv shv ldv lim wyv bdv isr rn rdv fz icv exa fr fev eav rs rov a (by first | assumption | omega)) (WB_V wk_451 wk_453 ws_16 wk_4 wk_454) (by decide +kernel) ⟨⟨rfl, rfl⟩, Nat.le_of_ble_eq_true rfl, Nat.le_of_ble_eq_true rfl⟩ [0, 1, 2, 3, 4, 5, 6, 7, 8, 9, 10, 11] [] [0, 1, 2] rfl rfl rfl (by decide) rfl 0 rfl rfl rfl rfl (Nat.le_of_ble_eq_true rfl) dX3_arc_7 ⟨Nat.zero_le _, Nat.zero_le _⟩ rfl rfl rfl ?_
  refine gz_bif_eq C 21 dX3_arc_10 (by decide) (fun h_1 => ?_) (fun h_1 => ?_)
  · have g_1 : ¬ ((f3_isPlace sn a) = true) := (by rw [h_1]; decide)
    refine gz_bipush (v := ((-11))) C dX3_arc_21 (by decide) ?_
    exact gz_iret C hr hk (by first | rfl | (simp only [f3_arc, f3_arc_thr, f3_arc_bdv, f3_arc_exa, if_neg g_1]) | (simp only [f3_arc, f3_arc_thr, f3_arc_bdv, f3_arc_exa, if_neg g_1]; rfl)) (by first | rfl | (simp only [f3_arc, f3_arc_thr, f3_arc_bdv, f3_arc_exa, if_neg g_1]) | (simp only [f3_arc, f3_arc_thr, f3_arc_bdv, f3_arc_exa, if_neg g_1]; rfl)) (Nat.le_refl _) (Nat.le_refl _) dX3_arc_23
  · skip
    obtain ⟨ha1, ha2⟩ := q3_place h_1 hsn
    refine gz_lve (lv2 := [(0, .ref h), (1, .int (nI (cl a))), (2, .int b), (3, .int y)]) (by rw [← ha1]) ?_
    refine gz_aload_n C 0 dX3_arc_13 rfl ?_
    refine gz_iload_n C 2 dX3_arc_14 rfl ?_
    refine gz_callV (wr := []) (n := 1) (ws2 := (wM h ad cI cJ cZ (nI 0) sn tkv opv shv ldv lim wyv bdv isr rn rdv fz icv exa fr fev eav rs rov)) (st2 := [.int (bI (f3_isPlace sn b))]) (cells2 := 0) (slots2 := 0) (ci := 4) C (kX3_isPlace l D h ad cI cJ cZ (nI 0) sn tkv opv shv ldv lim wyv bdv isr rn rdv fz icv exa fr fev eav rs rov b (by first | assumption | omega)) (WB_V wk_451 wk_453 ws_16 wk_4 wk_454) (by decide +kernel) ⟨⟨rfl, rfl⟩, Nat.le_of_ble_eq_true rfl, Nat.le_of_ble_eq_true rfl⟩ [0, 1, 2, 3, 4, 5, 6, 7, 8, 9, 10, 11] [] [0, 1, 2] rfl rfl rfl (by decide) rfl 0 rfl rfl rfl rfl (Nat.le_of_ble_eq_true rfl) dX3_arc_15 ⟨Nat.zero_le _, Nat.zero_le _⟩ rfl rfl rfl ?_
    refine gz_bif_ne C 24 dX3_arc_18 (by decide) (fun h_2 => ?_) (fun h_2 => ?_)
    · skip
      obtain ⟨hb1, hb2⟩ := q3_place h_2 hsn
      refine gz_lve (lv2 := [(0, .ref h), (1, .int (nI (cl a))), (2, .int (nI (cl b))), (3, .int y)]) (by rw [← hb1]) ?_
      refine gz_iload_n C 3 dX3_arc_24 rfl ?_
      refine gz_if_lt C 38 dX3_arc_25 (by decide) (fun h_3 => ?_) (fun h_3 => ?_)
      · skip
        refine gz_bipush (v := ((-12))) C dX3_arc_38 (by decide) ?_
        exact gz_iret C hr hk (by first | rfl | (simp only [f3_arc, f3_arc_thr, f3_arc_bdv, f3_arc_exa, if_pos h_1, if_pos h_2, if_pos h_3]) | (simp only [f3_arc, f3_arc_thr, f3_arc_bdv, f3_arc_exa, if_pos h_1, if_pos h_2, if_pos h_3]; rfl)) (by first | rfl | (simp only [f3_arc, f3_arc_thr, f3_arc_bdv, f3_arc_exa, if_pos h_1, if_pos h_2, if_pos h_3]) | (simp only [f3_arc, f3_arc_thr, f3_arc_bdv, f3_arc_exa, if_pos h_1, if_pos h_2, if_pos h_3]; rfl)) (Nat.le_refl _) (Nat.le_refl _) dX3_arc_40
      · have g_3 : ¬ (y < 0) := h_3
        refine gz_iload_n C 3 dX3_arc_28 rfl ?_
        refine gz_iconst (v := nI 1) C dX3_arc_29 (by decide) ?_
        refine gz_icmp_gt C 38 dX3_arc_30 (by decide) (fun h_4 => ?_) (fun h_4 => ?_)
        · skip
          refine gz_bipush (v := ((-12))) C dX3_arc_38 (by decide) ?_
          exact gz_iret C hr hk (by first | rfl | (simp only [f3_arc, f3_arc_thr, f3_arc_bdv, f3_arc_exa, if_pos h_1, if_pos h_2, if_neg g_3, if_pos h_4]) | (simp only [f3_arc, f3_arc_thr, f3_arc_bdv, f3_arc_exa, if_pos h_1, if_pos h_2, if_neg g_3, if_pos h_4]; rfl)) (by first | rfl | (simp only [f3_arc, f3_arc_thr, f3_arc_bdv, f3_arc_exa, if_pos h_1, if_pos h_2, if_neg g_3, if_pos h_4]) | (simp only [f3_arc, f3_arc_thr, f3_arc_bdv, f3_arc_exa, if_pos h_1, if_pos h_2, if_neg g_3, if_pos h_4]; rfl)) (Nat.le_refl _) (Nat.le_refl _) dX3_arc_40
        · have g_4 : ¬ ((nI 1) < y) := h_4
          refine gz_iload_n C 1 dX3_arc_33 rfl ?_
          refine gz_iload_n C 2 dX3_arc_34 rfl ?_
          refine gz_ncmp_ne C 41 (by omega) (by omega) dX3_arc_35 (by decide) (fun h_5 => ?_) (fun h_5 => ?_)
          · have g_5 : ¬ ((cl a) = (cl b)) := h_5
            refine gz_aload_n C 0 dX3_arc_41 rfl ?_
            refine gz_get (ci := 4) C iwX3 0 rfl rfl 8 (by decide) wk_388 rfl rfl dX3_arc_42 ?_
            refine gz_bipush (v := nI 21) C dX3_arc_45 (by decide) ?_
            refine gz_iload_n C 1 dX3_arc_47 rfl ?_
            refine gz_imul (v := nI (21 * (cl a))) C dX3_arc_48 (pk_mul _ _) ?_
            refine gz_iload_n C 2 dX3_arc_49 rfl ?_
            refine gz_iadd (v := nI ((21 * (cl a)) + (cl b))) C dX3_arc_50 (nI_add _ _) ?_
            refine gz_iload_n C 3 dX3_arc_51 rfl ?_
            refine gz_J (ws2 := (wM h ad cI cJ cZ (nI 0) sn tkv opv shv ldv lim wyv bdv isr rn rdv fz icv exa fr fev eav rs rov)) (lv2 := [(0, .ref h), (1, .int (nI (cl a))), (2, .int (nI (cl b))), (3, .int y)]) (st2 := [.int (nI ((if y = 0 then 1 else 0))), .int (nI ((21 * (cl a)) + (cl b))), .ref ((ad 8))]) (pc2 := 60) ?_ (fun J_6 => ?_)
            rotate_left
            · refine gz_if_ne C 59 dX3_arc_52 (by decide) (fun h_6 => ?_) (fun h_6 => ?_)
              · have g_6 : ¬ (y = 0) := h_6
                refine gz_iconst (v := nI 0) C dX3_arc_59 (by decide) ?_
                simp only [if_neg g_6] at J_6 ⊢
                exact gz_lv [0, 1, 2, 3] rfl J_6
              · skip
                refine gz_iconst (v := nI 1) C dX3_arc_55 (by decide) ?_
                refine gz_goto C 60 dX3_arc_56 (by decide) ?_
                simp only [if_pos h_6] at J_6 ⊢
                exact gz_lv [0, 1, 2, 3] rfl J_6
            refine gz_sw (v := .int (nI ((if y = 0 then 1 else 0)))) (w := .int (bI ((if y = 0 then true else false)))) (by rw [show nI ((if y = 0 then 1 else 0)) = bI ((if y = 0 then true else false)) from (by first | rfl | decide | ((repeat' split) <;> rfl))]) ?_
            refine gz_zast (ws2 := (wM h ad cI cJ cZ (nI 0) sn tkv opv shv ldv lim wyv (va_up bdv ((21 * (cl a)) + (cl b)) ((if y = 0 then true else false))) isr rn rdv fz icv exa fr fev eav rs rov)) C 6 2 rfl rfl (by omega) (by decide) rfl dX3_arc_60 ?_
            refine gz_aload_n C 0 dX3_arc_61 rfl ?_
            refine gz_iconst (v := nI 0) C dX3_arc_62 (by decide) ?_
            refine gz_sw (v := .int (nI 0)) (w := .int (bI false)) (by rw [show nI 0 = bI false from (by first | rfl | decide | ((repeat' split) <;> rfl))]) ?_
            refine gz_put (ci := 4) (ws2 := (wM h ad cI cJ cZ (nI 0) sn tkv opv shv ldv lim wyv (va_up bdv ((21 * (cl a)) + (cl b)) ((if y = 0 then true else false))) isr rn rdv fz icv false fr fev eav rs rov)) C iwX3 0 rfl rfl 14 (by decide) wk_394 rfl tyX3 tyX3_ok nmX3 rfl rfl (bI_nar _) (bI_fit _) (Nat.le_of_ble_eq_true rfl) rfl dX3_arc_63 ?_
            refine gz_iconst (v := nI 0) C dX3_arc_66 (by decide) ?_
            refine gz_istore (lv2 := [(4, .int (nI 0)), (0, .ref h), (1, .int (nI (cl a))), (2, .int (nI (cl b))), (3, .int y)]) C dX3_arc_67 (by decide) rfl ?_
            refine gz_iconst (v := nI 0) C dX3_arc_69 (by decide) ?_
            refine gz_istore (lv2 := [(5, .int (nI 0)), (4, .int (nI 0)), (0, .ref h), (1, .int (nI (cl a))), (2, .int (nI (cl b))), (3, .int y)]) C dX3_arc_70 (by decide) rfl ?_
            refine gz_lv (lv2 := [(0, .ref h), (4, .int (nI 0)), (5, .int (nI 0))]) [2, 1, 0] rfl ?_
            refine lX3_arc_lp h ad cI cJ cZ (nI 0) sn tkv opv shv ldv lim wyv (va_up bdv ((21 * (cl a)) + (cl b)) ((if y = 0 then true else false))) isr rn rdv fz icv false fr fev eav rs rov  C 441 0 0 (by omega)  ?_
            intro zme_lp
            refine gz_iload C 1 dX3_arc_107 rfl ?_
            exact gz_iret C hr hk (by first | rfl | (simp only [f3_arc, f3_arc_thr, f3_arc_bdv, f3_arc_exa, if_pos h_1, if_pos h_2, if_neg g_3, if_neg g_4, if_neg g_5]) | (simp only [f3_arc, f3_arc_thr, f3_arc_bdv, f3_arc_exa, if_pos h_1, if_pos h_2, if_neg g_3, if_neg g_4, if_neg g_5]; rfl)) (by first | rfl | (simp only [f3_arc, f3_arc_thr, f3_arc_bdv, f3_arc_exa, if_pos h_1, if_pos h_2, if_neg g_3, if_neg g_4, if_neg g_5]) | (simp only [f3_arc, f3_arc_thr, f3_arc_bdv, f3_arc_exa, if_pos h_1, if_pos h_2, if_neg g_3, if_neg g_4, if_neg g_5]; rfl)) (Nat.le_refl _) (Nat.le_refl _) dX3_arc_109
          · skip
            refine gz_bipush (v := ((-12))) C dX3_arc_38 (by decide) ?_
            exact gz_iret C hr hk (by first | rfl | (simp only [f3_arc, f3_arc_thr, f3_arc_bdv, f3_arc_exa, if_pos h_1, if_pos h_2, if_neg g_3, if_neg g_4, if_pos h_5]) | (simp only [f3_arc, f3_arc_thr, f3_arc_bdv, f3_arc_exa, if_pos h_1, if_pos h_2, if_neg g_3, if_neg g_4, if_pos h_5]; rfl)) (by first | rfl | (simp only [f3_arc, f3_arc_thr, f3_arc_bdv, f3_arc_exa, if_pos h_1, if_pos h_2, if_neg g_3, if_neg g_4, if_pos h_5]) | (simp only [f3_arc, f3_arc_thr, f3_arc_bdv, f3_arc_exa, if_pos h_1, if_pos h_2, if_neg g_3, if_neg g_4, if_pos h_5]; rfl)) (Nat.le_refl _) (Nat.le_refl _) dX3_arc_40
    · have g_2 : ¬ ((f3_isPlace sn b) = true) := (by rw [h_2]; decide)
      refine gz_bipush (v := ((-11))) C dX3_arc_21 (by decide) ?_
      exact gz_iret C hr hk (by first | rfl | (simp only [f3_arc, f3_arc_thr, f3_arc_bdv, f3_arc_exa, if_pos h_1, if_neg g_2]) | (simp only [f3_arc, f3_arc_thr, f3_arc_bdv, f3_arc_exa, if_pos h_1, if_neg g_2]; rfl)) (by first | rfl | (simp only [f3_arc, f3_arc_thr, f3_arc_bdv, f3_arc_exa, if_pos h_1, if_neg g_2]) | (simp only [f3_arc, f3_arc_thr, f3_arc_bdv, f3_arc_exa, if_pos h_1, if_neg g_2]; rfl)) (Nat.le_refl _) (Nat.le_refl _) dX3_arc_23

def f3_bound_lpa (wyv : Nat → Int64) (bdv : Nat → Bool) (b : Nat) : Nat → Int64 → Nat → Int64 × Nat
  | 0, le, a => (le, a)
  | n + 1, le, a => f3_bound_lpa wyv bdv b n ((if a = b then le else (if (bdv ((21 * a) + b)) = true then le else (if le ≤ (wyv ((21 * a) + b)) then le else wyv ((21 * a) + b))))) (a + 1)
set_option maxRecDepth 100000 in
set_option maxHeartbeats 4000000 in
theorem lX3_bound_lpa {p : Program} {l : Launch} {e : Env} {R : Room} {s : State} {m : MethodId} {args : Array Value} {below : List Frame} {meth : Method} {c : Code} {cells slots : Nat} {Q : State → Prop} {A : Nat → Prop} {D : va_G} (h : Nat) (ad : Nat → Nat) (cI : ClassId) (cJ : ClassId) (cZ : ClassId) (thr : Int32) (sn : Nat) (tkv : Nat → Int64) (opv : Nat → Int64) (shv : Nat → Int64) (ldv : Nat → Int32) (lim : Int32) (wyv : Nat → Int64) (bdv : Nat → Bool) (isr : Bool) (rn : Nat) (rdv : Nat → Nat) (fz : Nat) (icv : Nat → Nat) (exa : Bool) (fr : Nat) (fev : Nat → Nat) (eav : Nat → Int64) (rs : Nat) (rov : Nat → Nat) (su : Int64) (b : Nat) (hsn : sn ≤ 20) (hb : b ≤ 20) (C : gz_C p s m args c cX3_bound 7 RX3 D [(cI, .int), (cJ, .long), (cZ, .boolean)] A) : ∀ (n : Nat) (le : Int64) (a : Nat), (a + n = sn + 1) → ((((f3_bound_lpa wyv bdv b n le a).2) + 0 = sn + 1) → GZ p l e R s m args below meth c 7 D A cells slots Q (wM h ad cI cJ cZ thr sn tkv opv shv ldv lim wyv bdv isr rn rdv fz icv exa fr fev eav rs rov) [(0, .ref h), (1, .long su), (3, .int (nI b)), (4, .long ((f3_bound_lpa wyv bdv b n le a).1)), (6, .int (nI ((f3_bound_lpa wyv bdv b n le a).2)))] [] 102) → GZ p l e R s m args below meth c 7 D A cells slots Q (wM h ad cI cJ cZ thr sn tkv opv shv ldv lim wyv bdv isr rn rdv fz icv exa fr fev eav rs rov) [(0, .ref h), (1, .long su), (3, .int (nI b)), (4, .long le), (6, .int (nI a))] [] 34 := by
  intro n
  induction n with
  | zero =>
    intro le a hme  hx
    refine gz_iload C 4 dX3_bound_34 rfl ?_
    refine gz_aload_n C 0 dX3_bound_36 rfl ?_
    refine gz_get (ci := 4) C iwX3 0 rfl rfl 1 (by decide) wk_381 rfl rfl dX3_bound_37 ?_
    refine gz_ncmp_gt C 102 (by omega) (by omega) dX3_bound_40 (by decide) (fun h_1 => ?_) (fun h_1 => ?_)
    · skip
      exact gz_lv [0, 1, 2, 3, 4] rfl (hx hme )
    · have g_1 : ¬ (sn < a) := (Nat.not_lt.mpr h_1)
      exfalso; omega
  | succ n ih =>
    intro le a hme  hx
    refine gz_iload C 4 dX3_bound_34 rfl ?_
    refine gz_aload_n C 0 dX3_bound_36 rfl ?_
    refine gz_get (ci := 4) C iwX3 0 rfl rfl 1 (by decide) wk_381 rfl rfl dX3_bound_37 ?_
    refine gz_ncmp_gt C 102 (by omega) (by omega) dX3_bound_40 (by decide) (fun h_1 => ?_) (fun h_1 => ?_)
    · skip
      exfalso; omega
    · have g_1 : ¬ (sn < a) := (Nat.not_lt.mpr h_1)
      refine gz_iload C 4 dX3_bound_43 rfl ?_
      refine gz_iload_n C 2 dX3_bound_45 rfl ?_
      refine gz_J (ws2 := (wM h ad cI cJ cZ thr sn tkv opv shv ldv lim wyv bdv isr rn rdv fz icv exa fr fev eav rs rov)) (lv2 := [(0, .ref h), (1, .long su), (3, .int (nI b)), (4, .long ((if a = b then le else (if (bdv ((21 * a) + b)) = true then le else (if le ≤ (wyv ((21 * a) + b)) then le else wyv ((21 * a) + b)))))), (6, .int (nI a))]) (st2 := []) (pc2 := 96) ?_ (fun J_2 => ?_)
      rotate_left
      · refine gz_ncmp_eq C 96 (by omega) (by omega) dX3_bound_46 (by decide) (fun h_2 => ?_) (fun h_2 => ?_)
        · skip
          simp only [if_pos h_2] at J_2 ⊢
          exact gz_lv [0, 1, 2, 3, 4] rfl J_2
        · have g_2 : ¬ (a = b) := h_2
          refine gz_aload_n C 0 dX3_bound_49 rfl ?_
          refine gz_get (ci := 4) C iwX3 0 rfl rfl 8 (by decide) wk_388 rfl rfl dX3_bound_50 ?_
          refine gz_bipush (v := nI 21) C dX3_bound_53 (by decide) ?_
          refine gz_iload C 4 dX3_bound_55 rfl ?_
          refine gz_imul (v := nI (21 * a)) C dX3_bound_57 (pk_mul _ _) ?_
          refine gz_iload_n C 2 dX3_bound_58 rfl ?_
          refine gz_iadd (v := nI ((21 * a) + b)) C dX3_bound_59 (nI_add _ _) ?_
          refine gz_zald C 6 2 rfl rfl (by omega) (by decide) dX3_bound_60 ?_
          refine gz_J (ws2 := (wM h ad cI cJ cZ thr sn tkv opv shv ldv lim wyv bdv isr rn rdv fz icv exa fr fev eav rs rov)) (lv2 := [(0, .ref h), (1, .long su), (3, .int (nI b)), (4, .long ((if (bdv ((21 * a) + b)) = true then le else (if le ≤ (wyv ((21 * a) + b)) then le else wyv ((21 * a) + b))))), (6, .int (nI a))]) (st2 := []) (pc2 := 96) ?_ (fun J_3 => ?_)
          rotate_left
          · refine gz_bif_ne C 96 dX3_bound_61 (by decide) (fun h_3 => ?_) (fun h_3 => ?_)
            · skip
              simp only [if_pos h_3] at J_3 ⊢
              exact gz_lv [0, 1, 2, 3, 4] rfl J_3
            · have g_3 : ¬ ((bdv ((21 * a) + b)) = true) := (by rw [h_3]; decide)
              refine gz_aload_n C 0 dX3_bound_64 rfl ?_
              refine gz_get (ci := 4) C iwX3 0 rfl rfl 7 (by decide) wk_387 rfl rfl dX3_bound_65 ?_
              refine gz_bipush (v := nI 21) C dX3_bound_68 (by decide) ?_
              refine gz_iload C 4 dX3_bound_70 rfl ?_
              refine gz_imul (v := nI (21 * a)) C dX3_bound_72 (pk_mul _ _) ?_
              refine gz_iload_n C 2 dX3_bound_73 rfl ?_
              refine gz_iadd (v := nI ((21 * a) + b)) C dX3_bound_74 (nI_add _ _) ?_
              refine gz_lald C 5 1 rfl rfl (by omega) (by decide) dX3_bound_75 ?_
              refine gz_lload C 3 dX3_bound_76 rfl ?_
              refine gz_J (ws2 := (wM h ad cI cJ cZ thr sn tkv opv shv ldv lim wyv bdv isr rn rdv fz icv exa fr fev eav rs rov)) (lv2 := [(0, .ref h), (1, .long su), (3, .int (nI b)), (4, .long ((if le ≤ (wyv ((21 * a) + b)) then le else wyv ((21 * a) + b)))), (6, .int (nI a))]) (st2 := []) (pc2 := 96) ?_ (fun J_4 => ?_)
              rotate_left
              · refine gz_lcmp_ge C 96 dX3_bound_78 dX3_bound_79 (by decide) (fun h_4 => ?_) (fun h_4 => ?_)
                · skip
                  simp only [if_pos h_4] at J_4 ⊢
                  exact gz_lv [0, 1, 2, 3, 4] rfl J_4
                · have g_4 : ¬ (le ≤ (wyv ((21 * a) + b))) := h_4
                  refine gz_aload_n C 0 dX3_bound_82 rfl ?_
                  refine gz_get (ci := 4) C iwX3 0 rfl rfl 7 (by decide) wk_387 rfl rfl dX3_bound_83 ?_
                  refine gz_bipush (v := nI 21) C dX3_bound_86 (by decide) ?_
                  refine gz_iload C 4 dX3_bound_88 rfl ?_
                  refine gz_imul (v := nI (21 * a)) C dX3_bound_90 (pk_mul _ _) ?_
                  refine gz_iload_n C 2 dX3_bound_91 rfl ?_
                  refine gz_iadd (v := nI ((21 * a) + b)) C dX3_bound_92 (nI_add _ _) ?_
                  refine gz_lald C 5 1 rfl rfl (by omega) (by decide) dX3_bound_93 ?_
                  refine gz_lstore (lv2 := [(4, .long (wyv ((21 * a) + b))), (0, .ref h), (1, .long su), (3, .int (nI b)), (6, .int (nI a))]) C dX3_bound_94 (by decide) rfl ?_
                  simp only [if_neg g_4] at J_4 ⊢
                  exact gz_lv [1, 2, 3, 0, 4] rfl J_4
              simp only [if_neg g_3] at J_3 ⊢
              exact gz_lv [0, 1, 2, 3, 4] rfl J_3
          simp only [if_neg g_2] at J_2 ⊢
          exact gz_lv [0, 1, 2, 3, 4] rfl J_2
      refine gz_iinc (v := nI (a + 1)) (lv2 := [(6, .int (nI (a + 1))), (0, .ref h), (1, .long su), (3, .int (nI b)), (4, .long ((if a = b then le else (if (bdv ((21 * a) + b)) = true then le else (if le ≤ (wyv ((21 * a) + b)) then le else wyv ((21 * a) + b))))))]) (k := 4) C dX3_bound_96 rfl (nI_add _ 1) (by decide) rfl ?_
      refine gz_goto C 34 dX3_bound_99 (by decide) ?_
      refine gz_lv [1, 2, 3, 4, 0] rfl ?_
      simp only [f3_bound_lpa, if_neg g_1] at hx
      exact ih ((if a = b then le else (if (bdv ((21 * a) + b)) = true then le else (if le ≤ (wyv ((21 * a) + b)) then le else wyv ((21 * a) + b))))) (a + 1) (by omega)  hx

def f3_bound_lpb (sn : Nat) (tkv : Nat → Int64) (wyv : Nat → Int64) (bdv : Nat → Bool) : Nat → Int64 → Nat → Int64
  | 0, su, b => su
  | n + 1, su, b => if ((f3_bound_lpa wyv bdv b (sn + 1) 4000000000000000000 0).1) = 4000000000000000000 then (-1) else f3_bound_lpb sn tkv wyv bdv n ((su + ((f3_bound_lpa wyv bdv b (sn + 1) 4000000000000000000 0).1)) + (tkv b)) (b + 1)
set_option maxRecDepth 100000 in
set_option maxHeartbeats 4000000 in
theorem lX3_bound_lpb {p : Program} {l : Launch} {e : Env} {R : Room} {s : State} {m : MethodId} {args : Array Value} {below : List Frame} {meth : Method} {c : Code} {cells slots mc ms : Nat} {A : Nat → Prop} {ov : Option Value} {D : va_G} (h : Nat) (ad : Nat → Nat) (cI : ClassId) (cJ : ClassId) (cZ : ClassId) (thr : Int32) (sn : Nat) (tkv : Nat → Int64) (opv : Nat → Int64) (shv : Nat → Int64) (ldv : Nat → Int32) (lim : Int32) (wyv : Nat → Int64) (bdv : Nat → Bool) (isr : Bool) (rn : Nat) (rdv : Nat → Nat) (fz : Nat) (icv : Nat → Nat) (exa : Bool) (fr : Nat) (fev : Nat → Nat) (eav : Nat → Int64) (rs : Nat) (rov : Nat → Nat) (hsn : sn ≤ 20) (C : gz_C p s m args c cX3_bound 7 RX3 D [(cI, .int), (cJ, .long), (cZ, .boolean)] A) (hr : meth.sig.returnType = (some .long)) (hk : meth.locks = false) (hcm : cells ≤ mc) (hsm : slots ≤ ms) : ∀ (n : Nat) (su : Int64) (b : Nat), (b + n = sn + 1) → some (.long (f3_bound_lpb sn tkv wyv bdv n su b)) = ov → GZ p l e R s m args below meth c 7 D A cells slots (MQ below (gz_Q D [(cI, .int), (cJ, .long), (cZ, .boolean)] ov (wM h ad cI cJ cZ thr sn tkv opv shv ldv lim wyv bdv isr rn rdv fz icv exa fr fev eav rs rov) A) args s mc ms A) (wM h ad cI cJ cZ thr sn tkv opv shv ldv lim wyv bdv isr rn rdv fz icv exa fr fev eav rs rov) [(0, .ref h), (1, .long su), (3, .int (nI b))] [] 18 := by
  intro n
  induction n with
  | zero =>
    intro su b hme  hov
    refine gz_iload_n C 2 dX3_bound_18 rfl ?_
    refine gz_aload_n C 0 dX3_bound_19 rfl ?_
    refine gz_get (ci := 4) C iwX3 0 rfl rfl 1 (by decide) wk_381 rfl rfl dX3_bound_20 ?_
    refine gz_ncmp_gt C 133 (by omega) (by omega) dX3_bound_23 (by decide) (fun h_1 => ?_) (fun h_1 => ?_)
    · skip
      refine gz_lload_n C 1 dX3_bound_133 rfl ?_
      exact gz_lret C hr hk (by rw [← hov]; first | rfl | (simp only [f3_bound_lpb, if_pos h_1])) rfl hcm hsm dX3_bound_134
    · have g_1 : ¬ (sn < b) := (Nat.not_lt.mpr h_1)
      exfalso; omega
  | succ n ih =>
    intro su b hme  hov
    refine gz_iload_n C 2 dX3_bound_18 rfl ?_
    refine gz_aload_n C 0 dX3_bound_19 rfl ?_
    refine gz_get (ci := 4) C iwX3 0 rfl rfl 1 (by decide) wk_381 rfl rfl dX3_bound_20 ?_
    refine gz_ncmp_gt C 133 (by omega) (by omega) dX3_bound_23 (by decide) (fun h_1 => ?_) (fun h_1 => ?_)
    · skip
      exfalso; omega
    · have g_1 : ¬ (sn < b) := (Nat.not_lt.mpr h_1)
      refine gz_ldc2 (v := 4000000000000000000) C wk_489 dX3_bound_26 ?_
      refine gz_lstore (lv2 := [(4, .long 4000000000000000000), (0, .ref h), (1, .long su), (3, .int (nI b))]) C dX3_bound_29 (by decide) rfl ?_
      refine gz_iconst (v := nI 0) C dX3_bound_31 (by decide) ?_
      refine gz_istore (lv2 := [(6, .int (nI 0)), (4, .long 4000000000000000000), (0, .ref h), (1, .long su), (3, .int (nI b))]) C dX3_bound_32 (by decide) rfl ?_
      refine gz_lv (lv2 := [(0, .ref h), (1, .long su), (3, .int (nI b)), (4, .long 4000000000000000000), (6, .int (nI 0))]) [2, 3, 4, 1, 0] rfl ?_
      refine lX3_bound_lpa h ad cI cJ cZ thr sn tkv opv shv ldv lim wyv bdv isr rn rdv fz icv exa fr fev eav rs rov su b (by first | assumption | omega) (by first | assumption | omega) C (sn + 1) 4000000000000000000 0 (by omega)  ?_
      intro zme_lpa
      refine gz_lload C 3 dX3_bound_102 rfl ?_
      refine gz_ldc2 (v := 4000000000000000000) C wk_489 dX3_bound_104 ?_
      refine gz_lcmp_ne C 115 dX3_bound_107 dX3_bound_108 (by decide) (fun h_2 => ?_) (fun h_2 => ?_)
      · have g_2 : ¬ (((f3_bound_lpa wyv bdv b (sn + 1) 4000000000000000000 0).1) = 4000000000000000000) := h_2
        refine gz_lload_n C 1 dX3_bound_115 rfl ?_
        refine gz_lload C 3 dX3_bound_116 rfl ?_
        refine gz_ladd (v := su + ((f3_bound_lpa wyv bdv b (sn + 1) 4000000000000000000 0).1)) C dX3_bound_118 rfl ?_
        refine gz_aload_n C 0 dX3_bound_119 rfl ?_
        refine gz_get (ci := 4) C iwX3 0 rfl rfl 2 (by decide) wk_382 rfl rfl dX3_bound_120 ?_
        refine gz_iload_n C 2 dX3_bound_123 rfl ?_
        refine gz_lald C 1 1 rfl rfl (by omega) (by decide) dX3_bound_124 ?_
        refine gz_ladd (v := (su + ((f3_bound_lpa wyv bdv b (sn + 1) 4000000000000000000 0).1)) + (tkv b)) C dX3_bound_125 rfl ?_
        refine gz_lstore_n (lv2 := [(1, .long ((su + ((f3_bound_lpa wyv bdv b (sn + 1) 4000000000000000000 0).1)) + (tkv b))), (0, .ref h), (3, .int (nI b)), (4, .long ((f3_bound_lpa wyv bdv b (sn + 1) 4000000000000000000 0).1)), (6, .int (nI ((f3_bound_lpa wyv bdv b (sn + 1) 4000000000000000000 0).2)))]) C dX3_bound_126 (by decide) rfl ?_
        refine gz_iinc (v := nI (b + 1)) (lv2 := [(3, .int (nI (b + 1))), (1, .long ((su + ((f3_bound_lpa wyv bdv b (sn + 1) 4000000000000000000 0).1)) + (tkv b))), (0, .ref h), (4, .long ((f3_bound_lpa wyv bdv b (sn + 1) 4000000000000000000 0).1)), (6, .int (nI ((f3_bound_lpa wyv bdv b (sn + 1) 4000000000000000000 0).2)))]) (k := 2) C dX3_bound_127 rfl (nI_add _ 1) (by decide) rfl ?_
        refine gz_goto C 18 dX3_bound_130 (by decide) ?_
        refine gz_lv [2, 1, 0] rfl ?_
        simp only [f3_bound_lpb, if_neg g_1, if_neg g_2] at hov
        exact ih ((su + ((f3_bound_lpa wyv bdv b (sn + 1) 4000000000000000000 0).1)) + (tkv b)) (b + 1) (by omega)  hov
      · skip
        refine gz_ldc2 (v := (-1)) C wk_567 dX3_bound_111 ?_
        exact gz_lret C hr hk (by rw [← hov]; first | rfl | (simp only [f3_bound_lpb, if_neg g_1, if_pos h_2])) rfl hcm hsm dX3_bound_114

def f3_bound (sn : Nat) (tkv : Nat → Int64) (wyv : Nat → Int64) (bdv : Nat → Bool) : Int64 := (if sn = 0 then 0 else f3_bound_lpb sn tkv wyv bdv (sn + 1) 0 0)
def f3_bound_thr (sn : Nat) : Int32 := (if sn = 0 then nI 0 else nI 0)
set_option maxRecDepth 100000 in
set_option maxHeartbeats 4000000 in
theorem kX3_bound (l : Launch) (D : va_G) (h : Nat) (ad : Nat → Nat) (cI : ClassId) (cJ : ClassId) (cZ : ClassId) (thr : Int32) (sn : Nat) (tkv : Nat → Int64) (opv : Nat → Int64) (shv : Nat → Int64) (ldv : Nat → Int32) (lim : Int32) (wyv : Nat → Int64) (bdv : Nat → Bool) (isr : Bool) (rn : Nat) (rdv : Nat → Nat) (fz : Nat) (icv : Nat → Nat) (exa : Bool) (fr : Nat) (fev : Nat → Nat) (eav : Nat → Int64) (rs : Nat) (rov : Nat → Nat) (hsn : sn ≤ 20) : gz_M l yX3_bound cX3_bound 7 (some .long) ({ frames := 0, cells := 0, slots := 0, locals := 0 } : Room) D [(cI, .int), (cJ, .long), (cZ, .boolean)] [.ref h] (wM h ad cI cJ cZ thr sn tkv opv shv ldv lim wyv bdv isr rn rdv fz icv exa fr fev eav rs rov) (some (.long (f3_bound sn tkv wyv bdv))) (wM h ad cI cJ cZ (f3_bound_thr sn) sn tkv opv shv ldv lim wyv bdv isr rn rdv fz icv exa fr fev eav rs rov) 0 0 := by
  refine gz_met l (by decide) (Nat.le_of_ble_eq_true rfl) [(0, .ref h)] rfl ?_
  intro sz p e s m args below meth c C hr hk hnm
  have C : gz_C p s m args c cX3_bound 7 RX3 D [(cI, .int), (cJ, .long), (cZ, .boolean)] (va_A (wM h ad cI cJ cZ thr sn tkv opv shv ldv lim wyv bdv isr rn rdv fz icv exa fr fev eav rs rov) sz) := C
  refine gz_aload_n C 0 dX3_bound_0 rfl ?_
  refine gz_iconst (v := nI 0) C dX3_bound_1 (by decide) ?_
  refine gz_put (ci := 4) (ws2 := (wM h ad cI cJ cZ (nI 0) sn tkv opv shv ldv lim wyv bdv isr rn rdv fz icv exa fr fev eav rs rov)) C iwX3 0 rfl rfl 0 (by decide) wk_380 rfl tyX3 tyX3_ok nmX3 rfl rfl rfl rfl (Nat.le_of_ble_eq_true rfl) rfl dX3_bound_2 ?_
  refine gz_aload_n C 0 dX3_bound_5 rfl ?_
  refine gz_get (ci := 4) C iwX3 0 rfl rfl 1 (by decide) wk_381 rfl rfl dX3_bound_6 ?_
  refine gz_nif_ne C 14 (by omega) dX3_bound_9 (by decide) (fun h_1 => ?_) (fun h_1 => ?_)
  · have g_1 : ¬ (sn = 0) := h_1
    refine gz_lconst (v := 0) C dX3_bound_14 (by decide) ?_
    refine gz_lstore_n (lv2 := [(1, .long 0), (0, .ref h)]) C dX3_bound_15 (by decide) rfl ?_
    refine gz_iconst (v := nI 0) C dX3_bound_16 (by decide) ?_
    refine gz_istore_n (lv2 := [(3, .int (nI 0)), (1, .long 0), (0, .ref h)]) C dX3_bound_17 (by decide) rfl ?_
    refine gz_lv (lv2 := [(0, .ref h), (1, .long 0), (3, .int (nI 0))]) [2, 1, 0] rfl ?_
    refine gz_end (ws2 := (wM h ad cI cJ cZ (nI 0) sn tkv opv shv ldv lim wyv bdv isr rn rdv fz icv exa fr fev eav rs rov)) (by first | rfl | (simp only [f3_bound, f3_bound_thr, if_neg g_1]) | (simp only [f3_bound, f3_bound_thr, if_neg g_1]; rfl)) ?_
    exact lX3_bound_lpb h ad cI cJ cZ (nI 0) sn tkv opv shv ldv lim wyv bdv isr rn rdv fz icv exa fr fev eav rs rov (by first | assumption | omega) C hr hk (Nat.le_refl _) (Nat.le_refl _) (sn + 1) 0 0 (by omega)  (by first | rfl | (simp only [f3_bound, f3_bound_thr, if_neg g_1]) | (simp only [f3_bound, f3_bound_thr, if_neg g_1]; rfl))
  · skip
    refine gz_lconst (v := 0) C dX3_bound_12 (by decide) ?_
    exact gz_lret C hr hk (by first | rfl | (simp only [f3_bound, f3_bound_thr, if_pos h_1]) | (simp only [f3_bound, f3_bound_thr, if_pos h_1]; rfl)) (by first | rfl | (simp only [f3_bound, f3_bound_thr, if_pos h_1]) | (simp only [f3_bound, f3_bound_thr, if_pos h_1]; rfl)) (Nat.le_refl _) (Nat.le_refl _) dX3_bound_13

