def f3_allLoads_lp (ldv : Nat → Int32) : Nat → Int32 → Nat → Int32 × Nat
  | 0, u, k => (u, k)
  | n + 1, u, k => f3_allLoads_lp ldv n (u + ((ldv k))) (k + 1)
set_option maxRecDepth 100000 in
set_option maxHeartbeats 4000000 in
theorem lX3_allLoads_lp {p : Program} {l : Launch} {e : Env} {R : Room} {s : State} {m : MethodId} {args : Array Value} {below : List Frame} {meth : Method} {c : Code} {cells slots : Nat} {Q : State → Prop} {A : Nat → Prop} {D : va_G} (h : Nat) (ad : Nat → Nat) (cI : ClassId) (cJ : ClassId) (cZ : ClassId) (thr : Int32) (sn : Nat) (tkv : Nat → Int64) (opv : Nat → Int64) (shv : Nat → Int64) (ldv : Nat → Int32) (lim : Int32) (wyv : Nat → Int64) (bdv : Nat → Bool) (isr : Bool) (rn : Nat) (rdv : Nat → Nat) (fz : Nat) (icv : Nat → Nat) (exa : Bool) (fr : Nat) (fev : Nat → Nat) (eav : Nat → Int64) (rs : Nat) (rov : Nat → Nat)  (C : gz_C p s m args c cX3_allLoads 3 RX3 D [(cI, .int), (cJ, .long), (cZ, .boolean)] A) : ∀ (n : Nat) (u : Int32) (k : Nat), (k + n = 21) → ((((f3_allLoads_lp ldv n u k).2) + 0 = 21) → GZ p l e R s m args below meth c 3 D A cells slots Q (wM h ad cI cJ cZ thr sn tkv opv shv ldv lim wyv bdv isr rn rdv fz icv exa fr fev eav rs rov) [(0, .ref h), (1, .int ((f3_allLoads_lp ldv n u k).1)), (2, .int (nI ((f3_allLoads_lp ldv n u k).2)))] [] 25) → GZ p l e R s m args below meth c 3 D A cells slots Q (wM h ad cI cJ cZ thr sn tkv opv shv ldv lim wyv bdv isr rn rdv fz icv exa fr fev eav rs rov) [(0, .ref h), (1, .int u), (2, .int (nI k))] [] 4 := by
  intro n
  induction n with
  | zero =>
    intro u k hme  hx
    refine gz_iload_n C 2 dX3_allLoads_4 rfl ?_
    refine gz_bipush (v := nI 21) C dX3_allLoads_5 (by decide) ?_
    refine gz_ncmp_ge C 25 (by omega) (by omega) dX3_allLoads_7 (by decide) (fun h_1 => ?_) (fun h_1 => ?_)
    · skip
      exact gz_lv [0, 1, 2] rfl (hx hme )
    · have g_1 : ¬ (21 ≤ k) := (Nat.not_le.mpr h_1)
      exfalso; omega
  | succ n ih =>
    intro u k hme  hx
    refine gz_iload_n C 2 dX3_allLoads_4 rfl ?_
    refine gz_bipush (v := nI 21) C dX3_allLoads_5 (by decide) ?_
    refine gz_ncmp_ge C 25 (by omega) (by omega) dX3_allLoads_7 (by decide) (fun h_1 => ?_) (fun h_1 => ?_)
    · skip
      exfalso; omega
    · have g_1 : ¬ (21 ≤ k) := (Nat.not_le.mpr h_1)
      refine gz_iload_n C 1 dX3_allLoads_10 rfl ?_
      refine gz_aload_n C 0 dX3_allLoads_11 rfl ?_
      refine gz_get (ci := 4) C iwX3 0 rfl rfl 5 (by decide) wk_385 rfl rfl dX3_allLoads_12 ?_
      refine gz_iload_n C 2 dX3_allLoads_15 rfl ?_
      refine gz_ialdr C 4 0 rfl rfl (by omega) (by decide) dX3_allLoads_16 ?_
      refine gz_iadd (v := (u + ((ldv k)))) C dX3_allLoads_17 rfl ?_
      refine gz_istore_n (lv2 := [(1, .int (u + ((ldv k)))), (0, .ref h), (2, .int (nI k))]) C dX3_allLoads_18 (by decide) rfl ?_
      refine gz_iinc (v := nI (k + 1)) (lv2 := [(2, .int (nI (k + 1))), (1, .int (u + ((ldv k)))), (0, .ref h)]) (k := 2) C dX3_allLoads_19 rfl (nI_add _ 1) (by decide) rfl ?_
      refine gz_goto C 4 dX3_allLoads_22 (by decide) ?_
      refine gz_lv [2, 1, 0] rfl ?_
      simp only [f3_allLoads_lp, if_neg g_1] at hx
      exact ih (u + ((ldv k))) (k + 1) (by omega)  hx

def f3_allLoads (ldv : Nat → Int32) : Int32 := (f3_allLoads_lp ldv 20 (nI 0) 1).1
set_option maxRecDepth 100000 in
set_option maxHeartbeats 4000000 in
theorem kX3_allLoads (l : Launch) (D : va_G) (h : Nat) (ad : Nat → Nat) (cI : ClassId) (cJ : ClassId) (cZ : ClassId) (thr : Int32) (sn : Nat) (tkv : Nat → Int64) (opv : Nat → Int64) (shv : Nat → Int64) (ldv : Nat → Int32) (lim : Int32) (wyv : Nat → Int64) (bdv : Nat → Bool) (isr : Bool) (rn : Nat) (rdv : Nat → Nat) (fz : Nat) (icv : Nat → Nat) (exa : Bool) (fr : Nat) (fev : Nat → Nat) (eav : Nat → Int64) (rs : Nat) (rov : Nat → Nat)  : gz_M l yX3_allLoads cX3_allLoads 3 (some .int) ({ frames := 0, cells := 0, slots := 0, locals := 0 } : Room) D [(cI, .int), (cJ, .long), (cZ, .boolean)] [.ref h] (wM h ad cI cJ cZ thr sn tkv opv shv ldv lim wyv bdv isr rn rdv fz icv exa fr fev eav rs rov) (some (.int (f3_allLoads ldv))) (wM h ad cI cJ cZ thr sn tkv opv shv ldv lim wyv bdv isr rn rdv fz icv exa fr fev eav rs rov) 0 0 := by
  refine gz_met l (by decide) (Nat.le_of_ble_eq_true rfl) [(0, .ref h)] rfl ?_
  intro sz p e s m args below meth c C hr hk hnm
  have C : gz_C p s m args c cX3_allLoads 3 RX3 D [(cI, .int), (cJ, .long), (cZ, .boolean)] (va_A (wM h ad cI cJ cZ thr sn tkv opv shv ldv lim wyv bdv isr rn rdv fz icv exa fr fev eav rs rov) sz) := C
  refine gz_iconst (v := nI 0) C dX3_allLoads_0 (by decide) ?_
  refine gz_istore_n (lv2 := [(1, .int (nI 0)), (0, .ref h)]) C dX3_allLoads_1 (by decide) rfl ?_
  refine gz_iconst (v := nI 1) C dX3_allLoads_2 (by decide) ?_
  refine gz_istore_n (lv2 := [(2, .int (nI 1)), (1, .int (nI 0)), (0, .ref h)]) C dX3_allLoads_3 (by decide) rfl ?_
  refine gz_lv (lv2 := [(0, .ref h), (1, .int (nI 0)), (2, .int (nI 1))]) [2, 1, 0] rfl ?_
  refine lX3_allLoads_lp h ad cI cJ cZ thr sn tkv opv shv ldv lim wyv bdv isr rn rdv fz icv exa fr fev eav rs rov  C 20 (nI 0) 1 (by omega)  ?_
  intro zme_lp
  refine gz_iload_n C 1 dX3_allLoads_25 rfl ?_
  exact gz_iret C hr hk (by first | rfl | (simp only [f3_allLoads]) | (simp only [f3_allLoads]; rfl)) rfl (Nat.le_refl _) (Nat.le_refl _) dX3_allLoads_26

def f3_load (sn : Nat) (ldv : Nat → Int32) (x : Int32) (y : Int32) : Int32 := (if (f3_isStop sn x) = true then (if y < 0 then (-12) else (if y ≤ (nI 1000) then f3_allLoads (va_up ldv (cl x) y) else (-12))) else (-11))
def f3_load_thr (sn : Nat) (x : Int32) (y : Int32) : Int32 := (if (f3_isStop sn x) = true then (if y < 0 then nI 0 else (if y ≤ (nI 1000) then nI 0 else nI 0)) else nI 0)
def f3_load_ldv (sn : Nat) (ldv : Nat → Int32) (x : Int32) (y : Int32) : Nat → Int32 := (if (f3_isStop sn x) = true then (if y < 0 then ldv else (if y ≤ (nI 1000) then va_up ldv (cl x) y else ldv)) else ldv)
set_option maxRecDepth 100000 in
set_option maxHeartbeats 4000000 in
theorem kX3_load (l : Launch) (D : va_G) (h : Nat) (ad : Nat → Nat) (cI : ClassId) (cJ : ClassId) (cZ : ClassId) (thr : Int32) (sn : Nat) (tkv : Nat → Int64) (opv : Nat → Int64) (shv : Nat → Int64) (ldv : Nat → Int32) (lim : Int32) (wyv : Nat → Int64) (bdv : Nat → Bool) (isr : Bool) (rn : Nat) (rdv : Nat → Nat) (fz : Nat) (icv : Nat → Nat) (exa : Bool) (fr : Nat) (fev : Nat → Nat) (eav : Nat → Int64) (rs : Nat) (rov : Nat → Nat) (x : Int32) (y : Int32) (hsn : sn ≤ 20) : gz_M l yX3_load cX3_load 3 (some .int) ({ frames := 1, cells := 0, slots := 0, locals := 22 } : Room) D [(cI, .int), (cJ, .long), (cZ, .boolean)] [.ref h, .int x, .int y] (wM h ad cI cJ cZ thr sn tkv opv shv ldv lim wyv bdv isr rn rdv fz icv exa fr fev eav rs rov) (some (.int (f3_load sn ldv x y))) (wM h ad cI cJ cZ (f3_load_thr sn x y) sn tkv opv shv (f3_load_ldv sn ldv x y) lim wyv bdv isr rn rdv fz icv exa fr fev eav rs rov) 0 0 := by
  refine gz_met l (by decide) (Nat.le_of_ble_eq_true rfl) [(0, .ref h), (1, .int x), (2, .int y)] rfl ?_
  intro sz p e s m args below meth c C hr hk hnm
  have C : gz_C p s m args c cX3_load 3 RX3 D [(cI, .int), (cJ, .long), (cZ, .boolean)] (va_A (wM h ad cI cJ cZ thr sn tkv opv shv ldv lim wyv bdv isr rn rdv fz icv exa fr fev eav rs rov) sz) := C
  refine gz_aload_n C 0 dX3_load_0 rfl ?_
  refine gz_iconst (v := nI 0) C dX3_load_1 (by decide) ?_
  refine gz_put (ci := 4) (ws2 := (wM h ad cI cJ cZ (nI 0) sn tkv opv shv ldv lim wyv bdv isr rn rdv fz icv exa fr fev eav rs rov)) C iwX3 0 rfl rfl 0 (by decide) wk_380 rfl tyX3 tyX3_ok nmX3 rfl rfl rfl rfl (Nat.le_of_ble_eq_true rfl) rfl dX3_load_2 ?_
  refine gz_aload_n C 0 dX3_load_5 rfl ?_
  refine gz_iload_n C 1 dX3_load_6 rfl ?_
  refine gz_callV (wr := []) (n := 1) (ws2 := (wM h ad cI cJ cZ (nI 0) sn tkv opv shv ldv lim wyv bdv isr rn rdv fz icv exa fr fev eav rs rov)) (st2 := [.int (bI (f3_isStop sn x))]) (cells2 := 0) (slots2 := 0) (ci := 4) C (kX3_isStop l D h ad cI cJ cZ (nI 0) sn tkv opv shv ldv lim wyv bdv isr rn rdv fz icv exa fr fev eav rs rov x (by first | assumption | omega)) (WB_V wk_459 wk_461 ws_17 wk_4 wk_462) (by decide +kernel) ⟨⟨rfl, rfl⟩, Nat.le_of_ble_eq_true rfl, Nat.le_of_ble_eq_true rfl⟩ [0, 1, 2, 3, 4, 5, 6, 7, 8, 9, 10, 11] [] [0, 1, 2] rfl rfl rfl (by decide) rfl 0 rfl rfl rfl rfl (Nat.le_of_ble_eq_true rfl) dX3_load_7 ⟨Nat.zero_le _, Nat.zero_le _⟩ rfl rfl rfl ?_
  refine gz_bif_ne C 16 dX3_load_10 (by decide) (fun h_1 => ?_) (fun h_1 => ?_)
  · skip
    obtain ⟨hx1, hx2, hx3⟩ := q3_stop h_1 hsn
    refine gz_lve (lv2 := [(0, .ref h), (1, .int (nI (cl x))), (2, .int y)]) (by rw [← hx1]) ?_
    refine gz_iload_n C 2 dX3_load_16 rfl ?_
    refine gz_if_lt C 27 dX3_load_17 (by decide) (fun h_2 => ?_) (fun h_2 => ?_)
    · skip
      refine gz_bipush (v := ((-12))) C dX3_load_27 (by decide) ?_
      exact gz_iret C hr hk (by first | rfl | (simp only [f3_load, f3_load_thr, f3_load_ldv, if_pos h_1, if_pos h_2]) | (simp only [f3_load, f3_load_thr, f3_load_ldv, if_pos h_1, if_pos h_2]; rfl)) (by first | rfl | (simp only [f3_load, f3_load_thr, f3_load_ldv, if_pos h_1, if_pos h_2]) | (simp only [f3_load, f3_load_thr, f3_load_ldv, if_pos h_1, if_pos h_2]; rfl)) (Nat.le_refl _) (Nat.le_refl _) dX3_load_29
    · have g_2 : ¬ (y < 0) := h_2
      refine gz_iload_n C 2 dX3_load_20 rfl ?_
      refine gz_sipush (v := nI 1000) C dX3_load_21 (by decide) ?_
      refine gz_icmp_le C 30 dX3_load_24 (by decide) (fun h_3 => ?_) (fun h_3 => ?_)
      · skip
        refine gz_aload_n C 0 dX3_load_30 rfl ?_
        refine gz_get (ci := 4) C iwX3 0 rfl rfl 5 (by decide) wk_385 rfl rfl dX3_load_31 ?_
        refine gz_iload_n C 1 dX3_load_34 rfl ?_
        refine gz_iload_n C 2 dX3_load_35 rfl ?_
        refine gz_iastr (ws2 := (wM h ad cI cJ cZ (nI 0) sn tkv opv shv (va_up ldv (cl x) y) lim wyv bdv isr rn rdv fz icv exa fr fev eav rs rov)) C 4 0 rfl rfl (by omega) (by decide) rfl dX3_load_36 ?_
        refine gz_aload_n C 0 dX3_load_37 rfl ?_
        refine gz_callV (wr := []) (n := 0) (ws2 := (wM h ad cI cJ cZ (nI 0) sn tkv opv shv (va_up ldv (cl x) y) lim wyv bdv isr rn rdv fz icv exa fr fev eav rs rov)) (st2 := [.int (f3_allLoads (va_up ldv (cl x) y))]) (cells2 := 0) (slots2 := 0) (ci := 4) C (kX3_allLoads l D h ad cI cJ cZ (nI 0) sn tkv opv shv (va_up ldv (cl x) y) lim wyv bdv isr rn rdv fz icv exa fr fev eav rs rov ) (WB_V wk_463 wk_465 ws_18 wk_4 wk_466) (by decide +kernel) ⟨⟨rfl, rfl⟩, Nat.le_of_ble_eq_true rfl, Nat.le_of_ble_eq_true rfl⟩ [0, 1, 2, 3, 4, 5, 6, 7, 8, 9, 10, 11] [] [0, 1, 2] rfl rfl rfl (by decide) rfl 0 rfl rfl rfl rfl (Nat.le_of_ble_eq_true rfl) dX3_load_38 ⟨Nat.zero_le _, Nat.zero_le _⟩ rfl rfl rfl ?_
        exact gz_iret C hr hk (by first | rfl | (simp only [f3_load, f3_load_thr, f3_load_ldv, if_pos h_1, if_neg g_2, if_pos h_3]) | (simp only [f3_load, f3_load_thr, f3_load_ldv, if_pos h_1, if_neg g_2, if_pos h_3]; rfl)) (by first | rfl | (simp only [f3_load, f3_load_thr, f3_load_ldv, if_pos h_1, if_neg g_2, if_pos h_3]) | (simp only [f3_load, f3_load_thr, f3_load_ldv, if_pos h_1, if_neg g_2, if_pos h_3]; rfl)) (Nat.le_refl _) (Nat.le_refl _) dX3_load_41
      · have g_3 : ¬ (y ≤ (nI 1000)) := h_3
        refine gz_bipush (v := ((-12))) C dX3_load_27 (by decide) ?_
        exact gz_iret C hr hk (by first | rfl | (simp only [f3_load, f3_load_thr, f3_load_ldv, if_pos h_1, if_neg g_2, if_neg g_3]) | (simp only [f3_load, f3_load_thr, f3_load_ldv, if_pos h_1, if_neg g_2, if_neg g_3]; rfl)) (by first | rfl | (simp only [f3_load, f3_load_thr, f3_load_ldv, if_pos h_1, if_neg g_2, if_neg g_3]) | (simp only [f3_load, f3_load_thr, f3_load_ldv, if_pos h_1, if_neg g_2, if_neg g_3]; rfl)) (Nat.le_refl _) (Nat.le_refl _) dX3_load_29
  · have g_1 : ¬ ((f3_isStop sn x) = true) := (by rw [h_1]; decide)
    refine gz_bipush (v := ((-11))) C dX3_load_13 (by decide) ?_
    exact gz_iret C hr hk (by first | rfl | (simp only [f3_load, f3_load_thr, f3_load_ldv, if_neg g_1]) | (simp only [f3_load, f3_load_thr, f3_load_ldv, if_neg g_1]; rfl)) (by first | rfl | (simp only [f3_load, f3_load_thr, f3_load_ldv, if_neg g_1]) | (simp only [f3_load, f3_load_thr, f3_load_ldv, if_neg g_1]; rfl)) (Nat.le_refl _) (Nat.le_refl _) dX3_load_15

