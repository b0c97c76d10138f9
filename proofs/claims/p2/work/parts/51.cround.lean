theorem q2_ge {ln : Int32} {rl k : Nat} (h : ln = (-1) ∧ rl = 0 ∨ ln = nI rl) (hr : rl ≤ 20) (hk : k = rl) : ln ≤ nI k := by
  subst hk
  rcases h with ⟨h1, h2⟩ | h
  · subst h1; subst h2; decide
  · subst h; exact nI_le (Nat.le_refl _) (by omega)
theorem q2_lt {ln : Int32} {rl k : Nat} (h : ln = (-1) ∧ rl = 0 ∨ ln = nI rl) (hr : rl ≤ 20) (hk : k < rl) : ¬ ln ≤ nI k := by
  rcases h with ⟨h1, h2⟩ | h
  · omega
  · subst h; exact nI_ge hk (by omega)
theorem q2_ln {ln : Int32} {rl : Nat} (h : ln = (-1) ∧ rl = 0 ∨ ln = nI rl) (hr : rl ≤ 20) (hne : ¬ ln = (-1)) : ln = nI rl := by
  rcases h with ⟨h1, _⟩ | h
  · exact absurd h1 hne
  · exact h

def f2_placeOf_lp (rov : Nat → Nat) (x : Nat) : Nat → Nat → Int32
  | 0, k => (-1)
  | n + 1, k => if (rov k) = x then nI k else f2_placeOf_lp rov x n (k + 1)
set_option maxRecDepth 100000 in
set_option maxHeartbeats 4000000 in
theorem lX2_placeOf_lp {p : Program} {l : Launch} {e : Env} {R : Room} {s : State} {m : MethodId} {args : Array Value} {below : List Frame} {meth : Method} {c : Code} {cells slots mc ms : Nat} {A : Nat → Prop} {ov : Option Value} {D : va_G} (xo : Nat) (nt : Nat) (es : Nat) (ro : Nat) (ad : Nat → Nat) (cI : ClassId) (cJ : ClassId) (cZ : ClassId) (ln : Int32) (fz : Nat) (sx : Bool) (mo : Int32) (sn : Nat) (bw : Int32) (tkv : Nat → Int64) (opv : Nat → Int64) (shv : Nat → Int64) (ldv : Nat → Int32) (wyv : Nat → Int64) (bdv : Nat → Bool) (ct : Nat) (dA : Nat) (sta : Nat) (stc : Int64) (fev : Nat → Nat) (dl : Nat) (dnv : Nat → Int64) (rov : Nat → Nat) (x : Nat) (rl : Nat) (hln : ln = (-1) ∧ rl = 0 ∨ ln = nI rl) (hr20 : rl ≤ 20) (hro : ∀ k, k < rl → rov k ≤ 20) (hxx : x ≤ 20) (C : gz_C p s m args c cX2_placeOf 3 RX2 D [(cI, .int), (cJ, .long), (cZ, .boolean)] A) (hr : meth.sig.returnType = (some .int)) (hk : meth.locks = false) (hcm : cells ≤ mc) (hsm : slots ≤ ms) : ∀ (n : Nat) (k : Nat), (k + n = rl) → some (.int (f2_placeOf_lp rov x n k)) = ov → GZ p l e R s m args below meth c 3 D A cells slots (MQ below (gz_Q D [(cI, .int), (cJ, .long), (cZ, .boolean)] ov (wC xo nt es ro ad cI cJ cZ ln fz sx mo sn bw tkv opv shv ldv wyv bdv ct dA dA sta stc fev dl dnv rov) A) args s mc ms A) (wC xo nt es ro ad cI cJ cZ ln fz sx mo sn bw tkv opv shv ldv wyv bdv ct dA dA sta stc fev dl dnv rov) [(0, .ref xo), (1, .int (nI x)), (2, .int (nI k))] [] 2 := by
  intro n
  induction n with
  | zero =>
    intro k hme  hov
    refine gz_iload_n C 2 dX2_placeOf_2 rfl ?_
    refine gz_aload_n C 0 dX2_placeOf_3 rfl ?_
    refine gz_get (ci := 3) C iwX2 0 rfl rfl 3 (by decide) wk_82 rfl rfl dX2_placeOf_4 ?_
    refine gz_icmp_ge C 28 dX2_placeOf_7 (by decide) (fun h_1 => ?_) (fun h_1 => ?_)
    · skip
      refine gz_iconst (v := ((-1))) C dX2_placeOf_28 (by decide) ?_
      exact gz_iret C hr hk (by rw [← hov]; first | rfl | (simp only [f2_placeOf_lp, if_pos h_1])) rfl hcm hsm dX2_placeOf_29
    · have g_1 : ¬ (ln ≤ (nI k)) := h_1
      exact absurd (q2_ge hln hr20 (by omega)) g_1
  | succ n ih =>
    intro k hme  hov
    refine gz_iload_n C 2 dX2_placeOf_2 rfl ?_
    refine gz_aload_n C 0 dX2_placeOf_3 rfl ?_
    refine gz_get (ci := 3) C iwX2 0 rfl rfl 3 (by decide) wk_82 rfl rfl dX2_placeOf_4 ?_
    refine gz_icmp_ge C 28 dX2_placeOf_7 (by decide) (fun h_1 => ?_) (fun h_1 => ?_)
    · skip
      exact absurd h_1 (q2_lt hln hr20 (by omega))
    · have g_1 : ¬ (ln ≤ (nI k)) := h_1
      have hq := hro k (by omega)
      refine gz_aload_n C 0 dX2_placeOf_10 rfl ?_
      refine gz_get (ci := 3) C iwX2 0 rfl rfl 2 (by decide) wk_81 rfl rfl dX2_placeOf_11 ?_
      refine gz_iload_n C 2 dX2_placeOf_14 rfl ?_
      refine gz_iald C 11 0 rfl rfl (by omega) (by decide) dX2_placeOf_15 ?_
      refine gz_iload_n C 1 dX2_placeOf_16 rfl ?_
      refine gz_ncmp_ne C 22 (by omega) (by omega) dX2_placeOf_17 (by decide) (fun h_2 => ?_) (fun h_2 => ?_)
      · have g_2 : ¬ ((rov k) = x) := h_2
        refine gz_iinc (v := nI (k + 1)) (lv2 := [(2, .int (nI (k + 1))), (0, .ref xo), (1, .int (nI x))]) (k := 2) C dX2_placeOf_22 rfl (nI_add _ 1) (by decide) rfl ?_
        refine gz_goto C 2 dX2_placeOf_25 (by decide) ?_
        refine gz_lv [1, 2, 0] rfl ?_
        simp only [f2_placeOf_lp, if_neg g_1, if_neg g_2] at hov
        exact ih (k + 1) (by omega)  hov
      · skip
        refine gz_iload_n C 2 dX2_placeOf_20 rfl ?_
        exact gz_iret C hr hk (by rw [← hov]; first | rfl | (simp only [f2_placeOf_lp, if_neg g_1, if_pos h_2])) rfl hcm hsm dX2_placeOf_21

def f2_placeOf (rov : Nat → Nat) (x : Nat) (rl : Nat) : Int32 := f2_placeOf_lp rov x rl 0
set_option maxRecDepth 100000 in
set_option maxHeartbeats 4000000 in
theorem kX2_placeOf (l : Launch) (D : va_G) (xo : Nat) (nt : Nat) (es : Nat) (ro : Nat) (ad : Nat → Nat) (cI : ClassId) (cJ : ClassId) (cZ : ClassId) (ln : Int32) (fz : Nat) (sx : Bool) (mo : Int32) (sn : Nat) (bw : Int32) (tkv : Nat → Int64) (opv : Nat → Int64) (shv : Nat → Int64) (ldv : Nat → Int32) (wyv : Nat → Int64) (bdv : Nat → Bool) (ct : Nat) (dA : Nat) (sta : Nat) (stc : Int64) (fev : Nat → Nat) (dl : Nat) (dnv : Nat → Int64) (rov : Nat → Nat) (x : Nat) (rl : Nat) (hln : ln = (-1) ∧ rl = 0 ∨ ln = nI rl) (hr20 : rl ≤ 20) (hro : ∀ k, k < rl → rov k ≤ 20) (hxx : x ≤ 20) : gz_M l yX2_placeOf cX2_placeOf 3 (some .int) ({ frames := 0, cells := 0, slots := 0, locals := 0 } : Room) D [(cI, .int), (cJ, .long), (cZ, .boolean)] [.ref xo, .int (nI x)] (wC xo nt es ro ad cI cJ cZ ln fz sx mo sn bw tkv opv shv ldv wyv bdv ct dA dA sta stc fev dl dnv rov) (some (.int (f2_placeOf rov x rl))) (wC xo nt es ro ad cI cJ cZ ln fz sx mo sn bw tkv opv shv ldv wyv bdv ct dA dA sta stc fev dl dnv rov) 0 0 := by
  refine gz_met l (by decide) (Nat.le_of_ble_eq_true rfl) [(0, .ref xo), (1, .int (nI x))] rfl ?_
  intro sz p e s m args below meth c C hr hk hnm
  have C : gz_C p s m args c cX2_placeOf 3 RX2 D [(cI, .int), (cJ, .long), (cZ, .boolean)] (va_A (wC xo nt es ro ad cI cJ cZ ln fz sx mo sn bw tkv opv shv ldv wyv bdv ct dA dA sta stc fev dl dnv rov) sz) := C
  refine gz_iconst (v := nI 0) C dX2_placeOf_0 (by decide) ?_
  refine gz_istore_n (lv2 := [(2, .int (nI 0)), (0, .ref xo), (1, .int (nI x))]) C dX2_placeOf_1 (by decide) rfl ?_
  refine gz_lv (lv2 := [(0, .ref xo), (1, .int (nI x)), (2, .int (nI 0))]) [1, 2, 0] rfl ?_
  exact lX2_placeOf_lp xo nt es ro ad cI cJ cZ ln fz sx mo sn bw tkv opv shv ldv wyv bdv ct dA sta stc fev dl dnv rov x rl (by first | assumption | omega) (by first | assumption | omega) (by first | assumption | omega) (by first | assumption | omega) C hr hk (Nat.le_refl _) (Nat.le_refl _) rl 0 (by omega)  (by first | rfl | (simp only [f2_placeOf]) | (simp only [f2_placeOf]; rfl))

def f2_late (ln : Int32) (tkv : Nat → Int64) (opv : Nat → Int64) (shv : Nat → Int64) (wyv : Nat → Int64) (rov : Nat → Nat) (y : Int32) (rl : Nat) : Int32 := (if y < 0 then nI 0 else (if ln = (((-1))) then nI 0 else f1_lateStop tkv opv shv wyv rov rl y))
set_option maxRecDepth 100000 in
set_option maxHeartbeats 4000000 in
theorem kX2_late (l : Launch) (D : va_G) (xo : Nat) (nt : Nat) (es : Nat) (ro : Nat) (ad : Nat → Nat) (cI : ClassId) (cJ : ClassId) (cZ : ClassId) (ln : Int32) (fz : Nat) (sx : Bool) (mo : Int32) (sn : Nat) (bw : Int32) (tkv : Nat → Int64) (opv : Nat → Int64) (shv : Nat → Int64) (ldv : Nat → Int32) (wyv : Nat → Int64) (bdv : Nat → Bool) (ct : Nat) (dA : Nat) (sta : Nat) (stc : Int64) (fev : Nat → Nat) (dl : Nat) (dnv : Nat → Int64) (rov : Nat → Nat) (y : Int32) (rl : Nat) (hln : ln = (-1) ∧ rl = 0 ∨ ln = nI rl) (hr20 : rl ≤ 20) (hro : ∀ k, k < rl → rov k ≤ 20) : gz_M l yX2_late cX2_late 2 (some .int) ({ frames := 3, cells := 0, slots := 0, locals := 75 } : Room) D [(cI, .int), (cJ, .long), (cZ, .boolean)] [.ref xo, .int y] (wC xo nt es ro ad cI cJ cZ ln fz sx mo sn bw tkv opv shv ldv wyv bdv ct dA dA sta stc fev dl dnv rov) (some (.int (f2_late ln tkv opv shv wyv rov y rl))) (wC xo nt es ro ad cI cJ cZ ln fz sx mo sn bw tkv opv shv ldv wyv bdv ct dA dA sta stc fev dl dnv rov) 0 0 := by
  refine gz_met l (by decide) (Nat.le_of_ble_eq_true rfl) [(0, .ref xo), (1, .int y)] rfl ?_
  intro sz p e s m args below meth c C hr hk hnm
  have C : gz_C p s m args c cX2_late 2 RX2 D [(cI, .int), (cJ, .long), (cZ, .boolean)] (va_A (wC xo nt es ro ad cI cJ cZ ln fz sx mo sn bw tkv opv shv ldv wyv bdv ct dA dA sta stc fev dl dnv rov) sz) := C
  refine gz_iload_n C 1 dX2_late_0 rfl ?_
  refine gz_if_lt C 12 dX2_late_1 (by decide) (fun h_1 => ?_) (fun h_1 => ?_)
  · skip
    refine gz_iconst (v := nI 0) C dX2_late_12 (by decide) ?_
    refine gz_goto C 32 dX2_late_13 (by decide) ?_
    exact gz_iret C hr hk (by first | rfl | (simp only [f2_late, if_pos h_1]) | (simp only [f2_late, if_pos h_1]; rfl)) rfl (Nat.le_refl _) (Nat.le_refl _) dX2_late_32
  · have g_1 : ¬ (y < 0) := h_1
    refine gz_aload_n C 0 dX2_late_4 rfl ?_
    refine gz_get (ci := 3) C iwX2 0 rfl rfl 3 (by decide) wk_82 rfl rfl dX2_late_5 ?_
    refine gz_iconst (v := ((-1))) C dX2_late_8 (by decide) ?_
    refine gz_icmp_ne C 16 dX2_late_9 (by decide) (fun h_2 => ?_) (fun h_2 => ?_)
    · have g_2 : ¬ (ln = (((-1)))) := h_2
      have hln9 := q2_ln hln hr20 g_2
      refine gz_aload_n C 0 dX2_late_16 rfl ?_
      refine gz_get (ci := 3) C iwX2 0 rfl rfl 0 (by decide) wk_79 rfl rfl dX2_late_17 ?_
      refine gz_aload_n C 0 dX2_late_20 rfl ?_
      refine gz_get (ci := 3) C iwX2 0 rfl rfl 2 (by decide) wk_81 rfl rfl dX2_late_21 ?_
      refine gz_aload_n C 0 dX2_late_24 rfl ?_
      refine gz_get (ci := 3) C iwX2 0 rfl rfl 3 (by decide) wk_82 rfl rfl dX2_late_25 ?_
      refine gz_sw (v := .int ln) (w := .int (nI rl)) (by rw [hln9]) ?_
      refine gz_iload_n C 1 dX2_late_28 rfl ?_
      refine gz_callV (wr := []) (n := 3) (ws2 := (wC xo nt es ro ad cI cJ cZ ln fz sx mo sn bw tkv opv shv ldv wyv bdv ct dA dA sta stc fev dl dnv rov)) (st2 := [.int (f1_lateStop tkv opv shv wyv rov rl y)]) (cells2 := 0) (slots2 := 0) (ci := 2) C (kX1_lateStop l D xo nt es ro ad cI cJ cZ ln fz sx mo sn bw tkv opv shv ldv wyv bdv ct dA sta stc fev dl dnv rov rl y (by first | assumption | omega) (by first | assumption | omega)) (WB_V wk_248 wk_249 wk_250 wk_2 wk_251) (by decide +kernel) ⟨⟨rfl, rfl⟩, Nat.le_of_ble_eq_true rfl, Nat.le_of_ble_eq_true rfl⟩ [0, 1, 2, 3, 4, 5, 6, 7, 8, 9, 10, 11] [] [0, 1, 2] rfl rfl rfl (by decide) rfl 1 rfl rfl rfl rfl (Nat.le_of_ble_eq_true rfl) dX2_late_29 ⟨Nat.zero_le _, Nat.zero_le _⟩ rfl rfl rfl ?_
      exact gz_iret C hr hk (by first | rfl | (simp only [f2_late, if_neg g_1, if_neg g_2]) | (simp only [f2_late, if_neg g_1, if_neg g_2]; rfl)) rfl (Nat.le_refl _) (Nat.le_refl _) dX2_late_32
    · skip
      refine gz_iconst (v := nI 0) C dX2_late_12 (by decide) ?_
      refine gz_goto C 32 dX2_late_13 (by decide) ?_
      exact gz_iret C hr hk (by first | rfl | (simp only [f2_late, if_neg g_1, if_pos h_2]) | (simp only [f2_late, if_neg g_1, if_pos h_2]; rfl)) rfl (Nat.le_refl _) (Nat.le_refl _) dX2_late_32

def f2_freeze (ln : Int32) (y : Int32) : Int32 := (if y < 0 then (-11) else (if ln = (((-1))) then (-13) else (if y ≤ ln then nI (cl y) else (-11))))
def f2_freeze_fz (ln : Int32) (fz : Nat) (y : Int32) : Nat := (if y < 0 then fz else (if ln = (((-1))) then fz else (if y ≤ ln then cl y else fz)))
set_option maxRecDepth 100000 in
set_option maxHeartbeats 4000000 in
theorem kX2_freeze (l : Launch) (D : va_G) (xo : Nat) (nt : Nat) (es : Nat) (ro : Nat) (ad : Nat → Nat) (cI : ClassId) (cJ : ClassId) (cZ : ClassId) (ln : Int32) (fz : Nat) (sx : Bool) (mo : Int32) (sn : Nat) (bw : Int32) (tkv : Nat → Int64) (opv : Nat → Int64) (shv : Nat → Int64) (ldv : Nat → Int32) (wyv : Nat → Int64) (bdv : Nat → Bool) (ct : Nat) (dA : Nat) (sta : Nat) (stc : Int64) (fev : Nat → Nat) (dl : Nat) (dnv : Nat → Int64) (rov : Nat → Nat) (y : Int32) (rl : Nat) (hln : ln = (-1) ∧ rl = 0 ∨ ln = nI rl) (hr20 : rl ≤ 20) : gz_M l yX2_freeze cX2_freeze 2 (some .int) ({ frames := 0, cells := 0, slots := 0, locals := 0 } : Room) D [(cI, .int), (cJ, .long), (cZ, .boolean)] [.ref xo, .int y] (wC xo nt es ro ad cI cJ cZ ln fz sx mo sn bw tkv opv shv ldv wyv bdv ct dA dA sta stc fev dl dnv rov) (some (.int (f2_freeze ln y))) (wC xo nt es ro ad cI cJ cZ ln (f2_freeze_fz ln fz y) sx mo sn bw tkv opv shv ldv wyv bdv ct dA dA sta stc fev dl dnv rov) 0 0 := by
  refine gz_met l (by decide) (Nat.le_of_ble_eq_true rfl) [(0, .ref xo), (1, .int y)] rfl ?_
  intro sz p e s m args below meth c C hr hk hnm
  have C : gz_C p s m args c cX2_freeze 2 RX2 D [(cI, .int), (cJ, .long), (cZ, .boolean)] (va_A (wC xo nt es ro ad cI cJ cZ ln fz sx mo sn bw tkv opv shv ldv wyv bdv ct dA dA sta stc fev dl dnv rov) sz) := C
  refine gz_iload_n C 1 dX2_freeze_0 rfl ?_
  refine gz_if_lt C 20 dX2_freeze_1 (by decide) (fun h_1 => ?_) (fun h_1 => ?_)
  · skip
    refine gz_bipush (v := ((-11))) C dX2_freeze_20 (by decide) ?_
    exact gz_iret C hr hk (by first | rfl | (simp only [f2_freeze, f2_freeze_fz, if_pos h_1]) | (simp only [f2_freeze, f2_freeze_fz, if_pos h_1]; rfl)) (by first | rfl | (simp only [f2_freeze, f2_freeze_fz, if_pos h_1]) | (simp only [f2_freeze, f2_freeze_fz, if_pos h_1]; rfl)) (Nat.le_refl _) (Nat.le_refl _) dX2_freeze_22
  · have g_1 : ¬ (y < 0) := h_1
    refine gz_aload_n C 0 dX2_freeze_4 rfl ?_
    refine gz_get (ci := 3) C iwX2 0 rfl rfl 3 (by decide) wk_82 rfl rfl dX2_freeze_5 ?_
    refine gz_iconst (v := ((-1))) C dX2_freeze_8 (by decide) ?_
    refine gz_icmp_eq C 23 dX2_freeze_9 (by decide) (fun h_2 => ?_) (fun h_2 => ?_)
    · skip
      refine gz_aload_n C 0 dX2_freeze_23 rfl ?_
      refine gz_get (ci := 3) C iwX2 0 rfl rfl 3 (by decide) wk_82 rfl rfl dX2_freeze_24 ?_
      refine gz_iconst (v := ((-1))) C dX2_freeze_27 (by decide) ?_
      refine gz_icmp_ne C 34 dX2_freeze_28 (by decide) (fun z => absurd h_2 z) (fun _ => ?_)
      refine gz_bipush (v := ((-13))) C dX2_freeze_31 (by decide) ?_
      exact gz_iret C hr hk (by first | rfl | (simp only [f2_freeze, f2_freeze_fz, if_neg g_1, if_pos h_2]) | (simp only [f2_freeze, f2_freeze_fz, if_neg g_1, if_pos h_2]; rfl)) (by first | rfl | (simp only [f2_freeze, f2_freeze_fz, if_neg g_1, if_pos h_2]) | (simp only [f2_freeze, f2_freeze_fz, if_neg g_1, if_pos h_2]; rfl)) (Nat.le_refl _) (Nat.le_refl _) dX2_freeze_33
    · have g_2 : ¬ (ln = (((-1)))) := h_2
      refine gz_iload_n C 1 dX2_freeze_12 rfl ?_
      refine gz_aload_n C 0 dX2_freeze_13 rfl ?_
      refine gz_get (ci := 3) C iwX2 0 rfl rfl 3 (by decide) wk_82 rfl rfl dX2_freeze_14 ?_
      refine gz_icmp_le C 23 dX2_freeze_17 (by decide) (fun h_3 => ?_) (fun h_3 => ?_)
      · skip
        refine gz_aload_n C 0 dX2_freeze_23 rfl ?_
        refine gz_get (ci := 3) C iwX2 0 rfl rfl 3 (by decide) wk_82 rfl rfl dX2_freeze_24 ?_
        refine gz_iconst (v := ((-1))) C dX2_freeze_27 (by decide) ?_
        refine gz_icmp_ne C 34 dX2_freeze_28 (by decide) (fun _ => ?_) (fun z => absurd z g_2)
        have hln9 := q2_ln hln hr20 g_2
        have hc1 := cl_of g_1
        have hc2 : cl y ≤ rl := cl_lep g_1 (hln9 ▸ h_3) (by omega)
        refine gz_lve (lv2 := [(0, .ref xo), (1, .int (nI (cl y)))]) (by rw [← hc1]) ?_
        refine gz_aload_n C 0 dX2_freeze_34 rfl ?_
        refine gz_iload_n C 1 dX2_freeze_35 rfl ?_
        refine gz_put (ci := 3) (ws2 := (wC xo nt es ro ad cI cJ cZ ln (cl y) sx mo sn bw tkv opv shv ldv wyv bdv ct dA dA sta stc fev dl dnv rov)) C iwX2 0 rfl rfl 4 (by decide) wk_83 rfl tyX2 tyX2_ok nmX2 rfl rfl rfl rfl (Nat.le_of_ble_eq_true rfl) rfl dX2_freeze_36 ?_
        refine gz_iload_n C 1 dX2_freeze_39 rfl ?_
        exact gz_iret C hr hk (by first | rfl | (simp only [f2_freeze, f2_freeze_fz, if_neg g_1, if_neg g_2, if_pos h_3]) | (simp only [f2_freeze, f2_freeze_fz, if_neg g_1, if_neg g_2, if_pos h_3]; rfl)) (by first | rfl | (simp only [f2_freeze, f2_freeze_fz, if_neg g_1, if_neg g_2, if_pos h_3]) | (simp only [f2_freeze, f2_freeze_fz, if_neg g_1, if_neg g_2, if_pos h_3]; rfl)) (Nat.le_refl _) (Nat.le_refl _) dX2_freeze_40
      · have g_3 : ¬ (y ≤ ln) := h_3
        refine gz_bipush (v := ((-11))) C dX2_freeze_20 (by decide) ?_
        exact gz_iret C hr hk (by first | rfl | (simp only [f2_freeze, f2_freeze_fz, if_neg g_1, if_neg g_2, if_neg g_3]) | (simp only [f2_freeze, f2_freeze_fz, if_neg g_1, if_neg g_2, if_neg g_3]; rfl)) (by first | rfl | (simp only [f2_freeze, f2_freeze_fz, if_neg g_1, if_neg g_2, if_neg g_3]) | (simp only [f2_freeze, f2_freeze_fz, if_neg g_1, if_neg g_2, if_neg g_3]; rfl)) (Nat.le_refl _) (Nat.le_refl _) dX2_freeze_22

