def f2_at (rov : Nat → Nat) (k : Nat) : Int32 := nI (rov k)
set_option maxRecDepth 100000 in
set_option maxHeartbeats 4000000 in
theorem kX2_at (l : Launch) (D : va_G) (xo : Nat) (nt : Nat) (es : Nat) (ro : Nat) (ad : Nat → Nat) (cI : ClassId) (cJ : ClassId) (cZ : ClassId) (ln : Int32) (fz : Nat) (sx : Bool) (mo : Int32) (sn : Nat) (bw : Int32) (tkv : Nat → Int64) (opv : Nat → Int64) (shv : Nat → Int64) (ldv : Nat → Int32) (wyv : Nat → Int64) (bdv : Nat → Bool) (ct : Nat) (dA : Nat) (sta : Nat) (stc : Int64) (fev : Nat → Nat) (dl : Nat) (dnv : Nat → Int64) (rov : Nat → Nat) (k : Nat) (rl : Nat) (hln : ln = nI rl) (hr20 : rl ≤ 20) (hkr : k < rl) : gz_M l yX2_at cX2_at 2 (some .int) ({ frames := 0, cells := 0, slots := 0, locals := 0 } : Room) D [(cI, .int), (cJ, .long), (cZ, .boolean)] [.ref xo, .int (nI k)] (wC xo nt es ro ad cI cJ cZ ln fz sx mo sn bw tkv opv shv ldv wyv bdv ct dA dA sta stc fev dl dnv rov) (some (.int (f2_at rov k))) (wC xo nt es ro ad cI cJ cZ ln fz sx mo sn bw tkv opv shv ldv wyv bdv ct dA dA sta stc fev dl dnv rov) 0 0 := by
  refine gz_met l (by decide) (Nat.le_of_ble_eq_true rfl) [(0, .ref xo), (1, .int (nI k))] rfl ?_
  intro sz p e s m args below meth c C hr hk hnm
  have C : gz_C p s m args c cX2_at 2 RX2 D [(cI, .int), (cJ, .long), (cZ, .boolean)] (va_A (wC xo nt es ro ad cI cJ cZ ln fz sx mo sn bw tkv opv shv ldv wyv bdv ct dA dA sta stc fev dl dnv rov) sz) := C
  refine gz_iload_n C 1 dX2_at_0 rfl ?_
  refine gz_if_lt C 12 dX2_at_1 (by decide) (fun h_1 => absurd h_1 (nI_pos (by omega))) (fun _ => ?_)
  refine gz_iload_n C 1 dX2_at_4 rfl ?_
  refine gz_aload_n C 0 dX2_at_5 rfl ?_
  refine gz_get (ci := 3) C iwX2 0 rfl rfl 3 (by decide) wk_82 rfl rfl dX2_at_6 ?_
  refine gz_sw (v := .int ln) (w := .int (nI rl)) (by rw [hln]) ?_
  refine gz_ncmp_lt C 22 (by omega) (by omega) dX2_at_9 (by decide) (fun h_2 => ?_) (fun h_2 => ?_)
  · skip
    refine gz_aload_n C 0 dX2_at_22 rfl ?_
    refine gz_get (ci := 3) C iwX2 0 rfl rfl 2 (by decide) wk_81 rfl rfl dX2_at_23 ?_
    refine gz_iload_n C 1 dX2_at_26 rfl ?_
    refine gz_iald C 11 0 rfl rfl (by omega) (by decide) dX2_at_27 ?_
    exact gz_iret C hr hk (by first | rfl | (simp only [f2_at, if_pos h_2]) | (simp only [f2_at, if_pos h_2]; rfl)) rfl (Nat.le_refl _) (Nat.le_refl _) dX2_at_28
  · have g_2 : ¬ (k < rl) := (Nat.not_lt.mpr h_2)
    exfalso; omega

