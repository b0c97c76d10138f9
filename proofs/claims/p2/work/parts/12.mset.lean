theorem q3_place {sn : Nat} {x : Int32} (h : f3_isPlace sn x = true) (hs : sn ≤ 20) : x = nI (cl x) ∧ cl x ≤ sn := by
  unfold f3_isPlace at h
  by_cases h0 : x < 0
  · rw [if_pos h0] at h; cases h
  · rw [if_neg h0] at h
    by_cases h1 : nI sn < x
    · rw [if_pos h1] at h; cases h
    · refine ⟨cl_of h0, ?_⟩
      have h2 := cl_of h0
      have h3 := cl_lt x h0
      rw [h2] at h1
      rw [nI_ltI (by omega) h3] at h1
      omega
theorem q3_stop {sn : Nat} {x : Int32} (h : f3_isStop sn x = true) (hs : sn ≤ 20) : x = nI (cl x) ∧ 1 ≤ cl x ∧ cl x ≤ sn := by
  unfold f3_isStop at h
  by_cases h0 : x ≤ 0
  · rw [if_pos h0] at h; cases h
  · rw [if_neg h0] at h
    by_cases h1 : nI sn < x
    · rw [if_pos h1] at h; cases h
    · have h4 : ¬ x < 0 := fun z => h0 (Int32.le_of_lt z)
      have h2 := cl_of h4
      have h3 := cl_lt x h4
      refine ⟨h2, ?_, ?_⟩
      · rw [h2, nI_le0 h3] at h0; omega
      · rw [h2] at h1
        rw [nI_ltI (by omega) h3] at h1
        omega

def f3_limit (n : Int32) : Int32 := (if (((-1))) ≤ n then nI ((if n = (((-1))) then 0 else 1)) else (-12))
def f3_limit_thr (n : Int32) : Int32 := (if (((-1))) ≤ n then nI 0 else nI 0)
def f3_limit_lim (lim : Int32) (n : Int32) : Int32 := (if (((-1))) ≤ n then n else lim)
set_option maxRecDepth 100000 in
set_option maxHeartbeats 4000000 in
theorem kX3_limit (l : Launch) (D : va_G) (h : Nat) (ad : Nat → Nat) (cI : ClassId) (cJ : ClassId) (cZ : ClassId) (thr : Int32) (sn : Nat) (tkv : Nat → Int64) (opv : Nat → Int64) (shv : Nat → Int64) (ldv : Nat → Int32) (lim : Int32) (wyv : Nat → Int64) (bdv : Nat → Bool) (isr : Bool) (rn : Nat) (rdv : Nat → Nat) (fz : Nat) (icv : Nat → Nat) (exa : Bool) (fr : Nat) (fev : Nat → Nat) (eav : Nat → Int64) (rs : Nat) (rov : Nat → Nat) (n : Int32)  : gz_M l yX3_limit cX3_limit 2 (some .int) ({ frames := 0, cells := 0, slots := 0, locals := 0 } : Room) D [(cI, .int), (cJ, .long), (cZ, .boolean)] [.ref h, .int n] (wM h ad cI cJ cZ thr sn tkv opv shv ldv lim wyv bdv isr rn rdv fz icv exa fr fev eav rs rov) (some (.int (f3_limit n))) (wM h ad cI cJ cZ (f3_limit_thr n) sn tkv opv shv ldv (f3_limit_lim lim n) wyv bdv isr rn rdv fz icv exa fr fev eav rs rov) 0 0 := by
  refine gz_met l (by decide) (Nat.le_of_ble_eq_true rfl) [(0, .ref h), (1, .int n)] rfl ?_
  intro sz p e s m args below meth c C hr hk hnm
  have C : gz_C p s m args c cX3_limit 2 RX3 D [(cI, .int), (cJ, .long), (cZ, .boolean)] (va_A (wM h ad cI cJ cZ thr sn tkv opv shv ldv lim wyv bdv isr rn rdv fz icv exa fr fev eav rs rov) sz) := C
  refine gz_aload_n C 0 dX3_limit_0 rfl ?_
  refine gz_iconst (v := nI 0) C dX3_limit_1 (by decide) ?_
  refine gz_put (ci := 4) (ws2 := (wM h ad cI cJ cZ (nI 0) sn tkv opv shv ldv lim wyv bdv isr rn rdv fz icv exa fr fev eav rs rov)) C iwX3 0 rfl rfl 0 (by decide) wk_380 rfl tyX3 tyX3_ok nmX3 rfl rfl rfl rfl (Nat.le_of_ble_eq_true rfl) rfl dX3_limit_2 ?_
  refine gz_iload_n C 1 dX3_limit_5 rfl ?_
  refine gz_iconst (v := ((-1))) C dX3_limit_6 (by decide) ?_
  refine gz_icmp_ge C 13 dX3_limit_7 (by decide) (fun h_1 => ?_) (fun h_1 => ?_)
  · skip
    refine gz_aload_n C 0 dX3_limit_13 rfl ?_
    refine gz_iload_n C 1 dX3_limit_14 rfl ?_
    refine gz_put (ci := 4) (ws2 := (wM h ad cI cJ cZ (nI 0) sn tkv opv shv ldv n wyv bdv isr rn rdv fz icv exa fr fev eav rs rov)) C iwX3 0 rfl rfl 6 (by decide) wk_386 rfl tyX3 tyX3_ok nmX3 rfl rfl rfl rfl (Nat.le_of_ble_eq_true rfl) rfl dX3_limit_15 ?_
    refine gz_iload_n C 1 dX3_limit_18 rfl ?_
    refine gz_iconst (v := ((-1))) C dX3_limit_19 (by decide) ?_
    refine gz_J (ws2 := (wM h ad cI cJ cZ (nI 0) sn tkv opv shv ldv n wyv bdv isr rn rdv fz icv exa fr fev eav rs rov)) (lv2 := [(0, .ref h), (1, .int n)]) (st2 := [.int (nI ((if n = (((-1))) then 0 else 1)))]) (pc2 := 28) ?_ (fun J_2 => ?_)
    rotate_left
    · refine gz_icmp_ne C 27 dX3_limit_20 (by decide) (fun h_2 => ?_) (fun h_2 => ?_)
      · have g_2 : ¬ (n = (((-1)))) := h_2
        refine gz_iconst (v := nI 1) C dX3_limit_27 (by decide) ?_
        simp only [if_neg g_2] at J_2 ⊢
        exact gz_lv [0, 1] rfl J_2
      · skip
        refine gz_iconst (v := nI 0) C dX3_limit_23 (by decide) ?_
        refine gz_goto C 28 dX3_limit_24 (by decide) ?_
        simp only [if_pos h_2] at J_2 ⊢
        exact gz_lv [0, 1] rfl J_2
    exact gz_iret C hr hk (by first | rfl | (simp only [f3_limit, f3_limit_thr, f3_limit_lim, if_pos h_1]) | (simp only [f3_limit, f3_limit_thr, f3_limit_lim, if_pos h_1]; rfl)) (by first | rfl | (simp only [f3_limit, f3_limit_thr, f3_limit_lim, if_pos h_1]) | (simp only [f3_limit, f3_limit_thr, f3_limit_lim, if_pos h_1]; rfl)) (Nat.le_refl _) (Nat.le_refl _) dX3_limit_28
  · have g_1 : ¬ ((((-1))) ≤ n) := h_1
    refine gz_bipush (v := ((-12))) C dX3_limit_10 (by decide) ?_
    exact gz_iret C hr hk (by first | rfl | (simp only [f3_limit, f3_limit_thr, f3_limit_lim, if_neg g_1]) | (simp only [f3_limit, f3_limit_thr, f3_limit_lim, if_neg g_1]; rfl)) (by first | rfl | (simp only [f3_limit, f3_limit_thr, f3_limit_lim, if_neg g_1]) | (simp only [f3_limit, f3_limit_thr, f3_limit_lim, if_neg g_1]; rfl)) (Nat.le_refl _) (Nat.le_refl _) dX3_limit_12

def f3_stop (sn : Nat) (ta : Int64) (tb : Int64) (tc : Int64) : Int32 := (if ta < 0 then (-12) else (if 100000 < ta then (-12) else (if tb < 0 then (-12) else (if tc < tb then (-12) else (if tc ≤ 1000000 then (if sn = 20 then (-14) else nI (sn + 1)) else (-12))))))
def f3_stop_thr (sn : Nat) (ta : Int64) (tb : Int64) (tc : Int64) : Int32 := (if ta < 0 then nI 0 else (if 100000 < ta then nI 0 else (if tb < 0 then nI 0 else (if tc < tb then nI 0 else (if tc ≤ 1000000 then (if sn = 20 then nI 0 else nI 0) else nI 0)))))
def f3_stop_sn (sn : Nat) (ta : Int64) (tb : Int64) (tc : Int64) : Nat := (if ta < 0 then sn else (if 100000 < ta then sn else (if tb < 0 then sn else (if tc < tb then sn else (if tc ≤ 1000000 then (if sn = 20 then sn else sn + 1) else sn)))))
def f3_stop_tkv (sn : Nat) (tkv : Nat → Int64) (ta : Int64) (tb : Int64) (tc : Int64) : Nat → Int64 := (if ta < 0 then tkv else (if 100000 < ta then tkv else (if tb < 0 then tkv else (if tc < tb then tkv else (if tc ≤ 1000000 then (if sn = 20 then tkv else va_up tkv (sn + 1) ta) else tkv)))))
def f3_stop_opv (sn : Nat) (opv : Nat → Int64) (ta : Int64) (tb : Int64) (tc : Int64) : Nat → Int64 := (if ta < 0 then opv else (if 100000 < ta then opv else (if tb < 0 then opv else (if tc < tb then opv else (if tc ≤ 1000000 then (if sn = 20 then opv else va_up opv (sn + 1) tb) else opv)))))
def f3_stop_shv (sn : Nat) (shv : Nat → Int64) (ta : Int64) (tb : Int64) (tc : Int64) : Nat → Int64 := (if ta < 0 then shv else (if 100000 < ta then shv else (if tb < 0 then shv else (if tc < tb then shv else (if tc ≤ 1000000 then (if sn = 20 then shv else va_up shv (sn + 1) tc) else shv)))))
def f3_stop_isr (sn : Nat) (isr : Bool) (ta : Int64) (tb : Int64) (tc : Int64) : Bool := (if ta < 0 then isr else (if 100000 < ta then isr else (if tb < 0 then isr else (if tc < tb then isr else (if tc ≤ 1000000 then (if sn = 20 then isr else false) else isr)))))
def f3_stop_exa (sn : Nat) (exa : Bool) (ta : Int64) (tb : Int64) (tc : Int64) : Bool := (if ta < 0 then exa else (if 100000 < ta then exa else (if tb < 0 then exa else (if tc < tb then exa else (if tc ≤ 1000000 then (if sn = 20 then exa else false) else exa)))))
set_option maxRecDepth 100000 in
set_option maxHeartbeats 4000000 in
theorem kX3_stop (l : Launch) (D : va_G) (h : Nat) (ad : Nat → Nat) (cI : ClassId) (cJ : ClassId) (cZ : ClassId) (thr : Int32) (sn : Nat) (tkv : Nat → Int64) (opv : Nat → Int64) (shv : Nat → Int64) (ldv : Nat → Int32) (lim : Int32) (wyv : Nat → Int64) (bdv : Nat → Bool) (isr : Bool) (rn : Nat) (rdv : Nat → Nat) (fz : Nat) (icv : Nat → Nat) (exa : Bool) (fr : Nat) (fev : Nat → Nat) (eav : Nat → Int64) (rs : Nat) (rov : Nat → Nat) (ta : Int64) (tb : Int64) (tc : Int64) (hsn : sn ≤ 20) : gz_M l yX3_stop cX3_stop 7 (some .int) ({ frames := 0, cells := 0, slots := 0, locals := 0 } : Room) D [(cI, .int), (cJ, .long), (cZ, .boolean)] [.ref h, .long ta, .long tb, .long tc] (wM h ad cI cJ cZ thr sn tkv opv shv ldv lim wyv bdv isr rn rdv fz icv exa fr fev eav rs rov) (some (.int (f3_stop sn ta tb tc))) (wM h ad cI cJ cZ (f3_stop_thr sn ta tb tc) (f3_stop_sn sn ta tb tc) (f3_stop_tkv sn tkv ta tb tc) (f3_stop_opv sn opv ta tb tc) (f3_stop_shv sn shv ta tb tc) ldv lim wyv bdv (f3_stop_isr sn isr ta tb tc) rn rdv fz icv (f3_stop_exa sn exa ta tb tc) fr fev eav rs rov) 0 0 := by
  refine gz_met l (by decide) (Nat.le_of_ble_eq_true rfl) [(0, .ref h), (1, .long ta), (3, .long tb), (5, .long tc)] rfl ?_
  intro sz p e s m args below meth c C hr hk hnm
  have C : gz_C p s m args c cX3_stop 7 RX3 D [(cI, .int), (cJ, .long), (cZ, .boolean)] (va_A (wM h ad cI cJ cZ thr sn tkv opv shv ldv lim wyv bdv isr rn rdv fz icv exa fr fev eav rs rov) sz) := C
  refine gz_aload_n C 0 dX3_stop_0 rfl ?_
  refine gz_iconst (v := nI 0) C dX3_stop_1 (by decide) ?_
  refine gz_put (ci := 4) (ws2 := (wM h ad cI cJ cZ (nI 0) sn tkv opv shv ldv lim wyv bdv isr rn rdv fz icv exa fr fev eav rs rov)) C iwX3 0 rfl rfl 0 (by decide) wk_380 rfl tyX3 tyX3_ok nmX3 rfl rfl rfl rfl (Nat.le_of_ble_eq_true rfl) rfl dX3_stop_2 ?_
  refine gz_lload_n C 1 dX3_stop_5 rfl ?_
  refine gz_lconst (v := 0) C dX3_stop_6 (by decide) ?_
  refine gz_lcmp_lt C 41 dX3_stop_7 dX3_stop_8 (by decide) (fun h_1 => ?_) (fun h_1 => ?_)
  · skip
    refine gz_bipush (v := ((-12))) C dX3_stop_41 (by decide) ?_
    exact gz_iret C hr hk (by first | rfl | (simp only [f3_stop, f3_stop_thr, f3_stop_sn, f3_stop_tkv, f3_stop_opv, f3_stop_shv, f3_stop_isr, f3_stop_exa, if_pos h_1]) | (simp only [f3_stop, f3_stop_thr, f3_stop_sn, f3_stop_tkv, f3_stop_opv, f3_stop_shv, f3_stop_isr, f3_stop_exa, if_pos h_1]; rfl)) (by first | rfl | (simp only [f3_stop, f3_stop_thr, f3_stop_sn, f3_stop_tkv, f3_stop_opv, f3_stop_shv, f3_stop_isr, f3_stop_exa, if_pos h_1]) | (simp only [f3_stop, f3_stop_thr, f3_stop_sn, f3_stop_tkv, f3_stop_opv, f3_stop_shv, f3_stop_isr, f3_stop_exa, if_pos h_1]; rfl)) (Nat.le_refl _) (Nat.le_refl _) dX3_stop_43
  · have g_1 : ¬ (ta < 0) := h_1
    refine gz_lload_n C 1 dX3_stop_11 rfl ?_
    refine gz_ldc2 (v := 100000) C wk_445 dX3_stop_12 ?_
    refine gz_lcmp_gt C 41 dX3_stop_15 dX3_stop_16 (by decide) (fun h_2 => ?_) (fun h_2 => ?_)
    · skip
      refine gz_bipush (v := ((-12))) C dX3_stop_41 (by decide) ?_
      exact gz_iret C hr hk (by first | rfl | (simp only [f3_stop, f3_stop_thr, f3_stop_sn, f3_stop_tkv, f3_stop_opv, f3_stop_shv, f3_stop_isr, f3_stop_exa, if_neg g_1, if_pos h_2]) | (simp only [f3_stop, f3_stop_thr, f3_stop_sn, f3_stop_tkv, f3_stop_opv, f3_stop_shv, f3_stop_isr, f3_stop_exa, if_neg g_1, if_pos h_2]; rfl)) (by first | rfl | (simp only [f3_stop, f3_stop_thr, f3_stop_sn, f3_stop_tkv, f3_stop_opv, f3_stop_shv, f3_stop_isr, f3_stop_exa, if_neg g_1, if_pos h_2]) | (simp only [f3_stop, f3_stop_thr, f3_stop_sn, f3_stop_tkv, f3_stop_opv, f3_stop_shv, f3_stop_isr, f3_stop_exa, if_neg g_1, if_pos h_2]; rfl)) (Nat.le_refl _) (Nat.le_refl _) dX3_stop_43
    · have g_2 : ¬ (100000 < ta) := h_2
      refine gz_lload_n C 2 dX3_stop_19 rfl ?_
      refine gz_lconst (v := 0) C dX3_stop_20 (by decide) ?_
      refine gz_lcmp_lt C 41 dX3_stop_21 dX3_stop_22 (by decide) (fun h_3 => ?_) (fun h_3 => ?_)
      · skip
        refine gz_bipush (v := ((-12))) C dX3_stop_41 (by decide) ?_
        exact gz_iret C hr hk (by first | rfl | (simp only [f3_stop, f3_stop_thr, f3_stop_sn, f3_stop_tkv, f3_stop_opv, f3_stop_shv, f3_stop_isr, f3_stop_exa, if_neg g_1, if_neg g_2, if_pos h_3]) | (simp only [f3_stop, f3_stop_thr, f3_stop_sn, f3_stop_tkv, f3_stop_opv, f3_stop_shv, f3_stop_isr, f3_stop_exa, if_neg g_1, if_neg g_2, if_pos h_3]; rfl)) (by first | rfl | (simp only [f3_stop, f3_stop_thr, f3_stop_sn, f3_stop_tkv, f3_stop_opv, f3_stop_shv, f3_stop_isr, f3_stop_exa, if_neg g_1, if_neg g_2, if_pos h_3]) | (simp only [f3_stop, f3_stop_thr, f3_stop_sn, f3_stop_tkv, f3_stop_opv, f3_stop_shv, f3_stop_isr, f3_stop_exa, if_neg g_1, if_neg g_2, if_pos h_3]; rfl)) (Nat.le_refl _) (Nat.le_refl _) dX3_stop_43
      · have g_3 : ¬ (tb < 0) := h_3
        refine gz_lload_n C 2 dX3_stop_25 rfl ?_
        refine gz_lload C 3 dX3_stop_26 rfl ?_
        refine gz_lcmp_gt C 41 dX3_stop_28 dX3_stop_29 (by decide) (fun h_4 => ?_) (fun h_4 => ?_)
        · skip
          refine gz_bipush (v := ((-12))) C dX3_stop_41 (by decide) ?_
          exact gz_iret C hr hk (by first | rfl | (simp only [f3_stop, f3_stop_thr, f3_stop_sn, f3_stop_tkv, f3_stop_opv, f3_stop_shv, f3_stop_isr, f3_stop_exa, if_neg g_1, if_neg g_2, if_neg g_3, if_pos h_4]) | (simp only [f3_stop, f3_stop_thr, f3_stop_sn, f3_stop_tkv, f3_stop_opv, f3_stop_shv, f3_stop_isr, f3_stop_exa, if_neg g_1, if_neg g_2, if_neg g_3, if_pos h_4]; rfl)) (by first | rfl | (simp only [f3_stop, f3_stop_thr, f3_stop_sn, f3_stop_tkv, f3_stop_opv, f3_stop_shv, f3_stop_isr, f3_stop_exa, if_neg g_1, if_neg g_2, if_neg g_3, if_pos h_4]) | (simp only [f3_stop, f3_stop_thr, f3_stop_sn, f3_stop_tkv, f3_stop_opv, f3_stop_shv, f3_stop_isr, f3_stop_exa, if_neg g_1, if_neg g_2, if_neg g_3, if_pos h_4]; rfl)) (Nat.le_refl _) (Nat.le_refl _) dX3_stop_43
        · have g_4 : ¬ (tc < tb) := h_4
          refine gz_lload C 3 dX3_stop_32 rfl ?_
          refine gz_ldc2 (v := 1000000) C wk_446 dX3_stop_34 ?_
          refine gz_lcmp_le C 44 dX3_stop_37 dX3_stop_38 (by decide) (fun h_5 => ?_) (fun h_5 => ?_)
          · skip
            refine gz_aload_n C 0 dX3_stop_44 rfl ?_
            refine gz_get (ci := 4) C iwX3 0 rfl rfl 1 (by decide) wk_381 rfl rfl dX3_stop_45 ?_
            refine gz_bipush (v := nI 20) C dX3_stop_48 (by decide) ?_
            refine gz_ncmp_ne C 56 (by omega) (by omega) dX3_stop_50 (by decide) (fun h_6 => ?_) (fun h_6 => ?_)
            · have g_6 : ¬ (sn = 20) := h_6
              refine gz_aload_n C 0 dX3_stop_56 rfl ?_
              refine gz_dup C dX3_stop_57 rfl ?_
              refine gz_get (ci := 4) C iwX3 0 rfl rfl 1 (by decide) wk_381 rfl rfl dX3_stop_58 ?_
              refine gz_iconst (v := nI 1) C dX3_stop_61 (by decide) ?_
              refine gz_iadd (v := nI (sn + 1)) C dX3_stop_62 (nI_add _ _) ?_
              refine gz_put (ci := 4) (ws2 := (wM h ad cI cJ cZ (nI 0) (sn + 1) tkv opv shv ldv lim wyv bdv isr rn rdv fz icv exa fr fev eav rs rov)) C iwX3 0 rfl rfl 1 (by decide) wk_381 rfl tyX3 tyX3_ok nmX3 rfl rfl rfl rfl (Nat.le_of_ble_eq_true rfl) rfl dX3_stop_63 ?_
              refine gz_aload_n C 0 dX3_stop_66 rfl ?_
              refine gz_get (ci := 4) C iwX3 0 rfl rfl 2 (by decide) wk_382 rfl rfl dX3_stop_67 ?_
              refine gz_aload_n C 0 dX3_stop_70 rfl ?_
              refine gz_get (ci := 4) C iwX3 0 rfl rfl 1 (by decide) wk_381 rfl rfl dX3_stop_71 ?_
              refine gz_lload_n C 1 dX3_stop_74 rfl ?_
              refine gz_last (ws2 := (wM h ad cI cJ cZ (nI 0) (sn + 1) (va_up tkv (sn + 1) ta) opv shv ldv lim wyv bdv isr rn rdv fz icv exa fr fev eav rs rov)) C 1 1 rfl rfl (by omega) (by decide) rfl dX3_stop_75 ?_
              refine gz_aload_n C 0 dX3_stop_76 rfl ?_
              refine gz_get (ci := 4) C iwX3 0 rfl rfl 3 (by decide) wk_383 rfl rfl dX3_stop_77 ?_
              refine gz_aload_n C 0 dX3_stop_80 rfl ?_
              refine gz_get (ci := 4) C iwX3 0 rfl rfl 1 (by decide) wk_381 rfl rfl dX3_stop_81 ?_
              refine gz_lload_n C 2 dX3_stop_84 rfl ?_
              refine gz_last (ws2 := (wM h ad cI cJ cZ (nI 0) (sn + 1) (va_up tkv (sn + 1) ta) (va_up opv (sn + 1) tb) shv ldv lim wyv bdv isr rn rdv fz icv exa fr fev eav rs rov)) C 2 1 rfl rfl (by omega) (by decide) rfl dX3_stop_85 ?_
              refine gz_aload_n C 0 dX3_stop_86 rfl ?_
              refine gz_get (ci := 4) C iwX3 0 rfl rfl 4 (by decide) wk_384 rfl rfl dX3_stop_87 ?_
              refine gz_aload_n C 0 dX3_stop_90 rfl ?_
              refine gz_get (ci := 4) C iwX3 0 rfl rfl 1 (by decide) wk_381 rfl rfl dX3_stop_91 ?_
              refine gz_lload C 3 dX3_stop_94 rfl ?_
              refine gz_last (ws2 := (wM h ad cI cJ cZ (nI 0) (sn + 1) (va_up tkv (sn + 1) ta) (va_up opv (sn + 1) tb) (va_up shv (sn + 1) tc) ldv lim wyv bdv isr rn rdv fz icv exa fr fev eav rs rov)) C 3 1 rfl rfl (by omega) (by decide) rfl dX3_stop_96 ?_
              refine gz_aload_n C 0 dX3_stop_97 rfl ?_
              refine gz_iconst (v := nI 0) C dX3_stop_98 (by decide) ?_
              refine gz_sw (v := .int (nI 0)) (w := .int (bI false)) (by rw [show nI 0 = bI false from (by first | rfl | decide | ((repeat' split) <;> rfl))]) ?_
              refine gz_put (ci := 4) (ws2 := (wM h ad cI cJ cZ (nI 0) (sn + 1) (va_up tkv (sn + 1) ta) (va_up opv (sn + 1) tb) (va_up shv (sn + 1) tc) ldv lim wyv bdv false rn rdv fz icv exa fr fev eav rs rov)) C iwX3 0 rfl rfl 9 (by decide) wk_389 rfl tyX3 tyX3_ok nmX3 rfl rfl (bI_nar _) (bI_fit _) (Nat.le_of_ble_eq_true rfl) rfl dX3_stop_99 ?_
              refine gz_aload_n C 0 dX3_stop_102 rfl ?_
              refine gz_iconst (v := nI 0) C dX3_stop_103 (by decide) ?_
              refine gz_sw (v := .int (nI 0)) (w := .int (bI false)) (by rw [show nI 0 = bI false from (by first | rfl | decide | ((repeat' split) <;> rfl))]) ?_
              refine gz_put (ci := 4) (ws2 := (wM h ad cI cJ cZ (nI 0) (sn + 1) (va_up tkv (sn + 1) ta) (va_up opv (sn + 1) tb) (va_up shv (sn + 1) tc) ldv lim wyv bdv false rn rdv fz icv false fr fev eav rs rov)) C iwX3 0 rfl rfl 14 (by decide) wk_394 rfl tyX3 tyX3_ok nmX3 rfl rfl (bI_nar _) (bI_fit _) (Nat.le_of_ble_eq_true rfl) rfl dX3_stop_104 ?_
              refine gz_aload_n C 0 dX3_stop_107 rfl ?_
              refine gz_get (ci := 4) C iwX3 0 rfl rfl 1 (by decide) wk_381 rfl rfl dX3_stop_108 ?_
              exact gz_iret C hr hk (by first | rfl | (simp only [f3_stop, f3_stop_thr, f3_stop_sn, f3_stop_tkv, f3_stop_opv, f3_stop_shv, f3_stop_isr, f3_stop_exa, if_neg g_1, if_neg g_2, if_neg g_3, if_neg g_4, if_pos h_5, if_neg g_6]) | (simp only [f3_stop, f3_stop_thr, f3_stop_sn, f3_stop_tkv, f3_stop_opv, f3_stop_shv, f3_stop_isr, f3_stop_exa, if_neg g_1, if_neg g_2, if_neg g_3, if_neg g_4, if_pos h_5, if_neg g_6]; rfl)) (by first | rfl | (simp only [f3_stop, f3_stop_thr, f3_stop_sn, f3_stop_tkv, f3_stop_opv, f3_stop_shv, f3_stop_isr, f3_stop_exa, if_neg g_1, if_neg g_2, if_neg g_3, if_neg g_4, if_pos h_5, if_neg g_6]) | (simp only [f3_stop, f3_stop_thr, f3_stop_sn, f3_stop_tkv, f3_stop_opv, f3_stop_shv, f3_stop_isr, f3_stop_exa, if_neg g_1, if_neg g_2, if_neg g_3, if_neg g_4, if_pos h_5, if_neg g_6]; rfl)) (Nat.le_refl _) (Nat.le_refl _) dX3_stop_111
            · skip
              refine gz_bipush (v := ((-14))) C dX3_stop_53 (by decide) ?_
              exact gz_iret C hr hk (by first | rfl | (simp only [f3_stop, f3_stop_thr, f3_stop_sn, f3_stop_tkv, f3_stop_opv, f3_stop_shv, f3_stop_isr, f3_stop_exa, if_neg g_1, if_neg g_2, if_neg g_3, if_neg g_4, if_pos h_5, if_pos h_6]) | (simp only [f3_stop, f3_stop_thr, f3_stop_sn, f3_stop_tkv, f3_stop_opv, f3_stop_shv, f3_stop_isr, f3_stop_exa, if_neg g_1, if_neg g_2, if_neg g_3, if_neg g_4, if_pos h_5, if_pos h_6]; rfl)) (by first | rfl | (simp only [f3_stop, f3_stop_thr, f3_stop_sn, f3_stop_tkv, f3_stop_opv, f3_stop_shv, f3_stop_isr, f3_stop_exa, if_neg g_1, if_neg g_2, if_neg g_3, if_neg g_4, if_pos h_5, if_pos h_6]) | (simp only [f3_stop, f3_stop_thr, f3_stop_sn, f3_stop_tkv, f3_stop_opv, f3_stop_shv, f3_stop_isr, f3_stop_exa, if_neg g_1, if_neg g_2, if_neg g_3, if_neg g_4, if_pos h_5, if_pos h_6]; rfl)) (Nat.le_refl _) (Nat.le_refl _) dX3_stop_55
          · have g_5 : ¬ (tc ≤ 1000000) := h_5
            refine gz_bipush (v := ((-12))) C dX3_stop_41 (by decide) ?_
            exact gz_iret C hr hk (by first | rfl | (simp only [f3_stop, f3_stop_thr, f3_stop_sn, f3_stop_tkv, f3_stop_opv, f3_stop_shv, f3_stop_isr, f3_stop_exa, if_neg g_1, if_neg g_2, if_neg g_3, if_neg g_4, if_neg g_5]) | (simp only [f3_stop, f3_stop_thr, f3_stop_sn, f3_stop_tkv, f3_stop_opv, f3_stop_shv, f3_stop_isr, f3_stop_exa, if_neg g_1, if_neg g_2, if_neg g_3, if_neg g_4, if_neg g_5]; rfl)) (by first | rfl | (simp only [f3_stop, f3_stop_thr, f3_stop_sn, f3_stop_tkv, f3_stop_opv, f3_stop_shv, f3_stop_isr, f3_stop_exa, if_neg g_1, if_neg g_2, if_neg g_3, if_neg g_4, if_neg g_5]) | (simp only [f3_stop, f3_stop_thr, f3_stop_sn, f3_stop_tkv, f3_stop_opv, f3_stop_shv, f3_stop_isr, f3_stop_exa, if_neg g_1, if_neg g_2, if_neg g_3, if_neg g_4, if_neg g_5]; rfl)) (Nat.le_refl _) (Nat.le_refl _) dX3_stop_43

def f3_way_thr (sn : Nat) (a : Int32) (b : Int32) (t : Int64) : Int32 := (if (f3_isPlace sn a) = true then (if (f3_isPlace sn b) = true then (if (cl a) = (cl b) then nI 0 else (if t < 0 then nI 0 else (if t ≤ 100000 then nI 0 else nI 0))) else nI 0) else nI 0)
def f3_way_wyv (sn : Nat) (wyv : Nat → Int64) (a : Int32) (b : Int32) (t : Int64) : Nat → Int64 := (if (f3_isPlace sn a) = true then (if (f3_isPlace sn b) = true then (if (cl a) = (cl b) then wyv else (if t < 0 then wyv else (if t ≤ 100000 then va_up wyv ((21 * (cl a)) + (cl b)) t else wyv))) else wyv) else wyv)
def f3_way_exa (sn : Nat) (exa : Bool) (a : Int32) (b : Int32) (t : Int64) : Bool := (if (f3_isPlace sn a) = true then (if (f3_isPlace sn b) = true then (if (cl a) = (cl b) then exa else (if t < 0 then exa else (if t ≤ 100000 then false else exa))) else exa) else exa)
set_option maxRecDepth 100000 in
set_option maxHeartbeats 4000000 in
theorem kX3_way (l : Launch) (D : va_G) (h : Nat) (ad : Nat → Nat) (cI : ClassId) (cJ : ClassId) (cZ : ClassId) (thr : Int32) (sn : Nat) (tkv : Nat → Int64) (opv : Nat → Int64) (shv : Nat → Int64) (ldv : Nat → Int32) (lim : Int32) (wyv : Nat → Int64) (bdv : Nat → Bool) (isr : Bool) (rn : Nat) (rdv : Nat → Nat) (fz : Nat) (icv : Nat → Nat) (exa : Bool) (fr : Nat) (fev : Nat → Nat) (eav : Nat → Int64) (rs : Nat) (rov : Nat → Nat) (a : Int32) (b : Int32) (t : Int64) (hsn : sn ≤ 20) : gz_M l yX3_way cX3_way 5 none ({ frames := 1, cells := 0, slots := 0, locals := 21 } : Room) D [(cI, .int), (cJ, .long), (cZ, .boolean)] [.ref h, .int a, .int b, .long t] (wM h ad cI cJ cZ thr sn tkv opv shv ldv lim wyv bdv isr rn rdv fz icv exa fr fev eav rs rov) (none) (wM h ad cI cJ cZ (f3_way_thr sn a b t) sn tkv opv shv ldv lim (f3_way_wyv sn wyv a b t) bdv isr rn rdv fz icv (f3_way_exa sn exa a b t) fr fev eav rs rov) 0 0 := by
  refine gz_met l (by decide) (Nat.le_of_ble_eq_true rfl) [(0, .ref h), (1, .int a), (2, .int b), (3, .long t)] rfl ?_
  intro sz p e s m args below meth c C hr hk hnm
  have C : gz_C p s m args c cX3_way 5 RX3 D [(cI, .int), (cJ, .long), (cZ, .boolean)] (va_A (wM h ad cI cJ cZ thr sn tkv opv shv ldv lim wyv bdv isr rn rdv fz icv exa fr fev eav rs rov) sz) := C
  refine gz_aload_n C 0 dX3_way_0 rfl ?_
  refine gz_iconst (v := nI 0) C dX3_way_1 (by decide) ?_
  refine gz_put (ci := 4) (ws2 := (wM h ad cI cJ cZ (nI 0) sn tkv opv shv ldv lim wyv bdv isr rn rdv fz icv exa fr fev eav rs rov)) C iwX3 0 rfl rfl 0 (by decide) wk_380 rfl tyX3 tyX3_ok nmX3 rfl rfl rfl rfl (Nat.le_of_ble_eq_true rfl) rfl dX3_way_2 ?_
  refine gz_aload_n C 0 dX3_way_5 rfl ?_
  refine gz_iload_n C 1 dX3_way_6 rfl ?_
  refine gz_callV (wr := []) (n := 1) (ws2 := (wM h ad cI cJ cZ (nI 0) sn tkv opv shv ldv lim wyv bdv isr rn rdv fz icv exa fr fev eav rs rov)) (st2 := [.int (bI (f3_isPlace sn a))]) (cells2 := 0) (slots2 := 0) (ci := 4) C (kX3_isPlace l D h ad cI cJ cZ (nI 0) sn tkv opv shv ldv lim wyv bdv isr rn rdv fz icv exa fr fev eav rs rov a (by first | assumption | omega)) (WB_V wk_451 wk_453 ws_16 wk_4 wk_454) (by decide +kernel) ⟨⟨rfl, rfl⟩, Nat.le_of_ble_eq_true rfl, Nat.le_of_ble_eq_true rfl⟩ [0, 1, 2, 3, 4, 5, 6, 7, 8, 9, 10, 11] [] [0, 1, 2] rfl rfl rfl (by decide) rfl 0 rfl rfl rfl rfl (Nat.le_of_ble_eq_true rfl) dX3_way_7 ⟨Nat.zero_le _, Nat.zero_le _⟩ rfl rfl rfl ?_
  refine gz_bif_eq C 40 dX3_way_10 (by decide) (fun h_1 => ?_) (fun h_1 => ?_)
  · have g_1 : ¬ ((f3_isPlace sn a) = true) := (by rw [h_1]; decide)
    exact gz_vret C hr hk (by first | rfl | (simp only [f3_way_thr, f3_way_wyv, f3_way_exa, if_neg g_1]) | (simp only [f3_way_thr, f3_way_wyv, f3_way_exa, if_neg g_1]; rfl)) (by first | rfl | (simp only [f3_way_thr, f3_way_wyv, f3_way_exa, if_neg g_1]) | (simp only [f3_way_thr, f3_way_wyv, f3_way_exa, if_neg g_1]; rfl)) (Nat.le_refl _) (Nat.le_refl _) dX3_way_40
  · skip
    obtain ⟨ha1, ha2⟩ := q3_place h_1 hsn
    refine gz_lve (lv2 := [(0, .ref h), (1, .int (nI (cl a))), (2, .int b), (3, .long t)]) (by rw [← ha1]) ?_
    refine gz_aload_n C 0 dX3_way_13 rfl ?_
    refine gz_iload_n C 2 dX3_way_14 rfl ?_
    refine gz_callV (wr := []) (n := 1) (ws2 := (wM h ad cI cJ cZ (nI 0) sn tkv opv shv ldv lim wyv bdv isr rn rdv fz icv exa fr fev eav rs rov)) (st2 := [.int (bI (f3_isPlace sn b))]) (cells2 := 0) (slots2 := 0) (ci := 4) C (kX3_isPlace l D h ad cI cJ cZ (nI 0) sn tkv opv shv ldv lim wyv bdv isr rn rdv fz icv exa fr fev eav rs rov b (by first | assumption | omega)) (WB_V wk_451 wk_453 ws_16 wk_4 wk_454) (by decide +kernel) ⟨⟨rfl, rfl⟩, Nat.le_of_ble_eq_true rfl, Nat.le_of_ble_eq_true rfl⟩ [0, 1, 2, 3, 4, 5, 6, 7, 8, 9, 10, 11] [] [0, 1, 2] rfl rfl rfl (by decide) rfl 0 rfl rfl rfl rfl (Nat.le_of_ble_eq_true rfl) dX3_way_15 ⟨Nat.zero_le _, Nat.zero_le _⟩ rfl rfl rfl ?_
    refine gz_bif_eq C 40 dX3_way_18 (by decide) (fun h_2 => ?_) (fun h_2 => ?_)
    · have g_2 : ¬ ((f3_isPlace sn b) = true) := (by rw [h_2]; decide)
      exact gz_vret C hr hk (by first | rfl | (simp only [f3_way_thr, f3_way_wyv, f3_way_exa, if_pos h_1, if_neg g_2]) | (simp only [f3_way_thr, f3_way_wyv, f3_way_exa, if_pos h_1, if_neg g_2]; rfl)) (by first | rfl | (simp only [f3_way_thr, f3_way_wyv, f3_way_exa, if_pos h_1, if_neg g_2]) | (simp only [f3_way_thr, f3_way_wyv, f3_way_exa, if_pos h_1, if_neg g_2]; rfl)) (Nat.le_refl _) (Nat.le_refl _) dX3_way_40
    · skip
      obtain ⟨hb1, hb2⟩ := q3_place h_2 hsn
      refine gz_lve (lv2 := [(0, .ref h), (1, .int (nI (cl a))), (2, .int (nI (cl b))), (3, .long t)]) (by rw [← hb1]) ?_
      refine gz_iload_n C 1 dX3_way_21 rfl ?_
      refine gz_iload_n C 2 dX3_way_22 rfl ?_
      refine gz_ncmp_eq C 40 (by omega) (by omega) dX3_way_23 (by decide) (fun h_3 => ?_) (fun h_3 => ?_)
      · skip
        exact gz_vret C hr hk (by first | rfl | (simp only [f3_way_thr, f3_way_wyv, f3_way_exa, if_pos h_1, if_pos h_2, if_pos h_3]) | (simp only [f3_way_thr, f3_way_wyv, f3_way_exa, if_pos h_1, if_pos h_2, if_pos h_3]; rfl)) (by first | rfl | (simp only [f3_way_thr, f3_way_wyv, f3_way_exa, if_pos h_1, if_pos h_2, if_pos h_3]) | (simp only [f3_way_thr, f3_way_wyv, f3_way_exa, if_pos h_1, if_pos h_2, if_pos h_3]; rfl)) (Nat.le_refl _) (Nat.le_refl _) dX3_way_40
      · have g_3 : ¬ ((cl a) = (cl b)) := h_3
        refine gz_lload_n C 3 dX3_way_26 rfl ?_
        refine gz_lconst (v := 0) C dX3_way_27 (by decide) ?_
        refine gz_lcmp_lt C 40 dX3_way_28 dX3_way_29 (by decide) (fun h_4 => ?_) (fun h_4 => ?_)
        · skip
          exact gz_vret C hr hk (by first | rfl | (simp only [f3_way_thr, f3_way_wyv, f3_way_exa, if_pos h_1, if_pos h_2, if_neg g_3, if_pos h_4]) | (simp only [f3_way_thr, f3_way_wyv, f3_way_exa, if_pos h_1, if_pos h_2, if_neg g_3, if_pos h_4]; rfl)) (by first | rfl | (simp only [f3_way_thr, f3_way_wyv, f3_way_exa, if_pos h_1, if_pos h_2, if_neg g_3, if_pos h_4]) | (simp only [f3_way_thr, f3_way_wyv, f3_way_exa, if_pos h_1, if_pos h_2, if_neg g_3, if_pos h_4]; rfl)) (Nat.le_refl _) (Nat.le_refl _) dX3_way_40
        · have g_4 : ¬ (t < 0) := h_4
          refine gz_lload_n C 3 dX3_way_32 rfl ?_
          refine gz_ldc2 (v := 100000) C wk_445 dX3_way_33 ?_
          refine gz_lcmp_le C 41 dX3_way_36 dX3_way_37 (by decide) (fun h_5 => ?_) (fun h_5 => ?_)
          · skip
            refine gz_aload_n C 0 dX3_way_41 rfl ?_
            refine gz_get (ci := 4) C iwX3 0 rfl rfl 7 (by decide) wk_387 rfl rfl dX3_way_42 ?_
            refine gz_bipush (v := nI 21) C dX3_way_45 (by decide) ?_
            refine gz_iload_n C 1 dX3_way_47 rfl ?_
            refine gz_imul (v := nI (21 * (cl a))) C dX3_way_48 (pk_mul _ _) ?_
            refine gz_iload_n C 2 dX3_way_49 rfl ?_
            refine gz_iadd (v := nI ((21 * (cl a)) + (cl b))) C dX3_way_50 (nI_add _ _) ?_
            refine gz_lload_n C 3 dX3_way_51 rfl ?_
            refine gz_last (ws2 := (wM h ad cI cJ cZ (nI 0) sn tkv opv shv ldv lim (va_up wyv ((21 * (cl a)) + (cl b)) t) bdv isr rn rdv fz icv exa fr fev eav rs rov)) C 5 1 rfl rfl (by omega) (by decide) rfl dX3_way_52 ?_
            refine gz_aload_n C 0 dX3_way_53 rfl ?_
            refine gz_iconst (v := nI 0) C dX3_way_54 (by decide) ?_
            refine gz_sw (v := .int (nI 0)) (w := .int (bI false)) (by rw [show nI 0 = bI false from (by first | rfl | decide | ((repeat' split) <;> rfl))]) ?_
            refine gz_put (ci := 4) (ws2 := (wM h ad cI cJ cZ (nI 0) sn tkv opv shv ldv lim (va_up wyv ((21 * (cl a)) + (cl b)) t) bdv isr rn rdv fz icv false fr fev eav rs rov)) C iwX3 0 rfl rfl 14 (by decide) wk_394 rfl tyX3 tyX3_ok nmX3 rfl rfl (bI_nar _) (bI_fit _) (Nat.le_of_ble_eq_true rfl) rfl dX3_way_55 ?_
            exact gz_vret C hr hk (by first | rfl | (simp only [f3_way_thr, f3_way_wyv, f3_way_exa, if_pos h_1, if_pos h_2, if_neg g_3, if_neg g_4, if_pos h_5]) | (simp only [f3_way_thr, f3_way_wyv, f3_way_exa, if_pos h_1, if_pos h_2, if_neg g_3, if_neg g_4, if_pos h_5]; rfl)) (by first | rfl | (simp only [f3_way_thr, f3_way_wyv, f3_way_exa, if_pos h_1, if_pos h_2, if_neg g_3, if_neg g_4, if_pos h_5]) | (simp only [f3_way_thr, f3_way_wyv, f3_way_exa, if_pos h_1, if_pos h_2, if_neg g_3, if_neg g_4, if_pos h_5]; rfl)) (Nat.le_refl _) (Nat.le_refl _) dX3_way_58
          · have g_5 : ¬ (t ≤ 100000) := h_5
            exact gz_vret C hr hk (by first | rfl | (simp only [f3_way_thr, f3_way_wyv, f3_way_exa, if_pos h_1, if_pos h_2, if_neg g_3, if_neg g_4, if_neg g_5]) | (simp only [f3_way_thr, f3_way_wyv, f3_way_exa, if_pos h_1, if_pos h_2, if_neg g_3, if_neg g_4, if_neg g_5]; rfl)) (by first | rfl | (simp only [f3_way_thr, f3_way_wyv, f3_way_exa, if_pos h_1, if_pos h_2, if_neg g_3, if_neg g_4, if_neg g_5]) | (simp only [f3_way_thr, f3_way_wyv, f3_way_exa, if_pos h_1, if_pos h_2, if_neg g_3, if_neg g_4, if_neg g_5]; rfl)) (Nat.le_refl _) (Nat.le_refl _) dX3_way_40

