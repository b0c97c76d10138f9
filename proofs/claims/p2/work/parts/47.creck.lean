def f0_reckonSets_dl (ct : Nat) (dl : Nat) : Nat := (if ((2 ^ ct) * ct) ≤ dl then dl else (2 ^ ct) * ct)
def f0_reckonSets_dnv (tkv : Nat → Int64) (opv : Nat → Int64) (shv : Nat → Int64) (wyv : Nat → Int64) (bdv : Nat → Bool) (ct : Nat) (sta : Nat) (stc : Int64) (fev : Nat → Nat) (dl : Nat) (dnv : Nat → Int64) : Nat → Int64 := (if ((2 ^ ct) * ct) ≤ dl then (f0_reckonSets_lpb tkv opv shv wyv bdv ct sta stc fev ((2 ^ ct) - 1) 1 dnv).2 else (f0_reckonSets_lpb tkv opv shv wyv bdv ct sta stc fev ((2 ^ ct) - 1) 1 (fun _ => 0)).2)
set_option maxRecDepth 100000 in
set_option maxHeartbeats 4000000 in
theorem kX0_reckonSets (l : Launch) (D : va_G) (xo : Nat) (nt : Nat) (es : Nat) (ro : Nat) (ad : Nat → Nat) (cI : ClassId) (cJ : ClassId) (cZ : ClassId) (ln : Int32) (fz : Nat) (sx : Bool) (mo : Int32) (sn : Nat) (bw : Int32) (tkv : Nat → Int64) (opv : Nat → Int64) (shv : Nat → Int64) (ldv : Nat → Int32) (wyv : Nat → Int64) (bdv : Nat → Bool) (ct : Nat) (dA : Nat) (sta : Nat) (stc : Int64) (fev : Nat → Nat) (dl : Nat) (dnv : Nat → Int64) (rov : Nat → Nat) (hct : ct ≤ 11) (hfe : ∀ k, k < ct → fev k ≤ 20) (hsa : sta ≤ 20) (hdm : dl ≤ 22528) : gz_MX l yX0_reckonSets cX0_reckonSets 5 none ({ frames := 4, cells := (if dl < 2 ^ ct * ct then 1 else 0), slots := (if dl < 2 ^ ct * ct then 2 ^ ct * ct else 0), locals := 99 } : Room) D [(cI, .int), (cJ, .long), (cZ, .boolean)] [.ref es, .ref nt] (wC xo nt es ro ad cI cJ cZ ln fz sx mo sn bw tkv opv shv ldv wyv bdv ct dA dA sta stc fev dl dnv rov) (none) (fun dA' : Nat => (wC xo nt es ro ad cI cJ cZ ln fz sx mo sn bw tkv opv shv ldv wyv bdv ct dA' dA' sta stc fev (f0_reckonSets_dl ct dl) (f0_reckonSets_dnv tkv opv shv wyv bdv ct sta stc fev dl dnv) rov)) (if dl < 2 ^ ct * ct then 1 else 0) (if dl < 2 ^ ct * ct then 2 ^ ct * ct else 0) := by
  refine gz_metX l (by decide) (Nat.le_of_ble_eq_true rfl) [(0, .ref es), (1, .ref nt)] rfl ?_
  intro sz p e s m args below meth c C hr hk hnm
  have C : gz_C p s m args c cX0_reckonSets 5 RX0 D [(cI, .int), (cJ, .long), (cZ, .boolean)] (va_A (wC xo nt es ro ad cI cJ cZ ln fz sx mo sn bw tkv opv shv ldv wyv bdv ct dA dA sta stc fev dl dnv rov) sz) := C
  have hp := bz_pow hct
  have hp2 : 2 ^ ct * ct ≤ 22528 := Nat.mul_le_mul hp hct
  refine gz_iconst (v := nI 1) C dX0_reckonSets_0 (by decide) ?_
  refine gz_aload_n C 0 dX0_reckonSets_1 rfl ?_
  refine gz_get (ci := 1) C iwX0 8 rfl rfl 1 (by decide) wk_64 rfl rfl dX0_reckonSets_2 ?_
  refine gz_ishl (v := nI (2 ^ ct)) C dX0_reckonSets_5 (bz_shl (by omega)) ?_
  refine gz_istore_n (lv2 := [(2, .int (nI (2 ^ ct))), (0, .ref es), (1, .ref nt)]) C dX0_reckonSets_6 (by decide) rfl ?_
  refine gz_aload_n C 1 dX0_reckonSets_7 rfl ?_
  refine gz_get (ci := 1) C iwX0 8 rfl rfl 2 (by decide) wk_65 rfl rfl dX0_reckonSets_8 ?_
  refine gz_alen C 10 1 rfl rfl dX0_reckonSets_11 ?_
  refine gz_iload_n C 0 dX0_reckonSets_12 rfl ?_
  refine gz_aload_n C 1 dX0_reckonSets_13 rfl ?_
  refine gz_get (ci := 1) C iwX0 8 rfl rfl 1 (by decide) wk_64 rfl rfl dX0_reckonSets_14 ?_
  refine gz_imul (v := nI ((2 ^ ct) * ct)) C dX0_reckonSets_17 (pk_mul _ _) ?_
  refine gz_ncmp_ge C 33 (by omega) (by omega) dX0_reckonSets_18 (by decide) (fun h_1 => ?_) (fun h_1 => ?_)
  · skip
    refine gz_iconst (v := nI 1) C dX0_reckonSets_33 (by decide) ?_
    refine gz_istore_n (lv2 := [(3, .int (nI 1)), (2, .int (nI (2 ^ ct))), (0, .ref es), (1, .ref nt)]) C dX0_reckonSets_34 (by decide) rfl ?_
    refine gz_lv (lv2 := [(0, .ref es), (1, .ref nt), (2, .int (nI (2 ^ ct))), (3, .int (nI 1))]) [2, 3, 1, 0] rfl ?_
    refine lX0_reckonSets_lpb xo nt es ro ad cI cJ cZ ln fz sx mo sn bw tkv opv shv ldv wyv bdv ct dA sta stc fev dl rov (2 ^ ct) (by first | assumption | omega) (by first | assumption | omega) (by first | assumption | omega) (by first | assumption | omega) (by first | assumption | omega) rfl ⟨Nat.le_of_ble_eq_true rfl, Nat.le_of_ble_eq_true rfl⟩ ⟨Nat.zero_le _, Nat.zero_le _⟩ C ((2 ^ ct) - 1) 1 dnv (by have := bz_pow1 ct; omega)  ?_
    intro zme_lpb
    exact gz_vretX C hr hk (by first | rfl | (simp only [f0_reckonSets_dl, f0_reckonSets_dnv, if_pos h_1]) | (simp only [f0_reckonSets_dl, f0_reckonSets_dnv, if_pos h_1]; rfl)) dA (by first | rfl | (simp only [f0_reckonSets_dl, f0_reckonSets_dnv, if_pos h_1]) | (simp only [f0_reckonSets_dl, f0_reckonSets_dnv, if_pos h_1]; rfl)) (Nat.zero_le _) (Nat.zero_le _) dX0_reckonSets_105
  · have g_1 : ¬ (((2 ^ ct) * ct) ≤ dl) := (Nat.not_le.mpr h_1)
    refine gz_aload_n C 1 dX0_reckonSets_21 rfl ?_
    refine gz_iload_n C 0 dX0_reckonSets_22 rfl ?_
    refine gz_aload_n C 1 dX0_reckonSets_23 rfl ?_
    refine gz_get (ci := 1) C iwX0 8 rfl rfl 1 (by decide) wk_64 rfl rfl dX0_reckonSets_24 ?_
    refine gz_imul (v := nI ((2 ^ ct) * ct)) C dX0_reckonSets_27 (pk_mul _ _) ?_
    refine gz_newa (atype := .long) (N := (2 ^ ct) * ct) (a0 := ((2 ^ ct) * ct, .inr (.inl (fun _ => 0)))) C wk_54 1 rfl (fun _ => rfl) (by omega) (by show (2 ^ ct) * ct * 8 ≤ 536870912; omega) (by show 0 + 1 ≤ (if dl < 2 ^ ct * ct then 1 else 0); rw [if_pos h_1]; exact Nat.le_refl _) (by show 0 + (2 ^ ct) * ct ≤ (if dl < 2 ^ ct * ct then 2 ^ ct * ct else 0); rw [if_pos h_1]; omega) dX0_reckonSets_28 (fun qn => ?_)
    refine gz_put (ci := 1) (ws2 := (wC xo nt es ro ad cI cJ cZ ln fz sx mo sn bw tkv opv shv ldv wyv bdv ct qn dA sta stc fev dl dnv rov) ++ [(qn, .inl (cJ, (2 ^ ct) * ct, .inr (.inl (fun _ => 0))))]) C iwX0 8 rfl rfl 2 (by decide) wk_65 rfl tyX0 tyX0_ok nmX0 rfl rfl rfl rfl (Nat.le_of_ble_eq_true rfl) rfl dX0_reckonSets_30 ?_
    refine gz_ws (ws2 := (wC xo nt es ro ad cI cJ cZ ln fz sx mo sn bw tkv opv shv ldv wyv bdv ct qn qn sta stc fev ((2 ^ ct) * ct) (fun _ => 0) rov)) [0, 1, 2, 3, 4, 5, 6, 7, 8, 9, 12, 11] (by decide) rfl ?_
    refine gz_iconst (v := nI 1) C dX0_reckonSets_33 (by decide) ?_
    refine gz_istore_n (lv2 := [(3, .int (nI 1)), (2, .int (nI (2 ^ ct))), (0, .ref es), (1, .ref nt)]) C dX0_reckonSets_34 (by decide) rfl ?_
    refine gz_lv (lv2 := [(0, .ref es), (1, .ref nt), (2, .int (nI (2 ^ ct))), (3, .int (nI 1))]) [2, 3, 1, 0] rfl ?_
    refine lX0_reckonSets_lpb xo nt es ro ad cI cJ cZ ln fz sx mo sn bw tkv opv shv ldv wyv bdv ct qn sta stc fev ((2 ^ ct) * ct) rov (2 ^ ct) (by first | assumption | omega) (by first | assumption | omega) (by first | assumption | omega) (by first | assumption | omega) (by first | assumption | omega) rfl ⟨Nat.le_of_ble_eq_true rfl, Nat.le_of_ble_eq_true rfl⟩ ⟨(by show 0 + 1 ≤ (if dl < 2 ^ ct * ct then 1 else 0); rw [if_pos h_1]; exact Nat.le_refl _), (by show 0 + (2 ^ ct) * ct ≤ (if dl < 2 ^ ct * ct then 2 ^ ct * ct else 0); rw [if_pos h_1]; omega)⟩ C ((2 ^ ct) - 1) 1 (fun _ => 0) (by have := bz_pow1 ct; omega)  ?_
    intro zme_lpb
    exact gz_vretX C hr hk (by first | rfl | (simp only [f0_reckonSets_dl, f0_reckonSets_dnv, if_neg g_1]) | (simp only [f0_reckonSets_dl, f0_reckonSets_dnv, if_neg g_1]; rfl)) qn (by first | rfl | (simp only [f0_reckonSets_dl, f0_reckonSets_dnv, if_neg g_1]) | (simp only [f0_reckonSets_dl, f0_reckonSets_dnv, if_neg g_1]; rfl)) (by show 0 + 1 ≤ (if dl < 2 ^ ct * ct then 1 else 0); rw [if_pos h_1]; exact Nat.le_refl _) (by show 0 + (2 ^ ct) * ct ≤ (if dl < 2 ^ ct * ct then 2 ^ ct * ct else 0); rw [if_pos h_1]; omega) dX0_reckonSets_105

