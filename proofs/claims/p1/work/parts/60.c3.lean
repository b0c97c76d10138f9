def f2_solve (fz : Nat) (mo : Int32) (sn : Nat) (tkv : Nat → Int64) (opv : Nat → Int64) (shv : Nat → Int64) (ldv : Nat → Int32) (wyv : Nat → Int64) (bdv : Nat → Bool) (fev : Nat → Nat) (dl : Nat) (dnv : Nat → Int64) (rov : Nat → Nat) (stp : Int64) : Int64 := (if stp < 0 then (-12) else (if stp ≤ 100000 then (if mo = (((-1))) then (if (f0_fill sn tkv opv shv wyv bdv fev dl dnv rov fz) = true then f1_home tkv opv shv wyv bdv (f0_fill_rov sn tkv opv shv wyv bdv fev dl dnv rov fz) sn else f1_home tkv opv shv wyv bdv (f2_improve_rov fz tkv opv shv wyv bdv (f2_insertFreeStops_rov fz sn tkv opv shv wyv bdv rov) stp sn) sn) else (if ((f1_loads sn ldv)) ≤ mo then (if (f0_fill sn tkv opv shv wyv bdv fev dl dnv rov fz) = true then f1_home tkv opv shv wyv bdv (f0_fill_rov sn tkv opv shv wyv bdv fev dl dnv rov fz) sn else f1_home tkv opv shv wyv bdv (f2_improve_rov fz tkv opv shv wyv bdv (f2_insertFreeStops_rov fz sn tkv opv shv wyv bdv rov) stp sn) sn) else (-13))) else (-12)))
def f2_solve_ln (ln : Int32) (fz : Nat) (mo : Int32) (sn : Nat) (tkv : Nat → Int64) (opv : Nat → Int64) (shv : Nat → Int64) (ldv : Nat → Int32) (wyv : Nat → Int64) (bdv : Nat → Bool) (fev : Nat → Nat) (dl : Nat) (dnv : Nat → Int64) (rov : Nat → Nat) (stp : Int64) : Int32 := (if stp < 0 then ln else (if stp ≤ 100000 then (if mo = (((-1))) then (if (f0_fill sn tkv opv shv wyv bdv fev dl dnv rov fz) = true then nI sn else nI sn) else (if ((f1_loads sn ldv)) ≤ mo then (if (f0_fill sn tkv opv shv wyv bdv fev dl dnv rov fz) = true then nI sn else nI sn) else (-1))) else ln))
def f2_solve_sx (fz : Nat) (sx : Bool) (mo : Int32) (sn : Nat) (tkv : Nat → Int64) (opv : Nat → Int64) (shv : Nat → Int64) (ldv : Nat → Int32) (wyv : Nat → Int64) (bdv : Nat → Bool) (fev : Nat → Nat) (dl : Nat) (dnv : Nat → Int64) (rov : Nat → Nat) (stp : Int64) : Bool := (if stp < 0 then sx else (if stp ≤ 100000 then (if mo = (((-1))) then (if (f0_fill sn tkv opv shv wyv bdv fev dl dnv rov fz) = true then f0_fill sn tkv opv shv wyv bdv fev dl dnv rov fz else f0_fill sn tkv opv shv wyv bdv fev dl dnv rov fz) else (if ((f1_loads sn ldv)) ≤ mo then (if (f0_fill sn tkv opv shv wyv bdv fev dl dnv rov fz) = true then f0_fill sn tkv opv shv wyv bdv fev dl dnv rov fz else f0_fill sn tkv opv shv wyv bdv fev dl dnv rov fz) else sx)) else sx))
def f2_solve_ct (fz : Nat) (mo : Int32) (sn : Nat) (tkv : Nat → Int64) (opv : Nat → Int64) (shv : Nat → Int64) (ldv : Nat → Int32) (wyv : Nat → Int64) (bdv : Nat → Bool) (ct : Nat) (fev : Nat → Nat) (dl : Nat) (dnv : Nat → Int64) (rov : Nat → Nat) (stp : Int64) : Nat := (if stp < 0 then ct else (if stp ≤ 100000 then (if mo = (((-1))) then (if (f0_fill sn tkv opv shv wyv bdv fev dl dnv rov fz) = true then f0_fill_ct sn tkv opv shv wyv bdv ct fev dl dnv rov fz else f0_fill_ct sn tkv opv shv wyv bdv ct fev dl dnv rov fz) else (if ((f1_loads sn ldv)) ≤ mo then (if (f0_fill sn tkv opv shv wyv bdv fev dl dnv rov fz) = true then f0_fill_ct sn tkv opv shv wyv bdv ct fev dl dnv rov fz else f0_fill_ct sn tkv opv shv wyv bdv ct fev dl dnv rov fz) else ct)) else ct))
def f2_solve_sta (fz : Nat) (mo : Int32) (sn : Nat) (tkv : Nat → Int64) (opv : Nat → Int64) (shv : Nat → Int64) (ldv : Nat → Int32) (wyv : Nat → Int64) (bdv : Nat → Bool) (sta : Nat) (fev : Nat → Nat) (dl : Nat) (dnv : Nat → Int64) (rov : Nat → Nat) (stp : Int64) : Nat := (if stp < 0 then sta else (if stp ≤ 100000 then (if mo = (((-1))) then (if (f0_fill sn tkv opv shv wyv bdv fev dl dnv rov fz) = true then f0_fill_sta sn tkv opv shv wyv bdv sta fev dl dnv rov fz else f0_fill_sta sn tkv opv shv wyv bdv sta fev dl dnv rov fz) else (if ((f1_loads sn ldv)) ≤ mo then (if (f0_fill sn tkv opv shv wyv bdv fev dl dnv rov fz) = true then f0_fill_sta sn tkv opv shv wyv bdv sta fev dl dnv rov fz else f0_fill_sta sn tkv opv shv wyv bdv sta fev dl dnv rov fz) else sta)) else sta))
def f2_solve_stc (fz : Nat) (mo : Int32) (sn : Nat) (tkv : Nat → Int64) (opv : Nat → Int64) (shv : Nat → Int64) (ldv : Nat → Int32) (wyv : Nat → Int64) (bdv : Nat → Bool) (stc : Int64) (fev : Nat → Nat) (dl : Nat) (dnv : Nat → Int64) (rov : Nat → Nat) (stp : Int64) : Int64 := (if stp < 0 then stc else (if stp ≤ 100000 then (if mo = (((-1))) then (if (f0_fill sn tkv opv shv wyv bdv fev dl dnv rov fz) = true then f0_fill_stc sn tkv opv shv wyv bdv stc fev dl dnv rov fz else f0_fill_stc sn tkv opv shv wyv bdv stc fev dl dnv rov fz) else (if ((f1_loads sn ldv)) ≤ mo then (if (f0_fill sn tkv opv shv wyv bdv fev dl dnv rov fz) = true then f0_fill_stc sn tkv opv shv wyv bdv stc fev dl dnv rov fz else f0_fill_stc sn tkv opv shv wyv bdv stc fev dl dnv rov fz) else stc)) else stc))
def f2_solve_fev (fz : Nat) (mo : Int32) (sn : Nat) (tkv : Nat → Int64) (opv : Nat → Int64) (shv : Nat → Int64) (ldv : Nat → Int32) (wyv : Nat → Int64) (bdv : Nat → Bool) (fev : Nat → Nat) (dl : Nat) (dnv : Nat → Int64) (rov : Nat → Nat) (stp : Int64) : Nat → Nat := (if stp < 0 then fev else (if stp ≤ 100000 then (if mo = (((-1))) then (if (f0_fill sn tkv opv shv wyv bdv fev dl dnv rov fz) = true then f0_fill_fev sn tkv opv shv wyv bdv fev dl dnv rov fz else f0_fill_fev sn tkv opv shv wyv bdv fev dl dnv rov fz) else (if ((f1_loads sn ldv)) ≤ mo then (if (f0_fill sn tkv opv shv wyv bdv fev dl dnv rov fz) = true then f0_fill_fev sn tkv opv shv wyv bdv fev dl dnv rov fz else f0_fill_fev sn tkv opv shv wyv bdv fev dl dnv rov fz) else fev)) else fev))
def f2_solve_dl (fz : Nat) (mo : Int32) (sn : Nat) (tkv : Nat → Int64) (opv : Nat → Int64) (shv : Nat → Int64) (ldv : Nat → Int32) (wyv : Nat → Int64) (bdv : Nat → Bool) (fev : Nat → Nat) (dl : Nat) (dnv : Nat → Int64) (rov : Nat → Nat) (stp : Int64) : Nat := (if stp < 0 then dl else (if stp ≤ 100000 then (if mo = (((-1))) then (if (f0_fill sn tkv opv shv wyv bdv fev dl dnv rov fz) = true then f0_fill_dl sn tkv opv shv wyv bdv fev dl dnv rov fz else f0_fill_dl sn tkv opv shv wyv bdv fev dl dnv rov fz) else (if ((f1_loads sn ldv)) ≤ mo then (if (f0_fill sn tkv opv shv wyv bdv fev dl dnv rov fz) = true then f0_fill_dl sn tkv opv shv wyv bdv fev dl dnv rov fz else f0_fill_dl sn tkv opv shv wyv bdv fev dl dnv rov fz) else dl)) else dl))
def f2_solve_dnv (fz : Nat) (mo : Int32) (sn : Nat) (tkv : Nat → Int64) (opv : Nat → Int64) (shv : Nat → Int64) (ldv : Nat → Int32) (wyv : Nat → Int64) (bdv : Nat → Bool) (fev : Nat → Nat) (dl : Nat) (dnv : Nat → Int64) (rov : Nat → Nat) (stp : Int64) : Nat → Int64 := (if stp < 0 then dnv else (if stp ≤ 100000 then (if mo = (((-1))) then (if (f0_fill sn tkv opv shv wyv bdv fev dl dnv rov fz) = true then f0_fill_dnv sn tkv opv shv wyv bdv fev dl dnv rov fz else f0_fill_dnv sn tkv opv shv wyv bdv fev dl dnv rov fz) else (if ((f1_loads sn ldv)) ≤ mo then (if (f0_fill sn tkv opv shv wyv bdv fev dl dnv rov fz) = true then f0_fill_dnv sn tkv opv shv wyv bdv fev dl dnv rov fz else f0_fill_dnv sn tkv opv shv wyv bdv fev dl dnv rov fz) else dnv)) else dnv))
def f2_solve_rov (fz : Nat) (mo : Int32) (sn : Nat) (tkv : Nat → Int64) (opv : Nat → Int64) (shv : Nat → Int64) (ldv : Nat → Int32) (wyv : Nat → Int64) (bdv : Nat → Bool) (fev : Nat → Nat) (dl : Nat) (dnv : Nat → Int64) (rov : Nat → Nat) (stp : Int64) : Nat → Nat := (if stp < 0 then rov else (if stp ≤ 100000 then (if mo = (((-1))) then (if (f0_fill sn tkv opv shv wyv bdv fev dl dnv rov fz) = true then f0_fill_rov sn tkv opv shv wyv bdv fev dl dnv rov fz else f2_improve_rov fz tkv opv shv wyv bdv (f2_insertFreeStops_rov fz sn tkv opv shv wyv bdv rov) stp sn) else (if ((f1_loads sn ldv)) ≤ mo then (if (f0_fill sn tkv opv shv wyv bdv fev dl dnv rov fz) = true then f0_fill_rov sn tkv opv shv wyv bdv fev dl dnv rov fz else f2_improve_rov fz tkv opv shv wyv bdv (f2_insertFreeStops_rov fz sn tkv opv shv wyv bdv rov) stp sn) else rov)) else rov))
set_option maxRecDepth 100000 in
set_option maxHeartbeats 4000000 in
theorem kX2_solve (l : Launch) (D : va_G) (xo : Nat) (nt : Nat) (es : Nat) (ro : Nat) (ad : Nat → Nat) (cI : ClassId) (cJ : ClassId) (cZ : ClassId) (ln : Int32) (fz : Nat) (sx : Bool) (mo : Int32) (sn : Nat) (bw : Int32) (tkv : Nat → Int64) (opv : Nat → Int64) (shv : Nat → Int64) (ldv : Nat → Int32) (wyv : Nat → Int64) (bdv : Nat → Bool) (ct : Nat) (dA : Nat) (sta : Nat) (stc : Int64) (fev : Nat → Nat) (dl : Nat) (dnv : Nat → Int64) (rov : Nat → Nat) (stp : Int64) (hsn : sn ≤ 20) (hfs : fz ≤ sn) (hri : q_row fz sn rov) (hdm : dl ≤ 22528) : gz_MX l yX2_solve cX2_solve 3 (some .long) ({ frames := 7, cells := (if stp < 0 then 0 else (if stp ≤ 100000 then (if mo = (((-1))) then (if (sn - fz) ≤ 11 then (if (f0_followFrozen_stc tkv opv shv wyv bdv rov fz) = 1000000000000000 then 0 else (if dl < 2 ^ (f0_collectFree_ct sn fev rov fz) * (f0_collectFree_ct sn fev rov fz) then 1 else 0)) else 0) else (if ((f1_loads sn ldv)) ≤ mo then (if (sn - fz) ≤ 11 then (if (f0_followFrozen_stc tkv opv shv wyv bdv rov fz) = 1000000000000000 then 0 else (if dl < 2 ^ (f0_collectFree_ct sn fev rov fz) * (f0_collectFree_ct sn fev rov fz) then 1 else 0)) else 0) else 0)) else 0)), slots := (if stp < 0 then 0 else (if stp ≤ 100000 then (if mo = (((-1))) then (if (sn - fz) ≤ 11 then (if (f0_followFrozen_stc tkv opv shv wyv bdv rov fz) = 1000000000000000 then 0 else (if dl < 2 ^ (f0_collectFree_ct sn fev rov fz) * (f0_collectFree_ct sn fev rov fz) then 2 ^ (f0_collectFree_ct sn fev rov fz) * (f0_collectFree_ct sn fev rov fz) else 0)) else 0) else (if ((f1_loads sn ldv)) ≤ mo then (if (sn - fz) ≤ 11 then (if (f0_followFrozen_stc tkv opv shv wyv bdv rov fz) = 1000000000000000 then 0 else (if dl < 2 ^ (f0_collectFree_ct sn fev rov fz) * (f0_collectFree_ct sn fev rov fz) then 2 ^ (f0_collectFree_ct sn fev rov fz) * (f0_collectFree_ct sn fev rov fz) else 0)) else 0) else 0)) else 0)), locals := 181 } : Room) D [(cI, .int), (cJ, .long), (cZ, .boolean)] [.ref xo, .long stp] (wC xo nt es ro ad cI cJ cZ ln fz sx mo sn bw tkv opv shv ldv wyv bdv ct dA dA sta stc fev dl dnv rov) (some (.long (f2_solve fz mo sn tkv opv shv ldv wyv bdv fev dl dnv rov stp))) (fun dA' : Nat => (wC xo nt es ro ad cI cJ cZ (f2_solve_ln ln fz mo sn tkv opv shv ldv wyv bdv fev dl dnv rov stp) fz (f2_solve_sx fz sx mo sn tkv opv shv ldv wyv bdv fev dl dnv rov stp) mo sn bw tkv opv shv ldv wyv bdv (f2_solve_ct fz mo sn tkv opv shv ldv wyv bdv ct fev dl dnv rov stp) dA' dA' (f2_solve_sta fz mo sn tkv opv shv ldv wyv bdv sta fev dl dnv rov stp) (f2_solve_stc fz mo sn tkv opv shv ldv wyv bdv stc fev dl dnv rov stp) (f2_solve_fev fz mo sn tkv opv shv ldv wyv bdv fev dl dnv rov stp) (f2_solve_dl fz mo sn tkv opv shv ldv wyv bdv fev dl dnv rov stp) (f2_solve_dnv fz mo sn tkv opv shv ldv wyv bdv fev dl dnv rov stp) (f2_solve_rov fz mo sn tkv opv shv ldv wyv bdv fev dl dnv rov stp))) (if stp < 0 then 0 else (if stp ≤ 100000 then (if mo = (((-1))) then (if (sn - fz) ≤ 11 then (if (f0_followFrozen_stc tkv opv shv wyv bdv rov fz) = 1000000000000000 then 0 else (if dl < 2 ^ (f0_collectFree_ct sn fev rov fz) * (f0_collectFree_ct sn fev rov fz) then 1 else 0)) else 0) else (if ((f1_loads sn ldv)) ≤ mo then (if (sn - fz) ≤ 11 then (if (f0_followFrozen_stc tkv opv shv wyv bdv rov fz) = 1000000000000000 then 0 else (if dl < 2 ^ (f0_collectFree_ct sn fev rov fz) * (f0_collectFree_ct sn fev rov fz) then 1 else 0)) else 0) else 0)) else 0)) (if stp < 0 then 0 else (if stp ≤ 100000 then (if mo = (((-1))) then (if (sn - fz) ≤ 11 then (if (f0_followFrozen_stc tkv opv shv wyv bdv rov fz) = 1000000000000000 then 0 else (if dl < 2 ^ (f0_collectFree_ct sn fev rov fz) * (f0_collectFree_ct sn fev rov fz) then 2 ^ (f0_collectFree_ct sn fev rov fz) * (f0_collectFree_ct sn fev rov fz) else 0)) else 0) else (if ((f1_loads sn ldv)) ≤ mo then (if (sn - fz) ≤ 11 then (if (f0_followFrozen_stc tkv opv shv wyv bdv rov fz) = 1000000000000000 then 0 else (if dl < 2 ^ (f0_collectFree_ct sn fev rov fz) * (f0_collectFree_ct sn fev rov fz) then 2 ^ (f0_collectFree_ct sn fev rov fz) * (f0_collectFree_ct sn fev rov fz) else 0)) else 0) else 0)) else 0)) := by
  refine gz_metX l (by decide) (Nat.le_of_ble_eq_true rfl) [(0, .ref xo), (1, .long stp)] rfl ?_
  intro sz p e s m args below meth c C hr hk hnm
  have C : gz_C p s m args c cX2_solve 3 RX2 D [(cI, .int), (cJ, .long), (cZ, .boolean)] (va_A (wC xo nt es ro ad cI cJ cZ ln fz sx mo sn bw tkv opv shv ldv wyv bdv ct dA dA sta stc fev dl dnv rov) sz) := C
  refine gz_lload_n C 1 dX2_solve_0 rfl ?_
  refine gz_lconst (v := 0) C dX2_solve_1 (by decide) ?_
  refine gz_lcmp_lt C 14 dX2_solve_2 dX2_solve_3 (by decide) (fun h_1 => ?_) (fun h_1 => ?_)
  · skip
    refine gz_ldc2 (v := (-12)) C wk_154 dX2_solve_14 ?_
    exact gz_lretX C hr hk (by first | rfl | (simp only [f2_solve, f2_solve_ln, f2_solve_sx, f2_solve_ct, f2_solve_sta, f2_solve_stc, f2_solve_fev, f2_solve_dl, f2_solve_dnv, f2_solve_rov, if_pos h_1]) | (simp only [f2_solve, f2_solve_ln, f2_solve_sx, f2_solve_ct, f2_solve_sta, f2_solve_stc, f2_solve_fev, f2_solve_dl, f2_solve_dnv, f2_solve_rov, if_pos h_1]; rfl)) dA (by first | rfl | (simp only [f2_solve, f2_solve_ln, f2_solve_sx, f2_solve_ct, f2_solve_sta, f2_solve_stc, f2_solve_fev, f2_solve_dl, f2_solve_dnv, f2_solve_rov, if_pos h_1]) | (simp only [f2_solve, f2_solve_ln, f2_solve_sx, f2_solve_ct, f2_solve_sta, f2_solve_stc, f2_solve_fev, f2_solve_dl, f2_solve_dnv, f2_solve_rov, if_pos h_1]; rfl)) (Nat.zero_le _) (Nat.zero_le _) dX2_solve_17
  · have g_1 : ¬ (stp < 0) := h_1
    refine gz_lload_n C 1 dX2_solve_6 rfl ?_
    refine gz_ldc2 (v := 100000) C wk_108 dX2_solve_7 ?_
    refine gz_lcmp_le C 18 dX2_solve_10 dX2_solve_11 (by decide) (fun h_2 => ?_) (fun h_2 => ?_)
    · skip
      refine gz_aload_n C 0 dX2_solve_18 rfl ?_
      refine gz_get (ci := 3) C iwX2 0 rfl rfl 6 (by decide) wk_85 rfl rfl dX2_solve_19 ?_
      refine gz_iconst (v := ((-1))) C dX2_solve_22 (by decide) ?_
      refine gz_icmp_eq C 49 dX2_solve_23 (by decide) (fun h_3 => ?_) (fun h_3 => ?_)
      · skip
        refine gz_aload_n C 0 dX2_solve_49 rfl ?_
        refine gz_aload_n C 0 dX2_solve_50 rfl ?_
        refine gz_get (ci := 3) C iwX2 0 rfl rfl 1 (by decide) wk_80 rfl rfl dX2_solve_51 ?_
        refine gz_aload_n C 0 dX2_solve_54 rfl ?_
        refine gz_get (ci := 3) C iwX2 0 rfl rfl 0 (by decide) wk_79 rfl rfl dX2_solve_55 ?_
        refine gz_aload_n C 0 dX2_solve_58 rfl ?_
        refine gz_get (ci := 3) C iwX2 0 rfl rfl 2 (by decide) wk_81 rfl rfl dX2_solve_59 ?_
        refine gz_aload_n C 0 dX2_solve_62 rfl ?_
        refine gz_get (ci := 3) C iwX2 0 rfl rfl 4 (by decide) wk_83 rfl rfl dX2_solve_63 ?_
        refine gz_callVX (wr := []) (n := 3) (g := fun dA_4 : Nat => (wC xo nt es ro ad cI cJ cZ ln fz sx mo sn bw tkv opv shv ldv wyv bdv (f0_fill_ct sn tkv opv shv wyv bdv ct fev dl dnv rov fz) dA_4 dA_4 (f0_fill_sta sn tkv opv shv wyv bdv sta fev dl dnv rov fz) (f0_fill_stc sn tkv opv shv wyv bdv stc fev dl dnv rov fz) (f0_fill_fev sn tkv opv shv wyv bdv fev dl dnv rov fz) (f0_fill_dl sn tkv opv shv wyv bdv fev dl dnv rov fz) (f0_fill_dnv sn tkv opv shv wyv bdv fev dl dnv rov fz) (f0_fill_rov sn tkv opv shv wyv bdv fev dl dnv rov fz))) (st2 := [.int (bI (f0_fill sn tkv opv shv wyv bdv fev dl dnv rov fz)), .ref xo]) (cells2 := (0 + (if (sn - fz) ≤ 11 then (if (f0_followFrozen_stc tkv opv shv wyv bdv rov fz) = 1000000000000000 then 0 else (if dl < 2 ^ (f0_collectFree_ct sn fev rov fz) * (f0_collectFree_ct sn fev rov fz) then 1 else 0)) else 0))) (slots2 := (0 + (if (sn - fz) ≤ 11 then (if (f0_followFrozen_stc tkv opv shv wyv bdv rov fz) = 1000000000000000 then 0 else (if dl < 2 ^ (f0_collectFree_ct sn fev rov fz) * (f0_collectFree_ct sn fev rov fz) then 2 ^ (f0_collectFree_ct sn fev rov fz) * (f0_collectFree_ct sn fev rov fz) else 0)) else 0))) (ci := 1) C (kX0_fill l D xo nt es ro ad cI cJ cZ ln fz sx mo sn bw tkv opv shv ldv wyv bdv ct dA sta stc fev dl dnv rov fz (by first | assumption | omega) (by first | assumption | omega) (by first | assumption | omega) (by first | assumption | omega)) (WB_V wk_156 wk_157 wk_158 wk_3 wk_159) (by decide +kernel) ⟨⟨rfl, rfl⟩, Nat.le_of_ble_eq_true rfl, Nat.le_of_ble_eq_true rfl⟩ [0, 1, 2, 3, 4, 5, 6, 7, 8, 9, 10, 11] [] [0, 1, 2] rfl rfl rfl (by decide) (fun _ => rfl) 8 rfl rfl rfl rfl (Nat.le_of_ble_eq_true rfl) dX2_solve_66 ⟨(by show 0 + (if (sn - fz) ≤ 11 then (if (f0_followFrozen_stc tkv opv shv wyv bdv rov fz) = 1000000000000000 then 0 else (if dl < 2 ^ (f0_collectFree_ct sn fev rov fz) * (f0_collectFree_ct sn fev rov fz) then 1 else 0)) else 0) ≤ (if stp < 0 then 0 else (if stp ≤ 100000 then (if mo = (((-1))) then (if (sn - fz) ≤ 11 then (if (f0_followFrozen_stc tkv opv shv wyv bdv rov fz) = 1000000000000000 then 0 else (if dl < 2 ^ (f0_collectFree_ct sn fev rov fz) * (f0_collectFree_ct sn fev rov fz) then 1 else 0)) else 0) else (if ((f1_loads sn ldv)) ≤ mo then (if (sn - fz) ≤ 11 then (if (f0_followFrozen_stc tkv opv shv wyv bdv rov fz) = 1000000000000000 then 0 else (if dl < 2 ^ (f0_collectFree_ct sn fev rov fz) * (f0_collectFree_ct sn fev rov fz) then 1 else 0)) else 0) else 0)) else 0)); simp only [if_neg g_1, if_pos h_2, if_pos h_3]; exact Nat.le_of_eq (Nat.zero_add _)), (by show 0 + (if (sn - fz) ≤ 11 then (if (f0_followFrozen_stc tkv opv shv wyv bdv rov fz) = 1000000000000000 then 0 else (if dl < 2 ^ (f0_collectFree_ct sn fev rov fz) * (f0_collectFree_ct sn fev rov fz) then 2 ^ (f0_collectFree_ct sn fev rov fz) * (f0_collectFree_ct sn fev rov fz) else 0)) else 0) ≤ (if stp < 0 then 0 else (if stp ≤ 100000 then (if mo = (((-1))) then (if (sn - fz) ≤ 11 then (if (f0_followFrozen_stc tkv opv shv wyv bdv rov fz) = 1000000000000000 then 0 else (if dl < 2 ^ (f0_collectFree_ct sn fev rov fz) * (f0_collectFree_ct sn fev rov fz) then 2 ^ (f0_collectFree_ct sn fev rov fz) * (f0_collectFree_ct sn fev rov fz) else 0)) else 0) else (if ((f1_loads sn ldv)) ≤ mo then (if (sn - fz) ≤ 11 then (if (f0_followFrozen_stc tkv opv shv wyv bdv rov fz) = 1000000000000000 then 0 else (if dl < 2 ^ (f0_collectFree_ct sn fev rov fz) * (f0_collectFree_ct sn fev rov fz) then 2 ^ (f0_collectFree_ct sn fev rov fz) * (f0_collectFree_ct sn fev rov fz) else 0)) else 0) else 0)) else 0)); simp only [if_neg g_1, if_pos h_2, if_pos h_3]; exact Nat.le_of_eq (Nat.zero_add _))⟩ rfl rfl rfl (fun dA_4 => ?_)
        refine gz_put (ci := 3) (ws2 := (wC xo nt es ro ad cI cJ cZ ln fz (f0_fill sn tkv opv shv wyv bdv fev dl dnv rov fz) mo sn bw tkv opv shv ldv wyv bdv (f0_fill_ct sn tkv opv shv wyv bdv ct fev dl dnv rov fz) dA_4 dA_4 (f0_fill_sta sn tkv opv shv wyv bdv sta fev dl dnv rov fz) (f0_fill_stc sn tkv opv shv wyv bdv stc fev dl dnv rov fz) (f0_fill_fev sn tkv opv shv wyv bdv fev dl dnv rov fz) (f0_fill_dl sn tkv opv shv wyv bdv fev dl dnv rov fz) (f0_fill_dnv sn tkv opv shv wyv bdv fev dl dnv rov fz) (f0_fill_rov sn tkv opv shv wyv bdv fev dl dnv rov fz))) C iwX2 0 rfl rfl 5 (by decide) wk_84 rfl tyX2 tyX2_ok nmX2 rfl rfl (bI_nar _) (bI_fit _) (Nat.le_of_ble_eq_true rfl) rfl dX2_solve_69 ?_
        refine gz_aload_n C 0 dX2_solve_72 rfl ?_
        refine gz_aload_n C 0 dX2_solve_73 rfl ?_
        refine gz_get (ci := 3) C iwX2 0 rfl rfl 0 (by decide) wk_79 rfl rfl dX2_solve_74 ?_
        refine gz_getN (ci := 2) C iwX1 1 rfl rfl 0 (by decide) (nw_1 C.2.2.2.2.2.2.2) rfl rfl dX2_solve_77 ?_
        refine gz_put (ci := 3) (ws2 := (wC xo nt es ro ad cI cJ cZ (nI sn) fz (f0_fill sn tkv opv shv wyv bdv fev dl dnv rov fz) mo sn bw tkv opv shv ldv wyv bdv (f0_fill_ct sn tkv opv shv wyv bdv ct fev dl dnv rov fz) dA_4 dA_4 (f0_fill_sta sn tkv opv shv wyv bdv sta fev dl dnv rov fz) (f0_fill_stc sn tkv opv shv wyv bdv stc fev dl dnv rov fz) (f0_fill_fev sn tkv opv shv wyv bdv fev dl dnv rov fz) (f0_fill_dl sn tkv opv shv wyv bdv fev dl dnv rov fz) (f0_fill_dnv sn tkv opv shv wyv bdv fev dl dnv rov fz) (f0_fill_rov sn tkv opv shv wyv bdv fev dl dnv rov fz))) C iwX2 0 rfl rfl 3 (by decide) wk_82 rfl tyX2 tyX2_ok nmX2 rfl rfl rfl rfl (Nat.le_of_ble_eq_true rfl) rfl dX2_solve_80 ?_
        refine gz_aload_n C 0 dX2_solve_83 rfl ?_
        refine gz_get (ci := 3) C iwX2 0 rfl rfl 5 (by decide) wk_84 rfl rfl dX2_solve_84 ?_
        refine gz_bif_ne C 99 dX2_solve_87 (by decide) (fun h_5 => ?_) (fun h_5 => ?_)
        · skip
          have hq8 := q0_fill_le hsn hfs hri h_5
          refine gz_aload_n C 0 dX2_solve_99 rfl ?_
          refine gz_get (ci := 3) C iwX2 0 rfl rfl 0 (by decide) wk_79 rfl rfl dX2_solve_100 ?_
          refine gz_aload_n C 0 dX2_solve_103 rfl ?_
          refine gz_get (ci := 3) C iwX2 0 rfl rfl 2 (by decide) wk_81 rfl rfl dX2_solve_104 ?_
          refine gz_aload_n C 0 dX2_solve_107 rfl ?_
          refine gz_get (ci := 3) C iwX2 0 rfl rfl 3 (by decide) wk_82 rfl rfl dX2_solve_108 ?_
          refine gz_callV (wr := []) (n := 2) (ws2 := (wC xo nt es ro ad cI cJ cZ (nI sn) fz (f0_fill sn tkv opv shv wyv bdv fev dl dnv rov fz) mo sn bw tkv opv shv ldv wyv bdv (f0_fill_ct sn tkv opv shv wyv bdv ct fev dl dnv rov fz) dA_4 dA_4 (f0_fill_sta sn tkv opv shv wyv bdv sta fev dl dnv rov fz) (f0_fill_stc sn tkv opv shv wyv bdv stc fev dl dnv rov fz) (f0_fill_fev sn tkv opv shv wyv bdv fev dl dnv rov fz) (f0_fill_dl sn tkv opv shv wyv bdv fev dl dnv rov fz) (f0_fill_dnv sn tkv opv shv wyv bdv fev dl dnv rov fz) (f0_fill_rov sn tkv opv shv wyv bdv fev dl dnv rov fz))) (st2 := [.long (f1_home tkv opv shv wyv bdv (f0_fill_rov sn tkv opv shv wyv bdv fev dl dnv rov fz) sn)]) (cells2 := (0 + (if (sn - fz) ≤ 11 then (if (f0_followFrozen_stc tkv opv shv wyv bdv rov fz) = 1000000000000000 then 0 else (if dl < 2 ^ (f0_collectFree_ct sn fev rov fz) * (f0_collectFree_ct sn fev rov fz) then 1 else 0)) else 0))) (slots2 := (0 + (if (sn - fz) ≤ 11 then (if (f0_followFrozen_stc tkv opv shv wyv bdv rov fz) = 1000000000000000 then 0 else (if dl < 2 ^ (f0_collectFree_ct sn fev rov fz) * (f0_collectFree_ct sn fev rov fz) then 2 ^ (f0_collectFree_ct sn fev rov fz) * (f0_collectFree_ct sn fev rov fz) else 0)) else 0))) (ci := 2) C (kX1_home l D xo nt es ro ad cI cJ cZ (nI sn) fz (f0_fill sn tkv opv shv wyv bdv fev dl dnv rov fz) mo sn bw tkv opv shv ldv wyv bdv (f0_fill_ct sn tkv opv shv wyv bdv ct fev dl dnv rov fz) dA_4 (f0_fill_sta sn tkv opv shv wyv bdv sta fev dl dnv rov fz) (f0_fill_stc sn tkv opv shv wyv bdv stc fev dl dnv rov fz) (f0_fill_fev sn tkv opv shv wyv bdv fev dl dnv rov fz) (f0_fill_dl sn tkv opv shv wyv bdv fev dl dnv rov fz) (f0_fill_dnv sn tkv opv shv wyv bdv fev dl dnv rov fz) (f0_fill_rov sn tkv opv shv wyv bdv fev dl dnv rov fz) sn (by first | assumption | omega) hq8) (WB_V wk_235 wk_236 wk_237 wk_2 wk_238) (by decide +kernel) ⟨⟨rfl, rfl⟩, Nat.le_of_ble_eq_true rfl, Nat.le_of_ble_eq_true rfl⟩ [0, 1, 2, 3, 4, 5, 6, 7, 8, 9, 10, 11] [] [0, 1, 2] rfl rfl rfl (by decide) rfl 1 rfl rfl rfl rfl (Nat.le_of_ble_eq_true rfl) dX2_solve_111 ⟨(by show 0 + (if (sn - fz) ≤ 11 then (if (f0_followFrozen_stc tkv opv shv wyv bdv rov fz) = 1000000000000000 then 0 else (if dl < 2 ^ (f0_collectFree_ct sn fev rov fz) * (f0_collectFree_ct sn fev rov fz) then 1 else 0)) else 0) ≤ (if stp < 0 then 0 else (if stp ≤ 100000 then (if mo = (((-1))) then (if (sn - fz) ≤ 11 then (if (f0_followFrozen_stc tkv opv shv wyv bdv rov fz) = 1000000000000000 then 0 else (if dl < 2 ^ (f0_collectFree_ct sn fev rov fz) * (f0_collectFree_ct sn fev rov fz) then 1 else 0)) else 0) else (if ((f1_loads sn ldv)) ≤ mo then (if (sn - fz) ≤ 11 then (if (f0_followFrozen_stc tkv opv shv wyv bdv rov fz) = 1000000000000000 then 0 else (if dl < 2 ^ (f0_collectFree_ct sn fev rov fz) * (f0_collectFree_ct sn fev rov fz) then 1 else 0)) else 0) else 0)) else 0)); simp only [if_neg g_1, if_pos h_2, if_pos h_3]; exact Nat.le_of_eq (Nat.zero_add _)), (by show 0 + (if (sn - fz) ≤ 11 then (if (f0_followFrozen_stc tkv opv shv wyv bdv rov fz) = 1000000000000000 then 0 else (if dl < 2 ^ (f0_collectFree_ct sn fev rov fz) * (f0_collectFree_ct sn fev rov fz) then 2 ^ (f0_collectFree_ct sn fev rov fz) * (f0_collectFree_ct sn fev rov fz) else 0)) else 0) ≤ (if stp < 0 then 0 else (if stp ≤ 100000 then (if mo = (((-1))) then (if (sn - fz) ≤ 11 then (if (f0_followFrozen_stc tkv opv shv wyv bdv rov fz) = 1000000000000000 then 0 else (if dl < 2 ^ (f0_collectFree_ct sn fev rov fz) * (f0_collectFree_ct sn fev rov fz) then 2 ^ (f0_collectFree_ct sn fev rov fz) * (f0_collectFree_ct sn fev rov fz) else 0)) else 0) else (if ((f1_loads sn ldv)) ≤ mo then (if (sn - fz) ≤ 11 then (if (f0_followFrozen_stc tkv opv shv wyv bdv rov fz) = 1000000000000000 then 0 else (if dl < 2 ^ (f0_collectFree_ct sn fev rov fz) * (f0_collectFree_ct sn fev rov fz) then 2 ^ (f0_collectFree_ct sn fev rov fz) * (f0_collectFree_ct sn fev rov fz) else 0)) else 0) else 0)) else 0)); simp only [if_neg g_1, if_pos h_2, if_pos h_3]; exact Nat.le_of_eq (Nat.zero_add _))⟩ rfl rfl rfl ?_
          exact gz_lretX C hr hk (by first | rfl | (simp only [f2_solve, f2_solve_ln, f2_solve_sx, f2_solve_ct, f2_solve_sta, f2_solve_stc, f2_solve_fev, f2_solve_dl, f2_solve_dnv, f2_solve_rov, if_neg g_1, if_pos h_2, if_pos h_3, if_pos h_5]) | (simp only [f2_solve, f2_solve_ln, f2_solve_sx, f2_solve_ct, f2_solve_sta, f2_solve_stc, f2_solve_fev, f2_solve_dl, f2_solve_dnv, f2_solve_rov, if_neg g_1, if_pos h_2, if_pos h_3, if_pos h_5]; rfl)) dA_4 (by first | rfl | (simp only [f2_solve, f2_solve_ln, f2_solve_sx, f2_solve_ct, f2_solve_sta, f2_solve_stc, f2_solve_fev, f2_solve_dl, f2_solve_dnv, f2_solve_rov, if_neg g_1, if_pos h_2, if_pos h_3, if_pos h_5]) | (simp only [f2_solve, f2_solve_ln, f2_solve_sx, f2_solve_ct, f2_solve_sta, f2_solve_stc, f2_solve_fev, f2_solve_dl, f2_solve_dnv, f2_solve_rov, if_neg g_1, if_pos h_2, if_pos h_3, if_pos h_5]; rfl)) (by show 0 + (if (sn - fz) ≤ 11 then (if (f0_followFrozen_stc tkv opv shv wyv bdv rov fz) = 1000000000000000 then 0 else (if dl < 2 ^ (f0_collectFree_ct sn fev rov fz) * (f0_collectFree_ct sn fev rov fz) then 1 else 0)) else 0) ≤ (if stp < 0 then 0 else (if stp ≤ 100000 then (if mo = (((-1))) then (if (sn - fz) ≤ 11 then (if (f0_followFrozen_stc tkv opv shv wyv bdv rov fz) = 1000000000000000 then 0 else (if dl < 2 ^ (f0_collectFree_ct sn fev rov fz) * (f0_collectFree_ct sn fev rov fz) then 1 else 0)) else 0) else (if ((f1_loads sn ldv)) ≤ mo then (if (sn - fz) ≤ 11 then (if (f0_followFrozen_stc tkv opv shv wyv bdv rov fz) = 1000000000000000 then 0 else (if dl < 2 ^ (f0_collectFree_ct sn fev rov fz) * (f0_collectFree_ct sn fev rov fz) then 1 else 0)) else 0) else 0)) else 0)); simp only [if_neg g_1, if_pos h_2, if_pos h_3]; exact Nat.le_of_eq (Nat.zero_add _)) (by show 0 + (if (sn - fz) ≤ 11 then (if (f0_followFrozen_stc tkv opv shv wyv bdv rov fz) = 1000000000000000 then 0 else (if dl < 2 ^ (f0_collectFree_ct sn fev rov fz) * (f0_collectFree_ct sn fev rov fz) then 2 ^ (f0_collectFree_ct sn fev rov fz) * (f0_collectFree_ct sn fev rov fz) else 0)) else 0) ≤ (if stp < 0 then 0 else (if stp ≤ 100000 then (if mo = (((-1))) then (if (sn - fz) ≤ 11 then (if (f0_followFrozen_stc tkv opv shv wyv bdv rov fz) = 1000000000000000 then 0 else (if dl < 2 ^ (f0_collectFree_ct sn fev rov fz) * (f0_collectFree_ct sn fev rov fz) then 2 ^ (f0_collectFree_ct sn fev rov fz) * (f0_collectFree_ct sn fev rov fz) else 0)) else 0) else (if ((f1_loads sn ldv)) ≤ mo then (if (sn - fz) ≤ 11 then (if (f0_followFrozen_stc tkv opv shv wyv bdv rov fz) = 1000000000000000 then 0 else (if dl < 2 ^ (f0_collectFree_ct sn fev rov fz) * (f0_collectFree_ct sn fev rov fz) then 2 ^ (f0_collectFree_ct sn fev rov fz) * (f0_collectFree_ct sn fev rov fz) else 0)) else 0) else 0)) else 0)); simp only [if_neg g_1, if_pos h_2, if_pos h_3]; exact Nat.le_of_eq (Nat.zero_add _)) dX2_solve_114
        · have g_5 : ¬ ((f0_fill sn tkv opv shv wyv bdv fev dl dnv rov fz) = true) := (by rw [h_5]; decide)
          refine gz_wse (ws2 := (wC xo nt es ro ad cI cJ cZ (nI sn) fz (f0_fill sn tkv opv shv wyv bdv fev dl dnv rov fz) mo sn bw tkv opv shv ldv wyv bdv (f0_fill_ct sn tkv opv shv wyv bdv ct fev dl dnv rov fz) dA_4 dA_4 (f0_fill_sta sn tkv opv shv wyv bdv sta fev dl dnv rov fz) (f0_fill_stc sn tkv opv shv wyv bdv stc fev dl dnv rov fz) (f0_fill_fev sn tkv opv shv wyv bdv fev dl dnv rov fz) (f0_fill_dl sn tkv opv shv wyv bdv fev dl dnv rov fz) (f0_fill_dnv sn tkv opv shv wyv bdv fev dl dnv rov fz) rov)) (by rw [q0_fill_f g_5]) ?_
          have hq9 := (qr_ifs (tkv := tkv) (opv := opv) (shv := shv) (wyv := wyv) (bdv := bdv) hsn hri).1
          refine gz_aload_n C 0 dX2_solve_90 rfl ?_
          refine gz_callV (wr := []) (n := 0) (ws2 := (wC xo nt es ro ad cI cJ cZ (nI sn) fz (f0_fill sn tkv opv shv wyv bdv fev dl dnv rov fz) mo sn bw tkv opv shv ldv wyv bdv (f0_fill_ct sn tkv opv shv wyv bdv ct fev dl dnv rov fz) dA_4 dA_4 (f0_fill_sta sn tkv opv shv wyv bdv sta fev dl dnv rov fz) (f0_fill_stc sn tkv opv shv wyv bdv stc fev dl dnv rov fz) (f0_fill_fev sn tkv opv shv wyv bdv fev dl dnv rov fz) (f0_fill_dl sn tkv opv shv wyv bdv fev dl dnv rov fz) (f0_fill_dnv sn tkv opv shv wyv bdv fev dl dnv rov fz) (f2_insertFreeStops_rov fz sn tkv opv shv wyv bdv rov))) (st2 := []) (cells2 := (0 + (if (sn - fz) ≤ 11 then (if (f0_followFrozen_stc tkv opv shv wyv bdv rov fz) = 1000000000000000 then 0 else (if dl < 2 ^ (f0_collectFree_ct sn fev rov fz) * (f0_collectFree_ct sn fev rov fz) then 1 else 0)) else 0))) (slots2 := (0 + (if (sn - fz) ≤ 11 then (if (f0_followFrozen_stc tkv opv shv wyv bdv rov fz) = 1000000000000000 then 0 else (if dl < 2 ^ (f0_collectFree_ct sn fev rov fz) * (f0_collectFree_ct sn fev rov fz) then 2 ^ (f0_collectFree_ct sn fev rov fz) * (f0_collectFree_ct sn fev rov fz) else 0)) else 0))) (ci := 3) C (kX2_insertFreeStops l D xo nt es ro ad cI cJ cZ (nI sn) fz (f0_fill sn tkv opv shv wyv bdv fev dl dnv rov fz) mo sn bw tkv opv shv ldv wyv bdv (f0_fill_ct sn tkv opv shv wyv bdv ct fev dl dnv rov fz) dA_4 (f0_fill_sta sn tkv opv shv wyv bdv sta fev dl dnv rov fz) (f0_fill_stc sn tkv opv shv wyv bdv stc fev dl dnv rov fz) (f0_fill_fev sn tkv opv shv wyv bdv fev dl dnv rov fz) (f0_fill_dl sn tkv opv shv wyv bdv fev dl dnv rov fz) (f0_fill_dnv sn tkv opv shv wyv bdv fev dl dnv rov fz) rov (by first | assumption | omega) (by first | assumption | omega) (by first | assumption | omega)) (WB_V wk_209 wk_211 ws_7 wk_1 wk_212) (by decide +kernel) ⟨⟨rfl, rfl⟩, Nat.le_of_ble_eq_true rfl, Nat.le_of_ble_eq_true rfl⟩ [0, 1, 2, 3, 4, 5, 6, 7, 8, 9, 10, 11] [] [0, 1, 2] rfl rfl rfl (by decide) rfl 0 rfl rfl rfl rfl (Nat.le_of_ble_eq_true rfl) dX2_solve_91 ⟨(by show 0 + (if (sn - fz) ≤ 11 then (if (f0_followFrozen_stc tkv opv shv wyv bdv rov fz) = 1000000000000000 then 0 else (if dl < 2 ^ (f0_collectFree_ct sn fev rov fz) * (f0_collectFree_ct sn fev rov fz) then 1 else 0)) else 0) ≤ (if stp < 0 then 0 else (if stp ≤ 100000 then (if mo = (((-1))) then (if (sn - fz) ≤ 11 then (if (f0_followFrozen_stc tkv opv shv wyv bdv rov fz) = 1000000000000000 then 0 else (if dl < 2 ^ (f0_collectFree_ct sn fev rov fz) * (f0_collectFree_ct sn fev rov fz) then 1 else 0)) else 0) else (if ((f1_loads sn ldv)) ≤ mo then (if (sn - fz) ≤ 11 then (if (f0_followFrozen_stc tkv opv shv wyv bdv rov fz) = 1000000000000000 then 0 else (if dl < 2 ^ (f0_collectFree_ct sn fev rov fz) * (f0_collectFree_ct sn fev rov fz) then 1 else 0)) else 0) else 0)) else 0)); simp only [if_neg g_1, if_pos h_2, if_pos h_3]; exact Nat.le_of_eq (Nat.zero_add _)), (by show 0 + (if (sn - fz) ≤ 11 then (if (f0_followFrozen_stc tkv opv shv wyv bdv rov fz) = 1000000000000000 then 0 else (if dl < 2 ^ (f0_collectFree_ct sn fev rov fz) * (f0_collectFree_ct sn fev rov fz) then 2 ^ (f0_collectFree_ct sn fev rov fz) * (f0_collectFree_ct sn fev rov fz) else 0)) else 0) ≤ (if stp < 0 then 0 else (if stp ≤ 100000 then (if mo = (((-1))) then (if (sn - fz) ≤ 11 then (if (f0_followFrozen_stc tkv opv shv wyv bdv rov fz) = 1000000000000000 then 0 else (if dl < 2 ^ (f0_collectFree_ct sn fev rov fz) * (f0_collectFree_ct sn fev rov fz) then 2 ^ (f0_collectFree_ct sn fev rov fz) * (f0_collectFree_ct sn fev rov fz) else 0)) else 0) else (if ((f1_loads sn ldv)) ≤ mo then (if (sn - fz) ≤ 11 then (if (f0_followFrozen_stc tkv opv shv wyv bdv rov fz) = 1000000000000000 then 0 else (if dl < 2 ^ (f0_collectFree_ct sn fev rov fz) * (f0_collectFree_ct sn fev rov fz) then 2 ^ (f0_collectFree_ct sn fev rov fz) * (f0_collectFree_ct sn fev rov fz) else 0)) else 0) else 0)) else 0)); simp only [if_neg g_1, if_pos h_2, if_pos h_3]; exact Nat.le_of_eq (Nat.zero_add _))⟩ rfl rfl rfl ?_
          refine gz_aload_n C 0 dX2_solve_94 rfl ?_
          refine gz_lload_n C 1 dX2_solve_95 rfl ?_
          refine gz_callV (wr := []) (n := 1) (ws2 := (wC xo nt es ro ad cI cJ cZ (nI sn) fz (f0_fill sn tkv opv shv wyv bdv fev dl dnv rov fz) mo sn bw tkv opv shv ldv wyv bdv (f0_fill_ct sn tkv opv shv wyv bdv ct fev dl dnv rov fz) dA_4 dA_4 (f0_fill_sta sn tkv opv shv wyv bdv sta fev dl dnv rov fz) (f0_fill_stc sn tkv opv shv wyv bdv stc fev dl dnv rov fz) (f0_fill_fev sn tkv opv shv wyv bdv fev dl dnv rov fz) (f0_fill_dl sn tkv opv shv wyv bdv fev dl dnv rov fz) (f0_fill_dnv sn tkv opv shv wyv bdv fev dl dnv rov fz) (f2_improve_rov fz tkv opv shv wyv bdv (f2_insertFreeStops_rov fz sn tkv opv shv wyv bdv rov) stp sn))) (st2 := []) (cells2 := (0 + (if (sn - fz) ≤ 11 then (if (f0_followFrozen_stc tkv opv shv wyv bdv rov fz) = 1000000000000000 then 0 else (if dl < 2 ^ (f0_collectFree_ct sn fev rov fz) * (f0_collectFree_ct sn fev rov fz) then 1 else 0)) else 0))) (slots2 := (0 + (if (sn - fz) ≤ 11 then (if (f0_followFrozen_stc tkv opv shv wyv bdv rov fz) = 1000000000000000 then 0 else (if dl < 2 ^ (f0_collectFree_ct sn fev rov fz) * (f0_collectFree_ct sn fev rov fz) then 2 ^ (f0_collectFree_ct sn fev rov fz) * (f0_collectFree_ct sn fev rov fz) else 0)) else 0))) (ci := 3) C (kX2_improve l D xo nt es ro ad cI cJ cZ (nI sn) fz (f0_fill sn tkv opv shv wyv bdv fev dl dnv rov fz) mo sn bw tkv opv shv ldv wyv bdv (f0_fill_ct sn tkv opv shv wyv bdv ct fev dl dnv rov fz) dA_4 (f0_fill_sta sn tkv opv shv wyv bdv sta fev dl dnv rov fz) (f0_fill_stc sn tkv opv shv wyv bdv stc fev dl dnv rov fz) (f0_fill_fev sn tkv opv shv wyv bdv fev dl dnv rov fz) (f0_fill_dl sn tkv opv shv wyv bdv fev dl dnv rov fz) (f0_fill_dnv sn tkv opv shv wyv bdv fev dl dnv rov fz) (f2_insertFreeStops_rov fz sn tkv opv shv wyv bdv rov) stp sn rfl (by first | assumption | omega) (fun k hk => by have := (hq9.1 k hk).2; omega) (by first | assumption | omega) (by first | assumption | omega) (by first | assumption | omega)) (WB_V wk_227 wk_229 ws_10 wk_1 wk_230) (by decide +kernel) ⟨⟨rfl, rfl⟩, Nat.le_of_ble_eq_true rfl, Nat.le_of_ble_eq_true rfl⟩ [0, 1, 2, 3, 4, 5, 6, 7, 8, 9, 10, 11] [] [0, 1, 2] rfl rfl rfl (by decide) rfl 0 rfl rfl rfl rfl (Nat.le_of_ble_eq_true rfl) dX2_solve_96 ⟨(by show 0 + (if (sn - fz) ≤ 11 then (if (f0_followFrozen_stc tkv opv shv wyv bdv rov fz) = 1000000000000000 then 0 else (if dl < 2 ^ (f0_collectFree_ct sn fev rov fz) * (f0_collectFree_ct sn fev rov fz) then 1 else 0)) else 0) ≤ (if stp < 0 then 0 else (if stp ≤ 100000 then (if mo = (((-1))) then (if (sn - fz) ≤ 11 then (if (f0_followFrozen_stc tkv opv shv wyv bdv rov fz) = 1000000000000000 then 0 else (if dl < 2 ^ (f0_collectFree_ct sn fev rov fz) * (f0_collectFree_ct sn fev rov fz) then 1 else 0)) else 0) else (if ((f1_loads sn ldv)) ≤ mo then (if (sn - fz) ≤ 11 then (if (f0_followFrozen_stc tkv opv shv wyv bdv rov fz) = 1000000000000000 then 0 else (if dl < 2 ^ (f0_collectFree_ct sn fev rov fz) * (f0_collectFree_ct sn fev rov fz) then 1 else 0)) else 0) else 0)) else 0)); simp only [if_neg g_1, if_pos h_2, if_pos h_3]; exact Nat.le_of_eq (Nat.zero_add _)), (by show 0 + (if (sn - fz) ≤ 11 then (if (f0_followFrozen_stc tkv opv shv wyv bdv rov fz) = 1000000000000000 then 0 else (if dl < 2 ^ (f0_collectFree_ct sn fev rov fz) * (f0_collectFree_ct sn fev rov fz) then 2 ^ (f0_collectFree_ct sn fev rov fz) * (f0_collectFree_ct sn fev rov fz) else 0)) else 0) ≤ (if stp < 0 then 0 else (if stp ≤ 100000 then (if mo = (((-1))) then (if (sn - fz) ≤ 11 then (if (f0_followFrozen_stc tkv opv shv wyv bdv rov fz) = 1000000000000000 then 0 else (if dl < 2 ^ (f0_collectFree_ct sn fev rov fz) * (f0_collectFree_ct sn fev rov fz) then 2 ^ (f0_collectFree_ct sn fev rov fz) * (f0_collectFree_ct sn fev rov fz) else 0)) else 0) else (if ((f1_loads sn ldv)) ≤ mo then (if (sn - fz) ≤ 11 then (if (f0_followFrozen_stc tkv opv shv wyv bdv rov fz) = 1000000000000000 then 0 else (if dl < 2 ^ (f0_collectFree_ct sn fev rov fz) * (f0_collectFree_ct sn fev rov fz) then 2 ^ (f0_collectFree_ct sn fev rov fz) * (f0_collectFree_ct sn fev rov fz) else 0)) else 0) else 0)) else 0)); simp only [if_neg g_1, if_pos h_2, if_pos h_3]; exact Nat.le_of_eq (Nat.zero_add _))⟩ rfl rfl rfl ?_
          have hq8 : ∀ k, k < sn → f2_improve_rov fz tkv opv shv wyv bdv (f2_insertFreeStops_rov fz sn tkv opv shv wyv bdv rov) stp sn k ≤ 20 := fun k hk => by rw [ce_impr]; have := ((qr_improve (tkv := tkv) (opv := opv) (shv := shv) (wyv := wyv) (bdv := bdv) (fz := fz) (stp := stp) hq9).1.1 k hk).2; omega
          refine gz_aload_n C 0 dX2_solve_99 rfl ?_
          refine gz_get (ci := 3) C iwX2 0 rfl rfl 0 (by decide) wk_79 rfl rfl dX2_solve_100 ?_
          refine gz_aload_n C 0 dX2_solve_103 rfl ?_
          refine gz_get (ci := 3) C iwX2 0 rfl rfl 2 (by decide) wk_81 rfl rfl dX2_solve_104 ?_
          refine gz_aload_n C 0 dX2_solve_107 rfl ?_
          refine gz_get (ci := 3) C iwX2 0 rfl rfl 3 (by decide) wk_82 rfl rfl dX2_solve_108 ?_
          refine gz_callV (wr := []) (n := 2) (ws2 := (wC xo nt es ro ad cI cJ cZ (nI sn) fz (f0_fill sn tkv opv shv wyv bdv fev dl dnv rov fz) mo sn bw tkv opv shv ldv wyv bdv (f0_fill_ct sn tkv opv shv wyv bdv ct fev dl dnv rov fz) dA_4 dA_4 (f0_fill_sta sn tkv opv shv wyv bdv sta fev dl dnv rov fz) (f0_fill_stc sn tkv opv shv wyv bdv stc fev dl dnv rov fz) (f0_fill_fev sn tkv opv shv wyv bdv fev dl dnv rov fz) (f0_fill_dl sn tkv opv shv wyv bdv fev dl dnv rov fz) (f0_fill_dnv sn tkv opv shv wyv bdv fev dl dnv rov fz) (f2_improve_rov fz tkv opv shv wyv bdv (f2_insertFreeStops_rov fz sn tkv opv shv wyv bdv rov) stp sn))) (st2 := [.long (f1_home tkv opv shv wyv bdv (f2_improve_rov fz tkv opv shv wyv bdv (f2_insertFreeStops_rov fz sn tkv opv shv wyv bdv rov) stp sn) sn)]) (cells2 := (0 + (if (sn - fz) ≤ 11 then (if (f0_followFrozen_stc tkv opv shv wyv bdv rov fz) = 1000000000000000 then 0 else (if dl < 2 ^ (f0_collectFree_ct sn fev rov fz) * (f0_collectFree_ct sn fev rov fz) then 1 else 0)) else 0))) (slots2 := (0 + (if (sn - fz) ≤ 11 then (if (f0_followFrozen_stc tkv opv shv wyv bdv rov fz) = 1000000000000000 then 0 else (if dl < 2 ^ (f0_collectFree_ct sn fev rov fz) * (f0_collectFree_ct sn fev rov fz) then 2 ^ (f0_collectFree_ct sn fev rov fz) * (f0_collectFree_ct sn fev rov fz) else 0)) else 0))) (ci := 2) C (kX1_home l D xo nt es ro ad cI cJ cZ (nI sn) fz (f0_fill sn tkv opv shv wyv bdv fev dl dnv rov fz) mo sn bw tkv opv shv ldv wyv bdv (f0_fill_ct sn tkv opv shv wyv bdv ct fev dl dnv rov fz) dA_4 (f0_fill_sta sn tkv opv shv wyv bdv sta fev dl dnv rov fz) (f0_fill_stc sn tkv opv shv wyv bdv stc fev dl dnv rov fz) (f0_fill_fev sn tkv opv shv wyv bdv fev dl dnv rov fz) (f0_fill_dl sn tkv opv shv wyv bdv fev dl dnv rov fz) (f0_fill_dnv sn tkv opv shv wyv bdv fev dl dnv rov fz) (f2_improve_rov fz tkv opv shv wyv bdv (f2_insertFreeStops_rov fz sn tkv opv shv wyv bdv rov) stp sn) sn (by first | assumption | omega) hq8) (WB_V wk_235 wk_236 wk_237 wk_2 wk_238) (by decide +kernel) ⟨⟨rfl, rfl⟩, Nat.le_of_ble_eq_true rfl, Nat.le_of_ble_eq_true rfl⟩ [0, 1, 2, 3, 4, 5, 6, 7, 8, 9, 10, 11] [] [0, 1, 2] rfl rfl rfl (by decide) rfl 1 rfl rfl rfl rfl (Nat.le_of_ble_eq_true rfl) dX2_solve_111 ⟨(by show 0 + (if (sn - fz) ≤ 11 then (if (f0_followFrozen_stc tkv opv shv wyv bdv rov fz) = 1000000000000000 then 0 else (if dl < 2 ^ (f0_collectFree_ct sn fev rov fz) * (f0_collectFree_ct sn fev rov fz) then 1 else 0)) else 0) ≤ (if stp < 0 then 0 else (if stp ≤ 100000 then (if mo = (((-1))) then (if (sn - fz) ≤ 11 then (if (f0_followFrozen_stc tkv opv shv wyv bdv rov fz) = 1000000000000000 then 0 else (if dl < 2 ^ (f0_collectFree_ct sn fev rov fz) * (f0_collectFree_ct sn fev rov fz) then 1 else 0)) else 0) else (if ((f1_loads sn ldv)) ≤ mo then (if (sn - fz) ≤ 11 then (if (f0_followFrozen_stc tkv opv shv wyv bdv rov fz) = 1000000000000000 then 0 else (if dl < 2 ^ (f0_collectFree_ct sn fev rov fz) * (f0_collectFree_ct sn fev rov fz) then 1 else 0)) else 0) else 0)) else 0)); simp only [if_neg g_1, if_pos h_2, if_pos h_3]; exact Nat.le_of_eq (Nat.zero_add _)), (by show 0 + (if (sn - fz) ≤ 11 then (if (f0_followFrozen_stc tkv opv shv wyv bdv rov fz) = 1000000000000000 then 0 else (if dl < 2 ^ (f0_collectFree_ct sn fev rov fz) * (f0_collectFree_ct sn fev rov fz) then 2 ^ (f0_collectFree_ct sn fev rov fz) * (f0_collectFree_ct sn fev rov fz) else 0)) else 0) ≤ (if stp < 0 then 0 else (if stp ≤ 100000 then (if mo = (((-1))) then (if (sn - fz) ≤ 11 then (if (f0_followFrozen_stc tkv opv shv wyv bdv rov fz) = 1000000000000000 then 0 else (if dl < 2 ^ (f0_collectFree_ct sn fev rov fz) * (f0_collectFree_ct sn fev rov fz) then 2 ^ (f0_collectFree_ct sn fev rov fz) * (f0_collectFree_ct sn fev rov fz) else 0)) else 0) else (if ((f1_loads sn ldv)) ≤ mo then (if (sn - fz) ≤ 11 then (if (f0_followFrozen_stc tkv opv shv wyv bdv rov fz) = 1000000000000000 then 0 else (if dl < 2 ^ (f0_collectFree_ct sn fev rov fz) * (f0_collectFree_ct sn fev rov fz) then 2 ^ (f0_collectFree_ct sn fev rov fz) * (f0_collectFree_ct sn fev rov fz) else 0)) else 0) else 0)) else 0)); simp only [if_neg g_1, if_pos h_2, if_pos h_3]; exact Nat.le_of_eq (Nat.zero_add _))⟩ rfl rfl rfl ?_
          exact gz_lretX C hr hk (by first | rfl | (simp only [f2_solve, f2_solve_ln, f2_solve_sx, f2_solve_ct, f2_solve_sta, f2_solve_stc, f2_solve_fev, f2_solve_dl, f2_solve_dnv, f2_solve_rov, if_neg g_1, if_pos h_2, if_pos h_3, if_neg g_5]) | (simp only [f2_solve, f2_solve_ln, f2_solve_sx, f2_solve_ct, f2_solve_sta, f2_solve_stc, f2_solve_fev, f2_solve_dl, f2_solve_dnv, f2_solve_rov, if_neg g_1, if_pos h_2, if_pos h_3, if_neg g_5]; rfl)) dA_4 (by first | rfl | (simp only [f2_solve, f2_solve_ln, f2_solve_sx, f2_solve_ct, f2_solve_sta, f2_solve_stc, f2_solve_fev, f2_solve_dl, f2_solve_dnv, f2_solve_rov, if_neg g_1, if_pos h_2, if_pos h_3, if_neg g_5]) | (simp only [f2_solve, f2_solve_ln, f2_solve_sx, f2_solve_ct, f2_solve_sta, f2_solve_stc, f2_solve_fev, f2_solve_dl, f2_solve_dnv, f2_solve_rov, if_neg g_1, if_pos h_2, if_pos h_3, if_neg g_5]; rfl)) (by show 0 + (if (sn - fz) ≤ 11 then (if (f0_followFrozen_stc tkv opv shv wyv bdv rov fz) = 1000000000000000 then 0 else (if dl < 2 ^ (f0_collectFree_ct sn fev rov fz) * (f0_collectFree_ct sn fev rov fz) then 1 else 0)) else 0) ≤ (if stp < 0 then 0 else (if stp ≤ 100000 then (if mo = (((-1))) then (if (sn - fz) ≤ 11 then (if (f0_followFrozen_stc tkv opv shv wyv bdv rov fz) = 1000000000000000 then 0 else (if dl < 2 ^ (f0_collectFree_ct sn fev rov fz) * (f0_collectFree_ct sn fev rov fz) then 1 else 0)) else 0) else (if ((f1_loads sn ldv)) ≤ mo then (if (sn - fz) ≤ 11 then (if (f0_followFrozen_stc tkv opv shv wyv bdv rov fz) = 1000000000000000 then 0 else (if dl < 2 ^ (f0_collectFree_ct sn fev rov fz) * (f0_collectFree_ct sn fev rov fz) then 1 else 0)) else 0) else 0)) else 0)); simp only [if_neg g_1, if_pos h_2, if_pos h_3]; exact Nat.le_of_eq (Nat.zero_add _)) (by show 0 + (if (sn - fz) ≤ 11 then (if (f0_followFrozen_stc tkv opv shv wyv bdv rov fz) = 1000000000000000 then 0 else (if dl < 2 ^ (f0_collectFree_ct sn fev rov fz) * (f0_collectFree_ct sn fev rov fz) then 2 ^ (f0_collectFree_ct sn fev rov fz) * (f0_collectFree_ct sn fev rov fz) else 0)) else 0) ≤ (if stp < 0 then 0 else (if stp ≤ 100000 then (if mo = (((-1))) then (if (sn - fz) ≤ 11 then (if (f0_followFrozen_stc tkv opv shv wyv bdv rov fz) = 1000000000000000 then 0 else (if dl < 2 ^ (f0_collectFree_ct sn fev rov fz) * (f0_collectFree_ct sn fev rov fz) then 2 ^ (f0_collectFree_ct sn fev rov fz) * (f0_collectFree_ct sn fev rov fz) else 0)) else 0) else (if ((f1_loads sn ldv)) ≤ mo then (if (sn - fz) ≤ 11 then (if (f0_followFrozen_stc tkv opv shv wyv bdv rov fz) = 1000000000000000 then 0 else (if dl < 2 ^ (f0_collectFree_ct sn fev rov fz) * (f0_collectFree_ct sn fev rov fz) then 2 ^ (f0_collectFree_ct sn fev rov fz) * (f0_collectFree_ct sn fev rov fz) else 0)) else 0) else 0)) else 0)); simp only [if_neg g_1, if_pos h_2, if_pos h_3]; exact Nat.le_of_eq (Nat.zero_add _)) dX2_solve_114
      · have g_3 : ¬ (mo = (((-1)))) := h_3
        refine gz_aload_n C 0 dX2_solve_26 rfl ?_
        refine gz_get (ci := 3) C iwX2 0 rfl rfl 0 (by decide) wk_79 rfl rfl dX2_solve_27 ?_
        refine gz_callV (wr := []) (n := 0) (ws2 := (wC xo nt es ro ad cI cJ cZ ln fz sx mo sn bw tkv opv shv ldv wyv bdv ct dA dA sta stc fev dl dnv rov)) (st2 := [.int (f1_loads sn ldv)]) (cells2 := 0) (slots2 := 0) (ci := 2) C (kX1_loads l D xo nt es ro ad cI cJ cZ ln fz sx mo sn bw tkv opv shv ldv wyv bdv ct dA sta stc fev dl dnv rov (by first | assumption | omega)) (WB_V wk_142 wk_143 wk_144 wk_2 wk_145) (by decide +kernel) ⟨⟨rfl, rfl⟩, Nat.le_of_ble_eq_true rfl, Nat.le_of_ble_eq_true rfl⟩ [0, 1, 2, 3, 4, 5, 6, 7, 8, 9, 10, 11] [] [0, 1, 2] rfl rfl rfl (by decide) rfl 1 rfl rfl rfl rfl (Nat.le_of_ble_eq_true rfl) dX2_solve_30 ⟨Nat.zero_le _, Nat.zero_le _⟩ rfl rfl rfl ?_
        refine gz_aload_n C 0 dX2_solve_33 rfl ?_
        refine gz_get (ci := 3) C iwX2 0 rfl rfl 6 (by decide) wk_85 rfl rfl dX2_solve_34 ?_
        refine gz_icmp_le C 49 dX2_solve_37 (by decide) (fun h_6 => ?_) (fun h_6 => ?_)
        · skip
          refine gz_aload_n C 0 dX2_solve_49 rfl ?_
          refine gz_aload_n C 0 dX2_solve_50 rfl ?_
          refine gz_get (ci := 3) C iwX2 0 rfl rfl 1 (by decide) wk_80 rfl rfl dX2_solve_51 ?_
          refine gz_aload_n C 0 dX2_solve_54 rfl ?_
          refine gz_get (ci := 3) C iwX2 0 rfl rfl 0 (by decide) wk_79 rfl rfl dX2_solve_55 ?_
          refine gz_aload_n C 0 dX2_solve_58 rfl ?_
          refine gz_get (ci := 3) C iwX2 0 rfl rfl 2 (by decide) wk_81 rfl rfl dX2_solve_59 ?_
          refine gz_aload_n C 0 dX2_solve_62 rfl ?_
          refine gz_get (ci := 3) C iwX2 0 rfl rfl 4 (by decide) wk_83 rfl rfl dX2_solve_63 ?_
          refine gz_callVX (wr := []) (n := 3) (g := fun dA_7 : Nat => (wC xo nt es ro ad cI cJ cZ ln fz sx mo sn bw tkv opv shv ldv wyv bdv (f0_fill_ct sn tkv opv shv wyv bdv ct fev dl dnv rov fz) dA_7 dA_7 (f0_fill_sta sn tkv opv shv wyv bdv sta fev dl dnv rov fz) (f0_fill_stc sn tkv opv shv wyv bdv stc fev dl dnv rov fz) (f0_fill_fev sn tkv opv shv wyv bdv fev dl dnv rov fz) (f0_fill_dl sn tkv opv shv wyv bdv fev dl dnv rov fz) (f0_fill_dnv sn tkv opv shv wyv bdv fev dl dnv rov fz) (f0_fill_rov sn tkv opv shv wyv bdv fev dl dnv rov fz))) (st2 := [.int (bI (f0_fill sn tkv opv shv wyv bdv fev dl dnv rov fz)), .ref xo]) (cells2 := (0 + (if (sn - fz) ≤ 11 then (if (f0_followFrozen_stc tkv opv shv wyv bdv rov fz) = 1000000000000000 then 0 else (if dl < 2 ^ (f0_collectFree_ct sn fev rov fz) * (f0_collectFree_ct sn fev rov fz) then 1 else 0)) else 0))) (slots2 := (0 + (if (sn - fz) ≤ 11 then (if (f0_followFrozen_stc tkv opv shv wyv bdv rov fz) = 1000000000000000 then 0 else (if dl < 2 ^ (f0_collectFree_ct sn fev rov fz) * (f0_collectFree_ct sn fev rov fz) then 2 ^ (f0_collectFree_ct sn fev rov fz) * (f0_collectFree_ct sn fev rov fz) else 0)) else 0))) (ci := 1) C (kX0_fill l D xo nt es ro ad cI cJ cZ ln fz sx mo sn bw tkv opv shv ldv wyv bdv ct dA sta stc fev dl dnv rov fz (by first | assumption | omega) (by first | assumption | omega) (by first | assumption | omega) (by first | assumption | omega)) (WB_V wk_156 wk_157 wk_158 wk_3 wk_159) (by decide +kernel) ⟨⟨rfl, rfl⟩, Nat.le_of_ble_eq_true rfl, Nat.le_of_ble_eq_true rfl⟩ [0, 1, 2, 3, 4, 5, 6, 7, 8, 9, 10, 11] [] [0, 1, 2] rfl rfl rfl (by decide) (fun _ => rfl) 8 rfl rfl rfl rfl (Nat.le_of_ble_eq_true rfl) dX2_solve_66 ⟨(by show 0 + (if (sn - fz) ≤ 11 then (if (f0_followFrozen_stc tkv opv shv wyv bdv rov fz) = 1000000000000000 then 0 else (if dl < 2 ^ (f0_collectFree_ct sn fev rov fz) * (f0_collectFree_ct sn fev rov fz) then 1 else 0)) else 0) ≤ (if stp < 0 then 0 else (if stp ≤ 100000 then (if mo = (((-1))) then (if (sn - fz) ≤ 11 then (if (f0_followFrozen_stc tkv opv shv wyv bdv rov fz) = 1000000000000000 then 0 else (if dl < 2 ^ (f0_collectFree_ct sn fev rov fz) * (f0_collectFree_ct sn fev rov fz) then 1 else 0)) else 0) else (if ((f1_loads sn ldv)) ≤ mo then (if (sn - fz) ≤ 11 then (if (f0_followFrozen_stc tkv opv shv wyv bdv rov fz) = 1000000000000000 then 0 else (if dl < 2 ^ (f0_collectFree_ct sn fev rov fz) * (f0_collectFree_ct sn fev rov fz) then 1 else 0)) else 0) else 0)) else 0)); simp only [if_neg g_1, if_pos h_2, if_neg g_3, if_pos h_6]; exact Nat.le_of_eq (Nat.zero_add _)), (by show 0 + (if (sn - fz) ≤ 11 then (if (f0_followFrozen_stc tkv opv shv wyv bdv rov fz) = 1000000000000000 then 0 else (if dl < 2 ^ (f0_collectFree_ct sn fev rov fz) * (f0_collectFree_ct sn fev rov fz) then 2 ^ (f0_collectFree_ct sn fev rov fz) * (f0_collectFree_ct sn fev rov fz) else 0)) else 0) ≤ (if stp < 0 then 0 else (if stp ≤ 100000 then (if mo = (((-1))) then (if (sn - fz) ≤ 11 then (if (f0_followFrozen_stc tkv opv shv wyv bdv rov fz) = 1000000000000000 then 0 else (if dl < 2 ^ (f0_collectFree_ct sn fev rov fz) * (f0_collectFree_ct sn fev rov fz) then 2 ^ (f0_collectFree_ct sn fev rov fz) * (f0_collectFree_ct sn fev rov fz) else 0)) else 0) else (if ((f1_loads sn ldv)) ≤ mo then (if (sn - fz) ≤ 11 then (if (f0_followFrozen_stc tkv opv shv wyv bdv rov fz) = 1000000000000000 then 0 else (if dl < 2 ^ (f0_collectFree_ct sn fev rov fz) * (f0_collectFree_ct sn fev rov fz) then 2 ^ (f0_collectFree_ct sn fev rov fz) * (f0_collectFree_ct sn fev rov fz) else 0)) else 0) else 0)) else 0)); simp only [if_neg g_1, if_pos h_2, if_neg g_3, if_pos h_6]; exact Nat.le_of_eq (Nat.zero_add _))⟩ rfl rfl rfl (fun dA_7 => ?_)
          refine gz_put (ci := 3) (ws2 := (wC xo nt es ro ad cI cJ cZ ln fz (f0_fill sn tkv opv shv wyv bdv fev dl dnv rov fz) mo sn bw tkv opv shv ldv wyv bdv (f0_fill_ct sn tkv opv shv wyv bdv ct fev dl dnv rov fz) dA_7 dA_7 (f0_fill_sta sn tkv opv shv wyv bdv sta fev dl dnv rov fz) (f0_fill_stc sn tkv opv shv wyv bdv stc fev dl dnv rov fz) (f0_fill_fev sn tkv opv shv wyv bdv fev dl dnv rov fz) (f0_fill_dl sn tkv opv shv wyv bdv fev dl dnv rov fz) (f0_fill_dnv sn tkv opv shv wyv bdv fev dl dnv rov fz) (f0_fill_rov sn tkv opv shv wyv bdv fev dl dnv rov fz))) C iwX2 0 rfl rfl 5 (by decide) wk_84 rfl tyX2 tyX2_ok nmX2 rfl rfl (bI_nar _) (bI_fit _) (Nat.le_of_ble_eq_true rfl) rfl dX2_solve_69 ?_
          refine gz_aload_n C 0 dX2_solve_72 rfl ?_
          refine gz_aload_n C 0 dX2_solve_73 rfl ?_
          refine gz_get (ci := 3) C iwX2 0 rfl rfl 0 (by decide) wk_79 rfl rfl dX2_solve_74 ?_
          refine gz_getN (ci := 2) C iwX1 1 rfl rfl 0 (by decide) (nw_1 C.2.2.2.2.2.2.2) rfl rfl dX2_solve_77 ?_
          refine gz_put (ci := 3) (ws2 := (wC xo nt es ro ad cI cJ cZ (nI sn) fz (f0_fill sn tkv opv shv wyv bdv fev dl dnv rov fz) mo sn bw tkv opv shv ldv wyv bdv (f0_fill_ct sn tkv opv shv wyv bdv ct fev dl dnv rov fz) dA_7 dA_7 (f0_fill_sta sn tkv opv shv wyv bdv sta fev dl dnv rov fz) (f0_fill_stc sn tkv opv shv wyv bdv stc fev dl dnv rov fz) (f0_fill_fev sn tkv opv shv wyv bdv fev dl dnv rov fz) (f0_fill_dl sn tkv opv shv wyv bdv fev dl dnv rov fz) (f0_fill_dnv sn tkv opv shv wyv bdv fev dl dnv rov fz) (f0_fill_rov sn tkv opv shv wyv bdv fev dl dnv rov fz))) C iwX2 0 rfl rfl 3 (by decide) wk_82 rfl tyX2 tyX2_ok nmX2 rfl rfl rfl rfl (Nat.le_of_ble_eq_true rfl) rfl dX2_solve_80 ?_
          refine gz_aload_n C 0 dX2_solve_83 rfl ?_
          refine gz_get (ci := 3) C iwX2 0 rfl rfl 5 (by decide) wk_84 rfl rfl dX2_solve_84 ?_
          refine gz_bif_ne C 99 dX2_solve_87 (by decide) (fun h_8 => ?_) (fun h_8 => ?_)
          · skip
            have hq8 := q0_fill_le hsn hfs hri h_8
            refine gz_aload_n C 0 dX2_solve_99 rfl ?_
            refine gz_get (ci := 3) C iwX2 0 rfl rfl 0 (by decide) wk_79 rfl rfl dX2_solve_100 ?_
            refine gz_aload_n C 0 dX2_solve_103 rfl ?_
            refine gz_get (ci := 3) C iwX2 0 rfl rfl 2 (by decide) wk_81 rfl rfl dX2_solve_104 ?_
            refine gz_aload_n C 0 dX2_solve_107 rfl ?_
            refine gz_get (ci := 3) C iwX2 0 rfl rfl 3 (by decide) wk_82 rfl rfl dX2_solve_108 ?_
            refine gz_callV (wr := []) (n := 2) (ws2 := (wC xo nt es ro ad cI cJ cZ (nI sn) fz (f0_fill sn tkv opv shv wyv bdv fev dl dnv rov fz) mo sn bw tkv opv shv ldv wyv bdv (f0_fill_ct sn tkv opv shv wyv bdv ct fev dl dnv rov fz) dA_7 dA_7 (f0_fill_sta sn tkv opv shv wyv bdv sta fev dl dnv rov fz) (f0_fill_stc sn tkv opv shv wyv bdv stc fev dl dnv rov fz) (f0_fill_fev sn tkv opv shv wyv bdv fev dl dnv rov fz) (f0_fill_dl sn tkv opv shv wyv bdv fev dl dnv rov fz) (f0_fill_dnv sn tkv opv shv wyv bdv fev dl dnv rov fz) (f0_fill_rov sn tkv opv shv wyv bdv fev dl dnv rov fz))) (st2 := [.long (f1_home tkv opv shv wyv bdv (f0_fill_rov sn tkv opv shv wyv bdv fev dl dnv rov fz) sn)]) (cells2 := (0 + (if (sn - fz) ≤ 11 then (if (f0_followFrozen_stc tkv opv shv wyv bdv rov fz) = 1000000000000000 then 0 else (if dl < 2 ^ (f0_collectFree_ct sn fev rov fz) * (f0_collectFree_ct sn fev rov fz) then 1 else 0)) else 0))) (slots2 := (0 + (if (sn - fz) ≤ 11 then (if (f0_followFrozen_stc tkv opv shv wyv bdv rov fz) = 1000000000000000 then 0 else (if dl < 2 ^ (f0_collectFree_ct sn fev rov fz) * (f0_collectFree_ct sn fev rov fz) then 2 ^ (f0_collectFree_ct sn fev rov fz) * (f0_collectFree_ct sn fev rov fz) else 0)) else 0))) (ci := 2) C (kX1_home l D xo nt es ro ad cI cJ cZ (nI sn) fz (f0_fill sn tkv opv shv wyv bdv fev dl dnv rov fz) mo sn bw tkv opv shv ldv wyv bdv (f0_fill_ct sn tkv opv shv wyv bdv ct fev dl dnv rov fz) dA_7 (f0_fill_sta sn tkv opv shv wyv bdv sta fev dl dnv rov fz) (f0_fill_stc sn tkv opv shv wyv bdv stc fev dl dnv rov fz) (f0_fill_fev sn tkv opv shv wyv bdv fev dl dnv rov fz) (f0_fill_dl sn tkv opv shv wyv bdv fev dl dnv rov fz) (f0_fill_dnv sn tkv opv shv wyv bdv fev dl dnv rov fz) (f0_fill_rov sn tkv opv shv wyv bdv fev dl dnv rov fz) sn (by first | assumption | omega) hq8) (WB_V wk_235 wk_236 wk_237 wk_2 wk_238) (by decide +kernel) ⟨⟨rfl, rfl⟩, Nat.le_of_ble_eq_true rfl, Nat.le_of_ble_eq_true rfl⟩ [0, 1, 2, 3, 4, 5, 6, 7, 8, 9, 10, 11] [] [0, 1, 2] rfl rfl rfl (by decide) rfl 1 rfl rfl rfl rfl (Nat.le_of_ble_eq_true rfl) dX2_solve_111 ⟨(by show 0 + (if (sn - fz) ≤ 11 then (if (f0_followFrozen_stc tkv opv shv wyv bdv rov fz) = 1000000000000000 then 0 else (if dl < 2 ^ (f0_collectFree_ct sn fev rov fz) * (f0_collectFree_ct sn fev rov fz) then 1 else 0)) else 0) ≤ (if stp < 0 then 0 else (if stp ≤ 100000 then (if mo = (((-1))) then (if (sn - fz) ≤ 11 then (if (f0_followFrozen_stc tkv opv shv wyv bdv rov fz) = 1000000000000000 then 0 else (if dl < 2 ^ (f0_collectFree_ct sn fev rov fz) * (f0_collectFree_ct sn fev rov fz) then 1 else 0)) else 0) else (if ((f1_loads sn ldv)) ≤ mo then (if (sn - fz) ≤ 11 then (if (f0_followFrozen_stc tkv opv shv wyv bdv rov fz) = 1000000000000000 then 0 else (if dl < 2 ^ (f0_collectFree_ct sn fev rov fz) * (f0_collectFree_ct sn fev rov fz) then 1 else 0)) else 0) else 0)) else 0)); simp only [if_neg g_1, if_pos h_2, if_neg g_3, if_pos h_6]; exact Nat.le_of_eq (Nat.zero_add _)), (by show 0 + (if (sn - fz) ≤ 11 then (if (f0_followFrozen_stc tkv opv shv wyv bdv rov fz) = 1000000000000000 then 0 else (if dl < 2 ^ (f0_collectFree_ct sn fev rov fz) * (f0_collectFree_ct sn fev rov fz) then 2 ^ (f0_collectFree_ct sn fev rov fz) * (f0_collectFree_ct sn fev rov fz) else 0)) else 0) ≤ (if stp < 0 then 0 else (if stp ≤ 100000 then (if mo = (((-1))) then (if (sn - fz) ≤ 11 then (if (f0_followFrozen_stc tkv opv shv wyv bdv rov fz) = 1000000000000000 then 0 else (if dl < 2 ^ (f0_collectFree_ct sn fev rov fz) * (f0_collectFree_ct sn fev rov fz) then 2 ^ (f0_collectFree_ct sn fev rov fz) * (f0_collectFree_ct sn fev rov fz) else 0)) else 0) else (if ((f1_loads sn ldv)) ≤ mo then (if (sn - fz) ≤ 11 then (if (f0_followFrozen_stc tkv opv shv wyv bdv rov fz) = 1000000000000000 then 0 else (if dl < 2 ^ (f0_collectFree_ct sn fev rov fz) * (f0_collectFree_ct sn fev rov fz) then 2 ^ (f0_collectFree_ct sn fev rov fz) * (f0_collectFree_ct sn fev rov fz) else 0)) else 0) else 0)) else 0)); simp only [if_neg g_1, if_pos h_2, if_neg g_3, if_pos h_6]; exact Nat.le_of_eq (Nat.zero_add _))⟩ rfl rfl rfl ?_
            exact gz_lretX C hr hk (by first | rfl | (simp only [f2_solve, f2_solve_ln, f2_solve_sx, f2_solve_ct, f2_solve_sta, f2_solve_stc, f2_solve_fev, f2_solve_dl, f2_solve_dnv, f2_solve_rov, if_neg g_1, if_pos h_2, if_neg g_3, if_pos h_6, if_pos h_8]) | (simp only [f2_solve, f2_solve_ln, f2_solve_sx, f2_solve_ct, f2_solve_sta, f2_solve_stc, f2_solve_fev, f2_solve_dl, f2_solve_dnv, f2_solve_rov, if_neg g_1, if_pos h_2, if_neg g_3, if_pos h_6, if_pos h_8]; rfl)) dA_7 (by first | rfl | (simp only [f2_solve, f2_solve_ln, f2_solve_sx, f2_solve_ct, f2_solve_sta, f2_solve_stc, f2_solve_fev, f2_solve_dl, f2_solve_dnv, f2_solve_rov, if_neg g_1, if_pos h_2, if_neg g_3, if_pos h_6, if_pos h_8]) | (simp only [f2_solve, f2_solve_ln, f2_solve_sx, f2_solve_ct, f2_solve_sta, f2_solve_stc, f2_solve_fev, f2_solve_dl, f2_solve_dnv, f2_solve_rov, if_neg g_1, if_pos h_2, if_neg g_3, if_pos h_6, if_pos h_8]; rfl)) (by show 0 + (if (sn - fz) ≤ 11 then (if (f0_followFrozen_stc tkv opv shv wyv bdv rov fz) = 1000000000000000 then 0 else (if dl < 2 ^ (f0_collectFree_ct sn fev rov fz) * (f0_collectFree_ct sn fev rov fz) then 1 else 0)) else 0) ≤ (if stp < 0 then 0 else (if stp ≤ 100000 then (if mo = (((-1))) then (if (sn - fz) ≤ 11 then (if (f0_followFrozen_stc tkv opv shv wyv bdv rov fz) = 1000000000000000 then 0 else (if dl < 2 ^ (f0_collectFree_ct sn fev rov fz) * (f0_collectFree_ct sn fev rov fz) then 1 else 0)) else 0) else (if ((f1_loads sn ldv)) ≤ mo then (if (sn - fz) ≤ 11 then (if (f0_followFrozen_stc tkv opv shv wyv bdv rov fz) = 1000000000000000 then 0 else (if dl < 2 ^ (f0_collectFree_ct sn fev rov fz) * (f0_collectFree_ct sn fev rov fz) then 1 else 0)) else 0) else 0)) else 0)); simp only [if_neg g_1, if_pos h_2, if_neg g_3, if_pos h_6]; exact Nat.le_of_eq (Nat.zero_add _)) (by show 0 + (if (sn - fz) ≤ 11 then (if (f0_followFrozen_stc tkv opv shv wyv bdv rov fz) = 1000000000000000 then 0 else (if dl < 2 ^ (f0_collectFree_ct sn fev rov fz) * (f0_collectFree_ct sn fev rov fz) then 2 ^ (f0_collectFree_ct sn fev rov fz) * (f0_collectFree_ct sn fev rov fz) else 0)) else 0) ≤ (if stp < 0 then 0 else (if stp ≤ 100000 then (if mo = (((-1))) then (if (sn - fz) ≤ 11 then (if (f0_followFrozen_stc tkv opv shv wyv bdv rov fz) = 1000000000000000 then 0 else (if dl < 2 ^ (f0_collectFree_ct sn fev rov fz) * (f0_collectFree_ct sn fev rov fz) then 2 ^ (f0_collectFree_ct sn fev rov fz) * (f0_collectFree_ct sn fev rov fz) else 0)) else 0) else (if ((f1_loads sn ldv)) ≤ mo then (if (sn - fz) ≤ 11 then (if (f0_followFrozen_stc tkv opv shv wyv bdv rov fz) = 1000000000000000 then 0 else (if dl < 2 ^ (f0_collectFree_ct sn fev rov fz) * (f0_collectFree_ct sn fev rov fz) then 2 ^ (f0_collectFree_ct sn fev rov fz) * (f0_collectFree_ct sn fev rov fz) else 0)) else 0) else 0)) else 0)); simp only [if_neg g_1, if_pos h_2, if_neg g_3, if_pos h_6]; exact Nat.le_of_eq (Nat.zero_add _)) dX2_solve_114
          · have g_8 : ¬ ((f0_fill sn tkv opv shv wyv bdv fev dl dnv rov fz) = true) := (by rw [h_8]; decide)
            refine gz_wse (ws2 := (wC xo nt es ro ad cI cJ cZ (nI sn) fz (f0_fill sn tkv opv shv wyv bdv fev dl dnv rov fz) mo sn bw tkv opv shv ldv wyv bdv (f0_fill_ct sn tkv opv shv wyv bdv ct fev dl dnv rov fz) dA_7 dA_7 (f0_fill_sta sn tkv opv shv wyv bdv sta fev dl dnv rov fz) (f0_fill_stc sn tkv opv shv wyv bdv stc fev dl dnv rov fz) (f0_fill_fev sn tkv opv shv wyv bdv fev dl dnv rov fz) (f0_fill_dl sn tkv opv shv wyv bdv fev dl dnv rov fz) (f0_fill_dnv sn tkv opv shv wyv bdv fev dl dnv rov fz) rov)) (by rw [q0_fill_f g_8]) ?_
            have hq9 := (qr_ifs (tkv := tkv) (opv := opv) (shv := shv) (wyv := wyv) (bdv := bdv) hsn hri).1
            refine gz_aload_n C 0 dX2_solve_90 rfl ?_
            refine gz_callV (wr := []) (n := 0) (ws2 := (wC xo nt es ro ad cI cJ cZ (nI sn) fz (f0_fill sn tkv opv shv wyv bdv fev dl dnv rov fz) mo sn bw tkv opv shv ldv wyv bdv (f0_fill_ct sn tkv opv shv wyv bdv ct fev dl dnv rov fz) dA_7 dA_7 (f0_fill_sta sn tkv opv shv wyv bdv sta fev dl dnv rov fz) (f0_fill_stc sn tkv opv shv wyv bdv stc fev dl dnv rov fz) (f0_fill_fev sn tkv opv shv wyv bdv fev dl dnv rov fz) (f0_fill_dl sn tkv opv shv wyv bdv fev dl dnv rov fz) (f0_fill_dnv sn tkv opv shv wyv bdv fev dl dnv rov fz) (f2_insertFreeStops_rov fz sn tkv opv shv wyv bdv rov))) (st2 := []) (cells2 := (0 + (if (sn - fz) ≤ 11 then (if (f0_followFrozen_stc tkv opv shv wyv bdv rov fz) = 1000000000000000 then 0 else (if dl < 2 ^ (f0_collectFree_ct sn fev rov fz) * (f0_collectFree_ct sn fev rov fz) then 1 else 0)) else 0))) (slots2 := (0 + (if (sn - fz) ≤ 11 then (if (f0_followFrozen_stc tkv opv shv wyv bdv rov fz) = 1000000000000000 then 0 else (if dl < 2 ^ (f0_collectFree_ct sn fev rov fz) * (f0_collectFree_ct sn fev rov fz) then 2 ^ (f0_collectFree_ct sn fev rov fz) * (f0_collectFree_ct sn fev rov fz) else 0)) else 0))) (ci := 3) C (kX2_insertFreeStops l D xo nt es ro ad cI cJ cZ (nI sn) fz (f0_fill sn tkv opv shv wyv bdv fev dl dnv rov fz) mo sn bw tkv opv shv ldv wyv bdv (f0_fill_ct sn tkv opv shv wyv bdv ct fev dl dnv rov fz) dA_7 (f0_fill_sta sn tkv opv shv wyv bdv sta fev dl dnv rov fz) (f0_fill_stc sn tkv opv shv wyv bdv stc fev dl dnv rov fz) (f0_fill_fev sn tkv opv shv wyv bdv fev dl dnv rov fz) (f0_fill_dl sn tkv opv shv wyv bdv fev dl dnv rov fz) (f0_fill_dnv sn tkv opv shv wyv bdv fev dl dnv rov fz) rov (by first | assumption | omega) (by first | assumption | omega) (by first | assumption | omega)) (WB_V wk_209 wk_211 ws_7 wk_1 wk_212) (by decide +kernel) ⟨⟨rfl, rfl⟩, Nat.le_of_ble_eq_true rfl, Nat.le_of_ble_eq_true rfl⟩ [0, 1, 2, 3, 4, 5, 6, 7, 8, 9, 10, 11] [] [0, 1, 2] rfl rfl rfl (by decide) rfl 0 rfl rfl rfl rfl (Nat.le_of_ble_eq_true rfl) dX2_solve_91 ⟨(by show 0 + (if (sn - fz) ≤ 11 then (if (f0_followFrozen_stc tkv opv shv wyv bdv rov fz) = 1000000000000000 then 0 else (if dl < 2 ^ (f0_collectFree_ct sn fev rov fz) * (f0_collectFree_ct sn fev rov fz) then 1 else 0)) else 0) ≤ (if stp < 0 then 0 else (if stp ≤ 100000 then (if mo = (((-1))) then (if (sn - fz) ≤ 11 then (if (f0_followFrozen_stc tkv opv shv wyv bdv rov fz) = 1000000000000000 then 0 else (if dl < 2 ^ (f0_collectFree_ct sn fev rov fz) * (f0_collectFree_ct sn fev rov fz) then 1 else 0)) else 0) else (if ((f1_loads sn ldv)) ≤ mo then (if (sn - fz) ≤ 11 then (if (f0_followFrozen_stc tkv opv shv wyv bdv rov fz) = 1000000000000000 then 0 else (if dl < 2 ^ (f0_collectFree_ct sn fev rov fz) * (f0_collectFree_ct sn fev rov fz) then 1 else 0)) else 0) else 0)) else 0)); simp only [if_neg g_1, if_pos h_2, if_neg g_3, if_pos h_6]; exact Nat.le_of_eq (Nat.zero_add _)), (by show 0 + (if (sn - fz) ≤ 11 then (if (f0_followFrozen_stc tkv opv shv wyv bdv rov fz) = 1000000000000000 then 0 else (if dl < 2 ^ (f0_collectFree_ct sn fev rov fz) * (f0_collectFree_ct sn fev rov fz) then 2 ^ (f0_collectFree_ct sn fev rov fz) * (f0_collectFree_ct sn fev rov fz) else 0)) else 0) ≤ (if stp < 0 then 0 else (if stp ≤ 100000 then (if mo = (((-1))) then (if (sn - fz) ≤ 11 then (if (f0_followFrozen_stc tkv opv shv wyv bdv rov fz) = 1000000000000000 then 0 else (if dl < 2 ^ (f0_collectFree_ct sn fev rov fz) * (f0_collectFree_ct sn fev rov fz) then 2 ^ (f0_collectFree_ct sn fev rov fz) * (f0_collectFree_ct sn fev rov fz) else 0)) else 0) else (if ((f1_loads sn ldv)) ≤ mo then (if (sn - fz) ≤ 11 then (if (f0_followFrozen_stc tkv opv shv wyv bdv rov fz) = 1000000000000000 then 0 else (if dl < 2 ^ (f0_collectFree_ct sn fev rov fz) * (f0_collectFree_ct sn fev rov fz) then 2 ^ (f0_collectFree_ct sn fev rov fz) * (f0_collectFree_ct sn fev rov fz) else 0)) else 0) else 0)) else 0)); simp only [if_neg g_1, if_pos h_2, if_neg g_3, if_pos h_6]; exact Nat.le_of_eq (Nat.zero_add _))⟩ rfl rfl rfl ?_
            refine gz_aload_n C 0 dX2_solve_94 rfl ?_
            refine gz_lload_n C 1 dX2_solve_95 rfl ?_
            refine gz_callV (wr := []) (n := 1) (ws2 := (wC xo nt es ro ad cI cJ cZ (nI sn) fz (f0_fill sn tkv opv shv wyv bdv fev dl dnv rov fz) mo sn bw tkv opv shv ldv wyv bdv (f0_fill_ct sn tkv opv shv wyv bdv ct fev dl dnv rov fz) dA_7 dA_7 (f0_fill_sta sn tkv opv shv wyv bdv sta fev dl dnv rov fz) (f0_fill_stc sn tkv opv shv wyv bdv stc fev dl dnv rov fz) (f0_fill_fev sn tkv opv shv wyv bdv fev dl dnv rov fz) (f0_fill_dl sn tkv opv shv wyv bdv fev dl dnv rov fz) (f0_fill_dnv sn tkv opv shv wyv bdv fev dl dnv rov fz) (f2_improve_rov fz tkv opv shv wyv bdv (f2_insertFreeStops_rov fz sn tkv opv shv wyv bdv rov) stp sn))) (st2 := []) (cells2 := (0 + (if (sn - fz) ≤ 11 then (if (f0_followFrozen_stc tkv opv shv wyv bdv rov fz) = 1000000000000000 then 0 else (if dl < 2 ^ (f0_collectFree_ct sn fev rov fz) * (f0_collectFree_ct sn fev rov fz) then 1 else 0)) else 0))) (slots2 := (0 + (if (sn - fz) ≤ 11 then (if (f0_followFrozen_stc tkv opv shv wyv bdv rov fz) = 1000000000000000 then 0 else (if dl < 2 ^ (f0_collectFree_ct sn fev rov fz) * (f0_collectFree_ct sn fev rov fz) then 2 ^ (f0_collectFree_ct sn fev rov fz) * (f0_collectFree_ct sn fev rov fz) else 0)) else 0))) (ci := 3) C (kX2_improve l D xo nt es ro ad cI cJ cZ (nI sn) fz (f0_fill sn tkv opv shv wyv bdv fev dl dnv rov fz) mo sn bw tkv opv shv ldv wyv bdv (f0_fill_ct sn tkv opv shv wyv bdv ct fev dl dnv rov fz) dA_7 (f0_fill_sta sn tkv opv shv wyv bdv sta fev dl dnv rov fz) (f0_fill_stc sn tkv opv shv wyv bdv stc fev dl dnv rov fz) (f0_fill_fev sn tkv opv shv wyv bdv fev dl dnv rov fz) (f0_fill_dl sn tkv opv shv wyv bdv fev dl dnv rov fz) (f0_fill_dnv sn tkv opv shv wyv bdv fev dl dnv rov fz) (f2_insertFreeStops_rov fz sn tkv opv shv wyv bdv rov) stp sn rfl (by first | assumption | omega) (fun k hk => by have := (hq9.1 k hk).2; omega) (by first | assumption | omega) (by first | assumption | omega) (by first | assumption | omega)) (WB_V wk_227 wk_229 ws_10 wk_1 wk_230) (by decide +kernel) ⟨⟨rfl, rfl⟩, Nat.le_of_ble_eq_true rfl, Nat.le_of_ble_eq_true rfl⟩ [0, 1, 2, 3, 4, 5, 6, 7, 8, 9, 10, 11] [] [0, 1, 2] rfl rfl rfl (by decide) rfl 0 rfl rfl rfl rfl (Nat.le_of_ble_eq_true rfl) dX2_solve_96 ⟨(by show 0 + (if (sn - fz) ≤ 11 then (if (f0_followFrozen_stc tkv opv shv wyv bdv rov fz) = 1000000000000000 then 0 else (if dl < 2 ^ (f0_collectFree_ct sn fev rov fz) * (f0_collectFree_ct sn fev rov fz) then 1 else 0)) else 0) ≤ (if stp < 0 then 0 else (if stp ≤ 100000 then (if mo = (((-1))) then (if (sn - fz) ≤ 11 then (if (f0_followFrozen_stc tkv opv shv wyv bdv rov fz) = 1000000000000000 then 0 else (if dl < 2 ^ (f0_collectFree_ct sn fev rov fz) * (f0_collectFree_ct sn fev rov fz) then 1 else 0)) else 0) else (if ((f1_loads sn ldv)) ≤ mo then (if (sn - fz) ≤ 11 then (if (f0_followFrozen_stc tkv opv shv wyv bdv rov fz) = 1000000000000000 then 0 else (if dl < 2 ^ (f0_collectFree_ct sn fev rov fz) * (f0_collectFree_ct sn fev rov fz) then 1 else 0)) else 0) else 0)) else 0)); simp only [if_neg g_1, if_pos h_2, if_neg g_3, if_pos h_6]; exact Nat.le_of_eq (Nat.zero_add _)), (by show 0 + (if (sn - fz) ≤ 11 then (if (f0_followFrozen_stc tkv opv shv wyv bdv rov fz) = 1000000000000000 then 0 else (if dl < 2 ^ (f0_collectFree_ct sn fev rov fz) * (f0_collectFree_ct sn fev rov fz) then 2 ^ (f0_collectFree_ct sn fev rov fz) * (f0_collectFree_ct sn fev rov fz) else 0)) else 0) ≤ (if stp < 0 then 0 else (if stp ≤ 100000 then (if mo = (((-1))) then (if (sn - fz) ≤ 11 then (if (f0_followFrozen_stc tkv opv shv wyv bdv rov fz) = 1000000000000000 then 0 else (if dl < 2 ^ (f0_collectFree_ct sn fev rov fz) * (f0_collectFree_ct sn fev rov fz) then 2 ^ (f0_collectFree_ct sn fev rov fz) * (f0_collectFree_ct sn fev rov fz) else 0)) else 0) else (if ((f1_loads sn ldv)) ≤ mo then (if (sn - fz) ≤ 11 then (if (f0_followFrozen_stc tkv opv shv wyv bdv rov fz) = 1000000000000000 then 0 else (if dl < 2 ^ (f0_collectFree_ct sn fev rov fz) * (f0_collectFree_ct sn fev rov fz) then 2 ^ (f0_collectFree_ct sn fev rov fz) * (f0_collectFree_ct sn fev rov fz) else 0)) else 0) else 0)) else 0)); simp only [if_neg g_1, if_pos h_2, if_neg g_3, if_pos h_6]; exact Nat.le_of_eq (Nat.zero_add _))⟩ rfl rfl rfl ?_
            have hq8 : ∀ k, k < sn → f2_improve_rov fz tkv opv shv wyv bdv (f2_insertFreeStops_rov fz sn tkv opv shv wyv bdv rov) stp sn k ≤ 20 := fun k hk => by rw [ce_impr]; have := ((qr_improve (tkv := tkv) (opv := opv) (shv := shv) (wyv := wyv) (bdv := bdv) (fz := fz) (stp := stp) hq9).1.1 k hk).2; omega
            refine gz_aload_n C 0 dX2_solve_99 rfl ?_
            refine gz_get (ci := 3) C iwX2 0 rfl rfl 0 (by decide) wk_79 rfl rfl dX2_solve_100 ?_
            refine gz_aload_n C 0 dX2_solve_103 rfl ?_
            refine gz_get (ci := 3) C iwX2 0 rfl rfl 2 (by decide) wk_81 rfl rfl dX2_solve_104 ?_
            refine gz_aload_n C 0 dX2_solve_107 rfl ?_
            refine gz_get (ci := 3) C iwX2 0 rfl rfl 3 (by decide) wk_82 rfl rfl dX2_solve_108 ?_
            refine gz_callV (wr := []) (n := 2) (ws2 := (wC xo nt es ro ad cI cJ cZ (nI sn) fz (f0_fill sn tkv opv shv wyv bdv fev dl dnv rov fz) mo sn bw tkv opv shv ldv wyv bdv (f0_fill_ct sn tkv opv shv wyv bdv ct fev dl dnv rov fz) dA_7 dA_7 (f0_fill_sta sn tkv opv shv wyv bdv sta fev dl dnv rov fz) (f0_fill_stc sn tkv opv shv wyv bdv stc fev dl dnv rov fz) (f0_fill_fev sn tkv opv shv wyv bdv fev dl dnv rov fz) (f0_fill_dl sn tkv opv shv wyv bdv fev dl dnv rov fz) (f0_fill_dnv sn tkv opv shv wyv bdv fev dl dnv rov fz) (f2_improve_rov fz tkv opv shv wyv bdv (f2_insertFreeStops_rov fz sn tkv opv shv wyv bdv rov) stp sn))) (st2 := [.long (f1_home tkv opv shv wyv bdv (f2_improve_rov fz tkv opv shv wyv bdv (f2_insertFreeStops_rov fz sn tkv opv shv wyv bdv rov) stp sn) sn)]) (cells2 := (0 + (if (sn - fz) ≤ 11 then (if (f0_followFrozen_stc tkv opv shv wyv bdv rov fz) = 1000000000000000 then 0 else (if dl < 2 ^ (f0_collectFree_ct sn fev rov fz) * (f0_collectFree_ct sn fev rov fz) then 1 else 0)) else 0))) (slots2 := (0 + (if (sn - fz) ≤ 11 then (if (f0_followFrozen_stc tkv opv shv wyv bdv rov fz) = 1000000000000000 then 0 else (if dl < 2 ^ (f0_collectFree_ct sn fev rov fz) * (f0_collectFree_ct sn fev rov fz) then 2 ^ (f0_collectFree_ct sn fev rov fz) * (f0_collectFree_ct sn fev rov fz) else 0)) else 0))) (ci := 2) C (kX1_home l D xo nt es ro ad cI cJ cZ (nI sn) fz (f0_fill sn tkv opv shv wyv bdv fev dl dnv rov fz) mo sn bw tkv opv shv ldv wyv bdv (f0_fill_ct sn tkv opv shv wyv bdv ct fev dl dnv rov fz) dA_7 (f0_fill_sta sn tkv opv shv wyv bdv sta fev dl dnv rov fz) (f0_fill_stc sn tkv opv shv wyv bdv stc fev dl dnv rov fz) (f0_fill_fev sn tkv opv shv wyv bdv fev dl dnv rov fz) (f0_fill_dl sn tkv opv shv wyv bdv fev dl dnv rov fz) (f0_fill_dnv sn tkv opv shv wyv bdv fev dl dnv rov fz) (f2_improve_rov fz tkv opv shv wyv bdv (f2_insertFreeStops_rov fz sn tkv opv shv wyv bdv rov) stp sn) sn (by first | assumption | omega) hq8) (WB_V wk_235 wk_236 wk_237 wk_2 wk_238) (by decide +kernel) ⟨⟨rfl, rfl⟩, Nat.le_of_ble_eq_true rfl, Nat.le_of_ble_eq_true rfl⟩ [0, 1, 2, 3, 4, 5, 6, 7, 8, 9, 10, 11] [] [0, 1, 2] rfl rfl rfl (by decide) rfl 1 rfl rfl rfl rfl (Nat.le_of_ble_eq_true rfl) dX2_solve_111 ⟨(by show 0 + (if (sn - fz) ≤ 11 then (if (f0_followFrozen_stc tkv opv shv wyv bdv rov fz) = 1000000000000000 then 0 else (if dl < 2 ^ (f0_collectFree_ct sn fev rov fz) * (f0_collectFree_ct sn fev rov fz) then 1 else 0)) else 0) ≤ (if stp < 0 then 0 else (if stp ≤ 100000 then (if mo = (((-1))) then (if (sn - fz) ≤ 11 then (if (f0_followFrozen_stc tkv opv shv wyv bdv rov fz) = 1000000000000000 then 0 else (if dl < 2 ^ (f0_collectFree_ct sn fev rov fz) * (f0_collectFree_ct sn fev rov fz) then 1 else 0)) else 0) else (if ((f1_loads sn ldv)) ≤ mo then (if (sn - fz) ≤ 11 then (if (f0_followFrozen_stc tkv opv shv wyv bdv rov fz) = 1000000000000000 then 0 else (if dl < 2 ^ (f0_collectFree_ct sn fev rov fz) * (f0_collectFree_ct sn fev rov fz) then 1 else 0)) else 0) else 0)) else 0)); simp only [if_neg g_1, if_pos h_2, if_neg g_3, if_pos h_6]; exact Nat.le_of_eq (Nat.zero_add _)), (by show 0 + (if (sn - fz) ≤ 11 then (if (f0_followFrozen_stc tkv opv shv wyv bdv rov fz) = 1000000000000000 then 0 else (if dl < 2 ^ (f0_collectFree_ct sn fev rov fz) * (f0_collectFree_ct sn fev rov fz) then 2 ^ (f0_collectFree_ct sn fev rov fz) * (f0_collectFree_ct sn fev rov fz) else 0)) else 0) ≤ (if stp < 0 then 0 else (if stp ≤ 100000 then (if mo = (((-1))) then (if (sn - fz) ≤ 11 then (if (f0_followFrozen_stc tkv opv shv wyv bdv rov fz) = 1000000000000000 then 0 else (if dl < 2 ^ (f0_collectFree_ct sn fev rov fz) * (f0_collectFree_ct sn fev rov fz) then 2 ^ (f0_collectFree_ct sn fev rov fz) * (f0_collectFree_ct sn fev rov fz) else 0)) else 0) else (if ((f1_loads sn ldv)) ≤ mo then (if (sn - fz) ≤ 11 then (if (f0_followFrozen_stc tkv opv shv wyv bdv rov fz) = 1000000000000000 then 0 else (if dl < 2 ^ (f0_collectFree_ct sn fev rov fz) * (f0_collectFree_ct sn fev rov fz) then 2 ^ (f0_collectFree_ct sn fev rov fz) * (f0_collectFree_ct sn fev rov fz) else 0)) else 0) else 0)) else 0)); simp only [if_neg g_1, if_pos h_2, if_neg g_3, if_pos h_6]; exact Nat.le_of_eq (Nat.zero_add _))⟩ rfl rfl rfl ?_
            exact gz_lretX C hr hk (by first | rfl | (simp only [f2_solve, f2_solve_ln, f2_solve_sx, f2_solve_ct, f2_solve_sta, f2_solve_stc, f2_solve_fev, f2_solve_dl, f2_solve_dnv, f2_solve_rov, if_neg g_1, if_pos h_2, if_neg g_3, if_pos h_6, if_neg g_8]) | (simp only [f2_solve, f2_solve_ln, f2_solve_sx, f2_solve_ct, f2_solve_sta, f2_solve_stc, f2_solve_fev, f2_solve_dl, f2_solve_dnv, f2_solve_rov, if_neg g_1, if_pos h_2, if_neg g_3, if_pos h_6, if_neg g_8]; rfl)) dA_7 (by first | rfl | (simp only [f2_solve, f2_solve_ln, f2_solve_sx, f2_solve_ct, f2_solve_sta, f2_solve_stc, f2_solve_fev, f2_solve_dl, f2_solve_dnv, f2_solve_rov, if_neg g_1, if_pos h_2, if_neg g_3, if_pos h_6, if_neg g_8]) | (simp only [f2_solve, f2_solve_ln, f2_solve_sx, f2_solve_ct, f2_solve_sta, f2_solve_stc, f2_solve_fev, f2_solve_dl, f2_solve_dnv, f2_solve_rov, if_neg g_1, if_pos h_2, if_neg g_3, if_pos h_6, if_neg g_8]; rfl)) (by show 0 + (if (sn - fz) ≤ 11 then (if (f0_followFrozen_stc tkv opv shv wyv bdv rov fz) = 1000000000000000 then 0 else (if dl < 2 ^ (f0_collectFree_ct sn fev rov fz) * (f0_collectFree_ct sn fev rov fz) then 1 else 0)) else 0) ≤ (if stp < 0 then 0 else (if stp ≤ 100000 then (if mo = (((-1))) then (if (sn - fz) ≤ 11 then (if (f0_followFrozen_stc tkv opv shv wyv bdv rov fz) = 1000000000000000 then 0 else (if dl < 2 ^ (f0_collectFree_ct sn fev rov fz) * (f0_collectFree_ct sn fev rov fz) then 1 else 0)) else 0) else (if ((f1_loads sn ldv)) ≤ mo then (if (sn - fz) ≤ 11 then (if (f0_followFrozen_stc tkv opv shv wyv bdv rov fz) = 1000000000000000 then 0 else (if dl < 2 ^ (f0_collectFree_ct sn fev rov fz) * (f0_collectFree_ct sn fev rov fz) then 1 else 0)) else 0) else 0)) else 0)); simp only [if_neg g_1, if_pos h_2, if_neg g_3, if_pos h_6]; exact Nat.le_of_eq (Nat.zero_add _)) (by show 0 + (if (sn - fz) ≤ 11 then (if (f0_followFrozen_stc tkv opv shv wyv bdv rov fz) = 1000000000000000 then 0 else (if dl < 2 ^ (f0_collectFree_ct sn fev rov fz) * (f0_collectFree_ct sn fev rov fz) then 2 ^ (f0_collectFree_ct sn fev rov fz) * (f0_collectFree_ct sn fev rov fz) else 0)) else 0) ≤ (if stp < 0 then 0 else (if stp ≤ 100000 then (if mo = (((-1))) then (if (sn - fz) ≤ 11 then (if (f0_followFrozen_stc tkv opv shv wyv bdv rov fz) = 1000000000000000 then 0 else (if dl < 2 ^ (f0_collectFree_ct sn fev rov fz) * (f0_collectFree_ct sn fev rov fz) then 2 ^ (f0_collectFree_ct sn fev rov fz) * (f0_collectFree_ct sn fev rov fz) else 0)) else 0) else (if ((f1_loads sn ldv)) ≤ mo then (if (sn - fz) ≤ 11 then (if (f0_followFrozen_stc tkv opv shv wyv bdv rov fz) = 1000000000000000 then 0 else (if dl < 2 ^ (f0_collectFree_ct sn fev rov fz) * (f0_collectFree_ct sn fev rov fz) then 2 ^ (f0_collectFree_ct sn fev rov fz) * (f0_collectFree_ct sn fev rov fz) else 0)) else 0) else 0)) else 0)); simp only [if_neg g_1, if_pos h_2, if_neg g_3, if_pos h_6]; exact Nat.le_of_eq (Nat.zero_add _)) dX2_solve_114
        · have g_6 : ¬ (((f1_loads sn ldv)) ≤ mo) := h_6
          refine gz_aload_n C 0 dX2_solve_40 rfl ?_
          refine gz_iconst (v := ((-1))) C dX2_solve_41 (by decide) ?_
          refine gz_put (ci := 3) (ws2 := (wC xo nt es ro ad cI cJ cZ ((-1)) fz sx mo sn bw tkv opv shv ldv wyv bdv ct dA dA sta stc fev dl dnv rov)) C iwX2 0 rfl rfl 3 (by decide) wk_82 rfl tyX2 tyX2_ok nmX2 rfl rfl rfl rfl (Nat.le_of_ble_eq_true rfl) rfl dX2_solve_42 ?_
          refine gz_ldc2 (v := (-13)) C wk_155 dX2_solve_45 ?_
          exact gz_lretX C hr hk (by first | rfl | (simp only [f2_solve, f2_solve_ln, f2_solve_sx, f2_solve_ct, f2_solve_sta, f2_solve_stc, f2_solve_fev, f2_solve_dl, f2_solve_dnv, f2_solve_rov, if_neg g_1, if_pos h_2, if_neg g_3, if_neg g_6]) | (simp only [f2_solve, f2_solve_ln, f2_solve_sx, f2_solve_ct, f2_solve_sta, f2_solve_stc, f2_solve_fev, f2_solve_dl, f2_solve_dnv, f2_solve_rov, if_neg g_1, if_pos h_2, if_neg g_3, if_neg g_6]; rfl)) dA (by first | rfl | (simp only [f2_solve, f2_solve_ln, f2_solve_sx, f2_solve_ct, f2_solve_sta, f2_solve_stc, f2_solve_fev, f2_solve_dl, f2_solve_dnv, f2_solve_rov, if_neg g_1, if_pos h_2, if_neg g_3, if_neg g_6]) | (simp only [f2_solve, f2_solve_ln, f2_solve_sx, f2_solve_ct, f2_solve_sta, f2_solve_stc, f2_solve_fev, f2_solve_dl, f2_solve_dnv, f2_solve_rov, if_neg g_1, if_pos h_2, if_neg g_3, if_neg g_6]; rfl)) (Nat.zero_le _) (Nat.zero_le _) dX2_solve_48
    · have g_2 : ¬ (stp ≤ 100000) := h_2
      refine gz_ldc2 (v := (-12)) C wk_154 dX2_solve_14 ?_
      exact gz_lretX C hr hk (by first | rfl | (simp only [f2_solve, f2_solve_ln, f2_solve_sx, f2_solve_ct, f2_solve_sta, f2_solve_stc, f2_solve_fev, f2_solve_dl, f2_solve_dnv, f2_solve_rov, if_neg g_1, if_neg g_2]) | (simp only [f2_solve, f2_solve_ln, f2_solve_sx, f2_solve_ct, f2_solve_sta, f2_solve_stc, f2_solve_fev, f2_solve_dl, f2_solve_dnv, f2_solve_rov, if_neg g_1, if_neg g_2]; rfl)) dA (by first | rfl | (simp only [f2_solve, f2_solve_ln, f2_solve_sx, f2_solve_ct, f2_solve_sta, f2_solve_stc, f2_solve_fev, f2_solve_dl, f2_solve_dnv, f2_solve_rov, if_neg g_1, if_neg g_2]) | (simp only [f2_solve, f2_solve_ln, f2_solve_sx, f2_solve_ct, f2_solve_sta, f2_solve_stc, f2_solve_fev, f2_solve_dl, f2_solve_dnv, f2_solve_rov, if_neg g_1, if_neg g_2]; rfl)) (Nat.zero_le _) (Nat.zero_le _) dX2_solve_17


/-! the exact search: class and reference side by side -/
def bnd (B : Nat) (x : Int64) : Prop := ∃ n : Nat, n ≤ B ∧ x = lN n
theorem bnd_ne {B N : Nat} {x : Int64} (h : bnd B x) (hB : B < N) (hN : N < 2 ^ 63) : x ≠ lN N := by
  obtain ⟨n, h1, h2⟩ := h
  intro z
  rw [h2, pk_lEQ (by omega) hN] at z
  omega
theorem bnd_lt {B N : Nat} {x : Int64} (h : bnd B x) (hB : B < N) (hN : N < 2 ^ 63) : x < lN N := by
  obtain ⟨n, h1, h2⟩ := h
  rw [h2, pk_lLT (by omega) hN]
  omega
theorem bnd_mono {B B2 : Nat} {x : Int64} (h : bnd B x) (hB : B ≤ B2) : bnd B2 x := by
  obtain ⟨n, h1, h2⟩ := h
  exact ⟨n, by omega, h2⟩
theorem bnd_add {B B2 : Nat} {x y : Int64} (h : bnd B x) (h2 : bnd B2 y) : bnd (B + B2) (x + y) := by
  obtain ⟨n, h1, e1⟩ := h
  obtain ⟨m, h3, e2⟩ := h2
  exact ⟨n + m, by omega, by rw [e1, e2, lN_add]⟩
theorem bnd_of_le {B B2 : Nat} {x y : Int64} (h : bnd B x) (h2 : bnd B2 y) (hB : B < 2 ^ 62) (hB2 : B2 < 2 ^ 62) (hl : x ≤ y) : bnd B2 x := by
  obtain ⟨n, h1, e1⟩ := h
  obtain ⟨m, h3, e2⟩ := h2
  rw [e1, e2, pk_lLE (by omega) (by omega)] at hl
  exact ⟨n, by omega, e1⟩
theorem i64_NC : (1000000000000000 : Int64) = lN 1000000000000000 := by decide
theorem i64_NM : (4000000000000000000 : Int64) = lN 4000000000000000000 := by decide
/-- the same time, or never in both -/
def xrel (B : Nat) (x y : Int64) : Prop := (x = 1000000000000000 ∧ y = 4000000000000000000) ∨ (x = y ∧ bnd B x)
theorem xr_ne {B : Nat} {x y : Int64} (h : xrel B x y) (hB : B < 1000000000000000) : (x = 1000000000000000 ↔ y = 4000000000000000000) ∧ (x ≠ 1000000000000000 → x = y ∧ bnd B x ∧ x < 1000000000000000 ∧ y < 4000000000000000000) := by
  rcases h with ⟨h1, h2⟩ | ⟨h1, h2⟩
  · exact ⟨⟨fun _ => h2, fun _ => h1⟩, fun z => absurd h1 z⟩
  · have n1 : x ≠ 1000000000000000 := by rw [i64_NC]; exact bnd_ne h2 hB (by decide)
    have n2 : y ≠ 4000000000000000000 := by rw [i64_NM, ← h1]; exact bnd_ne h2 (by omega) (by decide)
    refine ⟨⟨fun z => absurd z n1, fun z => absurd z n2⟩, fun _ => ⟨h1, h2, ?_, ?_⟩⟩
    · rw [i64_NC]; exact bnd_lt h2 hB (by decide)
    · rw [i64_NM, ← h1]; exact bnd_lt h2 (by omega) (by decide)
/-- two legs with the same due -/
theorem xr_eq {B : Nat} {x y d e : Int64} (h : xrel B x y) (h2 : xrel B d e) (hB : B < 1000000000000000) : x = d ↔ y = e := by
  obtain ⟨a1, a2⟩ := xr_ne h hB
  obtain ⟨b1, b2⟩ := xr_ne h2 hB
  by_cases c : x = 1000000000000000
  · constructor
    · intro z; rw [a1.mp c, b1.mp (z ▸ c)]
    · intro z; rw [c, b1.mpr (z ▸ a1.mp c)]
  · by_cases c2 : d = 1000000000000000
    · constructor
      · intro z; exact absurd (z.trans c2) c
      · intro z; exact absurd (a1.mpr (z.trans (b1.mp c2))) c
    · rw [(a2 c).1, (b2 c2).1]
section CEX
variable {tkv opv shv shm wyv : Nat → Int64} {bdv : Nat → Bool}
/-- what the numbers of stops and ways are -/
def xdat (tkv opv shv shm wyv : Nat → Int64) : Prop := (∀ i, bnd 100000 (tkv i)) ∧ (∀ i, bnd 1000000 (opv i)) ∧ (∀ i, bnd 1000000 (shm i)) ∧ (∀ i, 1 ≤ i → shv i = shm i) ∧ (∀ i, bnd 100000 (wyv i)) ∧ tkv 0 = 0 ∧ opv 0 = 0 ∧ shv 0 = 1000000000000000
theorem xr_leg (hd : xdat tkv opv shv shm wyv) {a b : Nat} {t t2 : Int64} (hb : 1 ≤ b) (h : xrel 1100000 t t2) : xrel 1100000 (f1_goodLeg tkv opv shv wyv bdv a t b) (f3_wellDone tkv opv shm wyv bdv a b t2) := by
  obtain ⟨d1, d2, d3, d4, d5, d6, d7, d8⟩ := hd
  obtain ⟨a1, a2⟩ := xr_ne h (by decide)
  unfold f1_goodLeg f3_wellDone
  by_cases c : t = 1000000000000000
  · rw [if_pos c, if_pos (a1.mp c)]; exact Or.inl ⟨rfl, rfl⟩
  · obtain ⟨e, hbd, _, _⟩ := a2 c
    have c2 : ¬ t2 = 4000000000000000000 := fun z => c (a1.mpr z)
    rw [if_neg c, if_neg c2, Nat.mul_comm a 21, ← e]
    by_cases c3 : bdv (21 * a + b) = true
    · rw [if_pos c3, if_pos c3]; exact Or.inl ⟨rfl, rfl⟩
    · rw [if_neg c3, if_neg c3, d4 b hb]
      by_cases c4 : t + wyv (21 * a + b) ≤ shm b
      · rw [if_pos c4, if_pos c4, ce_done]
        right
        refine ⟨rfl, ?_⟩
        have hv := bnd_of_le (bnd_add hbd (d5 (21 * a + b))) (d3 b) (by decide) (by decide) c4
        have hm : bnd 1000000 (if opv b ≤ t + wyv (21 * a + b) then t + wyv (21 * a + b) else opv b) := by
          split
          · exact hv
          · exact d2 b
        exact bnd_add hm (d1 b)
      · rw [if_neg c4, if_neg c4]; exact Or.inl ⟨rfl, rfl⟩
theorem xr_home (hd : xdat tkv opv shv shm wyv) {a : Nat} {t t2 : Int64} (h : xrel 1100000 t t2) : xrel 1200000 (f1_goodLeg tkv opv shv wyv bdv a t 0) (f3_wellHome wyv bdv a t2) := by
  obtain ⟨d1, d2, d3, d4, d5, d6, d7, d8⟩ := hd
  obtain ⟨a1, a2⟩ := xr_ne h (by decide)
  unfold f1_goodLeg f3_wellHome
  by_cases c : t = 1000000000000000
  · rw [if_pos c, if_pos (a1.mp c)]; exact Or.inl ⟨rfl, rfl⟩
  · obtain ⟨e, hbd, _, _⟩ := a2 c
    have c2 : ¬ t2 = 4000000000000000000 := fun z => c (a1.mpr z)
    rw [if_neg c, if_neg c2, Nat.mul_comm a 21, Nat.add_zero, ← e]
    by_cases c3 : bdv (21 * a) = true
    · rw [if_pos c3, if_pos c3]; exact Or.inl ⟨rfl, rfl⟩
    · rw [if_neg c3, if_neg c3, d8]
      have hv := bnd_add hbd (d5 (21 * a))
      have c4 : t + wyv (21 * a) ≤ 1000000000000000 := by rw [i64_NC]; exact Int64.le_of_lt (bnd_lt hv (by decide) (by decide))
      rw [if_pos c4, ce_done, d6, d7, Int64.add_zero]
      have c5 : (0 : Int64) ≤ t + wyv (21 * a) := by
        obtain ⟨n, h1, h2⟩ := hv
        rw [h2, show (0 : Int64) = lN 0 from rfl, pk_lLE (by decide) (by omega)]
        omega
      rw [if_pos c5]
      exact Or.inr ⟨rfl, hv⟩
/-- the frozen beginning -/
theorem xr_ff (hd : xdat tkv opv shv shm wyv) {rov icv : Nat → Nat} {z : Nat} (he : ∀ i, i < z → rov i = icv i ∧ 1 ≤ icv i) : ∀ (n k la : Nat) (stc ck : Int64), k + n = z → xrel 1100000 stc ck → xrel 1100000 (f0_followFrozen_lp tkv opv shv wyv bdv rov n k la stc).2.2 (f3_spread_l1 tkv opv shm wyv bdv icv n ck la k).1 ∧ (f0_followFrozen_lp tkv opv shv wyv bdv rov n k la stc).2.1 = (f3_spread_l1 tkv opv shm wyv bdv icv n ck la k).2.1 := by
  intro n
  induction n with
  | zero => intro k la stc ck _ h; exact ⟨h, rfl⟩
  | succ n ih =>
    intro k la stc ck hk h
    unfold f0_followFrozen_lp f3_spread_l1
    obtain ⟨e, h1⟩ := he k (by omega)
    rw [e]
    exact ih _ _ _ _ (by omega) (xr_leg hd h1 h)
/-- the least of the legs, as the class reckons it -/
theorem q0_lp {ct t b : Nat} {fev : Nat → Nat} {dnv : Nat → Int64} : ∀ (n : Nat) (le : Int64) (k : Nat), ((f0_earliest_lp tkv opv shv wyv bdv ct fev dnv t b n le k).1 ≤ le) ∧ (∀ j, k ≤ j → j < k + n → t.testBit j = true → (f0_earliest_lp tkv opv shv wyv bdv ct fev dnv t b n le k).1 ≤ f1_goodLeg tkv opv shv wyv bdv (fev j) (dnv (t * ct + j)) b) ∧ ((f0_earliest_lp tkv opv shv wyv bdv ct fev dnv t b n le k).1 = le ∨ ∃ j, k ≤ j ∧ j < k + n ∧ t.testBit j = true ∧ (f0_earliest_lp tkv opv shv wyv bdv ct fev dnv t b n le k).1 = f1_goodLeg tkv opv shv wyv bdv (fev j) (dnv (t * ct + j)) b) := by
  intro n
  induction n with
  | zero => intro le k; exact ⟨Int64.le_refl _, fun j h1 h2 => by omega, Or.inl rfl⟩
  | succ n ih =>
    intro le k
    unfold f0_earliest_lp
    have hh : f0_has t k = true ↔ t.testBit k = true := by
      unfold f0_has
      rw [← bt_d]
      by_cases c : t / 2 ^ k % 2 = 1
      · simp [c]
      · simp [c]
    by_cases c : f0_has t k = true
    · simp only [if_pos c]
      by_cases c2 : f1_goodLeg tkv opv shv wyv bdv (fev k) (dnv (t * ct + k)) b < le
      · simp only [if_pos c2]
        obtain ⟨a1, a2, a3⟩ := ih (f1_goodLeg tkv opv shv wyv bdv (fev k) (dnv (t * ct + k)) b) (k + 1)
        refine ⟨Int64.le_trans a1 (Int64.le_of_lt c2), fun j h1 h2 h3 => ?_, ?_⟩
        · by_cases e : j = k
          · subst e; exact a1
          · exact a2 j (by omega) (by omega) h3
        · rcases a3 with a3 | ⟨j, j1, j2, j3, j4⟩
          · exact Or.inr ⟨k, Nat.le_refl _, by omega, hh.mp c, a3⟩
          · exact Or.inr ⟨j, by omega, by omega, j3, j4⟩
      · simp only [if_neg c2]
        obtain ⟨a1, a2, a3⟩ := ih le (k + 1)
        refine ⟨a1, fun j h1 h2 h3 => ?_, ?_⟩
        · by_cases e : j = k
          · subst e; exact Int64.le_trans a1 (Int64.not_lt.mp c2)
          · exact a2 j (by omega) (by omega) h3
        · rcases a3 with a3 | ⟨j, j1, j2, j3, j4⟩
          · exact Or.inl a3
          · exact Or.inr ⟨j, by omega, by omega, j3, j4⟩
    · simp only [if_neg c]
      obtain ⟨a1, a2, a3⟩ := ih le (k + 1)
      refine ⟨a1, fun j h1 h2 h3 => ?_, ?_⟩
      · by_cases e : j = k
        · subst e; exact absurd (hh.mpr h3) c
        · exact a2 j (by omega) (by omega) h3
      · rcases a3 with a3 | ⟨j, j1, j2, j3, j4⟩
        · exact Or.inl a3
        · exact Or.inr ⟨j, by omega, by omega, j3, j4⟩
/-- a least of many: the same in both -/
theorem xr_min {B ct : Nat} {g w : Nat → Int64} {P : Nat → Prop} {u v : Int64} (hB : B < 1000000000000000) (hgw : ∀ j, j < ct → P j → xrel B (g j) (w j)) (u1 : u ≤ 1000000000000000) (u2 : ∀ j, j < ct → P j → u ≤ g j) (u3 : u = 1000000000000000 ∨ ∃ j, j < ct ∧ P j ∧ u = g j)
    (v2 : ∀ j, j < ct → P j → w j < 4000000000000000000 → v ≤ w j) (v3 : v = 4000000000000000000 ∨ ∃ j, j < ct ∧ P j ∧ v = w j) : xrel B u v := by
  by_cases c : u = 1000000000000000
  · left
    refine ⟨c, ?_⟩
    rcases v3 with v3 | ⟨j, j1, j2, j3⟩
    · exact v3
    · obtain ⟨a1, a2⟩ := xr_ne (hgw j j1 j2) hB
      by_cases c2 : g j = 1000000000000000
      · rw [j3]; exact a1.mp c2
      · have h1 := (a2 c2).2.2.1
        have h2 := u2 j j1 j2
        rw [c] at h2
        exact absurd h1 (Int64.not_lt.mpr h2)
  · rcases u3 with u3 | ⟨j, j1, j2, j3⟩
    · exact absurd u3 c
    · obtain ⟨a1, a2⟩ := xr_ne (hgw j j1 j2) hB
      obtain ⟨b1, b2, b3, b4⟩ := a2 (j3 ▸ c)
      have hv := v2 j j1 j2 b4
      right
      refine ⟨?_, j3 ▸ b2⟩
      rcases v3 with v3 | ⟨i, i1, i2, i3⟩
      · exfalso
        rw [v3] at hv
        exact absurd b4 (Int64.not_lt.mpr hv)
      · obtain ⟨d1, d2⟩ := xr_ne (hgw i i1 i2) hB
        have hgi : g i ≠ 1000000000000000 := by
          intro z
          have := d1.mp z
          rw [i3, this] at hv
          exact absurd b4 (Int64.not_lt.mpr hv)
        have e := (d2 hgi).1
        have hu := u2 i i1 i2
        rw [e, ← i3] at hu
        rw [← b1, ← j3] at hv
        exact Int64.le_antisymm hu hv
end CEX


section CEY
variable {tkv opv shv shm wyv : Nat → Int64} {bdv : Nat → Bool} {fev : Nat → Nat} {ct sta : Nat} {stc : Int64}
theorem ixc {s a t b : Nat} (ha : a < ct) (hb : b < ct) : s * ct + a = t * ct + b ↔ s = t ∧ a = b := by
  constructor
  · intro h
    rcases Nat.lt_trichotomy s t with q | q | q
    · have h1 : (s + 1) * ct ≤ t * ct := Nat.mul_le_mul_right ct q
      rw [Nat.add_mul, Nat.one_mul] at h1
      omega
    · subst q; exact ⟨rfl, by omega⟩
    · have h1 : (t + 1) * ct ≤ s * ct := Nat.mul_le_mul_right ct q
      rw [Nat.add_mul, Nat.one_mul] at h1
      omega
  · rintro ⟨h1, h2⟩; rw [h1, h2]
theorem bt_xor {s a f : Nat} (hs : s < 2 ^ f) (hf : f ≤ 32) (ha : a < f) (hb : s.testBit a = true) : s ^^^ 2 ^ a = q3_clr s a := by
  apply Nat.eq_of_testBit_eq
  intro i
  rw [Nat.testBit_xor, Nat.testBit_two_pow, bt_clr hs hf (by omega)]
  by_cases h : i = a
  · subst h; simp [hb]
  · have h2 : ¬ a = i := fun z => h z.symm
    simp [h, h2]
theorem q0_has {t k : Nat} : f0_has t k = true ↔ t.testBit k = true := by
  unfold f0_has
  rw [← bt_d]
  by_cases c : t / 2 ^ k % 2 = 1
  · simp [c]
  · simp [c]
theorem q0_lp_c {c b : Nat} {d1 d2 : Nat → Int64} (h : ∀ j, j < ct → c.testBit j = true → d1 (c * ct + j) = d2 (c * ct + j)) : ∀ (n : Nat) (le : Int64) (k : Nat), k + n = ct → f0_earliest_lp tkv opv shv wyv bdv ct fev d1 c b n le k = f0_earliest_lp tkv opv shv wyv bdv ct fev d2 c b n le k := by
  intro n
  induction n with
  | zero => intro le k _; rfl
  | succ n ih =>
    intro le k hk
    unfold f0_earliest_lp
    by_cases c1 : f0_has c k = true
    · simp only [if_pos c1]
      rw [h k (by omega) (q0_has.mp c1)]
      exact ih _ _ (by omega)
    · simp only [if_neg c1]
      exact ih _ _ (by omega)
theorem q0_earl_c {c b : Nat} {d1 d2 : Nat → Int64} (h : ∀ j, j < ct → c.testBit j = true → d1 (c * ct + j) = d2 (c * ct + j)) : f0_earliest tkv opv shv wyv bdv ct sta stc fev d1 c b = f0_earliest tkv opv shv wyv bdv ct sta stc fev d2 c b := by
  unfold f0_earliest
  rw [q0_lp_c h ct _ 0 (by omega)]
theorem q0_lpa {t : Nat} (hct : ct ≤ 11) (ht : t < 2 ^ ct) (d0 : Nat → Int64) : ∀ (n k : Nat) (dn : Nat → Int64), k + n = ct → (∀ s a, a < ct → s ≠ t → dn (s * ct + a) = d0 (s * ct + a)) → ∀ s a, a < ct → (f0_reckonSets_lpa tkv opv shv wyv bdv ct sta stc fev t n k dn).2 (s * ct + a) = if s = t ∧ k ≤ a ∧ t.testBit a = true then f0_earliest tkv opv shv wyv bdv ct sta stc fev d0 (t ^^^ 2 ^ a) (fev a) else dn (s * ct + a) := by
  intro n
  induction n with
  | zero =>
    intro k dn hk h s a ha
    rw [if_neg (by omega)]; rfl
  | succ n ih =>
    intro k dn hk h s a ha
    unfold f0_reckonSets_lpa
    by_cases c : f0_has t k = true
    · simp only [if_pos c]
      have hb := q0_has.mp c
      have hx := bt_xor ht (by omega) (show k < ct by omega) hb
      have hlt := bt_clr_lt ht (by omega) (show k < ct by omega) hb
      have he : f0_earliest tkv opv shv wyv bdv ct sta stc fev dn (t ^^^ 2 ^ k) (fev k) = f0_earliest tkv opv shv wyv bdv ct sta stc fev d0 (t ^^^ 2 ^ k) (fev k) := q0_earl_c (fun j hj _ => h _ j hj (by rw [hx]; omega))
      have h2 : ∀ s a, a < ct → s ≠ t → va_up dn (t * ct + k) (f0_earliest tkv opv shv wyv bdv ct sta stc fev dn (t ^^^ 2 ^ k) (fev k)) (s * ct + a) = d0 (s * ct + a) := by
        intro s a ha hs
        rw [va_up_ne _ _ (fun z => hs ((ixc ha (by omega)).mp z).1)]
        exact h s a ha hs
      rw [ih (k + 1) _ (by omega) h2 s a ha]
      by_cases c1 : s = t ∧ k + 1 ≤ a ∧ t.testBit a = true
      · have c2 : s = t ∧ k ≤ a ∧ t.testBit a = true := ⟨c1.1, by omega, c1.2.2⟩
        rw [if_pos c1, if_pos c2]
      · rw [if_neg c1]
        by_cases c2 : s = t ∧ a = k
        · obtain ⟨c3, c4⟩ := c2
          subst c3; subst c4
          have c5 : s = s ∧ a ≤ a ∧ s.testBit a = true := ⟨rfl, Nat.le_refl _, hb⟩
          rw [va_up_self, if_pos c5, he]
        · rw [va_up_ne _ _ (fun z => c2 ((ixc ha (by omega)).mp z))]
          have c5 : ¬ (s = t ∧ k ≤ a ∧ t.testBit a = true) := by
            intro z
            by_cases e : a = k
            · exact c2 ⟨z.1, e⟩
            · exact c1 ⟨z.1, by omega, z.2.2⟩
          rw [if_neg c5]
    · simp only [if_neg c]
      rw [ih (k + 1) dn (by omega) h s a ha]
      by_cases c1 : s = t ∧ k + 1 ≤ a ∧ t.testBit a = true
      · have c2 : s = t ∧ k ≤ a ∧ t.testBit a = true := ⟨c1.1, by omega, c1.2.2⟩
        rw [if_pos c1, if_pos c2]
      · have c5 : ¬ (s = t ∧ k ≤ a ∧ t.testBit a = true) := by
          intro z
          by_cases e : a = k
          · rw [e] at z; exact c (q0_has.mpr z.2.2)
          · exact c1 ⟨z.1, by omega, z.2.2⟩
        rw [if_neg c1, if_neg c5]
/-- the class's table when the sets below t are reckoned -/
def q0_T (tkv opv shv wyv : Nat → Int64) (bdv : Nat → Bool) (ct sta : Nat) (stc : Int64) (fev : Nat → Nat) (t : Nat) (dn : Nat → Int64) : Prop := ∀ s a, 1 ≤ s → s < t → a < ct → s.testBit a = true → dn (s * ct + a) = f0_earliest tkv opv shv wyv bdv ct sta stc fev dn (q3_clr s a) (fev a)
theorem q0_lpb (hct : ct ≤ 11) : ∀ (n t : Nat) (dn : Nat → Int64), t + n = 2 ^ ct → 1 ≤ t → q0_T tkv opv shv wyv bdv ct sta stc fev t dn → q0_T tkv opv shv wyv bdv ct sta stc fev (2 ^ ct) (f0_reckonSets_lpb tkv opv shv wyv bdv ct sta stc fev n t dn).2 := by
  intro n
  induction n with
  | zero =>
    intro t dn h1 _ h
    have e : t = 2 ^ ct := by omega
    subst e; exact h
  | succ n ih =>
    intro t dn h1 h2 h
    unfold f0_reckonSets_lpb
    refine ih (t + 1) _ (by omega) (by omega) ?_
    have hl := q0_lpa (tkv := tkv) (opv := opv) (shv := shv) (wyv := wyv) (bdv := bdv) (fev := fev) (sta := sta) (stc := stc) hct (show t < 2 ^ ct by omega) dn ct 0 dn (by omega) (fun _ _ _ _ => rfl)
    intro s a s1 s2 ha hb
    have hsl : s < 2 ^ ct := by omega
    have hclt := bt_clr_lt hsl (by omega) ha hb
    have hc : f0_earliest tkv opv shv wyv bdv ct sta stc fev (f0_reckonSets_lpa tkv opv shv wyv bdv ct sta stc fev t ct 0 dn).2 (q3_clr s a) (fev a) = f0_earliest tkv opv shv wyv bdv ct sta stc fev dn (q3_clr s a) (fev a) := by
      refine q0_earl_c (fun j hj _ => ?_)
      rw [hl _ j hj, if_neg (by omega)]
    rw [hc, hl s a ha]
    by_cases e : s = t
    · subst e
      have c5 : s = s ∧ 0 ≤ a ∧ s.testBit a = true := ⟨rfl, Nat.zero_le _, hb⟩
      rw [if_pos c5, bt_xor hsl (by omega) ha hb]
    · rw [if_neg (fun z => e z.1)]
      exact h s a s1 (by omega) ha hb
theorem q0_tab (hct : ct ≤ 11) {dl : Nat} {dnv : Nat → Int64} : q0_T tkv opv shv wyv bdv ct sta stc fev (2 ^ ct) (f0_reckonSets_dnv tkv opv shv wyv bdv ct sta stc fev dl dnv) := by
  have hp := bz_pow1 ct
  unfold f0_reckonSets_dnv
  split
  · exact q0_lpb hct _ _ _ (by omega) (Nat.le_refl _) (fun s a h1 h2 => by omega)
  · exact q0_lpb hct _ _ _ (by omega) (Nat.le_refl _) (fun s a h1 h2 => by omega)
/-- the two tables, set by set -/
theorem xr_tab (hd : xdat tkv opv shv shm wyv) (hct : ct ≤ 11) (hfe : ∀ k, k < ct → 1 ≤ fev k) {ck : Int64} (hst : xrel 1100000 stc ck) {dn ea : Nat → Int64} (hC : q0_T tkv opv shv wyv bdv ct sta stc fev (2 ^ ct) dn) (hM : q3_T tkv opv shm wyv bdv fev ct (fun a => f3_wellDone tkv opv shm wyv bdv sta (fev a) ck) (2 ^ ct) ea) :
    ∀ N s a, s < N → 1 ≤ s → s < 2 ^ ct → a < ct → s.testBit a = true → xrel 1100000 (dn (s * ct + a)) (ea (11 * s + a)) := by
  intro N
  induction N with
  | zero => intro s a h; omega
  | succ N ih =>
    intro s a h0 h1 h2 ha hb
    have hclt := bt_clr_lt h2 (by omega) ha hb
    rw [hC s a h1 h2 ha hb]
    by_cases c : q3_clr s a = 0
    · have e : s = 2 ^ a := by
        have := bt_or_clr h2 (by omega) ha hb
        rw [c, Nat.zero_or] at this
        exact this.symm
      rw [c]
      unfold f0_earliest
      rw [if_pos rfl, e, hM.2.1 a ha]
      exact xr_leg hd (hfe a ha) hst
    · unfold f0_earliest
      rw [if_neg c]
      obtain ⟨u1, u2, u3⟩ := q0_lp (tkv := tkv) (opv := opv) (shv := shv) (wyv := wyv) (bdv := bdv) (ct := ct) (t := q3_clr s a) (b := fev a) (fev := fev) (dnv := dn) ct 1000000000000000 0
      have hm := (hM.2.2 s a h2 ha hb c).1 (by omega)
      have hIH : ∀ j, j < ct → (q3_clr s a).testBit j = true → xrel 1100000 (dn (q3_clr s a * ct + j)) (ea (11 * q3_clr s a + j)) := fun j hj hbj => ih (q3_clr s a) j (by omega) (by omega) (by omega) hj hbj
      refine xr_min (ct := ct) (P := fun j => (q3_clr s a).testBit j = true) (g := fun j => f1_goodLeg tkv opv shv wyv bdv (fev j) (dn (q3_clr s a * ct + j)) (fev a)) (w := fun j => f3_wellDone tkv opv shm wyv bdv (fev j) (fev a) (ea (11 * q3_clr s a + j))) (by decide) (fun j hj hbj => xr_leg hd (hfe a ha) (hIH j hj hbj)) u1 (fun j hj hbj => u2 j (Nat.zero_le _) (by omega) hbj) ?_ (fun j hj hbj hw => ?_) ?_
      · rcases u3 with u3 | ⟨j, _, j2, j3, j4⟩
        · exact Or.inl u3
        · exact Or.inr ⟨j, by omega, j3, j4⟩
      · refine hm.2.1 j hj ?_
        obtain ⟨a1, a2⟩ := xr_ne (hIH j hj hbj) (by decide)
        by_cases z : dn (q3_clr s a * ct + j) = 1000000000000000
        · exfalso
          have e := a1.mp z
          have hw2 : f3_wellDone tkv opv shm wyv bdv (fev j) (fev a) (ea (11 * q3_clr s a + j)) < 4000000000000000000 := hw
          rw [e] at hw2
          unfold f3_wellDone at hw2
          simp at hw2
        · exact (a2 z).2.2.2
      · rcases hm.2.2 with z | ⟨i, i1, i2, i3⟩
        · exact Or.inl z
        · refine Or.inr ⟨i, i1, ?_, i3⟩
          cases hbi : (q3_clr s a).testBit i
          · have e := hM.1 (q3_clr s a) i (by omega) i1 hbi
            have i2' : ea (11 * q3_clr s a + i) < 4000000000000000000 := i2
            rw [e] at i2'
            exact absurd i2' Int64.lt_irrefl
          · rfl
/-- the first of the class's fits -/
theorem q0_ll_s {dn : Nat → Int64} {t b : Nat} {du : Int64} : ∀ n k, k + n = ct - 1 → 1 ≤ ct → ∀ p, k ≤ p → p < ct → f0_fits tkv opv shv wyv bdv ct fev dn t p b du = true → (∀ i, k ≤ i → i < p → ¬ f0_fits tkv opv shv wyv bdv ct fev dn t i b du = true) → f0_leastLast_lp tkv opv shv wyv bdv ct fev dn t b du n k = p := by
  intro n
  induction n with
  | zero =>
    intro k h1 h2 p h3 h4 h5 h6
    show k = p
    omega
  | succ n ih =>
    intro k h1 h2 p h3 h4 h5 h6
    unfold f0_leastLast_lp
    by_cases e : k = p
    · subst e; rw [if_pos h5]
    · rw [if_neg (h6 k (Nat.le_refl _) (by omega))]
      exact ih (k + 1) (by omega) h2 p (by omega) h4 h5 (fun i hi => h6 i (by omega))
theorem q0_fits {dn : Nat → Int64} {t k b : Nat} {du : Int64} : f0_fits tkv opv shv wyv bdv ct fev dn t k b du = true ↔ t.testBit k = true ∧ f1_goodLeg tkv opv shv wyv bdv (fev k) (dn (t * ct + k)) b = du := by
  unfold f0_fits
  rw [q3_b2, q0_has]
/-- the first of the reference's fits -/
theorem q3_l4c {eav : Nat → Int64} {se aa ls fr : Nat} (hf : fr ≤ 20) : ∀ (n : Nat) (bf : Int32) (v : Nat), v = n → v ≤ fr → (bf < 0 ∧ (∀ j, v ≤ j → j < fr → ¬ q3_fit tkv opv shm wyv bdv fev eav ls se aa j) ∨ ∃ p, bf = nI p ∧ v ≤ p ∧ p < fr ∧ q3_fit tkv opv shm wyv bdv fev eav ls se aa p ∧ ∀ j, v ≤ j → j < p → ¬ q3_fit tkv opv shm wyv bdv fev eav ls se aa j) →
    ((f3_findExact_l4 tkv opv shm wyv bdv fev eav se aa ls n bf v).1 < 0 ∧ (∀ j, j < fr → ¬ q3_fit tkv opv shm wyv bdv fev eav ls se aa j) ∨ ∃ p, (f3_findExact_l4 tkv opv shm wyv bdv fev eav se aa ls n bf v).1 = nI p ∧ p < fr ∧ q3_fit tkv opv shm wyv bdv fev eav ls se aa p ∧ ∀ j, j < p → ¬ q3_fit tkv opv shm wyv bdv fev eav ls se aa j) := by
  intro n
  induction n with
  | zero =>
    intro bf v h1 h2 h
    subst h1
    rcases h with ⟨a, b⟩ | ⟨p, a, b, c, d, e⟩
    · exact Or.inl ⟨a, fun j hj => b j (Nat.zero_le _) hj⟩
    · exact Or.inr ⟨p, a, c, d, fun j hj => e j (Nat.zero_le _) hj⟩
  | succ n ih =>
    intro bf v h1 h2 h
    unfold f3_findExact_l4
    refine ih _ _ (by omega) (by omega) ?_
    by_cases c : q3_fit tkv opv shm wyv bdv fev eav ls se aa (v - 1)
    · have c2 := q3_b2.mpr c
      rw [if_pos c2]
      exact Or.inr ⟨v - 1, rfl, Nat.le_refl _, by omega, c, fun j h3 h4 => by omega⟩
    · have c2 : ¬ (if ls / 2 ^ (v - 1) % 2 = 1 then (if f3_wellDone tkv opv shm wyv bdv (fev (v - 1)) (fev aa) (eav (11 * ls + (v - 1))) = eav (11 * se + aa) then true else false) else false) = true := fun z => c (q3_b2.mp z)
      rw [if_neg c2]
      rcases h with ⟨a, b⟩ | ⟨p, a, b, c3, d, e⟩
      · refine Or.inl ⟨a, fun j h3 h4 => ?_⟩
        by_cases e2 : j = v - 1
        · subst e2; exact c
        · exact b j (by omega) h4
      · refine Or.inr ⟨p, a, by omega, c3, d, fun j h3 h4 => ?_⟩
        by_cases e2 : j = v - 1
        · subst e2; exact c
        · exact e j (by omega) h4
end CEY


def ctl : List Nat → Nat → Nat
  | [], _ => 0
  | a :: _, 0 => a
  | _ :: r, k + 1 => ctl r k

def f3_init_lp  : Nat → Nat → (Nat → Int64) → Nat × (Nat → Int64)
  | 0, k, wyv => (k, wyv)
  | n + 1, k, wyv => f3_init_lp  n (k + 1) (va_up wyv k 1000)
set_option maxRecDepth 100000 in
set_option maxHeartbeats 4000000 in
theorem lX3_init_lp {p : Program} {l : Launch} {e : Env} {R : Room} {s : State} {m : MethodId} {args : Array Value} {below : List Frame} {meth : Method} {c : Code} {cells slots : Nat} {Q : State → Prop} {A : Nat → Prop} {D : va_G} (h : Nat) (ad : Nat → Nat) (cI : ClassId) (cJ : ClassId) (cZ : ClassId) (thr : Int32) (sn : Nat) (tkv : Nat → Int64) (opv : Nat → Int64) (shv : Nat → Int64) (ldv : Nat → Int32) (lim : Int32) (bdv : Nat → Bool) (isr : Bool) (rn : Nat) (rdv : Nat → Nat) (fz : Nat) (icv : Nat → Nat) (exa : Bool) (fr : Nat) (fev : Nat → Nat) (eav : Nat → Int64) (rs : Nat) (rov : Nat → Nat)  (C : gz_C p s m args c cX3_init 2 RX3 D [(cI, .int), (cJ, .long), (cZ, .boolean)] A) : ∀ (n : Nat) (k : Nat) (wyv : Nat → Int64), (k + n = 441) → ((((f3_init_lp  n k wyv).1) + 0 = 441) → GZ p l e R s m args below meth c 2 D A cells slots Q (wM h ad cI cJ cZ thr sn tkv opv shv ldv lim ((f3_init_lp  n k wyv).2) bdv isr rn rdv fz icv exa fr fev eav rs rov) [(0, .ref h), (1, .int (nI ((f3_init_lp  n k wyv).1)))] [] 124) → GZ p l e R s m args below meth c 2 D A cells slots Q (wM h ad cI cJ cZ thr sn tkv opv shv ldv lim wyv bdv isr rn rdv fz icv exa fr fev eav rs rov) [(0, .ref h), (1, .int (nI k))] [] 102 := by
  intro n
  induction n with
  | zero =>
    intro k wyv hme  hx
    refine gz_iload_n C 1 dX3_init_102 rfl ?_
    refine gz_sipush (v := nI 441) C dX3_init_103 (by decide) ?_
    refine gz_ncmp_ge C 124 (by omega) (by omega) dX3_init_106 (by decide) (fun h_1 => ?_) (fun h_1 => ?_)
    · skip
      exact gz_lv [0, 1] rfl (hx hme )
    · have g_1 : ¬ (441 ≤ k) := (Nat.not_le.mpr h_1)
      exfalso; omega
  | succ n ih =>
    intro k wyv hme  hx
    refine gz_iload_n C 1 dX3_init_102 rfl ?_
    refine gz_sipush (v := nI 441) C dX3_init_103 (by decide) ?_
    refine gz_ncmp_ge C 124 (by omega) (by omega) dX3_init_106 (by decide) (fun h_1 => ?_) (fun h_1 => ?_)
    · skip
      exfalso; omega
    · have g_1 : ¬ (441 ≤ k) := (Nat.not_le.mpr h_1)
      refine gz_aload_n C 0 dX3_init_109 rfl ?_
      refine gz_get (ci := 4) C iwX3 0 rfl rfl 7 (by decide) wk_387 rfl rfl dX3_init_110 ?_
      refine gz_iload_n C 1 dX3_init_113 rfl ?_
      refine gz_ldc2 (v := 1000) C wk_379 dX3_init_114 ?_
      refine gz_last (ws2 := (wM h ad cI cJ cZ thr sn tkv opv shv ldv lim (va_up wyv k 1000) bdv isr rn rdv fz icv exa fr fev eav rs rov)) C 5 1 rfl rfl (by omega) (by decide) rfl dX3_init_117 ?_
      refine gz_iinc (v := nI (k + 1)) (lv2 := [(1, .int (nI (k + 1))), (0, .ref h)]) (k := 1) C dX3_init_118 rfl (nI_add _ 1) (by decide) rfl ?_
      refine gz_goto C 102 dX3_init_121 (by decide) ?_
      refine gz_lv [1, 0] rfl ?_
      simp only [f3_init_lp, if_neg g_1] at hx
      exact ih (k + 1) (va_up wyv k 1000) (by omega)  hx

set_option maxRecDepth 100000 in
set_option maxHeartbeats 4000000 in
theorem kX3_init (l : Launch) (D : va_G) (h : Nat) (cI : ClassId) (cJ : ClassId) (cZ : ClassId) : gz_MX l yX3_init cX3_init 2 none ({ frames := 1, cells := 11, slots := 23575, locals := 20 } : Room) D [(cI, .int), (cJ, .long), (cZ, .boolean)] [.ref h] [(h, .inr (4, [.int 0, .int 0, .null, .null, .null, .null, .int 0, .null, .null, .int 0, .int 0, .null, .int 0, .null, .int 0, .int 0, .null, .null, .int 0, .null]))] none (fun ad : Nat → Nat => (wM h ad cI cJ cZ 0 0 ((fun _ => 0)) ((fun _ => 0)) ((fun _ => 0)) ((fun _ => 0)) ((-1)) ((f3_init_lp  441 0 ((fun _ => 0))).2) ((fun _ => false)) false 0 ((fun _ => 0)) 0 ((fun _ => 0)) false 0 ((fun _ => 0)) ((fun _ => 0)) 0 ((fun _ => 0)))) 11 23575 := by
  refine gz_metX l (by decide) (Nat.le_of_ble_eq_true rfl) [(0, .ref h)] rfl ?_
  intro sz p e s m args below meth c C hr hk hnm
  have C : gz_C p s m args c cX3_init 2 RX3 D [(cI, .int), (cJ, .long), (cZ, .boolean)] (va_A [(h, .inr (4, [.int 0, .int 0, .null, .null, .null, .null, .int 0, .null, .null, .int 0, .int 0, .null, .int 0, .null, .int 0, .int 0, .null, .null, .int 0, .null]))] sz) := C
  refine gz_aload_n C 0 dX3_init_0 rfl ?_
  refine gz_objInit C wk_378 wk_17 wk_18 dX3_init_1 (by decide) (by decide) ?_
  refine gz_aload_n C 0 dX3_init_4 rfl ?_
  refine gz_bipush (v := nI 21) C dX3_init_5 (by decide) ?_
  refine gz_newa (atype := .long) (N := 21) (a0 := (21, .inr (.inl (fun _ => 0)))) C wk_54 1 rfl (fun _ => rfl) (by decide) (by decide) (by decide) (by decide) dX3_init_7 (fun q1 => ?_)
  refine gz_wse (ws2 := [(h, .inr (4, [.int 0, .int 0, .null, .null, .null, .null, .int 0, .null, .null, .int 0, .int 0, .null, .int 0, .null, .int 0, .int 0, .null, .null, .int 0, .null])), (q1, .inl (cJ, 21, .inr (.inl (fun _ => 0))))]) rfl ?_
  refine gz_putF (ci := 4) (ws2 := [(h, .inr (4, [.int 0, .int 0, .ref q1, .null, .null, .null, .int 0, .null, .null, .int 0, .int 0, .null, .int 0, .null, .int 0, .int 0, .null, .null, .int 0, .null])), (q1, .inl (cJ, 21, .inr (.inl (fun _ => 0))))]) C iwX3 0 rfl rfl 2 (by decide) wk_382 rfl tyX3 tyX3_ok nmX3 rfl hnm rfl rfl rfl rfl (Nat.le_of_ble_eq_true rfl) rfl dX3_init_9 ?_
  refine gz_aload_n C 0 dX3_init_12 rfl ?_
  refine gz_bipush (v := nI 21) C dX3_init_13 (by decide) ?_
  refine gz_newa (atype := .long) (N := 21) (a0 := (21, .inr (.inl (fun _ => 0)))) C wk_54 1 rfl (fun _ => rfl) (by decide) (by decide) (by decide) (by decide) dX3_init_15 (fun q2 => ?_)
  refine gz_wse (ws2 := [(h, .inr (4, [.int 0, .int 0, .ref q1, .null, .null, .null, .int 0, .null, .null, .int 0, .int 0, .null, .int 0, .null, .int 0, .int 0, .null, .null, .int 0, .null])), (q1, .inl (cJ, 21, .inr (.inl (fun _ => 0)))), (q2, .inl (cJ, 21, .inr (.inl (fun _ => 0))))]) rfl ?_
  refine gz_putF (ci := 4) (ws2 := [(h, .inr (4, [.int 0, .int 0, .ref q1, .ref q2, .null, .null, .int 0, .null, .null, .int 0, .int 0, .null, .int 0, .null, .int 0, .int 0, .null, .null, .int 0, .null])), (q1, .inl (cJ, 21, .inr (.inl (fun _ => 0)))), (q2, .inl (cJ, 21, .inr (.inl (fun _ => 0))))]) C iwX3 0 rfl rfl 3 (by decide) wk_383 rfl tyX3 tyX3_ok nmX3 rfl hnm rfl rfl rfl rfl (Nat.le_of_ble_eq_true rfl) rfl dX3_init_17 ?_
  refine gz_aload_n C 0 dX3_init_20 rfl ?_
  refine gz_bipush (v := nI 21) C dX3_init_21 (by decide) ?_
  refine gz_newa (atype := .long) (N := 21) (a0 := (21, .inr (.inl (fun _ => 0)))) C wk_54 1 rfl (fun _ => rfl) (by decide) (by decide) (by decide) (by decide) dX3_init_23 (fun q3 => ?_)
  refine gz_wse (ws2 := [(h, .inr (4, [.int 0, .int 0, .ref q1, .ref q2, .null, .null, .int 0, .null, .null, .int 0, .int 0, .null, .int 0, .null, .int 0, .int 0, .null, .null, .int 0, .null])), (q1, .inl (cJ, 21, .inr (.inl (fun _ => 0)))), (q2, .inl (cJ, 21, .inr (.inl (fun _ => 0)))), (q3, .inl (cJ, 21, .inr (.inl (fun _ => 0))))]) rfl ?_
  refine gz_putF (ci := 4) (ws2 := [(h, .inr (4, [.int 0, .int 0, .ref q1, .ref q2, .ref q3, .null, .int 0, .null, .null, .int 0, .int 0, .null, .int 0, .null, .int 0, .int 0, .null, .null, .int 0, .null])), (q1, .inl (cJ, 21, .inr (.inl (fun _ => 0)))), (q2, .inl (cJ, 21, .inr (.inl (fun _ => 0)))), (q3, .inl (cJ, 21, .inr (.inl (fun _ => 0))))]) C iwX3 0 rfl rfl 4 (by decide) wk_384 rfl tyX3 tyX3_ok nmX3 rfl hnm rfl rfl rfl rfl (Nat.le_of_ble_eq_true rfl) rfl dX3_init_25 ?_
  refine gz_aload_n C 0 dX3_init_28 rfl ?_
  refine gz_bipush (v := nI 21) C dX3_init_29 (by decide) ?_
  refine gz_newa (atype := .int) (N := 21) (a0 := (21, .inl (fun _ => 0))) C wk_55 0 rfl (fun _ => rfl) (by decide) (by decide) (by decide) (by decide) dX3_init_31 (fun q4 => ?_)
  refine gz_wse (ws2 := [(h, .inr (4, [.int 0, .int 0, .ref q1, .ref q2, .ref q3, .null, .int 0, .null, .null, .int 0, .int 0, .null, .int 0, .null, .int 0, .int 0, .null, .null, .int 0, .null])), (q1, .inl (cJ, 21, .inr (.inl (fun _ => 0)))), (q2, .inl (cJ, 21, .inr (.inl (fun _ => 0)))), (q3, .inl (cJ, 21, .inr (.inl (fun _ => 0)))), (q4, .inl (cI, 21, .inl (fun _ => 0)))]) rfl ?_
  refine gz_putF (ci := 4) (ws2 := [(h, .inr (4, [.int 0, .int 0, .ref q1, .ref q2, .ref q3, .ref q4, .int 0, .null, .null, .int 0, .int 0, .null, .int 0, .null, .int 0, .int 0, .null, .null, .int 0, .null])), (q1, .inl (cJ, 21, .inr (.inl (fun _ => 0)))), (q2, .inl (cJ, 21, .inr (.inl (fun _ => 0)))), (q3, .inl (cJ, 21, .inr (.inl (fun _ => 0)))), (q4, .inl (cI, 21, .inl (fun _ => 0)))]) C iwX3 0 rfl rfl 5 (by decide) wk_385 rfl tyX3 tyX3_ok nmX3 rfl hnm rfl rfl rfl rfl (Nat.le_of_ble_eq_true rfl) rfl dX3_init_33 ?_
  refine gz_aload_n C 0 dX3_init_36 rfl ?_
  refine gz_iconst (v := (-1)) C dX3_init_37 (by decide) ?_
  refine gz_put (ci := 4) (ws2 := [(h, .inr (4, [.int 0, .int 0, .ref q1, .ref q2, .ref q3, .ref q4, .int (-1), .null, .null, .int 0, .int 0, .null, .int 0, .null, .int 0, .int 0, .null, .null, .int 0, .null])), (q1, .inl (cJ, 21, .inr (.inl (fun _ => 0)))), (q2, .inl (cJ, 21, .inr (.inl (fun _ => 0)))), (q3, .inl (cJ, 21, .inr (.inl (fun _ => 0)))), (q4, .inl (cI, 21, .inl (fun _ => 0)))]) C iwX3 0 rfl rfl 6 (by decide) wk_386 rfl tyX3 tyX3_ok nmX3 rfl rfl rfl rfl (Nat.le_of_ble_eq_true rfl) rfl dX3_init_38 ?_
  refine gz_aload_n C 0 dX3_init_41 rfl ?_
  refine gz_sipush (v := nI 441) C dX3_init_42 (by decide) ?_
  refine gz_newa (atype := .long) (N := 441) (a0 := (441, .inr (.inl (fun _ => 0)))) C wk_54 1 rfl (fun _ => rfl) (by decide) (by decide) (by decide) (by decide) dX3_init_45 (fun q5 => ?_)
  refine gz_wse (ws2 := [(h, .inr (4, [.int 0, .int 0, .ref q1, .ref q2, .ref q3, .ref q4, .int (-1), .null, .null, .int 0, .int 0, .null, .int 0, .null, .int 0, .int 0, .null, .null, .int 0, .null])), (q1, .inl (cJ, 21, .inr (.inl (fun _ => 0)))), (q2, .inl (cJ, 21, .inr (.inl (fun _ => 0)))), (q3, .inl (cJ, 21, .inr (.inl (fun _ => 0)))), (q4, .inl (cI, 21, .inl (fun _ => 0))), (q5, .inl (cJ, 441, .inr (.inl (fun _ => 0))))]) rfl ?_
  refine gz_putF (ci := 4) (ws2 := [(h, .inr (4, [.int 0, .int 0, .ref q1, .ref q2, .ref q3, .ref q4, .int (-1), .ref q5, .null, .int 0, .int 0, .null, .int 0, .null, .int 0, .int 0, .null, .null, .int 0, .null])), (q1, .inl (cJ, 21, .inr (.inl (fun _ => 0)))), (q2, .inl (cJ, 21, .inr (.inl (fun _ => 0)))), (q3, .inl (cJ, 21, .inr (.inl (fun _ => 0)))), (q4, .inl (cI, 21, .inl (fun _ => 0))), (q5, .inl (cJ, 441, .inr (.inl (fun _ => 0))))]) C iwX3 0 rfl rfl 7 (by decide) wk_387 rfl tyX3 tyX3_ok nmX3 rfl hnm rfl rfl rfl rfl (Nat.le_of_ble_eq_true rfl) rfl dX3_init_47 ?_
  refine gz_aload_n C 0 dX3_init_50 rfl ?_
  refine gz_sipush (v := nI 441) C dX3_init_51 (by decide) ?_
  refine gz_newa (atype := .boolean) (N := 441) (a0 := (441, .inl (bF (fun _ => false)))) C wk_56 2 rfl (fun _ => rfl) (by decide) (by decide) (by decide) (by decide) dX3_init_54 (fun q6 => ?_)
  refine gz_wse (ws2 := [(h, .inr (4, [.int 0, .int 0, .ref q1, .ref q2, .ref q3, .ref q4, .int (-1), .ref q5, .null, .int 0, .int 0, .null, .int 0, .null, .int 0, .int 0, .null, .null, .int 0, .null])), (q1, .inl (cJ, 21, .inr (.inl (fun _ => 0)))), (q2, .inl (cJ, 21, .inr (.inl (fun _ => 0)))), (q3, .inl (cJ, 21, .inr (.inl (fun _ => 0)))), (q4, .inl (cI, 21, .inl (fun _ => 0))), (q5, .inl (cJ, 441, .inr (.inl (fun _ => 0)))), (q6, .inl (cZ, 441, .inl (bF (fun _ => false))))]) rfl ?_
  refine gz_putF (ci := 4) (ws2 := [(h, .inr (4, [.int 0, .int 0, .ref q1, .ref q2, .ref q3, .ref q4, .int (-1), .ref q5, .ref q6, .int 0, .int 0, .null, .int 0, .null, .int 0, .int 0, .null, .null, .int 0, .null])), (q1, .inl (cJ, 21, .inr (.inl (fun _ => 0)))), (q2, .inl (cJ, 21, .inr (.inl (fun _ => 0)))), (q3, .inl (cJ, 21, .inr (.inl (fun _ => 0)))), (q4, .inl (cI, 21, .inl (fun _ => 0))), (q5, .inl (cJ, 441, .inr (.inl (fun _ => 0)))), (q6, .inl (cZ, 441, .inl (bF (fun _ => false))))]) C iwX3 0 rfl rfl 8 (by decide) wk_388 rfl tyX3 tyX3_ok nmX3 rfl hnm rfl rfl rfl rfl (Nat.le_of_ble_eq_true rfl) rfl dX3_init_56 ?_
  refine gz_aload_n C 0 dX3_init_59 rfl ?_
  refine gz_bipush (v := nI 20) C dX3_init_60 (by decide) ?_
  refine gz_newa (atype := .int) (N := 20) (a0 := (20, .inl (nF (fun _ => 0)))) C wk_55 0 rfl (fun _ => rfl) (by decide) (by decide) (by decide) (by decide) dX3_init_62 (fun q7 => ?_)
  refine gz_wse (ws2 := [(h, .inr (4, [.int 0, .int 0, .ref q1, .ref q2, .ref q3, .ref q4, .int (-1), .ref q5, .ref q6, .int 0, .int 0, .null, .int 0, .null, .int 0, .int 0, .null, .null, .int 0, .null])), (q1, .inl (cJ, 21, .inr (.inl (fun _ => 0)))), (q2, .inl (cJ, 21, .inr (.inl (fun _ => 0)))), (q3, .inl (cJ, 21, .inr (.inl (fun _ => 0)))), (q4, .inl (cI, 21, .inl (fun _ => 0))), (q5, .inl (cJ, 441, .inr (.inl (fun _ => 0)))), (q6, .inl (cZ, 441, .inl (bF (fun _ => false)))), (q7, .inl (cI, 20, .inl (nF (fun _ => 0))))]) rfl ?_
  refine gz_putF (ci := 4) (ws2 := [(h, .inr (4, [.int 0, .int 0, .ref q1, .ref q2, .ref q3, .ref q4, .int (-1), .ref q5, .ref q6, .int 0, .int 0, .ref q7, .int 0, .null, .int 0, .int 0, .null, .null, .int 0, .null])), (q1, .inl (cJ, 21, .inr (.inl (fun _ => 0)))), (q2, .inl (cJ, 21, .inr (.inl (fun _ => 0)))), (q3, .inl (cJ, 21, .inr (.inl (fun _ => 0)))), (q4, .inl (cI, 21, .inl (fun _ => 0))), (q5, .inl (cJ, 441, .inr (.inl (fun _ => 0)))), (q6, .inl (cZ, 441, .inl (bF (fun _ => false)))), (q7, .inl (cI, 20, .inl (nF (fun _ => 0))))]) C iwX3 0 rfl rfl 11 (by decide) wk_391 rfl tyX3 tyX3_ok nmX3 rfl hnm rfl rfl rfl rfl (Nat.le_of_ble_eq_true rfl) rfl dX3_init_64 ?_
  refine gz_aload_n C 0 dX3_init_67 rfl ?_
  refine gz_bipush (v := nI 20) C dX3_init_68 (by decide) ?_
  refine gz_newa (atype := .int) (N := 20) (a0 := (20, .inl (nF (fun _ => 0)))) C wk_55 0 rfl (fun _ => rfl) (by decide) (by decide) (by decide) (by decide) dX3_init_70 (fun q8 => ?_)
  refine gz_wse (ws2 := [(h, .inr (4, [.int 0, .int 0, .ref q1, .ref q2, .ref q3, .ref q4, .int (-1), .ref q5, .ref q6, .int 0, .int 0, .ref q7, .int 0, .null, .int 0, .int 0, .null, .null, .int 0, .null])), (q1, .inl (cJ, 21, .inr (.inl (fun _ => 0)))), (q2, .inl (cJ, 21, .inr (.inl (fun _ => 0)))), (q3, .inl (cJ, 21, .inr (.inl (fun _ => 0)))), (q4, .inl (cI, 21, .inl (fun _ => 0))), (q5, .inl (cJ, 441, .inr (.inl (fun _ => 0)))), (q6, .inl (cZ, 441, .inl (bF (fun _ => false)))), (q7, .inl (cI, 20, .inl (nF (fun _ => 0)))), (q8, .inl (cI, 20, .inl (nF (fun _ => 0))))]) rfl ?_
  refine gz_putF (ci := 4) (ws2 := [(h, .inr (4, [.int 0, .int 0, .ref q1, .ref q2, .ref q3, .ref q4, .int (-1), .ref q5, .ref q6, .int 0, .int 0, .ref q7, .int 0, .ref q8, .int 0, .int 0, .null, .null, .int 0, .null])), (q1, .inl (cJ, 21, .inr (.inl (fun _ => 0)))), (q2, .inl (cJ, 21, .inr (.inl (fun _ => 0)))), (q3, .inl (cJ, 21, .inr (.inl (fun _ => 0)))), (q4, .inl (cI, 21, .inl (fun _ => 0))), (q5, .inl (cJ, 441, .inr (.inl (fun _ => 0)))), (q6, .inl (cZ, 441, .inl (bF (fun _ => false)))), (q7, .inl (cI, 20, .inl (nF (fun _ => 0)))), (q8, .inl (cI, 20, .inl (nF (fun _ => 0))))]) C iwX3 0 rfl rfl 13 (by decide) wk_393 rfl tyX3 tyX3_ok nmX3 rfl hnm rfl rfl rfl rfl (Nat.le_of_ble_eq_true rfl) rfl dX3_init_72 ?_
  refine gz_aload_n C 0 dX3_init_75 rfl ?_
  refine gz_bipush (v := nI 20) C dX3_init_76 (by decide) ?_
  refine gz_newa (atype := .int) (N := 20) (a0 := (20, .inl (nF (fun _ => 0)))) C wk_55 0 rfl (fun _ => rfl) (by decide) (by decide) (by decide) (by decide) dX3_init_78 (fun q9 => ?_)
  refine gz_wse (ws2 := [(h, .inr (4, [.int 0, .int 0, .ref q1, .ref q2, .ref q3, .ref q4, .int (-1), .ref q5, .ref q6, .int 0, .int 0, .ref q7, .int 0, .ref q8, .int 0, .int 0, .null, .null, .int 0, .null])), (q1, .inl (cJ, 21, .inr (.inl (fun _ => 0)))), (q2, .inl (cJ, 21, .inr (.inl (fun _ => 0)))), (q3, .inl (cJ, 21, .inr (.inl (fun _ => 0)))), (q4, .inl (cI, 21, .inl (fun _ => 0))), (q5, .inl (cJ, 441, .inr (.inl (fun _ => 0)))), (q6, .inl (cZ, 441, .inl (bF (fun _ => false)))), (q7, .inl (cI, 20, .inl (nF (fun _ => 0)))), (q8, .inl (cI, 20, .inl (nF (fun _ => 0)))), (q9, .inl (cI, 20, .inl (nF (fun _ => 0))))]) rfl ?_
  refine gz_putF (ci := 4) (ws2 := [(h, .inr (4, [.int 0, .int 0, .ref q1, .ref q2, .ref q3, .ref q4, .int (-1), .ref q5, .ref q6, .int 0, .int 0, .ref q7, .int 0, .ref q8, .int 0, .int 0, .ref q9, .null, .int 0, .null])), (q1, .inl (cJ, 21, .inr (.inl (fun _ => 0)))), (q2, .inl (cJ, 21, .inr (.inl (fun _ => 0)))), (q3, .inl (cJ, 21, .inr (.inl (fun _ => 0)))), (q4, .inl (cI, 21, .inl (fun _ => 0))), (q5, .inl (cJ, 441, .inr (.inl (fun _ => 0)))), (q6, .inl (cZ, 441, .inl (bF (fun _ => false)))), (q7, .inl (cI, 20, .inl (nF (fun _ => 0)))), (q8, .inl (cI, 20, .inl (nF (fun _ => 0)))), (q9, .inl (cI, 20, .inl (nF (fun _ => 0))))]) C iwX3 0 rfl rfl 16 (by decide) wk_396 rfl tyX3 tyX3_ok nmX3 rfl hnm rfl rfl rfl rfl (Nat.le_of_ble_eq_true rfl) rfl dX3_init_80 ?_
  refine gz_aload_n C 0 dX3_init_83 rfl ?_
  refine gz_sipush (v := nI 22528) C dX3_init_84 (by decide) ?_
  refine gz_newa (atype := .long) (N := 22528) (a0 := (22528, .inr (.inl (fun _ => 0)))) C wk_54 1 rfl (fun _ => rfl) (by decide) (by decide) (by decide) (by decide) dX3_init_87 (fun q10 => ?_)
  refine gz_wse (ws2 := [(h, .inr (4, [.int 0, .int 0, .ref q1, .ref q2, .ref q3, .ref q4, .int (-1), .ref q5, .ref q6, .int 0, .int 0, .ref q7, .int 0, .ref q8, .int 0, .int 0, .ref q9, .null, .int 0, .null])), (q1, .inl (cJ, 21, .inr (.inl (fun _ => 0)))), (q2, .inl (cJ, 21, .inr (.inl (fun _ => 0)))), (q3, .inl (cJ, 21, .inr (.inl (fun _ => 0)))), (q4, .inl (cI, 21, .inl (fun _ => 0))), (q5, .inl (cJ, 441, .inr (.inl (fun _ => 0)))), (q6, .inl (cZ, 441, .inl (bF (fun _ => false)))), (q7, .inl (cI, 20, .inl (nF (fun _ => 0)))), (q8, .inl (cI, 20, .inl (nF (fun _ => 0)))), (q9, .inl (cI, 20, .inl (nF (fun _ => 0)))), (q10, .inl (cJ, 22528, .inr (.inl (fun _ => 0))))]) rfl ?_
  refine gz_putF (ci := 4) (ws2 := [(h, .inr (4, [.int 0, .int 0, .ref q1, .ref q2, .ref q3, .ref q4, .int (-1), .ref q5, .ref q6, .int 0, .int 0, .ref q7, .int 0, .ref q8, .int 0, .int 0, .ref q9, .ref q10, .int 0, .null])), (q1, .inl (cJ, 21, .inr (.inl (fun _ => 0)))), (q2, .inl (cJ, 21, .inr (.inl (fun _ => 0)))), (q3, .inl (cJ, 21, .inr (.inl (fun _ => 0)))), (q4, .inl (cI, 21, .inl (fun _ => 0))), (q5, .inl (cJ, 441, .inr (.inl (fun _ => 0)))), (q6, .inl (cZ, 441, .inl (bF (fun _ => false)))), (q7, .inl (cI, 20, .inl (nF (fun _ => 0)))), (q8, .inl (cI, 20, .inl (nF (fun _ => 0)))), (q9, .inl (cI, 20, .inl (nF (fun _ => 0)))), (q10, .inl (cJ, 22528, .inr (.inl (fun _ => 0))))]) C iwX3 0 rfl rfl 17 (by decide) wk_397 rfl tyX3 tyX3_ok nmX3 rfl hnm rfl rfl rfl rfl (Nat.le_of_ble_eq_true rfl) rfl dX3_init_89 ?_
  refine gz_aload_n C 0 dX3_init_92 rfl ?_
  refine gz_bipush (v := nI 21) C dX3_init_93 (by decide) ?_
  refine gz_newa (atype := .int) (N := 21) (a0 := (21, .inl (nF (fun _ => 0)))) C wk_55 0 rfl (fun _ => rfl) (by decide) (by decide) (by decide) (by decide) dX3_init_95 (fun q11 => ?_)
  refine gz_wse (ws2 := [(h, .inr (4, [.int 0, .int 0, .ref q1, .ref q2, .ref q3, .ref q4, .int (-1), .ref q5, .ref q6, .int 0, .int 0, .ref q7, .int 0, .ref q8, .int 0, .int 0, .ref q9, .ref q10, .int 0, .null])), (q1, .inl (cJ, 21, .inr (.inl (fun _ => 0)))), (q2, .inl (cJ, 21, .inr (.inl (fun _ => 0)))), (q3, .inl (cJ, 21, .inr (.inl (fun _ => 0)))), (q4, .inl (cI, 21, .inl (fun _ => 0))), (q5, .inl (cJ, 441, .inr (.inl (fun _ => 0)))), (q6, .inl (cZ, 441, .inl (bF (fun _ => false)))), (q7, .inl (cI, 20, .inl (nF (fun _ => 0)))), (q8, .inl (cI, 20, .inl (nF (fun _ => 0)))), (q9, .inl (cI, 20, .inl (nF (fun _ => 0)))), (q10, .inl (cJ, 22528, .inr (.inl (fun _ => 0)))), (q11, .inl (cI, 21, .inl (nF (fun _ => 0))))]) rfl ?_
  refine gz_putF (ci := 4) (ws2 := [(h, .inr (4, [.int 0, .int 0, .ref q1, .ref q2, .ref q3, .ref q4, .int (-1), .ref q5, .ref q6, .int 0, .int 0, .ref q7, .int 0, .ref q8, .int 0, .int 0, .ref q9, .ref q10, .int 0, .ref q11])), (q1, .inl (cJ, 21, .inr (.inl (fun _ => 0)))), (q2, .inl (cJ, 21, .inr (.inl (fun _ => 0)))), (q3, .inl (cJ, 21, .inr (.inl (fun _ => 0)))), (q4, .inl (cI, 21, .inl (fun _ => 0))), (q5, .inl (cJ, 441, .inr (.inl (fun _ => 0)))), (q6, .inl (cZ, 441, .inl (bF (fun _ => false)))), (q7, .inl (cI, 20, .inl (nF (fun _ => 0)))), (q8, .inl (cI, 20, .inl (nF (fun _ => 0)))), (q9, .inl (cI, 20, .inl (nF (fun _ => 0)))), (q10, .inl (cJ, 22528, .inr (.inl (fun _ => 0)))), (q11, .inl (cI, 21, .inl (nF (fun _ => 0))))]) C iwX3 0 rfl rfl 19 (by decide) wk_399 rfl tyX3 tyX3_ok nmX3 rfl hnm rfl rfl rfl rfl (Nat.le_of_ble_eq_true rfl) rfl dX3_init_97 ?_
  refine gz_wse (ws2 := (wM h (ctl [0, 0, q1, q2, q3, q4, 0, q5, q6, 0, 0, q7, 0, q8, 0, 0, q9, q10, 0, q11]) cI cJ cZ 0 0 ((fun _ => 0)) ((fun _ => 0)) ((fun _ => 0)) ((fun _ => 0)) ((-1)) ((fun _ => 0)) ((fun _ => false)) false 0 ((fun _ => 0)) 0 ((fun _ => 0)) false 0 ((fun _ => 0)) ((fun _ => 0)) 0 ((fun _ => 0)))) rfl ?_
  generalize ctl [0, 0, q1, q2, q3, q4, 0, q5, q6, 0, 0, q7, 0, q8, 0, 0, q9, q10, 0, q11] = ad
  refine gz_iconst (v := nI 0) C dX3_init_100 (by decide) ?_
  refine gz_istore_n (lv2 := [(1, .int (nI 0)), (0, .ref h)]) C dX3_init_101 (by decide) rfl ?_
  refine gz_lv (lv2 := [(0, .ref h), (1, .int (nI 0))]) [1, 0] rfl ?_
  refine lX3_init_lp h ad cI cJ cZ 0 0 ((fun _ => 0)) ((fun _ => 0)) ((fun _ => 0)) ((fun _ => 0)) ((-1)) ((fun _ => false)) false 0 ((fun _ => 0)) 0 ((fun _ => 0)) false 0 ((fun _ => 0)) ((fun _ => 0)) 0 ((fun _ => 0))  C 441 0 ((fun _ => 0)) (by omega)  ?_
  intro zme_lp
  exact gz_vretX C hr hk rfl ad rfl (by decide) (by decide) dX3_init_124


section CEZ
variable {tkv opv shv shm wyv : Nat → Int64} {bdv : Nat → Bool} {fev : Nat → Nat} {ct sta : Nat} {stc : Int64}
/-- the way back: both pick the same stop at each place -/
theorem ce_rb (hd : xdat tkv opv shv shm wyv) (hct : ct ≤ 11) (hfe : ∀ k, k < ct → 1 ≤ fev k) {fm : Nat → Nat} (hff : ∀ k, k < ct → fm k = fev k) {dn ea base : Nat → Int64} (hT : q3_T tkv opv shm wyv bdv fm ct base (2 ^ ct) ea) (hR : ∀ s a, 1 ≤ s → s < 2 ^ ct → a < ct → s.testBit a = true → xrel 1100000 (dn (s * ct + a)) (ea (11 * s + a))) {z sn : Nat} :
    ∀ (n t b a : Nat) (du : Int64) (at_ : Int32) (u : Nat) (r1 r2 : Nat → Nat), u = z + n → (0 < n → at_ = nI a ∧ f0_leastLast tkv opv shv wyv bdv ct fev dn t b du = a ∧ q3_V ct ea n t a) → (∀ j, (j < z ∨ u ≤ j) → j < sn → r1 j = r2 j) →
      ∀ j, j < sn → (f0_readBack_lp tkv opv shv wyv bdv ct fev dn n t b du u r1).2.2.2.2 j = (f3_findExact_l3 tkv opv shm wyv bdv ct fm ea n t at_ u r2).2.2.2 j := by
  intro n
  induction n with
  | zero =>
    intro t b a du at_ u r1 r2 hu _ hr j hj
    exact hr j (by omega) hj
  | succ n ih =>
    intro t b a du at_ u r1 r2 hu h hr j hj
    obtain ⟨h1, h2, h3⟩ := h (by omega)
    subst h1
    have hV := h3
    obtain ⟨v1, v2, v3, v4, v5⟩ := h3
    unfold f0_readBack_lp f3_findExact_l3
    have hcl : cl (nI a) = a := cl_nI (by omega)
    rw [h2, hcl, bt_xor v1 (by omega) v2 v3, hff a v2]
    have e9 : (t &&& (2 ^ a ^^^ 4294967295)) = q3_clr t a := rfl
    rw [e9]
    have hclt := bt_clr_lt v1 (by omega) v2 v3
    have t1 : 1 ≤ t := by omega
    have hl4 := q3_l4c (tkv := tkv) (opv := opv) (shm := shm) (wyv := wyv) (bdv := bdv) (fev := fm) (eav := ea) (se := t) (aa := a) (ls := q3_clr t a) (fr := ct) (by omega) ct (-1) ct rfl (Nat.le_refl _) (Or.inl ⟨by decide, fun j h8 h9 => by omega⟩)
    have hfit : ∀ i, i < ct → (f0_fits tkv opv shv wyv bdv ct fev dn (q3_clr t a) i (fev a) (dn (t * ct + a)) = true ↔ q3_fit tkv opv shm wyv bdv fm ea (q3_clr t a) t a i) := by
      intro i hi
      rw [q0_fits]
      unfold q3_fit
      rw [bt_d, hff i hi, hff a v2]
      constructor
      · intro ⟨k1, k2⟩
        have hne : 1 ≤ q3_clr t a := by
          rcases Nat.eq_zero_or_pos (q3_clr t a) with z | z
          · rw [z, Nat.zero_testBit] at k1; cases k1
          · exact z
        exact ⟨k1, (xr_eq (xr_leg hd (hfe a v2) (hR _ i hne (by omega) hi k1)) (hR t a t1 v1 v2 v3) (by decide)).mp k2⟩
      · intro ⟨k1, k2⟩
        have hne : 1 ≤ q3_clr t a := by
          rcases Nat.eq_zero_or_pos (q3_clr t a) with z | z
          · rw [z, Nat.zero_testBit] at k1; cases k1
          · exact z
        exact ⟨k1, (xr_eq (xr_leg hd (hfe a v2) (hR _ i hne (by omega) hi k1)) (hR t a t1 v1 v2 v3) (by decide)).mpr k2⟩
    by_cases hn : 0 < n
    · obtain ⟨_, _, v9⟩ := q3_V1 hct hT n t a hV
      obtain ⟨p0, p1, p2⟩ := v9 hn
      rcases hl4 with ⟨_, w2⟩ | ⟨p, w1, w2, w3, w4⟩
      · exact absurd p2 (w2 p0 p1)
      · refine ih _ _ p _ _ _ _ _ (by omega) (fun _ => ⟨w1, ?_, q3_V2 hct hT n t a p hV hn w2 w3⟩) (fun j h8 h9 => ?_) j hj
        · unfold f0_leastLast
          exact q0_ll_s (ct - 1) 0 (by omega) (by omega) p (Nat.zero_le _) w2 ((hfit p w2).mpr w3) (fun i _ h8 h9 => w4 i h8 ((hfit i (by omega)).mp h9))
        · by_cases e : j = u - 1
          · subst e; rw [va_up_self, va_up_self]
          · rw [va_up_ne _ _ e, va_up_ne _ _ e]; exact hr j (by omega) h9
    · refine ih _ _ a _ _ _ _ _ (by omega) (fun z => absurd z hn) (fun j h8 h9 => ?_) j hj
      by_cases e : j = u - 1
      · subst e; rw [va_up_self, va_up_self]
      · rw [va_up_ne _ _ e, va_up_ne _ _ e]; exact hr j (by omega) h9
/-- the reference's last stop: the first of those that are home first -/
theorem q3_l2c {eav : Nat → Int64} {se fr : Nat} (hf : fr ≤ 20) : ∀ (n : Nat) (at_ : Int32) (fi : Int64) (u : Nat), u = n → u ≤ fr →
    (at_ < 0 ∧ fi = 4000000000000000000 ∧ (∀ j, u ≤ j → j < fr → 4000000000000000000 ≤ f3_wellHome wyv bdv (fev j) (eav (11 * se + j))) ∨ ∃ p, at_ = nI p ∧ u ≤ p ∧ p < fr ∧ fi = f3_wellHome wyv bdv (fev p) (eav (11 * se + p)) ∧ fi < 4000000000000000000 ∧ (∀ j, u ≤ j → j < fr → f3_wellHome wyv bdv (fev j) (eav (11 * se + j)) < 4000000000000000000 → fi ≤ f3_wellHome wyv bdv (fev j) (eav (11 * se + j))) ∧ ∀ j, u ≤ j → j < p → f3_wellHome wyv bdv (fev j) (eav (11 * se + j)) ≠ fi) →
    ((f3_findExact_l2 wyv bdv fev eav se n at_ fi u).1 < 0 ∧ (∀ j, j < fr → 4000000000000000000 ≤ f3_wellHome wyv bdv (fev j) (eav (11 * se + j))) ∨ ∃ p, (f3_findExact_l2 wyv bdv fev eav se n at_ fi u).1 = nI p ∧ p < fr ∧ f3_wellHome wyv bdv (fev p) (eav (11 * se + p)) < 4000000000000000000 ∧ (∀ j, j < fr → f3_wellHome wyv bdv (fev j) (eav (11 * se + j)) < 4000000000000000000 → f3_wellHome wyv bdv (fev p) (eav (11 * se + p)) ≤ f3_wellHome wyv bdv (fev j) (eav (11 * se + j))) ∧ ∀ j, j < p → f3_wellHome wyv bdv (fev j) (eav (11 * se + j)) ≠ f3_wellHome wyv bdv (fev p) (eav (11 * se + p))) := by
  intro n
  induction n with
  | zero =>
    intro at_ fi u h1 h2 h
    subst h1
    rcases h with ⟨a, b, c⟩ | ⟨p, a, b, c, d, e, f, g⟩
    · exact Or.inl ⟨a, fun j hj => c j (Nat.zero_le _) hj⟩
    · subst d
      exact Or.inr ⟨p, a, c, e, fun j hj => f j (Nat.zero_le _) hj, fun j hj => g j (Nat.zero_le _) hj⟩
  | succ n ih =>
    intro at_ fi u h1 h2 h
    unfold f3_findExact_l2
    refine ih _ _ _ (by omega) (by omega) ?_
    by_cases c1 : (4000000000000000000 : Int64) ≤ f3_wellHome wyv bdv (fev (u - 1)) (eav (11 * se + (u - 1)))
    · rw [if_pos c1, if_pos c1]
      rcases h with ⟨a, b, c⟩ | ⟨p, a, b, c, d, e, f, g⟩
      · refine Or.inl ⟨a, b, fun j h3 h4 => ?_⟩
        by_cases e2 : j = u - 1
        · subst e2; exact c1
        · exact c j (by omega) h4
      · refine Or.inr ⟨p, a, by omega, c, d, e, fun j h3 h4 h5 => ?_, fun j h3 h4 h5 => ?_⟩
        · by_cases e2 : j = u - 1
          · subst e2; exact absurd h5 (Int64.not_lt.mpr c1)
          · exact f j (by omega) h4 h5
        · by_cases e2 : j = u - 1
          · subst e2; rw [h5] at c1; exact absurd e (Int64.not_lt.mpr c1)
          · exact g j (by omega) h4 h5
    · rw [if_neg c1, if_neg c1]
      have c1' := Int64.not_le.mp c1
      by_cases c2 : fi < f3_wellHome wyv bdv (fev (u - 1)) (eav (11 * se + (u - 1)))
      · rw [if_pos c2, if_pos c2]
        rcases h with ⟨a, b, c⟩ | ⟨p, a, b, c, d, e, f, g⟩
        · rw [b] at c2; exact absurd c1' (Int64.not_lt.mpr (Int64.le_of_lt c2))
        · refine Or.inr ⟨p, a, by omega, c, d, e, fun j h3 h4 h5 => ?_, fun j h3 h4 h5 => ?_⟩
          · by_cases e2 : j = u - 1
            · subst e2; exact Int64.le_of_lt c2
            · exact f j (by omega) h4 h5
          · by_cases e2 : j = u - 1
            · subst e2; rw [h5] at c2; exact Int64.lt_irrefl c2
            · exact g j (by omega) h4 h5
      · rw [if_neg c2, if_neg c2]
        have c3 := Int64.not_lt.mp c2
        refine Or.inr ⟨u - 1, rfl, Nat.le_refl _, by omega, rfl, c1', fun j h3 h4 h5 => ?_, fun j h3 h4 => by omega⟩
        by_cases e2 : j = u - 1
        · subst e2; exact Int64.le_refl _
        · rcases h with ⟨a, b, c⟩ | ⟨p, a, b, c, d, e, f, g⟩
          · exact absurd h5 (Int64.not_lt.mpr (c j (by omega) h4))
          · exact Int64.le_trans c3 (f j (by omega) h4 h5)
theorem q3_T_c {base : Nat → Int64} {fr t : Nat} {ea : Nat → Int64} {fm : Nat → Nat} (hff : ∀ k, k < fr → fm k = fev k) (h : q3_T tkv opv shm wyv bdv fm fr base t ea) : q3_T tkv opv shm wyv bdv fev fr base t ea := by
  refine ⟨h.1, h.2.1, fun s a hs ha hb hc => ⟨fun hl => ?_, (h.2.2 s a hs ha hb hc).2⟩⟩
  obtain ⟨m1, m2, m3⟩ := (h.2.2 s a hs ha hb hc).1 hl
  refine ⟨m1, fun i hi hf => ?_, m3.imp id (fun ⟨i, i1, i2, i3⟩ => ⟨i, i1, i2, ?_⟩)⟩
  · rw [← hff i hi, ← hff a ha]; exact m2 i hi hf
  · rw [← hff i i1, ← hff a ha]; exact i3
theorem q3_T_no {base : Nat → Int64} {fr : Nat} {ea : Nat → Int64} (hf : fr ≤ 11) (h : q3_T tkv opv shm wyv bdv fev fr base (2 ^ fr) ea) (hb : ∀ a, a < fr → base a = 4000000000000000000) : ∀ N s a, s < N → s < 2 ^ fr → a < fr → ea (11 * s + a) = 4000000000000000000 := by
  intro N
  induction N with
  | zero => intro s a h1; omega
  | succ N ih =>
    intro s a h1 h2 ha
    cases hb2 : s.testBit a
    · exact h.1 s a h2 ha hb2
    · have hclt := bt_clr_lt h2 (by omega) ha hb2
      by_cases c : q3_clr s a = 0
      · have e : s = 2 ^ a := by
          have := bt_or_clr h2 (by omega) ha hb2
          rw [c, Nat.zero_or] at this
          exact this.symm
        rw [e, h.2.1 a ha]; exact hb a ha
      · rcases ((h.2.2 s a h2 ha hb2 c).1 (by omega)).2.2 with z | ⟨i, i1, i2, -⟩
        · exact z
        · have e := ih (q3_clr s a) i (by omega) (by omega) i1
          have i2' : ea (11 * q3_clr s a + i) < 4000000000000000000 := i2
          rw [e] at i2'
          exact absurd i2' Int64.lt_irrefl
theorem q3_l1s {icv : Nat → Nat} : ∀ (n : Nat) (ck : Int64) (la k : Nat) (rov : Nat → Nat), (f3_findExact_l1 tkv opv shm wyv bdv icv n ck la k rov).1 = (f3_spread_l1 tkv opv shm wyv bdv icv n ck la k).1 ∧ (f3_findExact_l1 tkv opv shm wyv bdv icv n ck la k rov).2.1 = (f3_spread_l1 tkv opv shm wyv bdv icv n ck la k).2.1 := by
  intro n
  induction n with
  | zero => intro ck la k rov; exact ⟨rfl, rfl⟩
  | succ n ih =>
    intro ck la k rov
    unfold f3_findExact_l1 f3_spread_l1
    exact ih _ _ _ _
/-- the exact search: the class's and the reference's -/
theorem ce_fill_core (hd : xdat tkv opv shv shm wyv) (hct : ct ≤ 11) (hfe : ∀ k, k < ct → 1 ≤ fev k) {fm : Nat → Nat} (hff : ∀ k, k < ct → fm k = fev k) {icv rov rm : Nat → Nat} {z sn : Nat} (hsz : z + ct = sn) (he : ∀ i, i < z → rov i = icv i ∧ 1 ≤ icv i) (hb0 : bdv 0 = false) {eav dnv : Nat → Int64} {dl : Nat} (hsta : f0_followFrozen_sta tkv opv shv wyv bdv rov z = sta) (hstc : f0_followFrozen_stc tkv opv shv wyv bdv rov z = stc) :
    (if stc = 1000000000000000 then false else (if f0_earliest tkv opv shv wyv bdv ct sta stc fev (f0_reckonSets_dnv tkv opv shv wyv bdv ct sta stc fev dl dnv) (2 ^ ct - 1) 0 = 1000000000000000 then false else true)) = f3_findExact sn tkv opv shm wyv bdv z icv ct fm eav rm ∧
    (f3_findExact sn tkv opv shm wyv bdv z icv ct fm eav rm = true → ∀ j, j < sn → f0_readBack_rov tkv opv shv wyv bdv ct fev (f0_reckonSets_dnv tkv opv shv wyv bdv ct sta stc fev dl dnv) rov z (f0_earliest tkv opv shv wyv bdv ct sta stc fev (f0_reckonSets_dnv tkv opv shv wyv bdv ct sta stc fev dl dnv) (2 ^ ct - 1) 0) j = f3_findExact_rov sn tkv opv shm wyv bdv z icv ct fm eav rm j) := by
  obtain ⟨x1, x2⟩ := xr_ff (bdv := bdv) hd he z 0 0 0 0 (by omega) (Or.inr ⟨rfl, 0, by decide, by decide⟩)
  have x1' : xrel 1100000 stc (f3_spread_l1 tkv opv shm wyv bdv icv z 0 0 0).1 := by rw [← hstc]; exact x1
  have x2' : sta = (f3_spread_l1 tkv opv shm wyv bdv icv z 0 0 0).2.1 := by rw [← hsta]; exact x2
  obtain ⟨y1, y2⟩ := xr_ne x1' (by decide)
  obtain ⟨l1, l2⟩ := q3_l1s (tkv := tkv) (opv := opv) (shm := shm) (wyv := wyv) (bdv := bdv) (icv := icv) z 0 0 0 rm
  have hl1 : ∀ k, k < z → (f3_findExact_l1 tkv opv shm wyv bdv icv z 0 0 0 rm).2.2.2 k = icv k := fun k hk => by rw [q3_fl1, if_pos (by omega)]
  have hT0 := q3_spread (tkv := tkv) (opv := opv) (shv := shm) (wyv := wyv) (bdv := bdv) (fev := fm) (icv := icv) (fz := z) hct eav
  have hC := q0_tab (tkv := tkv) (opv := opv) (shv := shv) (wyv := wyv) (bdv := bdv) (fev := fev) (sta := sta) (stc := stc) hct (dl := dl) (dnv := dnv)
  unfold f3_findExact f3_findExact_rov f0_readBack_rov
  generalize f0_reckonSets_dnv tkv opv shv wyv bdv ct sta stc fev dl dnv = dn at hC ⊢
  generalize f3_spread_eav tkv opv shm wyv bdv z icv ct fm eav = ea at hT0 ⊢
  rw [l1, l2, ← x2']
  have hbase : (fun a => f3_wellDone tkv opv shm wyv bdv (f3_spread_l1 tkv opv shm wyv bdv icv z 0 0 0).2.1 (fm a) (f3_spread_l1 tkv opv shm wyv bdv icv z 0 0 0).1) = fun a => f3_wellDone tkv opv shm wyv bdv sta (fm a) (f3_spread_l1 tkv opv shm wyv bdv icv z 0 0 0).1 := by rw [← x2']
  rw [hbase] at hT0
  generalize hck : (f3_spread_l1 tkv opv shm wyv bdv icv z 0 0 0).1 = ck at x1' y1 y2 hT0 ⊢
  by_cases c0 : ct = 0
  · subst c0
    have e0 : z = sn := by omega
    rw [if_pos rfl, if_pos rfl]
    have hearl : f0_earliest tkv opv shv wyv bdv 0 sta stc fev dn (2 ^ 0 - 1) 0 = f1_goodLeg tkv opv shv wyv bdv sta stc 0 := by unfold f0_earliest; rw [if_pos (by decide)]
    rw [hearl]
    obtain ⟨w1, w2⟩ := xr_ne (xr_home (bdv := bdv) hd (a := sta) x1') (by decide)
    refine ⟨?_, fun _ j hj => ?_⟩
    · by_cases c1 : stc = 1000000000000000
      · rw [if_pos c1, y1.mp c1, if_pos (Int64.le_refl _)]
      · obtain ⟨_, _, _, y6⟩ := y2 c1
        rw [if_neg c1, if_neg (Int64.not_le.mpr y6)]
        have nNM : ck ≠ 4000000000000000000 := fun q => by rw [q] at y6; exact Int64.lt_irrefl y6
        by_cases c2 : bdv (21 * sta) = true
        · have e1 : f3_wellHome wyv bdv sta ck = 4000000000000000000 := by unfold f3_wellHome; rw [if_neg nNM, if_pos c2]
          rw [if_pos (w1.mpr e1)]
          by_cases c3 : sn = 0
          · exfalso
            have : sta = 0 := by
              rw [x2']
              have hz : z = 0 := by omega
              subst hz; rfl
            rw [this] at c2
            rw [Nat.mul_zero, hb0] at c2
            cases c2
          · rw [if_neg c3, if_pos c2]
        · have e1 : f3_wellHome wyv bdv sta ck ≠ 4000000000000000000 := by
            intro q
            have hq := w1.mpr q
            obtain ⟨d1, d2, d3, d4, d5, d6, d7, d8⟩ := hd
            unfold f3_wellHome at q
            rw [if_neg nNM, if_neg c2] at q
            have hbn := bnd_add (y2 c1).2.1 (d5 (21 * sta))
            rw [(y2 c1).1] at hbn
            exact bnd_ne hbn (by decide) (by decide) (q.trans i64_NM)
          rw [if_neg (fun q => e1 (w1.mp q))]
          by_cases c3 : sn = 0
          · rw [if_pos c3]
          · rw [if_neg c3, if_neg c2]
    · have e1 : z + 0 - z = 0 := by omega
      rw [e1]
      show rov j = _
      rw [hl1 j (by omega)]
      exact (he j (by omega)).1
  · rw [if_neg c0, if_neg c0]
    have hp : 2 ≤ 2 ^ ct := by
      have := Nat.pow_le_pow_right (n := 2) (by decide) (show 1 ≤ ct by omega)
      simpa using this
    have hfull : ∀ j, j < ct → (2 ^ ct - 1).testBit j = true := fun j hj => by rw [Nat.testBit_two_pow_sub_one]; simp [hj]
    have hl2 := q3_l2c (wyv := wyv) (bdv := bdv) (fev := fm) (eav := ea) (se := 2 ^ ct - 1) (fr := ct) (by omega) ct (-1) 4000000000000000000 ct rfl (Nat.le_refl _) (Or.inl ⟨by decide, rfl, fun j h8 h9 => by omega⟩)
    by_cases c1 : stc = 1000000000000000
    · rw [if_pos c1]
      have hno := q3_T_no hct hT0 (fun a ha => by rw [y1.mp c1]; unfold f3_wellDone; rw [if_pos rfl]) (2 ^ ct) (2 ^ ct - 1)
      rcases hl2 with ⟨v1, v2⟩ | ⟨p, v1, v2, v3, v4, v5⟩
      · have n1 : ¬ (0 : Int32) ≤ (f3_findExact_l2 wyv bdv fm ea (2 ^ ct - 1) ct (-1) 4000000000000000000 ct).1 := Int32.not_le.mpr v1
        rw [if_neg n1]
        exact ⟨rfl, fun q => by cases q⟩
      · rw [hno p (by omega) (by omega) v2] at v3
        unfold f3_wellHome at v3
        rw [if_pos rfl] at v3
        exact absurd v3 Int64.lt_irrefl
    · rw [if_neg c1]
      have hR := xr_tab hd hct hfe x1' hC (q3_T_c hff (by
        refine ⟨hT0.1, fun a ha => ?_, hT0.2.2⟩
        have := hT0.2.1 a ha
        rw [this]
        show f3_wellDone tkv opv shm wyv bdv sta (fm a) ck = f3_wellDone tkv opv shm wyv bdv sta (fev a) ck
        rw [hff a ha]))
      have hR' : ∀ s a, 1 ≤ s → s < 2 ^ ct → a < ct → s.testBit a = true → xrel 1100000 (dn (s * ct + a)) (ea (11 * s + a)) := fun s a k1 k2 k3 k4 => hR (s + 1) s a (by omega) k1 k2 k3 k4
      obtain ⟨u1, u2, u3⟩ := q0_lp (tkv := tkv) (opv := opv) (shv := shv) (wyv := wyv) (bdv := bdv) (ct := ct) (t := 2 ^ ct - 1) (b := 0) (fev := fev) (dnv := dn) ct 1000000000000000 0
      have hgw : ∀ j, j < ct → (2 ^ ct - 1).testBit j = true → xrel 1200000 (f1_goodLeg tkv opv shv wyv bdv (fev j) (dn ((2 ^ ct - 1) * ct + j)) 0) (f3_wellHome wyv bdv (fm j) (ea (11 * (2 ^ ct - 1) + j))) := fun j hj hb => by
        rw [hff j hj]; exact xr_home hd (hR' _ j (by omega) (by omega) hj hb)
      have hearl : f0_earliest tkv opv shv wyv bdv ct sta stc fev dn (2 ^ ct - 1) 0 = (f0_earliest_lp tkv opv shv wyv bdv ct fev dn (2 ^ ct - 1) 0 ct 1000000000000000 0).1 := by unfold f0_earliest; rw [if_neg (by omega)]
      rw [hearl]
      generalize (f0_earliest_lp tkv opv shv wyv bdv ct fev dn (2 ^ ct - 1) 0 ct 1000000000000000 0).1 = home at u1 u2 u3 ⊢
      have u3' : home = 1000000000000000 ∨ ∃ j, j < ct ∧ (2 ^ ct - 1).testBit j = true ∧ home = f1_goodLeg tkv opv shv wyv bdv (fev j) (dn ((2 ^ ct - 1) * ct + j)) 0 := by
        rcases u3 with u3 | ⟨j, _, j2, j3, j4⟩
        · exact Or.inl u3
        · exact Or.inr ⟨j, by omega, j3, j4⟩
      rcases hl2 with ⟨v1, v2⟩ | ⟨p, v1, v2, v3, v4, v5⟩
      · have n1 : ¬ (0 : Int32) ≤ (f3_findExact_l2 wyv bdv fm ea (2 ^ ct - 1) ct (-1) 4000000000000000000 ct).1 := Int32.not_le.mpr v1
        have hx := xr_min (P := fun j => (2 ^ ct - 1).testBit j = true) (v := 4000000000000000000) (by decide) hgw u1 (fun j hj hb => u2 j (Nat.zero_le _) (by omega) hb) u3' (fun j hj hb hw => absurd hw (Int64.not_lt.mpr (v2 j hj))) (Or.inl rfl)
        rw [if_neg n1, if_pos ((xr_ne hx (by decide)).1.mpr rfl)]
        exact ⟨rfl, fun q => by cases q⟩
      · have hx := xr_min (P := fun j => (2 ^ ct - 1).testBit j = true) (v := f3_wellHome wyv bdv (fm p) (ea (11 * (2 ^ ct - 1) + p))) (by decide) hgw u1 (fun j hj hb => u2 j (Nat.zero_le _) (by omega) hb) u3' (fun j hj hb hw => v4 j hj hw) (Or.inr ⟨p, v2, hfull p v2, rfl⟩)
        have n1 : (0 : Int32) ≤ (f3_findExact_l2 wyv bdv fm ea (2 ^ ct - 1) ct (-1) 4000000000000000000 ct).1 := by rw [v1]; exact Int32.not_lt.mp (nI_pos (by omega))
        have n2 : home ≠ 1000000000000000 := fun q => by
          have := (xr_ne hx (by decide)).1.mp q
          rw [this] at v3; exact Int64.lt_irrefl v3
        rw [if_pos n1, if_neg n2]
        refine ⟨rfl, fun _ j hj => ?_⟩
        rw [if_pos n1]
        have e1 : z + ct - z = ct := by omega
        have e2 : sn - z = ct := by omega
        rw [e1, e2, hsz]
        have hfit : ∀ i, i < ct → (f0_fits tkv opv shv wyv bdv ct fev dn (2 ^ ct - 1) i 0 home = true ↔ f3_wellHome wyv bdv (fm i) (ea (11 * (2 ^ ct - 1) + i)) = f3_wellHome wyv bdv (fm p) (ea (11 * (2 ^ ct - 1) + p))) := by
          intro i hi
          rw [q0_fits]
          have := xr_eq (hgw i hi (hfull i hi)) hx (by decide)
          exact ⟨fun q => this.mp q.2, fun q => ⟨hfull i hi, this.mpr q⟩⟩
        refine ce_rb hd hct hfe hff hT0 hR' (z := z) (sn := sn) ct (2 ^ ct - 1) 0 p home _ sn rov _ (by omega) (fun _ => ⟨v1, ?_, q3_V0 v2 v3⟩) (fun j h8 h9 => ?_) j hj
        · unfold f0_leastLast
          exact q0_ll_s (ct - 1) 0 (by omega) (by omega) p (Nat.zero_le _) v2 ((hfit p v2).mpr rfl) (fun i _ h8 h9 => v5 i h8 ((hfit i (by omega)).mp h9))
        · rcases h8 with h8 | h8
          · rw [hl1 j h8]; exact (he j h8).1
          · omega
theorem ce_s1_c {z : Nat} {rov icv : Nat → Nat} (h : ∀ i, i < z → rov i = icv i) : ∀ (n k c : Nat) (f g : Nat → Nat), (∀ j, j < c → f j = g j) → (f3_solve_s1 z rov n k c f).2.1 = (f3_solve_s1 z icv n k c g).2.1 ∧ ∀ j, j < (f3_solve_s1 z rov n k c f).2.1 → (f3_solve_s1 z rov n k c f).2.2 j = (f3_solve_s1 z icv n k c g).2.2 j := by
  intro n
  induction n with
  | zero => intro k c f g h1; exact ⟨rfl, h1⟩
  | succ n ih =>
    intro k c f g h1
    unfold f3_solve_s1
    have e : f3_isFrozen z rov k = f3_isFrozen z icv k := by rw [← q0_holds]; exact q2_holds_c h
    rw [e]
    by_cases c1 : f3_isFrozen z icv k = true
    · simp only [if_pos c1]; exact ih _ _ _ _ h1
    · simp only [if_neg c1]
      refine ih _ _ _ _ (fun j hj => ?_)
      by_cases e2 : j = c
      · subst e2; rw [va_up_self, va_up_self]
      · rw [va_up_ne _ _ e2, va_up_ne _ _ e2]; exact h1 j (by omega)
/-- the exact search as the two methods do it -/
theorem ce_fill (hd : xdat tkv opv shv shm wyv) {z sn : Nat} {rov icv rm f g : Nat → Nat} (hri : q_row z sn icv) (he : ∀ i, i < z → rov i = icv i) (hb0 : bdv 0 = false) {eav dnv : Nat → Int64} {dl : Nat} (h11 : (f3_solve_s1 z icv sn 1 0 g).2.1 ≤ 11) :
    f0_fill sn tkv opv shv wyv bdv f dl dnv rov z = f3_findExact sn tkv opv shm wyv bdv z icv (f3_solve_s1 z icv sn 1 0 g).2.1 (f3_solve_s1 z icv sn 1 0 g).2.2 eav rm ∧
    (f0_fill sn tkv opv shv wyv bdv f dl dnv rov z = true → ∀ j, j < sn → f0_fill_rov sn tkv opv shv wyv bdv f dl dnv rov z j = f3_findExact_rov sn tkv opv shm wyv bdv z icv (f3_solve_s1 z icv sn 1 0 g).2.1 (f3_solve_s1 z icv sn 1 0 g).2.2 eav rm j) := by
  have hri2 : q_row z sn rov := qr_ext he hri
  obtain ⟨a1, a2, a3⟩ := q3_free (fev := f) hri2
  obtain ⟨b1, b2⟩ := ce_s1_c he sn 1 0 f g (fun j hj => by omega)
  have hs : sn - z ≤ 11 := by omega
  obtain ⟨c1, c2⟩ := q0_free (fev := f) hri2 hs
  have key := ce_fill_core (bdv := bdv) hd (ct := (f3_solve_s1 z rov sn 1 0 f).2.1) (by omega) (fev := (f3_solve_s1 z rov sn 1 0 f).2.2) (fun k hk => (a2 k hk).1) (fm := (f3_solve_s1 z icv sn 1 0 g).2.2) (fun k hk => (b2 k hk).symm) (icv := icv) (rov := rov) (rm := rm) (z := z) (sn := sn) (by omega) (fun i hi => ⟨he i hi, (hri.1 i hi).1⟩) hb0 (eav := eav) (dnv := dnv) (dl := dl) rfl rfl
  rw [b1] at key
  unfold f0_fill f0_fill_rov
  rw [if_pos hs, if_pos hs, c1, c2, b1]
  refine ⟨key.1, fun h j hj => ?_⟩
  rw [key.1] at h
  have h2 := key.1.trans h
  have d1 : ¬ f0_followFrozen_stc tkv opv shv wyv bdv rov z = 1000000000000000 := fun q => by rw [if_pos q] at h2; cases h2
  rw [if_neg d1] at h2 ⊢
  rw [if_neg (fun q => by rw [if_pos q] at h2; cases h2)]
  exact key.2 h j hj
end CEZ


def wN (nt : Nat) (ad : Nat → Nat) (cI : ClassId) (cJ : ClassId) (cZ : ClassId) (sn : Nat) (bw : Int32) (tkv : Nat → Int64) (opv : Nat → Int64) (shv : Nat → Int64) (ldv : Nat → Int32) (wyv : Nat → Int64) (bdv : Nat → Bool) : va_W := [(nt, .inr (2, [.int (nI sn), .int bw, .ref ((ad 2)), .ref ((ad 3)), .ref ((ad 4)), .ref ((ad 5)), .ref ((ad 6)), .ref ((ad 7))])), (ad 2, .inl (cJ, 21, .inr (.inl tkv))), (ad 3, .inl (cJ, 21, .inr (.inl opv))), (ad 4, .inl (cJ, 21, .inr (.inl shv))), (ad 5, .inl (cI, 21, .inl ldv)), (ad 6, .inl (cJ, 441, .inr (.inl wyv))), (ad 7, .inl (cZ, 441, .inl (bF bdv)))]
def f1_init_lp  : Nat → Nat → (Nat → Int64) → Nat × (Nat → Int64)
  | 0, k, wyv => (k, wyv)
  | n + 1, k, wyv => f1_init_lp  n (k + 1) (va_up wyv k 1000)
set_option maxRecDepth 100000 in
set_option maxHeartbeats 4000000 in
theorem lX1_init_lp {p : Program} {l : Launch} {e : Env} {R : Room} {s : State} {m : MethodId} {args : Array Value} {below : List Frame} {meth : Method} {c : Code} {cells slots : Nat} {Q : State → Prop} {A : Nat → Prop} {D : va_G} (nt : Nat) (ad : Nat → Nat) (cI : ClassId) (cJ : ClassId) (cZ : ClassId) (sn : Nat) (bw : Int32) (tkv : Nat → Int64) (opv : Nat → Int64) (shv : Nat → Int64) (ldv : Nat → Int32) (bdv : Nat → Bool)  (C : gz_C p s m args c cX1_init 2 RX1 D [(cI, .int), (cJ, .long), (cZ, .boolean)] A) : ∀ (n : Nat) (k : Nat) (wyv : Nat → Int64), (k + n = 441) → ((((f1_init_lp  n k wyv).1) + 0 = 441) → GZ p l e R s m args below meth c 2 D A cells slots Q (wN nt ad cI cJ cZ sn bw tkv opv shv ldv ((f1_init_lp  n k wyv).2) bdv) [(0, .ref nt), (1, .int (nI ((f1_init_lp  n k wyv).1)))] [] 90) → GZ p l e R s m args below meth c 2 D A cells slots Q (wN nt ad cI cJ cZ sn bw tkv opv shv ldv wyv bdv) [(0, .ref nt), (1, .int (nI k))] [] 66 := by
  intro n
  induction n with
  | zero =>
    intro k wyv hme  hx
    refine gz_iload_n C 1 dX1_init_66 rfl ?_
    refine gz_aload_n C 0 dX1_init_67 rfl ?_
    refine gz_get (ci := 2) C iwX1 0 rfl rfl 6 (by decide) wk_35 rfl rfl dX1_init_68 ?_
    refine gz_alen C 5 1 rfl rfl dX1_init_71 ?_
    refine gz_ncmp_ge C 90 (by omega) (by omega) dX1_init_72 (by decide) (fun h_1 => ?_) (fun h_1 => ?_)
    · skip
      exact gz_lv [0, 1] rfl (hx hme )
    · have g_1 : ¬ (441 ≤ k) := (Nat.not_le.mpr h_1)
      exfalso; omega
  | succ n ih =>
    intro k wyv hme  hx
    refine gz_iload_n C 1 dX1_init_66 rfl ?_
    refine gz_aload_n C 0 dX1_init_67 rfl ?_
    refine gz_get (ci := 2) C iwX1 0 rfl rfl 6 (by decide) wk_35 rfl rfl dX1_init_68 ?_
    refine gz_alen C 5 1 rfl rfl dX1_init_71 ?_
    refine gz_ncmp_ge C 90 (by omega) (by omega) dX1_init_72 (by decide) (fun h_1 => ?_) (fun h_1 => ?_)
    · skip
      exfalso; omega
    · have g_1 : ¬ (441 ≤ k) := (Nat.not_le.mpr h_1)
      refine gz_aload_n C 0 dX1_init_75 rfl ?_
      refine gz_get (ci := 2) C iwX1 0 rfl rfl 6 (by decide) wk_35 rfl rfl dX1_init_76 ?_
      refine gz_iload_n C 1 dX1_init_79 rfl ?_
      refine gz_ldc2 (v := 1000) C wk_25 dX1_init_80 ?_
      refine gz_last (ws2 := (wN nt ad cI cJ cZ sn bw tkv opv shv ldv (va_up wyv k 1000) bdv)) C 5 1 rfl rfl (by omega) (by decide) rfl dX1_init_83 ?_
      refine gz_iinc (v := nI (k + 1)) (lv2 := [(1, .int (nI (k + 1))), (0, .ref nt)]) (k := 1) C dX1_init_84 rfl (nI_add _ 1) (by decide) rfl ?_
      refine gz_goto C 66 dX1_init_87 (by decide) ?_
      refine gz_lv [1, 0] rfl ?_
      simp only [f1_init_lp, if_neg g_1] at hx
      exact ih (k + 1) (va_up wyv k 1000) (by omega)  hx

set_option maxRecDepth 100000 in
set_option maxHeartbeats 4000000 in
theorem kX1_init (l : Launch) (D : va_G) (nt : Nat) (cI : ClassId) (cJ : ClassId) (cZ : ClassId) : gz_MX l yX1_init cX1_init 2 none ({ frames := 1, cells := 6, slots := 966, locals := 20 } : Room) D [(cI, .int), (cJ, .long), (cZ, .boolean)] [.ref nt] [(nt, .inr (2, [.int 0, .int 0, .null, .null, .null, .null, .null, .null]))] none (fun ad : Nat → Nat => (wN nt ad cI cJ cZ 0 0 ((fun _ => 0)) ((fun _ => 0)) (va_up ((fun _ => 0)) 0 1000000000000000) ((fun _ => 0)) ((f1_init_lp  441 0 ((fun _ => 0))).2) ((fun _ => false)))) 6 966 := by
  refine gz_metX l (by decide) (Nat.le_of_ble_eq_true rfl) [(0, .ref nt)] rfl ?_
  intro sz p e s m args below meth c C hr hk hnm
  have C : gz_C p s m args c cX1_init 2 RX1 D [(cI, .int), (cJ, .long), (cZ, .boolean)] (va_A [(nt, .inr (2, [.int 0, .int 0, .null, .null, .null, .null, .null, .null]))] sz) := C
  refine gz_aload_n C 0 dX1_init_0 rfl ?_
  refine gz_objInit C wk_24 wk_17 wk_18 dX1_init_1 (by decide) (by decide) ?_
  refine gz_aload_n C 0 dX1_init_4 rfl ?_
  refine gz_iconst (v := nI 0) C dX1_init_5 (by decide) ?_
  refine gz_put (ci := 2) (ws2 := [(nt, .inr (2, [.int (nI 0), .int 0, .null, .null, .null, .null, .null, .null]))]) C iwX1 0 rfl rfl 0 (by decide) wk_27 rfl tyX1 tyX1_ok nmX1 rfl rfl rfl rfl (Nat.le_of_ble_eq_true rfl) rfl dX1_init_6 ?_
  refine gz_aload_n C 0 dX1_init_9 rfl ?_
  refine gz_iconst (v := nI 0) C dX1_init_10 (by decide) ?_
  refine gz_put (ci := 2) (ws2 := [(nt, .inr (2, [.int (nI 0), .int (nI 0), .null, .null, .null, .null, .null, .null]))]) C iwX1 0 rfl rfl 1 (by decide) wk_30 rfl tyX1 tyX1_ok nmX1 rfl rfl rfl rfl (Nat.le_of_ble_eq_true rfl) rfl dX1_init_11 ?_
  refine gz_aload_n C 0 dX1_init_14 rfl ?_
  refine gz_bipush (v := nI 21) C dX1_init_15 (by decide) ?_
  refine gz_newa (atype := .long) (N := 21) (a0 := (21, .inr (.inl (fun _ => 0)))) C wk_54 1 rfl (fun _ => rfl) (by decide) (by decide) (by decide) (by decide) dX1_init_17 (fun q1 => ?_)
  refine gz_wse (ws2 := [(nt, .inr (2, [.int (nI 0), .int (nI 0), .null, .null, .null, .null, .null, .null])), (q1, .inl (cJ, 21, .inr (.inl (fun _ => 0))))]) rfl ?_
  refine gz_putF (ci := 2) (ws2 := [(nt, .inr (2, [.int (nI 0), .int (nI 0), .ref q1, .null, .null, .null, .null, .null])), (q1, .inl (cJ, 21, .inr (.inl (fun _ => 0))))]) C iwX1 0 rfl rfl 2 (by decide) wk_31 rfl tyX1 tyX1_ok nmX1 rfl hnm rfl rfl rfl rfl (Nat.le_of_ble_eq_true rfl) rfl dX1_init_19 ?_
  refine gz_aload_n C 0 dX1_init_22 rfl ?_
  refine gz_bipush (v := nI 21) C dX1_init_23 (by decide) ?_
  refine gz_newa (atype := .long) (N := 21) (a0 := (21, .inr (.inl (fun _ => 0)))) C wk_54 1 rfl (fun _ => rfl) (by decide) (by decide) (by decide) (by decide) dX1_init_25 (fun q2 => ?_)
  refine gz_wse (ws2 := [(nt, .inr (2, [.int (nI 0), .int (nI 0), .ref q1, .null, .null, .null, .null, .null])), (q1, .inl (cJ, 21, .inr (.inl (fun _ => 0)))), (q2, .inl (cJ, 21, .inr (.inl (fun _ => 0))))]) rfl ?_
  refine gz_putF (ci := 2) (ws2 := [(nt, .inr (2, [.int (nI 0), .int (nI 0), .ref q1, .ref q2, .null, .null, .null, .null])), (q1, .inl (cJ, 21, .inr (.inl (fun _ => 0)))), (q2, .inl (cJ, 21, .inr (.inl (fun _ => 0))))]) C iwX1 0 rfl rfl 3 (by decide) wk_32 rfl tyX1 tyX1_ok nmX1 rfl hnm rfl rfl rfl rfl (Nat.le_of_ble_eq_true rfl) rfl dX1_init_27 ?_
  refine gz_aload_n C 0 dX1_init_30 rfl ?_
  refine gz_bipush (v := nI 21) C dX1_init_31 (by decide) ?_
  refine gz_newa (atype := .long) (N := 21) (a0 := (21, .inr (.inl (fun _ => 0)))) C wk_54 1 rfl (fun _ => rfl) (by decide) (by decide) (by decide) (by decide) dX1_init_33 (fun q3 => ?_)
  refine gz_wse (ws2 := [(nt, .inr (2, [.int (nI 0), .int (nI 0), .ref q1, .ref q2, .null, .null, .null, .null])), (q1, .inl (cJ, 21, .inr (.inl (fun _ => 0)))), (q2, .inl (cJ, 21, .inr (.inl (fun _ => 0)))), (q3, .inl (cJ, 21, .inr (.inl (fun _ => 0))))]) rfl ?_
  refine gz_putF (ci := 2) (ws2 := [(nt, .inr (2, [.int (nI 0), .int (nI 0), .ref q1, .ref q2, .ref q3, .null, .null, .null])), (q1, .inl (cJ, 21, .inr (.inl (fun _ => 0)))), (q2, .inl (cJ, 21, .inr (.inl (fun _ => 0)))), (q3, .inl (cJ, 21, .inr (.inl (fun _ => 0))))]) C iwX1 0 rfl rfl 4 (by decide) wk_33 rfl tyX1 tyX1_ok nmX1 rfl hnm rfl rfl rfl rfl (Nat.le_of_ble_eq_true rfl) rfl dX1_init_35 ?_
  refine gz_aload_n C 0 dX1_init_38 rfl ?_
  refine gz_bipush (v := nI 21) C dX1_init_39 (by decide) ?_
  refine gz_newa (atype := .int) (N := 21) (a0 := (21, .inl (fun _ => 0))) C wk_55 0 rfl (fun _ => rfl) (by decide) (by decide) (by decide) (by decide) dX1_init_41 (fun q4 => ?_)
  refine gz_wse (ws2 := [(nt, .inr (2, [.int (nI 0), .int (nI 0), .ref q1, .ref q2, .ref q3, .null, .null, .null])), (q1, .inl (cJ, 21, .inr (.inl (fun _ => 0)))), (q2, .inl (cJ, 21, .inr (.inl (fun _ => 0)))), (q3, .inl (cJ, 21, .inr (.inl (fun _ => 0)))), (q4, .inl (cI, 21, .inl (fun _ => 0)))]) rfl ?_
  refine gz_putF (ci := 2) (ws2 := [(nt, .inr (2, [.int (nI 0), .int (nI 0), .ref q1, .ref q2, .ref q3, .ref q4, .null, .null])), (q1, .inl (cJ, 21, .inr (.inl (fun _ => 0)))), (q2, .inl (cJ, 21, .inr (.inl (fun _ => 0)))), (q3, .inl (cJ, 21, .inr (.inl (fun _ => 0)))), (q4, .inl (cI, 21, .inl (fun _ => 0)))]) C iwX1 0 rfl rfl 5 (by decide) wk_34 rfl tyX1 tyX1_ok nmX1 rfl hnm rfl rfl rfl rfl (Nat.le_of_ble_eq_true rfl) rfl dX1_init_43 ?_
  refine gz_aload_n C 0 dX1_init_46 rfl ?_
  refine gz_sipush (v := nI 441) C dX1_init_47 (by decide) ?_
  refine gz_newa (atype := .long) (N := 441) (a0 := (441, .inr (.inl (fun _ => 0)))) C wk_54 1 rfl (fun _ => rfl) (by decide) (by decide) (by decide) (by decide) dX1_init_50 (fun q5 => ?_)
  refine gz_wse (ws2 := [(nt, .inr (2, [.int (nI 0), .int (nI 0), .ref q1, .ref q2, .ref q3, .ref q4, .null, .null])), (q1, .inl (cJ, 21, .inr (.inl (fun _ => 0)))), (q2, .inl (cJ, 21, .inr (.inl (fun _ => 0)))), (q3, .inl (cJ, 21, .inr (.inl (fun _ => 0)))), (q4, .inl (cI, 21, .inl (fun _ => 0))), (q5, .inl (cJ, 441, .inr (.inl (fun _ => 0))))]) rfl ?_
  refine gz_putF (ci := 2) (ws2 := [(nt, .inr (2, [.int (nI 0), .int (nI 0), .ref q1, .ref q2, .ref q3, .ref q4, .ref q5, .null])), (q1, .inl (cJ, 21, .inr (.inl (fun _ => 0)))), (q2, .inl (cJ, 21, .inr (.inl (fun _ => 0)))), (q3, .inl (cJ, 21, .inr (.inl (fun _ => 0)))), (q4, .inl (cI, 21, .inl (fun _ => 0))), (q5, .inl (cJ, 441, .inr (.inl (fun _ => 0))))]) C iwX1 0 rfl rfl 6 (by decide) wk_35 rfl tyX1 tyX1_ok nmX1 rfl hnm rfl rfl rfl rfl (Nat.le_of_ble_eq_true rfl) rfl dX1_init_52 ?_
  refine gz_aload_n C 0 dX1_init_55 rfl ?_
  refine gz_sipush (v := nI 441) C dX1_init_56 (by decide) ?_
  refine gz_newa (atype := .boolean) (N := 441) (a0 := (441, .inl (bF (fun _ => false)))) C wk_56 2 rfl (fun _ => rfl) (by decide) (by decide) (by decide) (by decide) dX1_init_59 (fun q6 => ?_)
  refine gz_wse (ws2 := [(nt, .inr (2, [.int (nI 0), .int (nI 0), .ref q1, .ref q2, .ref q3, .ref q4, .ref q5, .null])), (q1, .inl (cJ, 21, .inr (.inl (fun _ => 0)))), (q2, .inl (cJ, 21, .inr (.inl (fun _ => 0)))), (q3, .inl (cJ, 21, .inr (.inl (fun _ => 0)))), (q4, .inl (cI, 21, .inl (fun _ => 0))), (q5, .inl (cJ, 441, .inr (.inl (fun _ => 0)))), (q6, .inl (cZ, 441, .inl (bF (fun _ => false))))]) rfl ?_
  refine gz_putF (ci := 2) (ws2 := [(nt, .inr (2, [.int (nI 0), .int (nI 0), .ref q1, .ref q2, .ref q3, .ref q4, .ref q5, .ref q6])), (q1, .inl (cJ, 21, .inr (.inl (fun _ => 0)))), (q2, .inl (cJ, 21, .inr (.inl (fun _ => 0)))), (q3, .inl (cJ, 21, .inr (.inl (fun _ => 0)))), (q4, .inl (cI, 21, .inl (fun _ => 0))), (q5, .inl (cJ, 441, .inr (.inl (fun _ => 0)))), (q6, .inl (cZ, 441, .inl (bF (fun _ => false))))]) C iwX1 0 rfl rfl 7 (by decide) wk_36 rfl tyX1 tyX1_ok nmX1 rfl hnm rfl rfl rfl rfl (Nat.le_of_ble_eq_true rfl) rfl dX1_init_61 ?_
  refine gz_wse (ws2 := (wN nt (ctl [0, 0, q1, q2, q3, q4, q5, q6]) cI cJ cZ 0 0 ((fun _ => 0)) ((fun _ => 0)) ((fun _ => 0)) ((fun _ => 0)) ((fun _ => 0)) ((fun _ => false)))) rfl ?_
  generalize ctl [0, 0, q1, q2, q3, q4, q5, q6] = ad
  refine gz_iconst (v := nI 0) C dX1_init_64 (by decide) ?_
  refine gz_istore_n (lv2 := [(1, .int (nI 0)), (0, .ref nt)]) C dX1_init_65 (by decide) rfl ?_
  refine gz_lv (lv2 := [(0, .ref nt), (1, .int (nI 0))]) [1, 0] rfl ?_
  refine lX1_init_lp nt ad cI cJ cZ 0 0 ((fun _ => 0)) ((fun _ => 0)) ((fun _ => 0)) ((fun _ => 0)) ((fun _ => false))  C 441 0 ((fun _ => 0)) (by omega)  ?_
  intro zme_lp
  refine gz_aload_n C 0 dX1_init_90 rfl ?_
  refine gz_get (ci := 2) C iwX1 0 rfl rfl 4 (by decide) wk_33 rfl rfl dX1_init_91 ?_
  refine gz_iconst (v := nI 0) C dX1_init_94 (by decide) ?_
  refine gz_ldc2 (v := 1000000000000000) C wk_26 dX1_init_95 ?_
  refine gz_last (ws2 := (wN nt ad cI cJ cZ 0 0 ((fun _ => 0)) ((fun _ => 0)) (va_up ((fun _ => 0)) 0 1000000000000000) ((fun _ => 0)) ((f1_init_lp  441 0 ((fun _ => 0))).2) ((fun _ => false)))) C 3 1 rfl rfl (by omega) (by decide) rfl dX1_init_98 ?_
  exact gz_vretX C hr hk rfl ad rfl (by decide) (by decide) dX1_init_99

set_option maxRecDepth 100000 in
set_option maxHeartbeats 4000000 in
theorem kX0_init (l : Launch) (D : va_G) (es : Nat) (cI : ClassId) (cJ : ClassId) (cZ : ClassId) : gz_MX l yX0_init cX0_init 1 none ({ frames := 1, cells := 2, slots := 11, locals := 20 } : Room) D [(cI, .int), (cJ, .long), (cZ, .boolean)] [.ref es] [(es, .inr (1, [.null, .int 0, .null, .int 0, .long 0]))] none (fun u : Nat × Nat => [(es, .inr (1, [.ref u.1, .int (nI 0), .ref u.2, .int (nI 0), .long 0])), (u.1, .inl (cI, 11, .inl (nF (fun _ => 0)))), (u.2, .inl (cJ, 0, .inr (.inl (fun _ => 0))))]) 2 11 := by
  refine gz_metX l (by decide) (Nat.le_of_ble_eq_true rfl) [(0, .ref es)] rfl ?_
  intro sz p e s m args below meth c C hr hk hnm
  have C : gz_C p s m args c cX0_init 1 RX0 D [(cI, .int), (cJ, .long), (cZ, .boolean)] (va_A [(es, .inr (1, [.null, .int 0, .null, .int 0, .long 0]))] sz) := C
  refine gz_aload_n C 0 dX0_init_0 rfl ?_
  refine gz_objInit C wk_62 wk_17 wk_18 dX0_init_1 (by decide) (by decide) ?_
  refine gz_aload_n C 0 dX0_init_4 rfl ?_
  refine gz_bipush (v := nI 11) C dX0_init_5 (by decide) ?_
  refine gz_newa (atype := .int) (N := 11) (a0 := (11, .inl (nF (fun _ => 0)))) C wk_55 0 rfl (fun _ => rfl) (by decide) (by decide) (by decide) (by decide) dX0_init_7 (fun q1 => ?_)
  refine gz_wse (ws2 := [(es, .inr (1, [.null, .int 0, .null, .int 0, .long 0])), (q1, .inl (cI, 11, .inl (nF (fun _ => 0))))]) rfl ?_
  refine gz_putF (ci := 1) (ws2 := [(es, .inr (1, [.ref q1, .int 0, .null, .int 0, .long 0])), (q1, .inl (cI, 11, .inl (nF (fun _ => 0))))]) C iwX0 0 rfl rfl 0 (by decide) wk_63 rfl tyX0 tyX0_ok nmX0 rfl hnm rfl rfl rfl rfl (Nat.le_of_ble_eq_true rfl) rfl dX0_init_9 ?_
  refine gz_aload_n C 0 dX0_init_12 rfl ?_
  refine gz_iconst (v := nI 0) C dX0_init_13 (by decide) ?_
  refine gz_put (ci := 1) (ws2 := [(es, .inr (1, [.ref q1, .int (nI 0), .null, .int 0, .long 0])), (q1, .inl (cI, 11, .inl (nF (fun _ => 0))))]) C iwX0 0 rfl rfl 1 (by decide) wk_64 rfl tyX0 tyX0_ok nmX0 rfl rfl rfl rfl (Nat.le_of_ble_eq_true rfl) rfl dX0_init_14 ?_
  refine gz_aload_n C 0 dX0_init_17 rfl ?_
  refine gz_iconst (v := nI 0) C dX0_init_18 (by decide) ?_
  refine gz_newa (atype := .long) (N := 0) (a0 := (0, .inr (.inl (fun _ => 0)))) C wk_54 1 rfl (fun _ => rfl) (by decide) (by decide) (by decide) (by decide) dX0_init_19 (fun q2 => ?_)
  refine gz_wse (ws2 := [(es, .inr (1, [.ref q1, .int (nI 0), .null, .int 0, .long 0])), (q1, .inl (cI, 11, .inl (nF (fun _ => 0)))), (q2, .inl (cJ, 0, .inr (.inl (fun _ => 0))))]) rfl ?_
  refine gz_put (ci := 1) (ws2 := [(es, .inr (1, [.ref q1, .int (nI 0), .ref q2, .int 0, .long 0])), (q1, .inl (cI, 11, .inl (nF (fun _ => 0)))), (q2, .inl (cJ, 0, .inr (.inl (fun _ => 0))))]) C iwX0 0 rfl rfl 2 (by decide) wk_65 rfl tyX0 tyX0_ok nmX0 rfl rfl rfl rfl (Nat.le_of_ble_eq_true rfl) rfl dX0_init_21 ?_
  refine gz_aload_n C 0 dX0_init_24 rfl ?_
  refine gz_iconst (v := nI 0) C dX0_init_25 (by decide) ?_
  refine gz_put (ci := 1) (ws2 := [(es, .inr (1, [.ref q1, .int (nI 0), .ref q2, .int (nI 0), .long 0])), (q1, .inl (cI, 11, .inl (nF (fun _ => 0)))), (q2, .inl (cJ, 0, .inr (.inl (fun _ => 0))))]) C iwX0 0 rfl rfl 3 (by decide) wk_66 rfl tyX0 tyX0_ok nmX0 rfl rfl rfl rfl (Nat.le_of_ble_eq_true rfl) rfl dX0_init_26 ?_
  refine gz_aload_n C 0 dX0_init_29 rfl ?_
  refine gz_lconst (v := 0) C dX0_init_30 (by decide) ?_
  refine gz_put (ci := 1) (ws2 := [(es, .inr (1, [.ref q1, .int (nI 0), .ref q2, .int (nI 0), .long 0])), (q1, .inl (cI, 11, .inl (nF (fun _ => 0)))), (q2, .inl (cJ, 0, .inr (.inl (fun _ => 0))))]) C iwX0 0 rfl rfl 4 (by decide) wk_67 rfl tyX0 tyX0_ok nmX0 rfl rfl rfl rfl (Nat.le_of_ble_eq_true rfl) rfl dX0_init_31 ?_
  exact gz_vretX C hr hk rfl (q1, q2) rfl (by decide) (by decide) dX0_init_34

set_option maxRecDepth 100000 in
set_option maxHeartbeats 4000000 in
theorem kX2_init (l : Launch) (D : va_G) (xo : Nat) (cI : ClassId) (cJ : ClassId) (cZ : ClassId) : gz_MX l yX2_init cX2_init 1 none ({ frames := 2, cells := 11, slots := 1010, locals := 50 } : Room) D [(cI, .int), (cJ, .long), (cZ, .boolean)] [.ref xo] [(xo, .inr (3, [.null, .null, .null, .int 0, .int 0, .int 0, .int 0]))] none (fun u : Nat × Nat × Nat × (Nat → Nat) × Nat => (wC xo u.1 u.2.1 u.2.2.1 u.2.2.2.1 cI cJ cZ ((-1)) 0 false ((-1)) 0 0 ((fun _ => 0)) ((fun _ => 0)) (va_up ((fun _ => 0)) 0 1000000000000000) ((fun _ => 0)) ((f1_init_lp  441 0 ((fun _ => 0))).2) ((fun _ => false)) 0 u.2.2.2.2 u.2.2.2.2 0 0 ((fun _ => 0)) 0 ((fun _ => 0)) ((fun _ => 0)))) 11 1010 := by
  refine gz_metX l (by decide) (Nat.le_of_ble_eq_true rfl) [(0, .ref xo)] rfl ?_
  intro sz p e s m args below meth c C hr hk hnm
  have C : gz_C p s m args c cX2_init 1 RX2 D [(cI, .int), (cJ, .long), (cZ, .boolean)] (va_A [(xo, .inr (3, [.null, .null, .null, .int 0, .int 0, .int 0, .int 0]))] sz) := C
  refine gz_aload_n C 0 dX2_init_0 rfl ?_
  refine gz_objInit C wk_16 wk_17 wk_18 dX2_init_1 (by decide) (by decide) ?_
  refine gz_aload_n C 0 dX2_init_4 rfl ?_
  refine gz_new (ci := 2) (fs := [.int 0, .int 0, .null, .null, .null, .null, .null, .null]) C iwX1 tyX1 tyX1_ok wk_19 wk_20 wk_2 rfl (by decide) (by decide) (by decide) dX2_init_5 (fun nt => ?_)
  refine gz_wse (ws2 := [(xo, .inr (3, [.null, .null, .null, .int 0, .int 0, .int 0, .int 0])), (nt, .inr (2, [.int 0, .int 0, .null, .null, .null, .null, .null, .null]))]) rfl ?_
  refine gz_dup C dX2_init_8 rfl ?_
  refine gz_callIX (wr := [(xo, .inr (3, [.null, .null, .null, .int 0, .int 0, .int 0, .int 0]))]) (n := 0) (As := []) (rest := [.ref nt, .ref xo]) C (kX1_init l D nt cI cJ cZ) wk_23 wk_2 wk_21 wk_22 rfl (by decide +kernel) ⟨⟨rfl, rfl⟩, by decide, by decide⟩ [1] [0] [0, 1, 2] rfl rfl rfl (by decide) rfl rfl (Nat.le_of_ble_eq_true rfl) dX2_init_9 ⟨by decide, by decide⟩ (fun adN => ?_)
  refine gz_wse (ws2 := [(xo, .inr (3, [.null, .null, .null, .int 0, .int 0, .int 0, .int 0])), (nt, .inr (2, [.int (nI 0), .int 0, .ref ((adN 2)), .ref ((adN 3)), .ref ((adN 4)), .ref ((adN 5)), .ref ((adN 6)), .ref ((adN 7))])), (adN 2, .inl (cJ, 21, .inr (.inl ((fun _ => 0))))), (adN 3, .inl (cJ, 21, .inr (.inl ((fun _ => 0))))), (adN 4, .inl (cJ, 21, .inr (.inl (va_up ((fun _ => 0)) 0 1000000000000000)))), (adN 5, .inl (cI, 21, .inl ((fun _ => 0)))), (adN 6, .inl (cJ, 441, .inr (.inl ((f1_init_lp  441 0 ((fun _ => 0))).2)))), (adN 7, .inl (cZ, 441, .inl (bF ((fun _ => false)))))]) rfl ?_
  refine gz_putF (ci := 3) (ws2 := [(xo, .inr (3, [.ref nt, .null, .null, .int 0, .int 0, .int 0, .int 0])), (nt, .inr (2, [.int (nI 0), .int 0, .ref ((adN 2)), .ref ((adN 3)), .ref ((adN 4)), .ref ((adN 5)), .ref ((adN 6)), .ref ((adN 7))])), (adN 2, .inl (cJ, 21, .inr (.inl ((fun _ => 0))))), (adN 3, .inl (cJ, 21, .inr (.inl ((fun _ => 0))))), (adN 4, .inl (cJ, 21, .inr (.inl (va_up ((fun _ => 0)) 0 1000000000000000)))), (adN 5, .inl (cI, 21, .inl ((fun _ => 0)))), (adN 6, .inl (cJ, 441, .inr (.inl ((f1_init_lp  441 0 ((fun _ => 0))).2)))), (adN 7, .inl (cZ, 441, .inl (bF ((fun _ => false)))))]) C iwX2 0 rfl rfl 0 (by decide) wk_79 rfl tyX2 tyX2_ok nmX2 rfl hnm rfl rfl rfl rfl (Nat.le_of_ble_eq_true rfl) rfl dX2_init_12 ?_
  refine gz_aload_n C 0 dX2_init_15 rfl ?_
  refine gz_new (ci := 1) (fs := [.null, .int 0, .null, .int 0, .long 0]) C iwX0 tyX0 tyX0_ok wk_57 wk_58 wk_3 rfl (by decide) (by decide) (by decide) dX2_init_16 (fun es => ?_)
  refine gz_wse (ws2 := [(xo, .inr (3, [.ref nt, .null, .null, .int 0, .int 0, .int 0, .int 0])), (nt, .inr (2, [.int (nI 0), .int 0, .ref ((adN 2)), .ref ((adN 3)), .ref ((adN 4)), .ref ((adN 5)), .ref ((adN 6)), .ref ((adN 7))])), (adN 2, .inl (cJ, 21, .inr (.inl ((fun _ => 0))))), (adN 3, .inl (cJ, 21, .inr (.inl ((fun _ => 0))))), (adN 4, .inl (cJ, 21, .inr (.inl (va_up ((fun _ => 0)) 0 1000000000000000)))), (adN 5, .inl (cI, 21, .inl ((fun _ => 0)))), (adN 6, .inl (cJ, 441, .inr (.inl ((f1_init_lp  441 0 ((fun _ => 0))).2)))), (adN 7, .inl (cZ, 441, .inl (bF ((fun _ => false))))), (es, .inr (1, [.null, .int 0, .null, .int 0, .long 0]))]) rfl ?_
  refine gz_dup C dX2_init_19 rfl ?_
  refine gz_callIN (host := "RoundSearch") (wr := [(xo, .inr (3, [.ref nt, .null, .null, .int 0, .int 0, .int 0, .int 0])), (nt, .inr (2, [.int (nI 0), .int 0, .ref ((adN 2)), .ref ((adN 3)), .ref ((adN 4)), .ref ((adN 5)), .ref ((adN 6)), .ref ((adN 7))])), (adN 2, .inl (cJ, 21, .inr (.inl ((fun _ => 0))))), (adN 3, .inl (cJ, 21, .inr (.inl ((fun _ => 0))))), (adN 4, .inl (cJ, 21, .inr (.inl (va_up ((fun _ => 0)) 0 1000000000000000)))), (adN 5, .inl (cI, 21, .inl ((fun _ => 0)))), (adN 6, .inl (cJ, 441, .inr (.inl ((f1_init_lp  441 0 ((fun _ => 0))).2)))), (adN 7, .inl (cZ, 441, .inl (bF ((fun _ => false)))))]) (n := 0) (As := []) (rest := [.ref es, .ref xo]) C (kX0_init l D es cI cJ cZ) wk_61 wk_3 (nw_2 C.2.2.2.2.2.2.2) wk_60 rfl (by decide +kernel) ⟨⟨rfl, rfl⟩, by decide, by decide⟩ [8] [0, 1, 2, 3, 4, 5, 6, 7] [0, 1, 2] rfl rfl rfl (by decide) rfl rfl (Nat.le_of_ble_eq_true rfl) dX2_init_20 ⟨by decide, by decide⟩ (fun ue => ?_)
  refine gz_wse (ws2 := [(xo, .inr (3, [.ref nt, .null, .null, .int 0, .int 0, .int 0, .int 0])), (nt, .inr (2, [.int (nI 0), .int 0, .ref ((adN 2)), .ref ((adN 3)), .ref ((adN 4)), .ref ((adN 5)), .ref ((adN 6)), .ref ((adN 7))])), (adN 2, .inl (cJ, 21, .inr (.inl ((fun _ => 0))))), (adN 3, .inl (cJ, 21, .inr (.inl ((fun _ => 0))))), (adN 4, .inl (cJ, 21, .inr (.inl (va_up ((fun _ => 0)) 0 1000000000000000)))), (adN 5, .inl (cI, 21, .inl ((fun _ => 0)))), (adN 6, .inl (cJ, 441, .inr (.inl ((f1_init_lp  441 0 ((fun _ => 0))).2)))), (adN 7, .inl (cZ, 441, .inl (bF ((fun _ => false))))), (es, .inr (1, [.ref ue.1, .int (nI 0), .ref ue.2, .int (nI 0), .long 0])), (ue.1, .inl (cI, 11, .inl (nF (fun _ => 0)))), (ue.2, .inl (cJ, 0, .inr (.inl (fun _ => 0))))]) rfl ?_
  refine gz_putF (ci := 3) (ws2 := [(xo, .inr (3, [.ref nt, .ref es, .null, .int 0, .int 0, .int 0, .int 0])), (nt, .inr (2, [.int (nI 0), .int 0, .ref ((adN 2)), .ref ((adN 3)), .ref ((adN 4)), .ref ((adN 5)), .ref ((adN 6)), .ref ((adN 7))])), (adN 2, .inl (cJ, 21, .inr (.inl ((fun _ => 0))))), (adN 3, .inl (cJ, 21, .inr (.inl ((fun _ => 0))))), (adN 4, .inl (cJ, 21, .inr (.inl (va_up ((fun _ => 0)) 0 1000000000000000)))), (adN 5, .inl (cI, 21, .inl ((fun _ => 0)))), (adN 6, .inl (cJ, 441, .inr (.inl ((f1_init_lp  441 0 ((fun _ => 0))).2)))), (adN 7, .inl (cZ, 441, .inl (bF ((fun _ => false))))), (es, .inr (1, [.ref ue.1, .int (nI 0), .ref ue.2, .int (nI 0), .long 0])), (ue.1, .inl (cI, 11, .inl (nF (fun _ => 0)))), (ue.2, .inl (cJ, 0, .inr (.inl (fun _ => 0))))]) C iwX2 0 rfl rfl 1 (by decide) wk_80 rfl tyX2 tyX2_ok nmX2 rfl hnm rfl rfl rfl rfl (Nat.le_of_ble_eq_true rfl) rfl dX2_init_23 ?_
  refine gz_aload_n C 0 dX2_init_26 rfl ?_
  refine gz_bipush (v := nI 20) C dX2_init_27 (by decide) ?_
  refine gz_newa (atype := .int) (N := 20) (a0 := (20, .inl (nF (fun _ => 0)))) C wk_55 0 rfl (fun _ => rfl) (by decide) (by decide) (by decide) (by decide) dX2_init_29 (fun q1 => ?_)
  refine gz_wse (ws2 := [(xo, .inr (3, [.ref nt, .ref es, .null, .int 0, .int 0, .int 0, .int 0])), (nt, .inr (2, [.int (nI 0), .int 0, .ref ((adN 2)), .ref ((adN 3)), .ref ((adN 4)), .ref ((adN 5)), .ref ((adN 6)), .ref ((adN 7))])), (adN 2, .inl (cJ, 21, .inr (.inl ((fun _ => 0))))), (adN 3, .inl (cJ, 21, .inr (.inl ((fun _ => 0))))), (adN 4, .inl (cJ, 21, .inr (.inl (va_up ((fun _ => 0)) 0 1000000000000000)))), (adN 5, .inl (cI, 21, .inl ((fun _ => 0)))), (adN 6, .inl (cJ, 441, .inr (.inl ((f1_init_lp  441 0 ((fun _ => 0))).2)))), (adN 7, .inl (cZ, 441, .inl (bF ((fun _ => false))))), (es, .inr (1, [.ref ue.1, .int (nI 0), .ref ue.2, .int (nI 0), .long 0])), (ue.1, .inl (cI, 11, .inl (nF (fun _ => 0)))), (ue.2, .inl (cJ, 0, .inr (.inl (fun _ => 0)))), (q1, .inl (cI, 20, .inl (nF (fun _ => 0))))]) rfl ?_
  refine gz_putF (ci := 3) (ws2 := [(xo, .inr (3, [.ref nt, .ref es, .ref q1, .int 0, .int 0, .int 0, .int 0])), (nt, .inr (2, [.int (nI 0), .int 0, .ref ((adN 2)), .ref ((adN 3)), .ref ((adN 4)), .ref ((adN 5)), .ref ((adN 6)), .ref ((adN 7))])), (adN 2, .inl (cJ, 21, .inr (.inl ((fun _ => 0))))), (adN 3, .inl (cJ, 21, .inr (.inl ((fun _ => 0))))), (adN 4, .inl (cJ, 21, .inr (.inl (va_up ((fun _ => 0)) 0 1000000000000000)))), (adN 5, .inl (cI, 21, .inl ((fun _ => 0)))), (adN 6, .inl (cJ, 441, .inr (.inl ((f1_init_lp  441 0 ((fun _ => 0))).2)))), (adN 7, .inl (cZ, 441, .inl (bF ((fun _ => false))))), (es, .inr (1, [.ref ue.1, .int (nI 0), .ref ue.2, .int (nI 0), .long 0])), (ue.1, .inl (cI, 11, .inl (nF (fun _ => 0)))), (ue.2, .inl (cJ, 0, .inr (.inl (fun _ => 0)))), (q1, .inl (cI, 20, .inl (nF (fun _ => 0))))]) C iwX2 0 rfl rfl 2 (by decide) wk_81 rfl tyX2 tyX2_ok nmX2 rfl hnm rfl rfl rfl rfl (Nat.le_of_ble_eq_true rfl) rfl dX2_init_31 ?_
  refine gz_aload_n C 0 dX2_init_34 rfl ?_
  refine gz_iconst (v := (-1)) C dX2_init_35 (by decide) ?_
  refine gz_put (ci := 3) (ws2 := [(xo, .inr (3, [.ref nt, .ref es, .ref q1, .int (-1), .int 0, .int 0, .int 0])), (nt, .inr (2, [.int (nI 0), .int 0, .ref ((adN 2)), .ref ((adN 3)), .ref ((adN 4)), .ref ((adN 5)), .ref ((adN 6)), .ref ((adN 7))])), (adN 2, .inl (cJ, 21, .inr (.inl ((fun _ => 0))))), (adN 3, .inl (cJ, 21, .inr (.inl ((fun _ => 0))))), (adN 4, .inl (cJ, 21, .inr (.inl (va_up ((fun _ => 0)) 0 1000000000000000)))), (adN 5, .inl (cI, 21, .inl ((fun _ => 0)))), (adN 6, .inl (cJ, 441, .inr (.inl ((f1_init_lp  441 0 ((fun _ => 0))).2)))), (adN 7, .inl (cZ, 441, .inl (bF ((fun _ => false))))), (es, .inr (1, [.ref ue.1, .int (nI 0), .ref ue.2, .int (nI 0), .long 0])), (ue.1, .inl (cI, 11, .inl (nF (fun _ => 0)))), (ue.2, .inl (cJ, 0, .inr (.inl (fun _ => 0)))), (q1, .inl (cI, 20, .inl (nF (fun _ => 0))))]) C iwX2 0 rfl rfl 3 (by decide) wk_82 rfl tyX2 tyX2_ok nmX2 rfl rfl rfl rfl (Nat.le_of_ble_eq_true rfl) rfl dX2_init_36 ?_
  refine gz_aload_n C 0 dX2_init_39 rfl ?_
  refine gz_iconst (v := nI 0) C dX2_init_40 (by decide) ?_
  refine gz_put (ci := 3) (ws2 := [(xo, .inr (3, [.ref nt, .ref es, .ref q1, .int (-1), .int (nI 0), .int 0, .int 0])), (nt, .inr (2, [.int (nI 0), .int 0, .ref ((adN 2)), .ref ((adN 3)), .ref ((adN 4)), .ref ((adN 5)), .ref ((adN 6)), .ref ((adN 7))])), (adN 2, .inl (cJ, 21, .inr (.inl ((fun _ => 0))))), (adN 3, .inl (cJ, 21, .inr (.inl ((fun _ => 0))))), (adN 4, .inl (cJ, 21, .inr (.inl (va_up ((fun _ => 0)) 0 1000000000000000)))), (adN 5, .inl (cI, 21, .inl ((fun _ => 0)))), (adN 6, .inl (cJ, 441, .inr (.inl ((f1_init_lp  441 0 ((fun _ => 0))).2)))), (adN 7, .inl (cZ, 441, .inl (bF ((fun _ => false))))), (es, .inr (1, [.ref ue.1, .int (nI 0), .ref ue.2, .int (nI 0), .long 0])), (ue.1, .inl (cI, 11, .inl (nF (fun _ => 0)))), (ue.2, .inl (cJ, 0, .inr (.inl (fun _ => 0)))), (q1, .inl (cI, 20, .inl (nF (fun _ => 0))))]) C iwX2 0 rfl rfl 4 (by decide) wk_83 rfl tyX2 tyX2_ok nmX2 rfl rfl rfl rfl (Nat.le_of_ble_eq_true rfl) rfl dX2_init_41 ?_
  refine gz_aload_n C 0 dX2_init_44 rfl ?_
  refine gz_iconst (v := nI 0) C dX2_init_45 (by decide) ?_
  refine gz_sw (v := .int (nI 0)) (w := .int (bI false)) rfl ?_
  refine gz_put (ci := 3) (ws2 := [(xo, .inr (3, [.ref nt, .ref es, .ref q1, .int (-1), .int (nI 0), .int (bI false), .int 0])), (nt, .inr (2, [.int (nI 0), .int 0, .ref ((adN 2)), .ref ((adN 3)), .ref ((adN 4)), .ref ((adN 5)), .ref ((adN 6)), .ref ((adN 7))])), (adN 2, .inl (cJ, 21, .inr (.inl ((fun _ => 0))))), (adN 3, .inl (cJ, 21, .inr (.inl ((fun _ => 0))))), (adN 4, .inl (cJ, 21, .inr (.inl (va_up ((fun _ => 0)) 0 1000000000000000)))), (adN 5, .inl (cI, 21, .inl ((fun _ => 0)))), (adN 6, .inl (cJ, 441, .inr (.inl ((f1_init_lp  441 0 ((fun _ => 0))).2)))), (adN 7, .inl (cZ, 441, .inl (bF ((fun _ => false))))), (es, .inr (1, [.ref ue.1, .int (nI 0), .ref ue.2, .int (nI 0), .long 0])), (ue.1, .inl (cI, 11, .inl (nF (fun _ => 0)))), (ue.2, .inl (cJ, 0, .inr (.inl (fun _ => 0)))), (q1, .inl (cI, 20, .inl (nF (fun _ => 0))))]) C iwX2 0 rfl rfl 5 (by decide) wk_84 rfl tyX2 tyX2_ok nmX2 rfl rfl (bI_nar _) (bI_fit _) (Nat.le_of_ble_eq_true rfl) rfl dX2_init_46 ?_
  refine gz_aload_n C 0 dX2_init_49 rfl ?_
  refine gz_iconst (v := (-1)) C dX2_init_50 (by decide) ?_
  refine gz_put (ci := 3) (ws2 := [(xo, .inr (3, [.ref nt, .ref es, .ref q1, .int (-1), .int (nI 0), .int (bI false), .int (-1)])), (nt, .inr (2, [.int (nI 0), .int 0, .ref ((adN 2)), .ref ((adN 3)), .ref ((adN 4)), .ref ((adN 5)), .ref ((adN 6)), .ref ((adN 7))])), (adN 2, .inl (cJ, 21, .inr (.inl ((fun _ => 0))))), (adN 3, .inl (cJ, 21, .inr (.inl ((fun _ => 0))))), (adN 4, .inl (cJ, 21, .inr (.inl (va_up ((fun _ => 0)) 0 1000000000000000)))), (adN 5, .inl (cI, 21, .inl ((fun _ => 0)))), (adN 6, .inl (cJ, 441, .inr (.inl ((f1_init_lp  441 0 ((fun _ => 0))).2)))), (adN 7, .inl (cZ, 441, .inl (bF ((fun _ => false))))), (es, .inr (1, [.ref ue.1, .int (nI 0), .ref ue.2, .int (nI 0), .long 0])), (ue.1, .inl (cI, 11, .inl (nF (fun _ => 0)))), (ue.2, .inl (cJ, 0, .inr (.inl (fun _ => 0)))), (q1, .inl (cI, 20, .inl (nF (fun _ => 0))))]) C iwX2 0 rfl rfl 6 (by decide) wk_85 rfl tyX2 tyX2_ok nmX2 rfl rfl rfl rfl (Nat.le_of_ble_eq_true rfl) rfl dX2_init_51 ?_
  refine gz_ws (ws2 := (wC xo nt es q1 (ctl [0, 0, adN 2, adN 3, adN 4, adN 5, adN 6, adN 7, 0, ue.1]) cI cJ cZ ((-1)) 0 false ((-1)) 0 0 ((fun _ => 0)) ((fun _ => 0)) (va_up ((fun _ => 0)) 0 1000000000000000) ((fun _ => 0)) ((f1_init_lp  441 0 ((fun _ => 0))).2) ((fun _ => false)) 0 ue.2 ue.2 0 0 ((fun _ => 0)) 0 ((fun _ => 0)) ((fun _ => 0)))) [0, 1, 2, 3, 4, 5, 6, 7, 8, 9, 10, 11] (by decide) rfl ?_
  exact gz_vretX C hr hk rfl (nt, es, q1, (ctl [0, 0, adN 2, adN 3, adN 4, adN 5, adN 6, adN 7, 0, ue.1]), ue.2) rfl (by decide) (by decide) dX2_init_54

