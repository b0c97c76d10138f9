theorem q0_ll_lp {tkv : Nat → Int64} {opv : Nat → Int64} {shv : Nat → Int64} {wyv : Nat → Int64} {bdv : Nat → Bool} {ct : Nat} {fev : Nat → Nat} {dnv : Nat → Int64} {t : Nat} {b : Nat} {du : Int64} (h1 : 1 ≤ ct) : ∀ n k, k + n = ct - 1 → f0_leastLast_lp tkv opv shv wyv bdv ct fev dnv t b du n k < ct := by
  intro n
  induction n with
  | zero => intro k h; unfold f0_leastLast_lp; omega
  | succ n ih =>
    intro k h
    unfold f0_leastLast_lp
    split
    · omega
    · exact ih (k + 1) (by omega)
theorem q0_ll {tkv : Nat → Int64} {opv : Nat → Int64} {shv : Nat → Int64} {wyv : Nat → Int64} {bdv : Nat → Bool} {ct : Nat} {fev : Nat → Nat} {dnv : Nat → Int64} {t : Nat} {b : Nat} {du : Int64} (h1 : 1 ≤ ct) : f0_leastLast tkv opv shv wyv bdv ct fev dnv t b du < ct := by
  unfold f0_leastLast
  exact q0_ll_lp h1 _ _ (by omega)

def f0_readBack_lp (tkv : Nat → Int64) (opv : Nat → Int64) (shv : Nat → Int64) (wyv : Nat → Int64) (bdv : Nat → Bool) (ct : Nat) (fev : Nat → Nat) (dnv : Nat → Int64) : Nat → Nat → Nat → Int64 → Nat → (Nat → Nat) → Nat × Nat × Int64 × Nat × (Nat → Nat)
  | 0, t, b, du, u, rov => (t, b, du, u, rov)
  | n + 1, t, b, du, u, rov => f0_readBack_lp tkv opv shv wyv bdv ct fev dnv n (t ^^^ (2 ^ (f0_leastLast tkv opv shv wyv bdv ct fev dnv t b du))) (fev (f0_leastLast tkv opv shv wyv bdv ct fev dnv t b du)) (dnv ((t * ct) + (f0_leastLast tkv opv shv wyv bdv ct fev dnv t b du))) ((u - 1)) (va_up rov (u - 1) (fev (f0_leastLast tkv opv shv wyv bdv ct fev dnv t b du)))
set_option maxRecDepth 100000 in
set_option maxHeartbeats 4000000 in
theorem lX0_readBack_lp {p : Program} {l : Launch} {e : Env} {R : Room} {s : State} {m : MethodId} {args : Array Value} {below : List Frame} {meth : Method} {c : Code} {cells slots : Nat} {Q : State → Prop} {A : Nat → Prop} {D : va_G} (xo : Nat) (nt : Nat) (es : Nat) (ro : Nat) (ad : Nat → Nat) (cI : ClassId) (cJ : ClassId) (cZ : ClassId) (ln : Int32) (fz : Nat) (sx : Bool) (mo : Int32) (sn : Nat) (bw : Int32) (tkv : Nat → Int64) (opv : Nat → Int64) (shv : Nat → Int64) (ldv : Nat → Int32) (wyv : Nat → Int64) (bdv : Nat → Bool) (ct : Nat) (dA : Nat) (sta : Nat) (stc : Int64) (fev : Nat → Nat) (dl : Nat) (dnv : Nat → Int64) (z : Nat) (hct : ct ≤ 11) (hfe : ∀ k, k < ct → fev k ≤ 20) (hsa : sta ≤ 20) (hdl : 2 ^ ct * ct ≤ dl) (hdm : dl ≤ 22528) (hzc : z + ct ≤ 20) (hR : 5 ≤ R.frames ∧ 125 ≤ R.locals) (hce : cells ≤ R.cells ∧ slots ≤ R.slots) (C : gz_C p s m args c cX0_readBack 12 RX0 D [(cI, .int), (cJ, .long), (cZ, .boolean)] A) : ∀ (n : Nat) (t : Nat) (b : Nat) (du : Int64) (u : Nat) (rov : Nat → Nat), (u = z + n ∧ u ≤ z + ct) → (t < 2 ^ ct) → (b ≤ 20) → ((((f0_readBack_lp tkv opv shv wyv bdv ct fev dnv n t b du u rov).2.2.2.1) = z + 0 ∧ ((f0_readBack_lp tkv opv shv wyv bdv ct fev dnv n t b du u rov).2.2.2.1) ≤ z + ct) → (((f0_readBack_lp tkv opv shv wyv bdv ct fev dnv n t b du u rov).1) < 2 ^ ct) → (((f0_readBack_lp tkv opv shv wyv bdv ct fev dnv n t b du u rov).2.1) ≤ 20) → GZ p l e R s m args below meth c 12 D A cells slots Q (wC xo nt es ro ad cI cJ cZ ln fz sx mo sn bw tkv opv shv ldv wyv bdv ct dA dA sta stc fev dl dnv ((f0_readBack_lp tkv opv shv wyv bdv ct fev dnv n t b du u rov).2.2.2.2)) [(0, .ref es), (1, .ref nt), (2, .ref ro), (3, .int (nI z)), (6, .int (nI ((f0_readBack_lp tkv opv shv wyv bdv ct fev dnv n t b du u rov).1))), (7, .int (nI ((f0_readBack_lp tkv opv shv wyv bdv ct fev dnv n t b du u rov).2.1))), (8, .long ((f0_readBack_lp tkv opv shv wyv bdv ct fev dnv n t b du u rov).2.2.1)), (10, .int (nI ((f0_readBack_lp tkv opv shv wyv bdv ct fev dnv n t b du u rov).2.2.2.1) - 1))] [] 98) → GZ p l e R s m args below meth c 12 D A cells slots Q (wC xo nt es ro ad cI cJ cZ ln fz sx mo sn bw tkv opv shv ldv wyv bdv ct dA dA sta stc fev dl dnv rov) [(0, .ref es), (1, .ref nt), (2, .ref ro), (3, .int (nI z)), (6, .int (nI t)), (7, .int (nI b)), (8, .long du), (10, .int (nI u - 1))] [] 27 := by
  intro n
  induction n with
  | zero =>
    intro t b du u rov hme ht hb hx
    refine gz_iload C 7 dX0_readBack_27 rfl ?_
    refine gz_iload_n C 3 dX0_readBack_29 rfl ?_
    refine gz_icmp_lt C 98 dX0_readBack_30 (by decide) (fun h_1 => ?_) (fun h_1 => ?_)
    · skip
      exact gz_lv [0, 1, 2, 3, 4, 5, 6, 7] rfl (hx hme ht hb)
    · have g_1 : ¬ (((nI u - 1)) < (nI z)) := h_1
      exact absurd ((bz_ltn (by omega) (by omega)).mpr (by omega)) g_1
  | succ n ih =>
    intro t b du u rov hme ht hb hx
    refine gz_iload C 7 dX0_readBack_27 rfl ?_
    refine gz_iload_n C 3 dX0_readBack_29 rfl ?_
    refine gz_icmp_lt C 98 dX0_readBack_30 (by decide) (fun h_1 => ?_) (fun h_1 => ?_)
    · skip
      exact absurd ((bz_ltn (by omega) (by omega)).mp h_1) (by omega)
    · have g_1 : ¬ (((nI u - 1)) < (nI z)) := h_1
      have hcv := bz_pd (u := u) (by omega)
      refine gz_lve (lv2 := [(0, .ref es), (1, .ref nt), (2, .ref ro), (3, .int (nI z)), (6, .int (nI t)), (7, .int (nI b)), (8, .long du), (10, .int (nI (u - 1)))]) (by rw [hcv]) ?_
      have hp := bz_pow hct
      refine gz_aload_n C 0 dX0_readBack_33 rfl ?_
      refine gz_aload_n C 1 dX0_readBack_34 rfl ?_
      refine gz_iload C 4 dX0_readBack_35 rfl ?_
      refine gz_iload C 5 dX0_readBack_37 rfl ?_
      refine gz_lload C 6 dX0_readBack_39 rfl ?_
      refine gz_callV (wr := []) (n := 4) (ws2 := (wC xo nt es ro ad cI cJ cZ ln fz sx mo sn bw tkv opv shv ldv wyv bdv ct dA dA sta stc fev dl dnv rov)) (st2 := [.int (nI (f0_leastLast tkv opv shv wyv bdv ct fev dnv t b du))]) (cells2 := cells) (slots2 := slots) (ci := 1) C (kX0_leastLast l D xo nt es ro ad cI cJ cZ ln fz sx mo sn bw tkv opv shv ldv wyv bdv ct dA sta stc fev dl dnv rov t b du (by first | assumption | omega) (by first | assumption | omega) (by first | assumption | omega) (by first | assumption | omega) (by first | assumption | omega) (by first | assumption | omega) (by first | assumption | omega) (by first | assumption | omega)) (WB_V wk_201 wk_203 ws_5 wk_3 wk_204) (by decide +kernel) ⟨⟨rfl, rfl⟩, Nat.le_trans (by decide) hR.1, Nat.le_trans (by decide) hR.2⟩ [0, 1, 2, 3, 4, 5, 6, 7, 8, 9, 10, 11] [] [0, 1, 2] rfl rfl rfl (by decide) rfl 8 rfl rfl rfl rfl (Nat.le_of_ble_eq_true rfl) dX0_readBack_41 hce rfl rfl rfl ?_
      refine gz_istore (lv2 := [(11, .int (nI (f0_leastLast tkv opv shv wyv bdv ct fev dnv t b du))), (0, .ref es), (1, .ref nt), (2, .ref ro), (3, .int (nI z)), (6, .int (nI t)), (7, .int (nI b)), (8, .long du), (10, .int (nI (u - 1)))]) C dX0_readBack_44 (by decide) rfl ?_
      have hll : f0_leastLast tkv opv shv wyv bdv ct fev dnv t b du < ct := q0_ll (by omega)
      have hqq := hfe (f0_leastLast tkv opv shv wyv bdv ct fev dnv t b du) hll
      refine gz_aload_n C 3 dX0_readBack_46 rfl ?_
      refine gz_iload C 8 dX0_readBack_47 rfl ?_
      refine gz_aload_n C 1 dX0_readBack_49 rfl ?_
      refine gz_get (ci := 1) C iwX0 8 rfl rfl 0 (by decide) wk_63 rfl rfl dX0_readBack_50 ?_
      refine gz_iload C 0 dX0_readBack_53 rfl ?_
      refine gz_iald C 9 0 rfl rfl (by omega) (by decide) dX0_readBack_55 ?_
      refine gz_iast (ws2 := (wC xo nt es ro ad cI cJ cZ ln fz sx mo sn bw tkv opv shv ldv wyv bdv ct dA dA sta stc fev dl dnv (va_up rov (u - 1) (fev (f0_leastLast tkv opv shv wyv bdv ct fev dnv t b du))))) C 11 0 rfl rfl (by omega) (by decide) rfl dX0_readBack_56 ?_
      refine gz_aload_n C 1 dX0_readBack_57 rfl ?_
      refine gz_get (ci := 1) C iwX0 8 rfl rfl 0 (by decide) wk_63 rfl rfl dX0_readBack_58 ?_
      refine gz_iload C 0 dX0_readBack_61 rfl ?_
      refine gz_iald C 9 0 rfl rfl (by omega) (by decide) dX0_readBack_63 ?_
      refine gz_istore (lv2 := [(7, .int (nI (fev (f0_leastLast tkv opv shv wyv bdv ct fev dnv t b du)))), (11, .int (nI (f0_leastLast tkv opv shv wyv bdv ct fev dnv t b du))), (0, .ref es), (1, .ref nt), (2, .ref ro), (3, .int (nI z)), (6, .int (nI t)), (8, .long du), (10, .int (nI (u - 1)))]) C dX0_readBack_64 (by decide) rfl ?_
      refine gz_aload_n C 2 dX0_readBack_66 rfl ?_
      refine gz_get (ci := 1) C iwX0 8 rfl rfl 2 (by decide) wk_65 rfl rfl dX0_readBack_67 ?_
      refine gz_iload C 6 dX0_readBack_70 rfl ?_
      refine gz_aload_n C 2 dX0_readBack_72 rfl ?_
      refine gz_get (ci := 1) C iwX0 8 rfl rfl 1 (by decide) wk_64 rfl rfl dX0_readBack_73 ?_
      refine gz_imul (v := nI (t * ct)) C dX0_readBack_76 (pk_mul _ _) ?_
      refine gz_iload C 1 dX0_readBack_77 rfl ?_
      refine gz_iadd (v := nI ((t * ct) + (f0_leastLast tkv opv shv wyv bdv ct fev dnv t b du))) C dX0_readBack_79 (nI_add _ _) ?_
      refine gz_lald C 10 1 rfl rfl (bz_ix ht hll hdl) (by omega) dX0_readBack_80 ?_
      refine gz_lstore (lv2 := [(8, .long (dnv ((t * ct) + (f0_leastLast tkv opv shv wyv bdv ct fev dnv t b du)))), (7, .int (nI (fev (f0_leastLast tkv opv shv wyv bdv ct fev dnv t b du)))), (11, .int (nI (f0_leastLast tkv opv shv wyv bdv ct fev dnv t b du))), (0, .ref es), (1, .ref nt), (2, .ref ro), (3, .int (nI z)), (6, .int (nI t)), (10, .int (nI (u - 1)))]) C dX0_readBack_81 (by decide) rfl ?_
      refine gz_iload C 7 dX0_readBack_83 rfl ?_
      refine gz_iconst (v := nI 1) C dX0_readBack_85 (by decide) ?_
      refine gz_iload C 2 dX0_readBack_86 rfl ?_
      refine gz_ishl (v := nI (2 ^ (f0_leastLast tkv opv shv wyv bdv ct fev dnv t b du))) C dX0_readBack_88 (bz_shl (by omega)) ?_
      refine gz_ixor (v := nI (t ^^^ (2 ^ (f0_leastLast tkv opv shv wyv bdv ct fev dnv t b du)))) C dX0_readBack_89 (bz_xor _ _) ?_
      refine gz_istore (lv2 := [(6, .int (nI (t ^^^ (2 ^ (f0_leastLast tkv opv shv wyv bdv ct fev dnv t b du))))), (8, .long (dnv ((t * ct) + (f0_leastLast tkv opv shv wyv bdv ct fev dnv t b du)))), (7, .int (nI (fev (f0_leastLast tkv opv shv wyv bdv ct fev dnv t b du)))), (11, .int (nI (f0_leastLast tkv opv shv wyv bdv ct fev dnv t b du))), (0, .ref es), (1, .ref nt), (2, .ref ro), (3, .int (nI z)), (10, .int (nI (u - 1)))]) C dX0_readBack_90 (by decide) rfl ?_
      refine gz_iinc (v := (nI (u - 1) - 1)) (lv2 := [(10, .int (nI (u - 1) - 1)), (6, .int (nI (t ^^^ (2 ^ (f0_leastLast tkv opv shv wyv bdv ct fev dnv t b du))))), (8, .long (dnv ((t * ct) + (f0_leastLast tkv opv shv wyv bdv ct fev dnv t b du)))), (7, .int (nI (fev (f0_leastLast tkv opv shv wyv bdv ct fev dnv t b du)))), (11, .int (nI (f0_leastLast tkv opv shv wyv bdv ct fev dnv t b du))), (0, .ref es), (1, .ref nt), (2, .ref ro), (3, .int (nI z))]) (k := 8) C dX0_readBack_92 rfl (bz_dec _) (by decide) rfl ?_
      refine gz_goto C 27 dX0_readBack_95 (by decide) ?_
      refine gz_lv [5, 6, 7, 8, 1, 3, 2, 0] rfl ?_
      simp only [f0_readBack_lp, if_neg g_1] at hx
      exact ih (t ^^^ (2 ^ (f0_leastLast tkv opv shv wyv bdv ct fev dnv t b du))) (fev (f0_leastLast tkv opv shv wyv bdv ct fev dnv t b du)) (dnv ((t * ct) + (f0_leastLast tkv opv shv wyv bdv ct fev dnv t b du))) ((u - 1)) (va_up rov (u - 1) (fev (f0_leastLast tkv opv shv wyv bdv ct fev dnv t b du))) (by omega) (bz_xor_lt ht hll) (by omega) hx

def f0_readBack_rov (tkv : Nat → Int64) (opv : Nat → Int64) (shv : Nat → Int64) (wyv : Nat → Int64) (bdv : Nat → Bool) (ct : Nat) (fev : Nat → Nat) (dnv : Nat → Int64) (rov : Nat → Nat) (z : Nat) (hm : Int64) : Nat → Nat := (f0_readBack_lp tkv opv shv wyv bdv ct fev dnv (((z + ct)) - z) ((2 ^ ct) - 1) 0 hm ((z + ct)) rov).2.2.2.2
set_option maxRecDepth 100000 in
set_option maxHeartbeats 4000000 in
theorem kX0_readBack (l : Launch) (D : va_G) (xo : Nat) (nt : Nat) (es : Nat) (ro : Nat) (ad : Nat → Nat) (cI : ClassId) (cJ : ClassId) (cZ : ClassId) (ln : Int32) (fz : Nat) (sx : Bool) (mo : Int32) (sn : Nat) (bw : Int32) (tkv : Nat → Int64) (opv : Nat → Int64) (shv : Nat → Int64) (ldv : Nat → Int32) (wyv : Nat → Int64) (bdv : Nat → Bool) (ct : Nat) (dA : Nat) (sta : Nat) (stc : Int64) (fev : Nat → Nat) (dl : Nat) (dnv : Nat → Int64) (rov : Nat → Nat) (z : Nat) (hm : Int64) (hct : ct ≤ 11) (hfe : ∀ k, k < ct → fev k ≤ 20) (hsa : sta ≤ 20) (hdl : 2 ^ ct * ct ≤ dl) (hdm : dl ≤ 22528) (hzc : z + ct ≤ 20) : gz_M l yX0_readBack cX0_readBack 12 none ({ frames := 5, cells := 0, slots := 0, locals := 125 } : Room) D [(cI, .int), (cJ, .long), (cZ, .boolean)] [.ref es, .ref nt, .ref ro, .int (nI z), .long hm] (wC xo nt es ro ad cI cJ cZ ln fz sx mo sn bw tkv opv shv ldv wyv bdv ct dA dA sta stc fev dl dnv rov) (none) (wC xo nt es ro ad cI cJ cZ ln fz sx mo sn bw tkv opv shv ldv wyv bdv ct dA dA sta stc fev dl dnv (f0_readBack_rov tkv opv shv wyv bdv ct fev dnv rov z hm)) 0 0 := by
  refine gz_met l (by decide) (Nat.le_of_ble_eq_true rfl) [(0, .ref es), (1, .ref nt), (2, .ref ro), (3, .int (nI z)), (4, .long hm)] rfl ?_
  intro sz p e s m args below meth c C hr hk hnm
  have C : gz_C p s m args c cX0_readBack 12 RX0 D [(cI, .int), (cJ, .long), (cZ, .boolean)] (va_A (wC xo nt es ro ad cI cJ cZ ln fz sx mo sn bw tkv opv shv ldv wyv bdv ct dA dA sta stc fev dl dnv rov) sz) := C
  refine gz_iconst (v := nI 1) C dX0_readBack_0 (by decide) ?_
  refine gz_aload_n C 0 dX0_readBack_1 rfl ?_
  refine gz_get (ci := 1) C iwX0 8 rfl rfl 1 (by decide) wk_64 rfl rfl dX0_readBack_2 ?_
  refine gz_ishl (v := nI (2 ^ ct)) C dX0_readBack_5 (bz_shl (by omega)) ?_
  refine gz_iconst (v := nI 1) C dX0_readBack_6 (by decide) ?_
  refine gz_isub (v := nI ((2 ^ ct) - 1)) C dX0_readBack_7 (pk_sub (by first | omega | exact Nat.one_le_two_pow)) ?_
  refine gz_istore (lv2 := [(6, .int (nI ((2 ^ ct) - 1))), (0, .ref es), (1, .ref nt), (2, .ref ro), (3, .int (nI z)), (4, .long hm)]) C dX0_readBack_8 (by decide) rfl ?_
  refine gz_iconst (v := nI 0) C dX0_readBack_10 (by decide) ?_
  refine gz_istore (lv2 := [(7, .int (nI 0)), (6, .int (nI ((2 ^ ct) - 1))), (0, .ref es), (1, .ref nt), (2, .ref ro), (3, .int (nI z)), (4, .long hm)]) C dX0_readBack_11 (by decide) rfl ?_
  refine gz_lload C 6 dX0_readBack_13 rfl ?_
  refine gz_lstore (lv2 := [(8, .long hm), (7, .int (nI 0)), (6, .int (nI ((2 ^ ct) - 1))), (0, .ref es), (1, .ref nt), (2, .ref ro), (3, .int (nI z)), (4, .long hm)]) C dX0_readBack_15 (by decide) rfl ?_
  refine gz_iload_n C 6 dX0_readBack_17 rfl ?_
  refine gz_aload_n C 3 dX0_readBack_18 rfl ?_
  refine gz_get (ci := 1) C iwX0 8 rfl rfl 1 (by decide) wk_64 rfl rfl dX0_readBack_19 ?_
  refine gz_iadd (v := nI (z + ct)) C dX0_readBack_22 (nI_add _ _) ?_
  refine gz_iconst (v := nI 1) C dX0_readBack_23 (by decide) ?_
  refine gz_isub (v := (nI (z + ct) - 1)) C dX0_readBack_24 rfl ?_
  refine gz_istore (lv2 := [(10, .int (nI (z + ct) - 1)), (8, .long hm), (7, .int (nI 0)), (6, .int (nI ((2 ^ ct) - 1))), (0, .ref es), (1, .ref nt), (2, .ref ro), (3, .int (nI z)), (4, .long hm)]) C dX0_readBack_25 (by decide) rfl ?_
  refine gz_lv (lv2 := [(0, .ref es), (1, .ref nt), (2, .ref ro), (3, .int (nI z)), (6, .int (nI ((2 ^ ct) - 1))), (7, .int (nI 0)), (8, .long hm), (10, .int (nI (z + ct) - 1))]) [4, 5, 6, 7, 3, 2, 1, 0] rfl ?_
  refine lX0_readBack_lp xo nt es ro ad cI cJ cZ ln fz sx mo sn bw tkv opv shv ldv wyv bdv ct dA sta stc fev dl dnv z (by first | assumption | omega) (by first | assumption | omega) (by first | assumption | omega) (by first | assumption | omega) (by first | assumption | omega) (by first | assumption | omega) ⟨Nat.le_of_ble_eq_true rfl, Nat.le_of_ble_eq_true rfl⟩ ⟨Nat.zero_le _, Nat.zero_le _⟩ C (((z + ct)) - z) ((2 ^ ct) - 1) 0 hm ((z + ct)) rov (by omega) (by have := bz_pow1 ct; omega) (by first | assumption | omega) ?_
  intro zme_lp zht_lp zhb_lp
  exact gz_vret C hr hk (by first | rfl | (simp only [f0_readBack_rov]) | (simp only [f0_readBack_rov]; rfl)) (by first | rfl | (simp only [f0_readBack_rov]) | (simp only [f0_readBack_rov]; rfl)) (Nat.le_refl _) (Nat.le_refl _) dX0_readBack_98

